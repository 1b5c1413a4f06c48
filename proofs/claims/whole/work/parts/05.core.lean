/-! THE SMALL LANGUAGE, 3: operators, fields, arrays, conditions -/
def mzfi (g : Int32 → Int32 → Int32) : Value → Value → Option Value := fun a b => match a, b with
  | .int z, .int y => some (.int (g z y))
  | _, _ => none
def mzfid (g : Int32 → Int32 → Int32) : Value → Value → Option Value := fun a b => match a, b with
  | .int z, .int y => if y = 0 then none else some (.int (g z y))
  | _, _ => none
def mzfl (g : Int64 → Int64 → Int64) : Value → Value → Option Value := fun a b => match a, b with
  | .long z, .long y => some (.long (g z y))
  | _, _ => none
def mzfld (g : Int64 → Int64 → Int64) : Value → Value → Option Value := fun a b => match a, b with
  | .long z, .long y => if y = 0 then none else some (.long (g z y))
  | _, _ => none
def mzfs (g : Int64 → Int32 → Int64) : Value → Value → Option Value := fun a b => match a, b with
  | .long z, .int y => some (.long (g z y))
  | _, _ => none
def mzf1ii (g : Int32 → Int32) : Value → Option Value := fun a => match a with
  | .int z => some (.int (g z))
  | _ => none
def mzf1il (g : Int32 → Int64) : Value → Option Value := fun a => match a with
  | .int z => some (.long (g z))
  | _ => none
def mzf1li (g : Int64 → Int32) : Value → Option Value := fun a => match a with
  | .long z => some (.int (g z))
  | _ => none
def mzushr (z y : Int32) : Int32 := (z.toUInt32 >>> (y.toUInt32 &&& Int32.toUInt32 31)).toInt32
def mzshl (z y : Int32) : Int32 := z <<< (y &&& 31)
def mzshr (z y : Int32) : Int32 := z >>> (y &&& 31)
def mzrem (z y : Int32) : Int32 := z - z / y * y
def mzlrem (z y : Int64) : Int64 := z - z / y * y
def mzlshl (z : Int64) (y : Int32) : Int64 := z <<< (y.toInt64 &&& 63)
def mzlushr (z : Int64) (y : Int32) : Int64 := (z.toUInt64 >>> (y.toInt64.toUInt64 &&& Int64.toUInt64 63)).toInt64
theorem mzr_iadd : mzR2 .iadd 1 1 1 (mzfi (fun a b => a + b)) := by
  intro C x hx H locs pc A rest v1 v2 v h1 h2 hv hd
  obtain ⟨z, rfl⟩ := h1; obtain ⟨y, rfl⟩ := h2; cases hv
  exact ⟨⟨_, rfl⟩, fun g => lv_iadd hx.1 hx.2.1 hd g⟩
theorem mzr_isub : mzR2 .isub 1 1 1 (mzfi (fun a b => a - b)) := by
  intro C x hx H locs pc A rest v1 v2 v h1 h2 hv hd
  obtain ⟨z, rfl⟩ := h1; obtain ⟨y, rfl⟩ := h2; cases hv
  exact ⟨⟨_, rfl⟩, fun g => lv_isub hx.1 hx.2.1 hd g⟩
theorem mzr_imul : mzR2 .imul 1 1 1 (mzfi (fun a b => a * b)) := by
  intro C x hx H locs pc A rest v1 v2 v h1 h2 hv hd
  obtain ⟨z, rfl⟩ := h1; obtain ⟨y, rfl⟩ := h2; cases hv
  exact ⟨⟨_, rfl⟩, fun g => lv_imul hx.1 hx.2.1 hd g⟩
theorem mzr_iand : mzR2 .iand 1 1 1 (mzfi (fun a b => a &&& b)) := by
  intro C x hx H locs pc A rest v1 v2 v h1 h2 hv hd
  obtain ⟨z, rfl⟩ := h1; obtain ⟨y, rfl⟩ := h2; cases hv
  exact ⟨⟨_, rfl⟩, fun g => lv_iand hx.1 hx.2.1 hd g⟩
theorem mzr_ior : mzR2 .ior 1 1 1 (mzfi (fun a b => a ||| b)) := by
  intro C x hx H locs pc A rest v1 v2 v h1 h2 hv hd
  obtain ⟨z, rfl⟩ := h1; obtain ⟨y, rfl⟩ := h2; cases hv
  exact ⟨⟨_, rfl⟩, fun g => lv_ior hx.1 hx.2.1 hd g⟩
theorem mzr_ishl : mzR2 .ishl 1 1 1 (mzfi mzshl) := by
  intro C x hx H locs pc A rest v1 v2 v h1 h2 hv hd
  obtain ⟨z, rfl⟩ := h1; obtain ⟨y, rfl⟩ := h2; cases hv
  exact ⟨⟨_, rfl⟩, fun g => lv_ishl hx.1 hx.2.1 hd g⟩
theorem mzr_ishr : mzR2 .ishr 1 1 1 (mzfi mzshr) := by
  intro C x hx H locs pc A rest v1 v2 v h1 h2 hv hd
  obtain ⟨z, rfl⟩ := h1; obtain ⟨y, rfl⟩ := h2; cases hv
  exact ⟨⟨_, rfl⟩, fun g => lv_ishr hx.1 hx.2.1 hd g⟩
theorem mzr_iushr : mzR2 .iushr 1 1 1 (mzfi mzushr) := by
  intro C x hx H locs pc A rest v1 v2 v h1 h2 hv hd
  obtain ⟨z, rfl⟩ := h1; obtain ⟨y, rfl⟩ := h2; cases hv
  exact ⟨⟨_, rfl⟩, fun g => lv_iushr hx.1 hx.2.1 hd rfl g⟩
theorem mzr_idiv : mzR2 .idiv 1 1 1 (mzfid (fun a b => a / b)) := by
  intro C x hx H locs pc A rest v1 v2 v h1 h2 hv hd
  obtain ⟨z, rfl⟩ := h1; obtain ⟨y, rfl⟩ := h2
  simp only [mzfid] at hv
  split at hv
  · cases hv
  · rename_i hy
    cases hv
    exact ⟨⟨_, rfl⟩, fun g => lv_idiv hx.1 hx.2.1 hd hy g⟩
theorem mzr_irem : mzR2 .irem 1 1 1 (mzfid mzrem) := by
  intro C x hx H locs pc A rest v1 v2 v h1 h2 hv hd
  obtain ⟨z, rfl⟩ := h1; obtain ⟨y, rfl⟩ := h2
  simp only [mzfid] at hv
  split at hv
  · cases hv
  · rename_i hy
    cases hv
    exact ⟨⟨_, rfl⟩, fun g => lv_irem hx.1 hx.2.1 hd hy g⟩
theorem mzr_ladd : mzR2 .ladd 2 2 2 (mzfl (fun a b => a + b)) := by
  intro C x hx H locs pc A rest v1 v2 v h1 h2 hv hd
  obtain ⟨z, rfl⟩ := h1; obtain ⟨y, rfl⟩ := h2; cases hv
  exact ⟨⟨_, rfl⟩, fun g => lv_ladd hx.1 hx.2.1 hd g⟩
theorem mzr_lsub : mzR2 .lsub 2 2 2 (mzfl (fun a b => a - b)) := by
  intro C x hx H locs pc A rest v1 v2 v h1 h2 hv hd
  obtain ⟨z, rfl⟩ := h1; obtain ⟨y, rfl⟩ := h2; cases hv
  exact ⟨⟨_, rfl⟩, fun g => lv_lsub hx.1 hx.2.1 hd g⟩
theorem mzr_lmul : mzR2 .lmul 2 2 2 (mzfl (fun a b => a * b)) := by
  intro C x hx H locs pc A rest v1 v2 v h1 h2 hv hd
  obtain ⟨z, rfl⟩ := h1; obtain ⟨y, rfl⟩ := h2; cases hv
  exact ⟨⟨_, rfl⟩, fun g => lv_lmul hx.1 hx.2.1 hd g⟩
theorem mzr_land : mzR2 .land 2 2 2 (mzfl (fun a b => a &&& b)) := by
  intro C x hx H locs pc A rest v1 v2 v h1 h2 hv hd
  obtain ⟨z, rfl⟩ := h1; obtain ⟨y, rfl⟩ := h2; cases hv
  exact ⟨⟨_, rfl⟩, fun g => lv_land hx.1 hx.2.1 hd g⟩
theorem mzr_lor : mzR2 .lor 2 2 2 (mzfl (fun a b => a ||| b)) := by
  intro C x hx H locs pc A rest v1 v2 v h1 h2 hv hd
  obtain ⟨z, rfl⟩ := h1; obtain ⟨y, rfl⟩ := h2; cases hv
  exact ⟨⟨_, rfl⟩, fun g => lv_lor hx.1 hx.2.1 hd g⟩
theorem mzr_lxor : mzR2 .lxor 2 2 2 (mzfl (fun a b => a ^^^ b)) := by
  intro C x hx H locs pc A rest v1 v2 v h1 h2 hv hd
  obtain ⟨z, rfl⟩ := h1; obtain ⟨y, rfl⟩ := h2; cases hv
  exact ⟨⟨_, rfl⟩, fun g => lv_lxor hx.1 hx.2.1 hd g⟩
theorem mzr_ldiv : mzR2 .ldiv 2 2 2 (mzfld (fun a b => a / b)) := by
  intro C x hx H locs pc A rest v1 v2 v h1 h2 hv hd
  obtain ⟨z, rfl⟩ := h1; obtain ⟨y, rfl⟩ := h2
  simp only [mzfld] at hv
  split at hv
  · cases hv
  · rename_i hy
    cases hv
    exact ⟨⟨_, rfl⟩, fun g => lv_ldiv hx.1 hx.2.1 hd hy g⟩
theorem mzr_lrem : mzR2 .lrem 2 2 2 (mzfld mzlrem) := by
  intro C x hx H locs pc A rest v1 v2 v h1 h2 hv hd
  obtain ⟨z, rfl⟩ := h1; obtain ⟨y, rfl⟩ := h2
  simp only [mzfld] at hv
  split at hv
  · cases hv
  · rename_i hy
    cases hv
    exact ⟨⟨_, rfl⟩, fun g => lv_lrem hx.1 hx.2.1 hd hy g⟩
theorem mzr_lshl : mzR2 .lshl 2 1 2 (mzfs mzlshl) := by
  intro C x hx H locs pc A rest v1 v2 v h1 h2 hv hd
  obtain ⟨z, rfl⟩ := h1; obtain ⟨y, rfl⟩ := h2; cases hv
  exact ⟨⟨_, rfl⟩, fun g => lv_lshl hx.1 hx.2.1 hd rfl g⟩
theorem mzr_lushr : mzR2 .lushr 2 1 2 (mzfs mzlushr) := by
  intro C x hx H locs pc A rest v1 v2 v h1 h2 hv hd
  obtain ⟨z, rfl⟩ := h1; obtain ⟨y, rfl⟩ := h2; cases hv
  exact ⟨⟨_, rfl⟩, fun g => lv_lushr hx.1 hx.2.1 hd rfl g⟩
theorem mzr_i2l : mzR1 .i2l 1 2 (mzf1il (fun a => a.toInt64)) := by
  intro C x hx H locs pc A rest v1 v h1 hv hd
  obtain ⟨z, rfl⟩ := h1; cases hv
  exact ⟨⟨_, rfl⟩, fun g => lv_i2l hx.1 hx.2.1 hd rfl g⟩
theorem mzr_l2i : mzR1 .l2i 2 1 (mzf1li (fun a => a.toInt32)) := by
  intro C x hx H locs pc A rest v1 v h1 hv hd
  obtain ⟨z, rfl⟩ := h1; cases hv
  exact ⟨⟨_, rfl⟩, fun g => lv_l2i hx.1 hx.2.1 hd rfl g⟩
theorem mzr_i2b : mzR1 .i2b 1 1 (mzf1ii (fun a => a.toInt8.toInt32)) := by
  intro C x hx H locs pc A rest v1 v h1 hv hd
  obtain ⟨z, rfl⟩ := h1; cases hv
  exact ⟨⟨_, rfl⟩, fun g => lv_i2b hx.1 hx.2.1 hd rfl g⟩
theorem mzr_i2s : mzR1 .i2s 1 1 (mzf1ii (fun a => a.toInt16.toInt32)) := by
  intro C x hx H locs pc A rest v1 v h1 hv hd
  obtain ⟨z, rfl⟩ := h1; cases hv
  exact ⟨⟨_, rfl⟩, fun g => lv_i2s hx.1 hx.2.1 hd rfl g⟩
/-! fields -/
def mzLkF (own idx ci k t : Nat) : Prop := ∃ (Cn : String) (T : u_T) (N : Nat), vwCl[ci]? = some (Cn, T, N) ∧ k < N ∧ (∀ z ∈ u_ws Cn T N, z ∈ mzT) ∧ (Jvm.Cond.fieldLink (mzcn own) idx (T k).1 (T k).2.1 (T k).2.2.1 ∈ mzT ∨ ∃ host, Jvm.Cond.fieldLinkNest (mzcn own) idx (T k).1 (T k).2.1 (T k).2.2.1 host ∈ mzN) ∧ (mzfk ci)[k]? = some t
def mzget (t : Nat) (M : mzM) (id k : Nat) : Value := match t with
  | 0 => .int (M.2.1 id k)
  | 1 => .long (M.2.2.1 id k)
  | _ => va_rf (M.2.2.2 id k)
theorem mzget_v (ad : Nat → Nat) (t : Nat) (M : mzM) (id k : Nat) : mzv ad (mzget t M id k) = mzfv ad M id k t := by
  match t with
  | 0 => rfl
  | 1 => rfl
  | t + 2 => exact mzv_rf ad _
theorem mzget_ty (t : Nat) (M : mzM) (id k : Nat) : mzty (t + 1) (mzget t M id k) := by
  match t with
  | 0 => exact ⟨_, rfl⟩
  | 1 => exact ⟨_, rfl⟩
  | t + 2 => exact ⟨_, rfl⟩
theorem mzcell_obj {dA : Nat → ClassId} {ad : Nat → Nat} {M : mzM} {id c : Nat} (h : (M.1 id).1 = c + 4) : mzcell dA ad M id = .inr (c, (mzfk c).mapIdx (fun k t => mzfv ad M id k t)) := by
  unfold mzcell
  rw [h]
theorem mzcell_i {dA : Nat → ClassId} {ad : Nat → Nat} {M : mzM} {id : Nat} (h : (M.1 id).1 = 0) : mzcell dA ad M id = .inl (dA 0, (M.1 id).2, .inl (M.2.1 id)) := by
  unfold mzcell
  rw [h]
theorem mzcell_l {dA : Nat → ClassId} {ad : Nat → Nat} {M : mzM} {id : Nat} (h : (M.1 id).1 = 1) : mzcell dA ad M id = .inl (dA 1, (M.1 id).2, .inr (.inl (M.2.2.1 id))) := by
  unfold mzcell
  rw [h]
theorem mzcell_z {dA : Nat → ClassId} {ad : Nat → Nat} {M : mzM} {id : Nat} (h : (M.1 id).1 = 2) : mzcell dA ad M id = .inl (dA 2, (M.1 id).2, .inl (M.2.1 id)) := by
  unfold mzcell
  rw [h]
theorem mzcell_q {dA : Nat → ClassId} {ad : Nat → Nat} {M : mzM} {id : Nat} (h : (M.1 id).1 = 3) : mzcell dA ad M id = .inl (dA 3, (M.1 id).2, .inr (.inr (.inr (.inr (fun j => (M.2.2.2 id j).map ad))))) := by
  unfold mzcell
  rw [h]
theorem mzhp_at {x : mzCx} {M : mzM} {H : Heap} {locs : List Loc} (h : mzhp x M H locs) {id : Nat} (hk : (M.1 id).1 < 99) : (mzW x.1 M)[id]? = some (x.1.2.2.1 id, mzcell x.1.2.1 x.1.2.2.1 M id) := mzW_at (h.2.2 id hk)
def mzcF (own idx : Nat) (ca : mzch) : mzch := fun C d p0 kn => match ca C d p0 none with
  | none => none
  | some p1 => if (C.2.1 == own && mzdec C.1 p1 (.getfield idx) 3) = true then mzfin C (p1 + 3) kn else none
/-- getfield at the machine -/
theorem mzgo_F {C : mzs} {x : mzCx} (hx : mzok C x) {idx ci k t id : Nat} (hl : mzLkF C.2.1 idx ci k t) (hc : ci < 20) {M : mzM} {H : Heap} {locs : List Loc} (hh : mzhp x M H locs) (hk : (M.1 id).1 = ci + 4) {pc : Nat} {A : Array Slot} {rest : List Value} (hd : decode C.1 pc = .ok (.getfield idx, 3)) (g : mzGo x H locs (pc + 3) A (mzva x (mzget t M id k) :: rest)) : mzGo x H locs pc A (.ref (x.1.2.2.1 id) :: rest) := by
  obtain ⟨Cn, T, N, hC, hkN, hws, hlk, ht⟩ := hl
  have hat := mzhp_at hh (id := id) (by omega)
  rw [mzcell_obj hk] at hat
  have hv : ((mzfk ci).mapIdx (fun k t => mzfv x.1.2.2.1 M id k t))[k]? = some (mzva x (mzget t M id k)) := by
    rw [List.getElem?_mapIdx, ht]
    exact congrArg some (mzget_v x.1.2.2.1 t M id k).symm
  rcases hlk with hlk | ⟨host, hlk⟩
  · exact va_get hx.1 hx.2.1 hx.2.2.2.2.1 hws hx.2.2.2.1 hx.2.2.2.2.2.2.1 hh.1 id hat hC k hkN (hx.2.2.2.2.1 _ hlk) (fun _ h9 => h9) hv hd g
  · exact va_getN hx.1 hx.2.1 hx.2.2.2.2.1 hws hx.2.2.2.1 hx.2.2.2.2.2.2.1 hh.1 id hat hC k hkN (va_Nw.use rfl (hx.2.2.2.2.2.1 _ hlk)) (fun _ h9 => h9) hv hd g
theorem mzE_F {own idx ci k t : Nat} (hl : mzLkF own idx ci k t) (hc : ci < 20) {ca : mzch} {wa : mzwp} (ha : mzE 3 ca wa) : mzE (t + 1) (mzcF own idx ca) (fun ls M K => wa ls M (fun v M1 => match v with | .ref id => (M1.1 id).1 = ci + 4 ∧ K (mzget t M1 id k) M1 | _ => False)) := by
  intro C d p0 kn p1 hc' x hx A ls M H locs rest K h1 h2 h3 h4 h5
  unfold mzcF at hc'
  split at hc'
  · cases hc'
  · rename_i q hq
    split at hc'
    · rename_i hd
      rw [Bool.and_eq_true] at hd
      have ho : C.2.1 = own := by simpa using hd.1
      subst ho
      refine ha C d p0 none q hq x hx A ls M H locs rest _ h1 h2 h3 h4 (fun v1 M1 H1 locs1 k1 ty1 hh1 => ?_)
      split at k1
      · rename_i id
        exact mzgo_F hx hl hc hh1 k1.1 (mzdec_ok hd.2) (mzfin_go hx hc' (h5 _ _ _ _ k1.2 (mzget_ty t M1 id k) hh1))
      · exact k1.elim
    · cases hc'
/-! arrays -/
theorem mzgo_iald {C : mzs} {x : mzCx} (hx : mzok C x) {id : Nat} {i : Int32} {M : mzM} {H : Heap} {locs : List Loc} (hh : mzhp x M H locs) (hk : (M.1 id).1 = 0) (hin : vp_in i (M.1 id).2) {pc : Nat} {A : Array Slot} {rest : List Value} (hd : decode C.1 pc = .ok (.iaload, 1)) (g : mzGo x H locs (pc + 1) A (.int (M.2.1 id i.toNatClampNeg) :: rest)) : mzGo x H locs pc A (.int i :: .ref (x.1.2.2.1 id) :: rest) := by
  have hat := mzhp_at hh (id := id) (by omega)
  rw [mzcell_i hk] at hat
  exact va_iald hx.1 hx.2.1 hx.2.2.2.2.2.2.1 hh.1 id 0 hat rfl hin hd g
theorem mzgo_lald {C : mzs} {x : mzCx} (hx : mzok C x) {id : Nat} {i : Int32} {M : mzM} {H : Heap} {locs : List Loc} (hh : mzhp x M H locs) (hk : (M.1 id).1 = 1) (hin : vp_in i (M.1 id).2) {pc : Nat} {A : Array Slot} {rest : List Value} (hd : decode C.1 pc = .ok (.laload, 1)) (g : mzGo x H locs (pc + 1) A (.long (M.2.2.1 id i.toNatClampNeg) :: rest)) : mzGo x H locs pc A (.int i :: .ref (x.1.2.2.1 id) :: rest) := by
  have hat := mzhp_at hh (id := id) (by omega)
  rw [mzcell_l hk] at hat
  exact va_lald hx.1 hx.2.1 hx.2.2.2.2.2.2.1 hh.1 id 1 hat rfl hin hd g
theorem mzgo_zald {C : mzs} {x : mzCx} (hx : mzok C x) {id : Nat} {i : Int32} {M : mzM} {H : Heap} {locs : List Loc} (hh : mzhp x M H locs) (hk : (M.1 id).1 = 2) (hin : vp_in i (M.1 id).2) {pc : Nat} {A : Array Slot} {rest : List Value} (hd : decode C.1 pc = .ok (.baload, 1)) (g : mzGo x H locs (pc + 1) A (.int (M.2.1 id i.toNatClampNeg) :: rest)) : mzGo x H locs pc A (.int i :: .ref (x.1.2.2.1 id) :: rest) := by
  have hat := mzhp_at hh (id := id) (by omega)
  rw [mzcell_z hk] at hat
  exact va_zald hx.1 hx.2.1 hx.2.2.2.2.2.2.1 hh.1 id 2 hat rfl hin hd g
theorem mzgo_aald {C : mzs} {x : mzCx} (hx : mzok C x) {id : Nat} {i : Int32} {M : mzM} {H : Heap} {locs : List Loc} (hh : mzhp x M H locs) (hk : (M.1 id).1 = 3) (hin : vp_in i (M.1 id).2) {pc : Nat} {A : Array Slot} {rest : List Value} (hd : decode C.1 pc = .ok (.aaload, 1)) (g : mzGo x H locs (pc + 1) A (mzva x (va_rf (M.2.2.2 id i.toNatClampNeg)) :: rest)) : mzGo x H locs pc A (.int i :: .ref (x.1.2.2.1 id) :: rest) := by
  have hat := mzhp_at hh (id := id) (by omega)
  rw [mzcell_q hk] at hat
  rw [show mzva x (va_rf (M.2.2.2 id i.toNatClampNeg)) = va_rf ((M.2.2.2 id i.toNatClampNeg).map x.1.2.2.1) from mzv_rf _ _] at g
  exact va_aldq hx.1 hx.2.1 hx.2.2.2.2.2.2.1 hh.1 id 3 hat rfl hin hd g
/-- what an array of a kind answers -/
def mzald (a : Nat) (M : mzM) (id k : Nat) : Value := match a with
  | 0 => .int (M.2.1 id k)
  | 1 => .long (M.2.2.1 id k)
  | 2 => .int (M.2.1 id k)
  | _ => va_rf (M.2.2.2 id k)
def mzalI (a : Nat) : Instr := match a with
  | 0 => .iaload
  | 1 => .laload
  | 2 => .baload
  | _ => .aaload
def mzalT (a : Nat) : Nat := match a with
  | 0 => 1
  | 1 => 2
  | 2 => 1
  | _ => 3
theorem mzE_A {a : Nat} (hl : a < 4) {ca cb : mzch} {wa wb : mzwp} (ha : mzE 3 ca wa) (hb : mzE 1 cb wb) : mzE (mzalT a) (mzc2 (mzalI a) 3 ca cb) (fun ls M K => wa ls M (fun v1 M1 => wb ls M1 (fun v2 M2 => match v1, v2 with | .ref id, .int i => (M2.1 id).1 = a ∧ vp_in i (M2.1 id).2 ∧ K (mzald a M2 id i.toNatClampNeg) M2 | _, _ => False))) := by
  intro C d p0 kn p1 hc x hx A ls M H locs rest K h1 h2 h3 h4 h5
  unfold mzc2 at hc
  split at hc
  · cases hc
  · rename_i q hq
    split at hc
    · cases hc
    · rename_i q2 hq2
      split at hc
      · rename_i hd
        refine ha C d p0 none q hq x hx A ls M H locs rest _ h1 h2 h3 h4 (fun v1 M1 H1 locs1 k1 ty1 hh1 => ?_)
        refine hb C _ q none q2 hq2 x hx A ls M1 H1 locs1 _ _ h1 hh1 (mzdeep h3 ty1) k1 (fun v2 M2 H2 locs2 k2 ty2 hh2 => ?_)
        split at k2
        · rename_i id i
          obtain ⟨k2, k3, k4⟩ := k2
          have hd := mzdec_ok hd
          match a, hl with
          | 0, _ => exact mzgo_iald hx hh2 k2 k3 hd (mzfin_go hx hc (h5 _ _ _ _ k4 ⟨_, rfl⟩ hh2))
          | 1, _ => exact mzgo_lald hx hh2 k2 k3 hd (mzfin_go hx hc (h5 _ _ _ _ k4 ⟨_, rfl⟩ hh2))
          | 2, _ => exact mzgo_zald hx hh2 k2 k3 hd (mzfin_go hx hc (h5 _ _ _ _ k4 ⟨_, rfl⟩ hh2))
          | 3, _ => exact mzgo_aald hx hh2 k2 k3 hd (mzfin_go hx hc (h5 _ _ _ _ k4 ⟨_, rfl⟩ hh2))
        · exact k2.elim
      · cases hc
theorem mzE_len {ca : mzch} {wa : mzwp} (ha : mzE 3 ca wa) : mzE 1 (mzc1 .arraylength ca) (fun ls M K => wa ls M (fun v M1 => match v with | .ref id => (M1.1 id).1 < 2 ∧ K (.int (Int32.ofNat (M1.1 id).2)) M1 | _ => False)) := by
  intro C d p0 kn p1 hc x hx A ls M H locs rest K h1 h2 h3 h4 h5
  unfold mzc1 at hc
  split at hc
  · cases hc
  · rename_i q hq
    split at hc
    · rename_i hd
      refine ha C d p0 none q hq x hx A ls M H locs rest _ h1 h2 h3 h4 (fun v1 M1 H1 locs1 k1 ty1 hh1 => ?_)
      split at k1
      · rename_i id
        have hat := mzhp_at hh1 (id := id) (by omega)
        have hg := mzfin_go hx hc (h5 _ _ _ _ k1.2 ⟨_, rfl⟩ hh1)
        rcases (show (M1.1 id).1 = 0 ∨ (M1.1 id).1 = 1 by omega) with hk | hk
        · rw [mzcell_i hk] at hat
          exact va_alen hx.1 hx.2.1 hx.2.2.2.2.2.2.1 hh1.1 id 0 hat rfl rfl (mzdec_ok hd) hg
        · rw [mzcell_l hk] at hat
          exact va_alen hx.1 hx.2.1 hx.2.2.2.2.2.2.1 hh1.1 id 1 hat rfl rfl (mzdec_ok hd) hg
      · exact k1.elim
    · cases hc
theorem mzdeep1 {rest : List Value} {d a : Nat} (h : (rest.map (fun v => v.category)).sum ≤ d) : ((Value.ref a :: rest).map (fun v => v.category)).sum ≤ d + 1 := by
  have e : (Value.ref a).category = 1 := rfl
  simp only [List.map_cons, List.sum_cons, e]
  omega
/-- TURNS[i] -/
def mzcU (own idx : Nat) (ca : mzch) : mzch := fun C d p0 kn => if (C.2.1 == own && mzdec C.1 p0 (.getstatic idx) 3) = true then
    (match ca C (d + 1) (p0 + 3) none with
    | none => none
    | some p1 => if mzdec C.1 p1 .iaload 1 = true then mzfin C (p1 + 1) kn else none)
  else none
def mzLkU (own idx : Nat) : Prop := Jvm.Cond.fieldLink (mzcn own) idx RX7 "TURNS" "[I" ∈ mzT ∨ ∃ host, Jvm.Cond.fieldLinkNest (mzcn own) idx RX7 "TURNS" "[I" host ∈ mzN
theorem mzE_U {own idx : Nat} (hl : mzLkU own idx) {ca : mzch} {wa : mzwp} (ha : mzE 1 ca wa) : mzE 1 (mzcU own idx ca) (fun ls M K => wa ls M (fun v M1 => match v with | .int i => vp_in i 12 ∧ K (.int (mzturn i.toNatClampNeg)) M1 | _ => False)) := by
  intro C d p0 kn p1 hc x hx A ls M H locs rest K h1 h2 h3 h4 h5
  unfold mzcU at hc
  split at hc
  · rename_i hd0
    rw [Bool.and_eq_true] at hd0
    have ho : C.2.1 = own := by simpa using hd0.1
    subst ho
    split at hc
    · cases hc
    · rename_i q hq
      split at hc
      · rename_i hd
        have hrest : mzGo x H locs (p0 + 3) A (.ref x.1.2.2.2.2 :: rest) := by
          refine ha C (d + 1) (p0 + 3) none q hq x hx A ls M H locs _ _ h1 h2 (mzdeep1 h3) h4 (fun v1 M1 H1 locs1 k1 ty1 hh1 => ?_)
          split at k1
          · rename_i i
            exact va_ti hx.1 hx.2.1 hx.2.2.2.2.2.2.2.2.1.2 hh1.2.1 k1.1 rfl (mzdec_ok hd) (mzfin_go hx hc (h5 _ _ _ _ k1.2 ⟨_, rfl⟩ hh1))
          · exact k1.elim
        rcases hl with hl | ⟨host, hl⟩
        · exact va_gets hx.1 hx.2.1 hx.2.2.2.2.2.2.2.2.1.1 h2.2.1 hx.2.2.2.1 (hx.2.2.2.2.1 _ hl) (fun _ h9 => h9) (mzdec_ok hd0.2) hrest
        · exact va_getsN hx.1 hx.2.1 hx.2.2.2.2.2.2.2.2.1.1 h2.2.1 hx.2.2.2.1 (va_Nw.use rfl (hx.2.2.2.2.2.1 _ hl)) (fun _ h9 => h9) (mzdec_ok hd0.2) hrest
      · cases hc
  · cases hc
