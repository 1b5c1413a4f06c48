/-! constructors: pieces of their texts -/
theorem va_RA_inj {U : State} {cA cB : ClassId} {ty : FieldType} (h1 : va_RA U cA ty) (h2 : va_RA U cB ty) : cA = cB := by
  cases ty <;> first
    | exact Option.some.inj (Eq.trans (Eq.symm h1) h2)
    | (obtain ⟨_, _, _, _, _, h1⟩ := h1
       obtain ⟨_, _, _, _, _, h2⟩ := h2
       exact Option.some.inj (Eq.trans (Eq.symm h1) h2))
def sgA (dA : Nat → ClassId) (k q n : Nat) : Nat × va_E := match k with
  | 0 => (q, .inl (dA 0, n, .inl (fun _ => 0)))
  | 1 => (q, .inl (dA 1, n, .inr (.inl (fun _ => 0))))
  | _ => (q, .inl (dA 2, n, .inl (fun _ => 0)))
def sgt (k : Nat) : ArrayType := match k with
  | 0 => .int
  | 1 => .long
  | _ => .boolean
/-- TURNS, apart from the cells of A; arrays of sheets can be made -/
def mzZq (tr : Nat) (A : Nat → Prop) (U : State) (H : Heap) : Prop := (va_Z RX7 "TURNS" "[I" (.ref tr) A U H ∧ va_T .int tr 12 (fun j => .int (mzturn j)) A U H) ∧ va_AO "MazeCalendar$Sheet" U
theorem mzZq.moved {tr : Nat} {A : Nat → Prop} {u U : State} {H : Heap} (hvm : u.vm.Alike U.vm) (h : mzZq tr A u H) : mzZq tr A U H := ⟨⟨h.1.1.moved hvm, h.1.2.moved hvm⟩, h.2.moved hvm⟩
theorem mzZq.kept {tr : Nat} {A : Nat → Prop} {U : State} {H H1 : Heap} (h : mzZq tr A U H) (hq : ∀ a : Nat, a < H.size → ¬ A a → H1[a]? = H[a]?) : mzZq tr A U H1 := ⟨⟨h.1.1.kept hq, h.1.2.kept hq⟩, h.2⟩
theorem mzZq.narrow {tr : Nat} {A B : Nat → Prop} {U : State} {H : Heap} (h : mzZq tr A U H) (hq : ∀ q, B q → A q) : mzZq tr B U H := ⟨⟨h.1.1.narrow hq, h.1.2.narrow hq⟩, h.2⟩
section SG
variable {p : Program} {l : Launch} {e : Env} {R : Room} {s : State} {m : MethodId} {args : Array Value} {below : List Frame} {meth : Method} {c : Code} {H H0 : Heap} {locs : List Loc} {cells slots : Nat} {Q : State → Prop} {cc : ByteArray} {pc : Nat} {ls : Array Slot} {rest : List Value} {D : va_G} {dA : Nat → ClassId} {A : Nat → Prop} {ws : va_W}
theorem sg_newa (hx : p.tables.exec = Jvm.exec) (hb : c.code = cc) {atype : ArrayType} {ty : FieldType} (hty : newarray.typeOf atype = ty) (harr : (Cond.arrayClass ty).before args s = true) (hK : va_K D vwCl (mztys dA) s) (hP : va_P D vwCl ws H) (hD : va_D A ws) (hS : va_S A H0 H locs) (hA : ∀ q, H0.size ≤ q → A q) {k : Nat} {cA0 : ClassId} (hk : (mztys dA)[k]? = some (cA0, ty)) {n : Int32} {N' : Nat} {a0 : vp_A} (ha : ∀ cA : ClassId, vp_cell cA a0 = arrV cA N' (fun _ => defaultValue ty)) (hn : ¬ n < 0) (hN : n.toNatClampNeg = N') (hbytes : N' * componentBytes ty ≤ 536870912) (hcells : cells + 1 ≤ R.cells) (hslots : slots + N' ≤ R.slots) (hdg : decode cc pc = .ok (.newarray atype, 2))
    (kk : ∀ (q : Nat) (H1 : Heap), va_P D vwCl (ws ++ [(q, .inl (cA0, a0))]) H1 → va_D A (ws ++ [(q, .inl (cA0, a0))]) → va_S A H0 H1 locs → W p l e R s m args below meth c H1 locs (cells + 1) (slots + N') Q (F0 m (pc + 2) ls (.ref q :: rest))) : W p l e R s m args below meth c H locs cells slots Q (F0 m pc ls (.int n :: rest)) := by
  refine va_newa hx hb (by rw [hty]; exact harr) hty hK hP hD hS hA ha hn hN hbytes hcells hslots hdg (fun q cA H1 hK1 hP1 hD1 hS1 => ?_)
  have e : cA = cA0 := va_RA_inj (hK1.2 4 (cA, ty) rfl).2 ((hK.2 k _ hk).2)
  subst e
  exact kk q H1 hP1 hD1 hS1
theorem sg_newk (hx : p.tables.exec = Jvm.exec) (hb : c.code = cc) (k : Nat) (harr : (Cond.arrayClass (newarray.typeOf (sgt k))).before args s = true) (hK : va_K D vwCl (mztys dA) s) (hP : va_P D vwCl ws H) (hD : va_D A ws) (hS : va_S A H0 H locs) (hA : ∀ q, H0.size ≤ q → A q) {n : Int32} {N' : Nat} (hn : ¬ n < 0) (hN : n.toNatClampNeg = N') (hbytes : N' ≤ 10000) (hcells : cells + 1 ≤ R.cells) (hslots : slots + N' ≤ R.slots) (hdg : decode cc pc = .ok (.newarray (sgt k), 2))
    (kk : ∀ (q : Nat) (H1 : Heap), va_P D vwCl (ws ++ [sgA dA k q N']) H1 → va_D A (ws ++ [sgA dA k q N']) → va_S A H0 H1 locs → W p l e R s m args below meth c H1 locs (cells + 1) (slots + N') Q (F0 m (pc + 2) ls (.ref q :: rest))) : W p l e R s m args below meth c H locs cells slots Q (F0 m pc ls (.int n :: rest)) := by
  match k, harr, hdg, kk with
  | 0, harr, hdg, kk => exact sg_newa (atype := .int) (k := 0) hx hb rfl harr hK hP hD hS hA rfl (a0 := (N', .inl (fun _ => 0))) (fun _ => rfl) hn hN (Nat.le_trans (Nat.mul_le_mul_right _ hbytes) (by decide)) hcells hslots hdg kk
  | 1, harr, hdg, kk => exact sg_newa (atype := .long) (k := 1) hx hb rfl harr hK hP hD hS hA rfl (a0 := (N', .inr (.inl (fun _ => 0)))) (fun _ => rfl) hn hN (Nat.le_trans (Nat.mul_le_mul_right _ hbytes) (by decide)) hcells hslots hdg kk
  | k + 2, harr, hdg, kk => exact sg_newa (atype := .boolean) (k := 2) hx hb rfl harr hK hP hD hS hA rfl (a0 := (N', .inl (fun _ => 0))) (fun _ => rfl) hn hN (Nat.le_trans (Nat.mul_le_mul_right _ hbytes) (by decide)) hcells hslots hdg kk
/-- how a field of the constructor's own class is linked -/
def sgF (ci : Nat) (C : String) (idx k : Nat) (fin : Bool) (ok : FieldType → Prop) : Prop := ∃ (T : u_T) (N : Nat) (ty0 : Nat → FieldType), vwCl[ci]? = some (C, T, N) ∧ k < N ∧ (∀ z ∈ u_ws C T N, z ∈ mzT) ∧ Jvm.Cond.fieldLink C idx (T k).1 (T k).2.1 (T k).2.2.1 ∈ mzT ∧ (∀ k, k < N → parseFieldDescriptor (T k).2.2.1 = some (ty0 k)) ∧ (∀ a, a < N → ∀ b, b < N → a ≠ b → (T a).2.1 ≠ (T b).2.1) ∧ (T k).2.2.2 = fin ∧ (T k).1 = C ∧ ok (ty0 k)
def sgR (ty : FieldType) : Prop := ∀ q : Nat, narrow ty (.ref q) = .ref q ∧ fits ty (.ref q) = true
def sgI (ty : FieldType) : Prop := ∀ z : Int32, narrow ty (.int z) = .int z ∧ fits ty (.int z) = true
theorem sg_put (hx : p.tables.exec = Jvm.exec) (hb : c.code = cc) (hts : ∀ x ∈ mzT, x.before args s = true) {C : String} (hown : s.vm.findClass C = some m.cls) (hin2 : meth.name = "<init>") (hK : va_K D vwCl (mztys dA) s) {ci idx k : Nat} {fin : Bool} {ok : FieldType → Prop} (hf : sgF ci C idx k fin ok) {v : Value} (hv : ∀ ty, ok ty → narrow ty v = v ∧ fits ty v = true) {h0 : Nat} {fs : List Value} {T : va_W} (hP : va_P D vwCl ((h0, .inr (ci, fs)) :: T) H) (hD : va_D A ((h0, .inr (ci, fs)) :: T)) (hS : va_S A H0 H locs) (hl : k < fs.length) (hdg : decode cc pc = .ok (.putfield idx, 3))
    (kk : ∀ (H1 : Heap) (locs1 : List Loc), va_P D vwCl ((h0, .inr (ci, fs.set k v)) :: T) H1 → va_D A ((h0, .inr (ci, fs.set k v)) :: T) → va_S A H0 H1 locs1 → W p l e R s m args below meth c H1 locs1 cells slots Q (F0 m (pc + 3) ls rest)) : W p l e R s m args below meth c H locs cells slots Q (F0 m pc ls (v :: .ref h0 :: rest)) := by
  obtain ⟨T0, N, ty0, h1, h2, h3, h4, h5, h6, h7, h8, h9⟩ := hf
  obtain ⟨n1, n2⟩ := hv _ h9
  cases fin with
  | true => exact va_putF hx hb hts h3 ty0 h5 h6 hown hK hP hD hS 0 rfl h1 k h2 (hts _ h4) (fun _ h => h) h7 hin2 h8 (h5 k h2) n1 n2 hl hdg kk
  | false => exact va_put hx hb hts h3 ty0 h5 h6 hown hK hP hD hS 0 rfl h1 k h2 (hts _ h4) (fun _ h => h) h7 (h5 k h2) n1 n2 hl hdg kk
/-- a number on the stack -/
def sgv (ins : Instr) (pl : Nat) (v : Int32) : Prop := match ins, pl with
  | .iconst z, 1 => Int32.ofInt z = v
  | .bipush z, 2 => (Int8.ofInt z).toInt32 = v
  | .sipush z, 3 => (Int16.ofInt z).toInt32 = v
  | _, _ => False
theorem sg_push (hx : p.tables.exec = Jvm.exec) (hb : c.code = cc) {ins : Instr} {pl : Nat} {v : Int32} (h : sgv ins pl v) (hd : decode cc pc = .ok (ins, pl)) (g : W p l e R s m args below meth c H locs cells slots Q (F0 m (pc + pl) ls (.int v :: rest))) : W p l e R s m args below meth c H locs cells slots Q (F0 m pc ls rest) := by
  unfold sgv at h
  split at h
  · exact lv_iconst hx hb hd h g
  · exact lv_bipush hx hb hd h g
  · exact lv_sipush hx hb hd h g
  · exact h.elim
def sgb (cc : ByteArray) (pc : Nat) (ins : Instr) (pl k idx : Nat) : Bool := mzdec cc pc (.aload_n 0) 1 && (mzdec cc (pc + 1) ins pl && (mzdec cc (pc + 1 + pl) (.newarray (sgt k)) 2 && mzdec cc (pc + 1 + pl + 2) (.putfield idx) 3))
/-- this.f = new T[n] -/
theorem sg_arr (hx : p.tables.exec = Jvm.exec) (hb : c.code = cc) (hts : ∀ x ∈ mzT, x.before args s = true) {C : String} (hown : s.vm.findClass C = some m.cls) (hin2 : meth.name = "<init>") (hK : va_K D vwCl (mztys dA) s) (hA : ∀ q, H0.size ≤ q → A q) {ci idx k : Nat} {fin : Bool} (hf : sgF ci C idx k fin sgR) {h0 : Nat} (hl0 : ls[0]? = some (.val (.ref h0))) (kd N' : Nat) {ins : Instr} {pl : Nat} {n : Int32} (hv : sgv ins pl n) (hn : ¬ n < 0) (hN : n.toNatClampNeg = N') (hbytes : N' ≤ 10000) (harr : Cond.arrayClass (newarray.typeOf (sgt kd)) ∈ mzT) (hd : sgb cc pc ins pl kd idx = true) (hcells : cells + 1 ≤ R.cells) (hslots : slots + N' ≤ R.slots) {fs : List Value} (hl : k < fs.length) {T : va_W} (hP : va_P D vwCl ((h0, .inr (ci, fs)) :: T) H) (hD : va_D A ((h0, .inr (ci, fs)) :: T)) (hS : va_S A H0 H locs)
    (kk : ∀ (q : Nat) (H1 : Heap) (locs1 : List Loc), va_P D vwCl ((h0, .inr (ci, fs.set k (.ref q))) :: (T ++ [sgA dA kd q N'])) H1 → va_D A ((h0, .inr (ci, fs.set k (.ref q))) :: (T ++ [sgA dA kd q N'])) → va_S A H0 H1 locs1 → W p l e R s m args below meth c H1 locs1 (cells + 1) (slots + N') Q (F0 m (pc + 1 + pl + 2 + 3) ls rest)) : W p l e R s m args below meth c H locs cells slots Q (F0 m pc ls rest) := by
  unfold sgb at hd
  simp only [Bool.and_eq_true] at hd
  obtain ⟨d0, d1, d2, d3⟩ := hd
  refine lv_aload_n hx hb (mzdec_ok d0) rfl hl0 ?_
  refine sg_push hx hb hv (mzdec_ok d1) ?_
  refine sg_newk hx hb kd (hts _ harr) hK hP hD hS hA hn hN hbytes hcells hslots (mzdec_ok d2) (fun q H1 hP1 hD1 hS1 => ?_)
  exact sg_put hx hb hts hown hin2 hK hf (fun ty h => h q) (T := T ++ [sgA dA kd q N']) hP1 hD1 hS1 hl (mzdec_ok d3) (kk q)
def sgi (cc : ByteArray) (pc : Nat) (ins : Instr) (pl idx : Nat) : Bool := mzdec cc pc (.aload_n 0) 1 && (mzdec cc (pc + 1) ins pl && mzdec cc (pc + 1 + pl) (.putfield idx) 3)
/-- this.f = a number -/
theorem sg_int (hx : p.tables.exec = Jvm.exec) (hb : c.code = cc) (hts : ∀ x ∈ mzT, x.before args s = true) {C : String} (hown : s.vm.findClass C = some m.cls) (hin2 : meth.name = "<init>") (hK : va_K D vwCl (mztys dA) s) {ci idx k : Nat} {fin : Bool} (hf : sgF ci C idx k fin sgI) {h0 : Nat} (hl0 : ls[0]? = some (.val (.ref h0))) {ins : Instr} {pl : Nat} {n : Int32} (hv : sgv ins pl n) (hd : sgi cc pc ins pl idx = true) {fs : List Value} (hl : k < fs.length) {T : va_W} (hP : va_P D vwCl ((h0, .inr (ci, fs)) :: T) H) (hD : va_D A ((h0, .inr (ci, fs)) :: T)) (hS : va_S A H0 H locs)
    (kk : ∀ (H1 : Heap) (locs1 : List Loc), va_P D vwCl ((h0, .inr (ci, fs.set k (.int n))) :: T) H1 → va_D A ((h0, .inr (ci, fs.set k (.int n))) :: T) → va_S A H0 H1 locs1 → W p l e R s m args below meth c H1 locs1 cells slots Q (F0 m (pc + 1 + pl + 3) ls rest)) : W p l e R s m args below meth c H locs cells slots Q (F0 m pc ls rest) := by
  unfold sgi at hd
  simp only [Bool.and_eq_true] at hd
  obtain ⟨d0, d1, d3⟩ := hd
  refine lv_aload_n hx hb (mzdec_ok d0) rfl hl0 ?_
  refine sg_push hx hb hv (mzdec_ok d1) ?_
  exact sg_put hx hb hts hown hin2 hK hf (fun ty h => h n) hP hD hS hl (mzdec_ok d3) kk
end SG
/-! constructors: what they keep -/
def cnP (D : va_G) (dA : Nat → ClassId) (tr h0 sz : Nat) (e0 : va_E) (U : State) : Prop := U.heap.size = sz ∧ va_P D vwCl [(h0, e0)] U.heap ∧ va_K D vwCl (mztys dA) U ∧ (∀ x ∈ mzN, va_Nw x U) ∧ mzZq tr (va_A [(h0, e0)] sz) U U.heap
/-- name, bytes, locals, frames, cells, slots, words -/
abbrev mzCr : Type := MethodName × ByteArray × Nat × Nat × Nat × Nat × Nat
def mzCon (r : mzCr) (as : List Value) (e0 : va_E) (post : (Nat → ClassId) → Nat → va_W → Prop) : Prop := (Jvm.Cond.code r.1 r.2.1 r.2.2.1 none ∈ mzT ∧ r.1.name = "<init>" ∧ r.1.cls ≠ "java/lang/invoke/MethodHandle" ∧ r.1.cls ≠ "java/lang/invoke/VarHandle") ∧
  ∀ (l : Launch) (D : va_G) (dA : Nat → ClassId) (tr h0 sz : Nat), Met l r.1 (Jvm.Cond.code r.1 r.2.1 r.2.2.1 none :: mzT) { frames := r.2.2.2.1, cells := r.2.2.2.2.1, slots := r.2.2.2.2.2.1, locals := r.2.2.2.2.2.2 } (va_Pc (.ref h0 :: as) (cnP D dA tr h0 sz e0)) (va_Qv (fun w1 : va_W => post dA h0 w1) (fun w1 t => va_P D vwCl w1 t.heap ∧ va_D (va_A [(h0, e0)] sz) w1) (va_A [(h0, e0)] sz)) r.2.2.2.2.1 r.2.2.2.2.2.1 (va_A [(h0, e0)] sz)
theorem cnP_blind {D : va_G} {dA : Nat → ClassId} {tr h0 sz : Nat} {e0 : va_E} {av : List Value} : FrameBlind (va_Pc av (cnP D dA tr h0 sz e0)) := by
  intro a U g mk q
  obtain ⟨q0, q1, qP, qK, qN, qZ⟩ := q
  exact ⟨q0, q1, qP, va_K.moved (u := U) (U := U.calling g mk a) (Vm.Alike.refl U.vm) qK, mzN_same (u := U) (U := U.calling g mk a) rfl qN, qZ.moved (u := U) (U := U.calling g mk a) (Vm.Alike.refl U.vm)⟩
theorem va_D_one {q : Nat} {e : va_E} {sz : Nat} : va_D (va_A [(q, e)] sz) [(q, e)] := by
  refine ⟨fun i j a b hi hj _ => ?_, fun k a hk => va_A.in hk⟩
  have h1 := (List.getElem?_eq_some_iff.mp hi).1
  have h2 := (List.getElem?_eq_some_iff.mp hj).1
  simp at h1 h2
  omega
theorem con_of {y : MethodName} {cc : ByteArray} {maxL mc ms fr lo : Nat} {as : List Value} {e0 : va_E} {post : (Nat → ClassId) → Nat → va_W → Prop} {C : String} {idx : Nat} (hcode : Jvm.Cond.code y cc maxL none ∈ mzT) (hm1 : y.cls ≠ "java/lang/invoke/MethodHandle" ∧ y.cls ≠ "java/lang/invoke/VarHandle") (hpl : plainName y.cls = true) (hcls : y.cls = C) (hnm : y.name = "<init>")
    (ho1 : Jvm.Cond.methodLink C idx objectInit ∈ mzT) (ho2 : Jvm.Cond.instanceMethod objectInit ∈ mzT) (ho3 : Jvm.Cond.code objectInit ⟨#[0xb1]⟩ 1 none ∈ mzT) (hd : (mzdec cc 0 (.aload_n 0) 1 && mzdec cc 1 (.invokespecial idx) 3) = true) (hfr : 1 ≤ fr) (hlo : 12 ≤ lo) (hlen : ∀ h0 : Nat, (lg_sl (.ref h0 :: as)).length ≤ maxL)
    (body : ∀ (p : Program) (l : Launch) (e : Env) (s : State) (m : MethodId) (h0 : Nat) (below : List Frame) (meth : Method) (c : Code) (D : va_G) (dA : Nat → ClassId) (tr : Nat) (ls : Array Slot) (Q : State → Prop), p.tables.exec = Jvm.exec → c.code = cc → c.maxLocals = maxL → s.vm.findClass C = some m.cls → (∀ x ∈ mzT, x.before (Value.ref h0 :: as).toArray s = true) → (∀ x ∈ mzN, va_Nw x s) → meth.name = "<init>" → va_K D vwCl (mztys dA) s → mzZq tr (va_A [(h0, e0)] s.heap.size) s s.heap → va_P D vwCl [(h0, e0)] s.heap → va_D (va_A [(h0, e0)] s.heap.size) [(h0, e0)] → lv_has ls maxL (lv_args 0 (.ref h0 :: as)) →
      (∀ (w1 : va_W) (H : Heap) (locs : List Loc) (pc : Nat) (ls : Array Slot), post dA h0 w1 → va_P D vwCl w1 H → va_D (va_A [(h0, e0)] s.heap.size) w1 → va_S (va_A [(h0, e0)] s.heap.size) s.heap H locs → mzdec cc pc .return_ 1 = true → W p l e { frames := fr, cells := mc, slots := ms, locals := lo } s m (Value.ref h0 :: as).toArray below meth c H locs mc ms Q (F0 m pc ls [])) →
      W p l e { frames := fr, cells := mc, slots := ms, locals := lo } s m (Value.ref h0 :: as).toArray below meth c s.heap [] 0 0 Q (F0 m 4 ls [])) : mzCon (y, cc, maxL, fr, mc, ms, lo) as e0 post := by
  refine ⟨⟨hcode, hnm, hm1⟩, fun l D dA tr h0 sz => ?_⟩
  refine Met.ofW (cc := cc) (maxL := maxL) (ret := none) hpl rfl ?_
  intro p e s m args below meth c s₁ B hml hv
  obtain ⟨rfl, hsz, hP, hK, hN, hZ⟩ := hv
  subst hsz
  have hx := B.exec
  have hb := B.bytes
  have hr := B.returns
  have hts0 := atoms_spec (ws := Jvm.Cond.code y cc maxL none :: mzT) B.pre
  have hts : ∀ x ∈ mzT, x.before (Value.ref h0 :: as).toArray s = true := fun x hx => hts0 x (List.mem_cons_of_mem _ hx)
  have hown : s.vm.findClass C = some m.cls := by rw [← hcls]; exact findClass_of_methodNamed B.named
  have hlocks := B.notSynchronized
  have hin : meth.name = "<init>" := by rw [← hnm]; exact (name_of_methodNamed B.named B.method).1
  simp only [Bool.and_eq_true] at hd
  have hl := lv_entry (.ref h0 :: as) (n := maxL) (hlen h0)
  rw [lg_entry_eq]
  generalize (lg_sl (.ref h0 :: as) ++ List.replicate (maxL - (lg_sl (.ref h0 :: as)).length) Slot.unset).toArray = ls at hl ⊢
  have hl0 : ls[0]? = some (.val (.ref h0)) := hl.2.2 (0, .ref h0) (List.mem_cons_self ..)
  refine lv_aload_n hx hb (mzdec_ok hd.1) rfl hl0 ?_
  refine W.objInit hx hb hown (hts _ ho1) (hts _ ho2) (hts _ ho3) rfl (by rw [hml]; exact hl.1) rfl (mzdec_ok hd.2) hfr hlo ?_
  refine W.eq (g2 := F0 m 4 ls []) rfl ?_
  refine body p l e s m h0 below meth c D dA tr ls _ hx hb hml hown hts hN hin hK hZ hP va_D_one hl (fun w1 H locs pc ls hpo hP1 hD1 hS1 hdr => ?_)
  exact W.vret hx hb hr (fun t ht hW => ⟨⟨w1, rfl, hpo, by rw [ht]; exact hP1, hD1⟩, hS1.F ht⟩) hS1.2.2 (mzdec_ok hdr) hlocks
