/-! THE SMALL LANGUAGE, 5: methods and calls -/
/-- name, bytes, locals, answer's type, frames, words, kind of its answer, what it does -/
abbrev mzMr : Type := MethodName × ByteArray × Nat × Option FieldType × Nat × Nat × Nat × (List Value → mzM → (Value → mzM → Prop) → Prop)
def mzPre (w : mzD) (M : mzM) (U : State) : Prop := va_P w.1 vwCl (mzW w M) U.heap ∧ va_K w.1 vwCl (mztys w.2.1) U ∧ (∀ z ∈ mzN, va_Nw z U) ∧ mzInj w ∧ mzZ w U ∧ ∀ id, (M.1 id).1 < 99 → id < w.2.2.2.1
/-- kinds of answers -/
def mzrt (rk : Nat) (v : Value) : Prop := match rk with
  | 0 => v = .null
  | 1 => ∃ z : Int32, v = .int z
  | 2 => ∃ z : Int64, v = .long z
  | 3 => ∃ r : Option Nat, v = va_rf r
  | _ => v = .int 0 ∨ v = .int 1
def mzro (ad : Nat → Nat) (rk : Nat) (v : Value) : Option Value := match rk with
  | 0 => none
  | _ => some (mzv ad v)
def mzQc (w : mzD) (rk : Nat) (K : Value → mzM → Prop) : Array Value → State → Outcome → State → Prop := fun _ st oc t => (∃ (v : Value) (M' : mzM), oc = .returned (mzro w.2.2.1 rk v) ∧ mzrt rk v ∧ K v M' ∧ va_P w.1 vwCl (mzW w M') t.heap ∧ ∀ id, (M'.1 id).1 < 99 → id < w.2.2.2.1) ∧ va_F (mzA w) st t
abbrev mzrm (r : mzMr) : Room := { frames := r.2.2.2.2.1, cells := 0, slots := 0, locals := r.2.2.2.2.2.1 }
def mzMs (r : mzMr) : Prop := (Jvm.Cond.code r.1 r.2.1 r.2.2.1 r.2.2.2.1 ∈ mzT ∧ r.1.cls ≠ "java/lang/invoke/MethodHandle" ∧ r.1.cls ≠ "java/lang/invoke/VarHandle") ∧
  ∀ (l : Launch) (w : mzD) (as : List Value) (M : mzM) (K : Value → mzM → Prop), r.2.2.2.2.2.2.2 as M K → Met l r.1 (Jvm.Cond.code r.1 r.2.1 r.2.2.1 r.2.2.2.1 :: mzT) (mzrm r) (va_Pc (as.map (mzv w.2.2.1)) (mzPre w M)) (mzQc w r.2.2.2.2.2.2.1 K) 0 0 (mzA w)
abbrev mzMt : Type := { r : mzMr // mzMs r }
theorem mzblind {w : mzD} {M : mzM} {av : List Value} : FrameBlind (va_Pc av (mzPre w M)) := by
  intro a U g mk q
  obtain ⟨q0, qP, qK, qN, qI, qZ, qd⟩ := q
  exact ⟨q0, qP, va_K.moved (u := U) (U := U.calling g mk a) (Vm.Alike.refl U.vm) qK, mzN_same (u := U) (U := U.calling g mk a) rfl qN, qI, ⟨qZ.1.moved (u := U) (U := U.calling g mk a) (Vm.Alike.refl U.vm), qZ.2.moved (u := U) (U := U.calling g mk a) (Vm.Alike.refl U.vm)⟩, qd⟩
/-- what holds at the callee's entry -/
theorem mzpre_of {C : mzs} {x : mzCx} (hx : mzok C x) {M : mzM} {H : Heap} {locs : List Loc} (hh : mzhp x M H locs) {U : State} (hU : U.heap = H) (hW : x.2.2.2.2.2.1.WarmedH U.vm) : mzPre x.1 M U := by
  obtain ⟨-, -, -, -, -, hN, hK, hI, hZ, -, -⟩ := hx
  refine ⟨by rw [hU]; exact hh.1, va_K.moved hW.alike hK, mzN_warm hW hN, hI, ?_, hh.2.2⟩
  refine ⟨?_, ?_⟩
  · have := (hZ.1.moved hW.alike).kept (H1 := U.heap) (fun a ha hA => by rw [hU]; exact hh.2.1.2.1 a ha hA)
    exact this
  · have := (hZ.2.moved hW.alike).kept (H1 := U.heap) (fun a ha hA => by rw [hU]; exact hh.2.1.2.1 a ha hA)
    exact this
/-- behind a call -/
theorem mzcall {C : mzs} {x : mzCx} (hx : mzok C x) {M : mzM} {H : Heap} {locs : List Loc} (hh : mzhp x M H locs) {pc rk : Nat} {A : Array Slot} {st0 rest : List Value} {a : Array Value} {K : Value → mzM → Prop}
    (hr : va_Run x.2.1 x.2.2.1 x.2.2.2.1 x.2.2.2.2.1 x.2.2.2.2.2.1 x.2.2.2.2.2.2.1 x.2.2.2.2.2.2.2.1 x.2.2.2.2.2.2.2.2.1 x.2.2.2.2.2.2.2.2.2.1 x.2.2.2.2.2.2.2.2.2.2.1 H locs 0 0 0 0 (F0 x.2.2.2.2.2.2.1 pc A st0) rest (mzQc x.1 rk K a) (mzA x.1))
    (g : ∀ (v : Value) (M' : mzM) (H' : Heap) (locs' : List Loc), K v M' → mzrt rk v → mzhp x M' H' locs' → mzGo x H' locs' (pc + 3) A ((mzro x.1.2.2.1 rk v).toList ++ rest)) : mzGo x H locs pc A st0 := by
  intro T hT X
  obtain ⟨v, st₀, t, T', L, h0, X', hL, e1, e2, ⟨⟨u, M', hv, hrt, hK, hP, hd⟩, hz, hk⟩, st⟩ := hr T hT X
  cases hv
  rw [h0] at hz hk
  obtain ⟨t2, a1, b1⟩ := g u M' T'.heap (locs ++ L) hK hrt ⟨by rw [e1]; exact hP, ⟨Nat.le_trans hh.2.1.1 (by rw [e1]; exact hz), fun q h1 h2 => by rw [e1, hk q (Nat.lt_of_lt_of_le h1 hh.2.1.1) h2]; exact hh.2.1.2.1 q h1 h2, fun q hq => by
      rcases List.mem_append.mp hq with h | h
      · exact hh.2.1.2.2 q h
      · exact hL q h⟩, hd⟩ T' rfl X'
  exact ⟨t2, st t2 a1, b1⟩
/-- how a call is linked: an instance's method, a static one -/
def mzLkV (own idx ci : Nat) (y : MethodName) : Prop := (Jvm.Cond.methodLink (mzcn own) idx y ∈ mzT ∨ ∃ host, Jvm.Cond.methodLinkNest (mzcn own) idx y host ∈ mzN) ∧ Jvm.Cond.instanceMethod y ∈ mzT ∧ Jvm.Cond.selects y.cls y y ∈ mzT ∧ Jvm.Cond.initialized y.cls ∈ mzT ∧ (∃ T N, vwCl[ci]? = some (y.cls, T, N)) ∧ ci < 20
def mzLkS (own idx : Nat) (y : MethodName) : Prop := (Jvm.Cond.methodLink (mzcn own) idx y ∈ mzT ∨ ∃ host, Jvm.Cond.methodLinkNest (mzcn own) idx y host ∈ mzN) ∧ Jvm.Cond.static y ∈ mzT ∧ Jvm.Cond.initialized y.cls ∈ mzT
def mznp (y : MethodName) : Option Nat := (parseMethodDescriptor y.desc).map (fun d => d.parameters.length)
theorem mzgo_V {C : mzs} {x : mzCx} (hx : mzok C x) (r : mzMt) {idx ci id : Nat} (hl : mzLkV C.2.1 idx ci r.1.1) {M : mzM} {H : Heap} {locs : List Loc} (hh : mzhp x M H locs) (hk : (M.1 id).1 = ci + 4) {as : List Value} (hn : mznp r.1.1 = some as.length) {pc : Nat} {A : Array Slot} {ls : mzL} (hA : mzlo C x A ls) {rest : List Value} (h8 : (rest.map (fun v => v.category)).sum ≤ 8) (hR : r.1.2.2.2.2.1 + 1 ≤ C.2.2.2.1 ∧ 8 + (r.1.2.2.1 + 11) + r.1.2.2.2.2.2.1 ≤ C.2.2.2.2.1) (hd : decode C.1 pc = .ok (.invokevirtual idx, 3)) {K : Value → mzM → Prop} (hw : r.1.2.2.2.2.2.2.2 (.ref id :: as) M K)
    (g : ∀ (v : Value) (M' : mzM) (H' : Heap) (locs' : List Loc), K v M' → mzrt r.1.2.2.2.2.2.2.1 v → mzhp x M' H' locs' → mzGo x H' locs' (pc + 3) A ((mzro x.1.2.2.1 r.1.2.2.2.2.2.2.1 v).toList ++ rest)) : mzGo x H locs pc A ((as.map (mzva x)).reverse ++ .ref (x.1.2.2.1 id) :: rest) := by
  obtain ⟨⟨y, bytes, maxL, ret, fr, lo, rk, wp⟩, ⟨hcode, hy1, hy2⟩, hM⟩ := r
  dsimp only at hl hn hR hw g hM hcode hy1 hy2 ⊢
  obtain ⟨hlk, hinst, hsel, hini, ⟨T, N, hC⟩, hci⟩ := hl
  have hts := hx.2.2.2.2.1
  have hM' := hM x.2.2.1 x.1 (.ref id :: as) M K hw
  have hat := mzhp_at hh (id := id) (by omega)
  rw [mzcell_obj hk] at hat
  have hpre : PreV x.2.2.2.2.2.1 H y.cls (x.1.2.2.1 id) (va_Pc ((Value.ref id :: as).map (mzv x.1.2.2.1)) (mzPre x.1 M)) (as.map (mzva x)) :=
    ⟨mzblind, va_recv hx.2.2.2.2.2.2.1 hh.1 hC hat, fun U hU hW => ⟨rfl, mzpre_of hx hh hU hW⟩⟩
  have hfix : CallFix x.2.1 x.2.2.2.2.2.2.1 x.2.2.2.2.2.2.2.2.2.2.1 C.1 C.2.2.1 x.2.2.2.2.2.1 x.2.2.2.2.2.2.2.1 mzT (mzcn C.2.1) := ⟨hx.1, hx.2.1, hx.2.2.1, hx.2.2.2.1, hts⟩
  have hfit : fr + 1 ≤ x.2.2.2.2.1.frames ∧ 8 + (maxL + 11) + lo ≤ x.2.2.2.2.1.locals := by rw [hx.2.2.2.2.2.2.2.2.2.1.1, hx.2.2.2.2.2.2.2.2.2.1.2]; exact hR
  have hd2 : y.cls ≠ "java/lang/invoke/MethodHandle" ∧ y.cls ≠ "java/lang/invoke/VarHandle" ∧ (parseMethodDescriptor y.desc).map (fun d => d.parameters.length) = some as.length := ⟨hy1, hy2, hn⟩
  rcases hlk with hlk | ⟨host, hlk⟩
  · refine mzcall hx hh (va_runV (As := as.map (mzva x)) (n := as.length) hfix hM' ⟨callB_of (R := x.2.2.2.2.1) as.length hts (mzT_good hcode) rfl rfl rfl (hts _ hini) (hts _ hlk) hd2 hfit, hts _ hinst, hts _ hsel⟩ hpre rfl (by simp) hA.1 rfl (lv_room h8) hd ⟨Nat.zero_le _, Nat.zero_le _⟩) g
  · refine mzcall hx hh (va_runVN (As := as.map (mzva x)) (n := as.length) hfix hM' ⟨va_cnB (R := x.2.2.2.2.1) as.length hts (mzT_good hcode) rfl rfl rfl (hx.2.2.2.2.2.1 _ hlk) (hts _ hini) hd2 hfit, hts _ hinst, hts _ hsel⟩ hpre rfl (by simp) hA.1 rfl (lv_room h8) hd ⟨Nat.zero_le _, Nat.zero_le _⟩) g
theorem mzgo_S {C : mzs} {x : mzCx} (hx : mzok C x) (r : mzMt) {idx : Nat} (hl : mzLkS C.2.1 idx r.1.1) {M : mzM} {H : Heap} {locs : List Loc} (hh : mzhp x M H locs) {as : List Value} (hn : mznp r.1.1 = some as.length) {pc : Nat} {A : Array Slot} {ls : mzL} (hA : mzlo C x A ls) {rest : List Value} (h8 : (rest.map (fun v => v.category)).sum ≤ 8) (hR : r.1.2.2.2.2.1 + 1 ≤ C.2.2.2.1 ∧ 8 + (r.1.2.2.1 + 11) + r.1.2.2.2.2.2.1 ≤ C.2.2.2.2.1) (hd : decode C.1 pc = .ok (.invokestatic idx, 3)) {K : Value → mzM → Prop} (hw : r.1.2.2.2.2.2.2.2 as M K)
    (g : ∀ (v : Value) (M' : mzM) (H' : Heap) (locs' : List Loc), K v M' → mzrt r.1.2.2.2.2.2.2.1 v → mzhp x M' H' locs' → mzGo x H' locs' (pc + 3) A ((mzro x.1.2.2.1 r.1.2.2.2.2.2.2.1 v).toList ++ rest)) : mzGo x H locs pc A ((as.map (mzva x)).reverse ++ rest) := by
  obtain ⟨⟨y, bytes, maxL, ret, fr, lo, rk, wp⟩, ⟨hcode, hy1, hy2⟩, hM⟩ := r
  dsimp only at hl hn hR hw g hM hcode hy1 hy2 ⊢
  obtain ⟨hlk, hst, hini⟩ := hl
  have hts := hx.2.2.2.2.1
  have hM' := hM x.2.2.1 x.1 as M K hw
  have hpre : PreS x.2.2.2.2.2.1 H (va_Pc (as.map (mzv x.1.2.2.1)) (mzPre x.1 M)) (as.map (mzva x)) := ⟨mzblind, fun U hU hW => ⟨rfl, mzpre_of hx hh hU hW⟩⟩
  have hfix : CallFix x.2.1 x.2.2.2.2.2.2.1 x.2.2.2.2.2.2.2.2.2.2.1 C.1 C.2.2.1 x.2.2.2.2.2.1 x.2.2.2.2.2.2.2.1 mzT (mzcn C.2.1) := ⟨hx.1, hx.2.1, hx.2.2.1, hx.2.2.2.1, hts⟩
  have hfit : fr + 1 ≤ x.2.2.2.2.1.frames ∧ 8 + (maxL + 11) + lo ≤ x.2.2.2.2.1.locals := by rw [hx.2.2.2.2.2.2.2.2.2.1.1, hx.2.2.2.2.2.2.2.2.2.1.2]; exact hR
  have hd2 : y.cls ≠ "java/lang/invoke/MethodHandle" ∧ y.cls ≠ "java/lang/invoke/VarHandle" ∧ (parseMethodDescriptor y.desc).map (fun d => d.parameters.length) = some as.length := ⟨hy1, hy2, hn⟩
  rcases hlk with hlk | ⟨host, hlk⟩
  · refine mzcall hx hh (va_runS (As := as.map (mzva x)) (n := as.length) hfix hM' ⟨callB_of (R := x.2.2.2.2.1) as.length hts (mzT_good hcode) rfl rfl rfl (hts _ hini) (hts _ hlk) hd2 hfit, hts _ hst⟩ hpre rfl (by simp) hA.1 rfl (lv_room h8) hd ⟨Nat.zero_le _, Nat.zero_le _⟩) g
  · refine mzcall hx hh (va_runSN (As := as.map (mzva x)) (n := as.length) hfix hM' ⟨va_cnB (R := x.2.2.2.2.1) as.length hts (mzT_good hcode) rfl rfl rfl (hx.2.2.2.2.2.1 _ hlk) (hts _ hini) hd2 hfit, hts _ hst, trivial⟩ hpre rfl (by simp) hA.1 rfl (lv_room h8) hd ⟨Nat.zero_le _, Nat.zero_le _⟩) g
/-! arguments -/
abbrev mzG : Type := { g : Nat × mzch × mzwp // mzE g.1 g.2.1 g.2.2 }
def mzcas : List mzG → mzs → Nat → Nat → Option Nat
  | [], _, _, p0 => some p0
  | a :: r, C, d, p0 => match a.1.2.1 C d p0 none with
    | none => none
    | some p1 => mzcas r C (d + mzsz a.1.1) p1
def mzwas : List mzG → mzL → mzM → (List Value → mzM → Prop) → Prop
  | [], _, M, K => K [] M
  | a :: r, ls, M, K => a.1.2.2 ls M (fun v M1 => mzwas r ls M1 (fun vs M2 => K (v :: vs) M2))
theorem mzas_go {C : mzs} {x : mzCx} (hx : mzok C x) : ∀ (as : List mzG) (d p0 p1 : Nat), mzcas as C d p0 = some p1 → ∀ (A : Array Slot) (ls : mzL) (M : mzM) (H : Heap) (locs : List Loc) (rest : List Value) (K : List Value → mzM → Prop), mzlo C x A ls → mzhp x M H locs → (rest.map (fun v => v.category)).sum ≤ d → mzwas as ls M K →
    (∀ (vs : List Value) (M' : mzM) (H' : Heap) (locs' : List Loc), K vs M' → vs.length = as.length → mzhp x M' H' locs' → mzGo x H' locs' p1 A ((vs.map (mzva x)).reverse ++ rest)) → mzGo x H locs p0 A rest := by
  intro as
  induction as with
  | nil =>
    intro d p0 p1 hc A ls M H locs rest K h1 h2 h3 h4 h5
    cases hc
    exact h5 [] M H locs h4 rfl h2
  | cons a r ih =>
    intro d p0 p1 hc A ls M H locs rest K h1 h2 h3 h4 h5
    simp only [mzcas] at hc
    split at hc
    · cases hc
    · rename_i q hq
      refine a.2 C d p0 none q hq x hx A ls M H locs rest _ h1 h2 h3 h4 (fun v1 M1 H1 locs1 k1 ty1 hh1 => ?_)
      refine ih _ q p1 hc A ls M1 H1 locs1 _ _ h1 hh1 (mzdeep h3 ty1) k1 (fun vs M2 H2 locs2 k2 hl hh2 => ?_)
      have h := h5 (v1 :: vs) M2 H2 locs2 k2 (by simp [hl]) hh2
      simpa using h
/-- a call: arguments (the receiver first), the instruction, the room -/
def mzccV (r : mzMt) (own idx : Nat) (as : List mzG) : mzch := fun C d p0 kn => match mzcas as C d p0 with
  | none => none
  | some p1 => if (C.2.1 == own && mzdec C.1 p1 (.invokevirtual idx) 3 && decide (d ≤ 8) && decide (mznp r.1.1 = some (as.length - 1)) && decide (1 ≤ as.length) && decide (r.1.2.2.2.2.1 + 1 ≤ C.2.2.2.1) && decide (8 + (r.1.2.2.1 + 11) + r.1.2.2.2.2.2.1 ≤ C.2.2.2.2.1)) = true then mzfin C (p1 + 3) kn else none
def mzccS (r : mzMt) (own idx : Nat) (as : List mzG) : mzch := fun C d p0 kn => match mzcas as C d p0 with
  | none => none
  | some p1 => if (C.2.1 == own && mzdec C.1 p1 (.invokestatic idx) 3 && decide (d ≤ 8) && decide (mznp r.1.1 = some as.length) && decide (r.1.2.2.2.2.1 + 1 ≤ C.2.2.2.1) && decide (8 + (r.1.2.2.1 + 11) + r.1.2.2.2.2.2.1 ≤ C.2.2.2.2.1)) = true then mzfin C (p1 + 3) kn else none
def mzwV (r : mzMt) (ci : Nat) (as : List mzG) : mzwp := fun ls M K => mzwas as ls M (fun vs M1 => match vs with | .ref id :: _ => (M1.1 id).1 = ci + 4 ∧ r.1.2.2.2.2.2.2.2 vs M1 K | _ => False)
def mzwS (r : mzMt) (as : List mzG) : mzwp := fun ls M K => mzwas as ls M (fun vs M1 => r.1.2.2.2.2.2.2.2 vs M1 K)
theorem mzrun_V {C : mzs} {x : mzCx} (hx : mzok C x) {r : mzMt} {own idx ci : Nat} (hl : mzLkV own idx ci r.1.1) {as : List mzG} {d p0 p1 : Nat} {kn : Option Nat} (hc : mzccV r own idx as C d p0 kn = some p1) {A : Array Slot} {ls : mzL} {M : mzM} {H : Heap} {locs : List Loc} {rest : List Value} {K : Value → mzM → Prop} (h1 : mzlo C x A ls) (h2 : mzhp x M H locs) (h3 : (rest.map (fun v => v.category)).sum ≤ d) (h4 : mzwV r ci as ls M K)
    (g : ∀ (v : Value) (M' : mzM) (H' : Heap) (locs' : List Loc), K v M' → mzrt r.1.2.2.2.2.2.2.1 v → mzhp x M' H' locs' → mzGo x H' locs' p1 A ((mzro x.1.2.2.1 r.1.2.2.2.2.2.2.1 v).toList ++ rest)) : mzGo x H locs p0 A rest := by
  unfold mzccV at hc
  split at hc
  · cases hc
  · rename_i q hq
    split at hc
    · rename_i hh
      simp only [Bool.and_eq_true] at hh
      obtain ⟨⟨⟨⟨⟨⟨a1, a2⟩, a3⟩, a4⟩, a5⟩, a6⟩, a7⟩ := hh
      have ho : C.2.1 = own := by simpa using a1
      subst ho
      refine mzas_go hx as d p0 q hq A ls M H locs rest _ h1 h2 h3 h4 (fun vs M1 H1 locs1 k1 hl1 hh1 => ?_)
      split at k1
      · rename_i id tl
        have hn : mznp r.1.1 = some tl.length := by
          rw [of_decide_eq_true a4]
          simp at hl1
          rw [← hl1]; rfl
        have := mzgo_V hx r hl hh1 k1.1 hn (pc := q) h1 (rest := rest) (Nat.le_trans h3 (of_decide_eq_true a3)) ⟨of_decide_eq_true a6, of_decide_eq_true a7⟩ (mzdec_ok a2) k1.2 (fun v M' H' locs' z1 z2 z3 => mzfin_go hx hc (g v M' H' locs' z1 z2 z3))
        rw [List.map_cons, List.reverse_cons, List.append_assoc]
        exact this
      · exact k1.elim
    · cases hc
theorem mzrun_S {C : mzs} {x : mzCx} (hx : mzok C x) {r : mzMt} {own idx : Nat} (hl : mzLkS own idx r.1.1) {as : List mzG} {d p0 p1 : Nat} {kn : Option Nat} (hc : mzccS r own idx as C d p0 kn = some p1) {A : Array Slot} {ls : mzL} {M : mzM} {H : Heap} {locs : List Loc} {rest : List Value} {K : Value → mzM → Prop} (h1 : mzlo C x A ls) (h2 : mzhp x M H locs) (h3 : (rest.map (fun v => v.category)).sum ≤ d) (h4 : mzwS r as ls M K)
    (g : ∀ (v : Value) (M' : mzM) (H' : Heap) (locs' : List Loc), K v M' → mzrt r.1.2.2.2.2.2.2.1 v → mzhp x M' H' locs' → mzGo x H' locs' p1 A ((mzro x.1.2.2.1 r.1.2.2.2.2.2.2.1 v).toList ++ rest)) : mzGo x H locs p0 A rest := by
  unfold mzccS at hc
  split at hc
  · cases hc
  · rename_i q hq
    split at hc
    · rename_i hh
      simp only [Bool.and_eq_true] at hh
      obtain ⟨⟨⟨⟨⟨a1, a2⟩, a3⟩, a4⟩, a6⟩, a7⟩ := hh
      have ho : C.2.1 = own := by simpa using a1
      subst ho
      refine mzas_go hx as d p0 q hq A ls M H locs rest _ h1 h2 h3 h4 (fun vs M1 H1 locs1 k1 hl1 hh1 => ?_)
      exact mzgo_S hx r hl hh1 (by rw [of_decide_eq_true a4, hl1]) (pc := q) h1 (rest := rest) (Nat.le_trans h3 (of_decide_eq_true a3)) ⟨of_decide_eq_true a6, of_decide_eq_true a7⟩ (mzdec_ok a2) k1 (fun v M' H' locs' z1 z2 z3 => mzfin_go hx hc (g v M' H' locs' z1 z2 z3))
    · cases hc
/-- the kind of a value by the kind of an answer -/
def mzrtt (rk : Nat) : Nat := match rk with
  | 1 => 1
  | 2 => 2
  | 3 => 3
  | _ => 1
theorem mzrt_ty {rk : Nat} (h0 : rk ≠ 0) {v : Value} (h : mzrt rk v) : mzty (mzrtt rk) v ∧ ∀ ad, (mzro ad rk v).toList = [mzv ad v] := by
  match rk, h0 with
  | 1, _ => exact ⟨h, fun _ => rfl⟩
  | 2, _ => exact ⟨h, fun _ => rfl⟩
  | 3, _ => exact ⟨h, fun _ => rfl⟩
  | k + 4, _ =>
    refine ⟨?_, fun _ => rfl⟩
    rcases h with h | h
    · exact ⟨0, h⟩
    · exact ⟨1, h⟩
theorem mzE_V {r : mzMt} {own idx ci : Nat} (hl : mzLkV own idx ci r.1.1) (h0 : r.1.2.2.2.2.2.2.1 ≠ 0) (as : List mzG) : mzE (mzrtt r.1.2.2.2.2.2.2.1) (mzccV r own idx as) (mzwV r ci as) := by
  intro C d p0 kn p1 hc x hx A ls M H locs rest K h1 h2 h3 h4 h5
  refine mzrun_V hx hl hc h1 h2 h3 h4 (fun v M' H' locs' z1 z2 z3 => ?_)
  obtain ⟨e1, e2⟩ := mzrt_ty h0 z2
  rw [e2]
  exact h5 v M' H' locs' z1 e1 z3
theorem mzE_S {r : mzMt} {own idx : Nat} (hl : mzLkS own idx r.1.1) (h0 : r.1.2.2.2.2.2.2.1 ≠ 0) (as : List mzG) : mzE (mzrtt r.1.2.2.2.2.2.2.1) (mzccS r own idx as) (mzwS r as) := by
  intro C d p0 kn p1 hc x hx A ls M H locs rest K h1 h2 h3 h4 h5
  refine mzrun_S hx hl hc h1 h2 h3 h4 (fun v M' H' locs' z1 z2 z3 => ?_)
  obtain ⟨e1, e2⟩ := mzrt_ty h0 z2
  rw [e2]
  exact h5 v M' H' locs' z1 e1 z3
