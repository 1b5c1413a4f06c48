/-! constructors: calls of them -/
section SC
variable {p : Program} {l : Launch} {e : Env} {R : Room} {s : State} {m : MethodId} {args : Array Value} {below : List Frame} {meth : Method} {c : Code} {H H0 : Heap} {locs : List Loc} {cells slots : Nat} {Q : State → Prop} {cc : ByteArray} {pc nL : Nat} {ls : Array Slot} {rest : List Value} {D : va_G} {dA : Nat → ClassId} {A : Nat → Prop}
/-- how a constructor is linked -/
def sgL (own : String) (idx : Nat) (y : MethodName) (n : Nat) : Prop := (Jvm.Cond.methodLink own idx y ∈ mzT ∨ ∃ host, Jvm.Cond.methodLinkNest own idx y host ∈ mzN) ∧ Jvm.Cond.instanceMethod y ∈ mzT ∧ Jvm.Cond.initialized y.cls ∈ mzT ∧ mznp y = some n
theorem sg_run (hx : p.tables.exec = Jvm.exec) (hb : c.code = cc) (hml : c.maxLocals = nL) {own : String} (hown : s.vm.findClass own = some m.cls) (hts : ∀ x ∈ mzT, x.before args s = true) (hN : ∀ x ∈ mzN, va_Nw x s) (hK : va_K D vwCl (mztys dA) s) {tr : Nat} {r : mzCr} {as : List Value} {e0 : va_E} {post : (Nat → ClassId) → Nat → va_W → Prop} (con : mzCon r as e0 post) {idx : Nat} (hlk : sgL own idx r.1 as.length) {q : Nat} (hP : va_P D vwCl [(q, e0)] H) (hZ : mzZq tr (va_A [(q, e0)] H.size) s H) (hsz : ls.size = nL) (h8 : (rest.map (fun v => v.category)).sum ≤ 8) (hR : r.2.2.2.1 + 1 ≤ R.frames ∧ 8 + (r.2.2.1 + 11) + r.2.2.2.2.2.2 ≤ R.locals) (hcs : cells + r.2.2.2.2.1 ≤ R.cells ∧ slots + r.2.2.2.2.2.1 ≤ R.slots) (hd : decode cc pc = .ok (.invokespecial idx, 3)) :
    va_Run p l e R s m args below meth c H locs cells slots r.2.2.2.2.1 r.2.2.2.2.2.1 (F0 m pc ls (as.reverse ++ .ref q :: rest)) rest (va_Qv (fun w1 : va_W => post dA q w1) (fun w1 t => va_P D vwCl w1 t.heap ∧ va_D (va_A [(q, e0)] H.size) w1) (va_A [(q, e0)] H.size) (Value.ref q :: as).toArray) (va_A [(q, e0)] H.size) := by
  obtain ⟨⟨hcode, hnm, hy1, hy2⟩, hM⟩ := con
  obtain ⟨hlk, hinst, hini, hn⟩ := hlk
  obtain ⟨y, bytes, maxL, fr, mc, ms, lo⟩ := r
  dsimp only at *
  have hM' := hM l D dA tr q H.size
  have hpre : PreS s H (va_Pc (.ref q :: as) (cnP D dA tr q H.size e0)) (.ref q :: as) := ⟨cnP_blind, fun U hU hW => ⟨rfl, by rw [hU], by rw [hU]; exact hP, va_K.moved hW.alike hK, mzN_warm hW hN, by rw [hU]; exact hZ.moved hW.alike⟩⟩
  have hfix : CallFix p m c cc nL s args mzT own := ⟨hx, hb, hml, hown, hts⟩
  have hd2 : y.cls ≠ "java/lang/invoke/MethodHandle" ∧ y.cls ≠ "java/lang/invoke/VarHandle" ∧ (parseMethodDescriptor y.desc).map (fun d => d.parameters.length) = some as.length := ⟨hy1, hy2, hn⟩
  rcases hlk with hlk | ⟨host, hlk⟩
  · exact va_runI (As := as) (n := as.length) hfix hM' ⟨callB_of (R := R) as.length hts (mzT_good hcode) rfl rfl rfl (hts _ hini) (hts _ hlk) hd2 hR, hnm, hts _ hinst⟩ hpre rfl rfl hsz rfl (lv_room h8) hd hcs
  · exact va_runIN (As := as) (n := as.length) hfix hM' ⟨va_cnB (R := R) as.length hts (mzT_good hcode) rfl rfl rfl (hN _ hlk) (hts _ hini) hd2 hR, hnm, hts _ hinst⟩ hpre rfl rfl hsz rfl (lv_room h8) hd hcs
theorem sg_join {X w1 : va_W} {q : Nat} {e0 : va_E} {H1 : Heap} (hP : va_P D vwCl (X ++ [(q, e0)]) H) (hD : va_D A (X ++ [(q, e0)])) (hk : ∀ q' : Nat, q' < H.size → ¬ va_A [(q, e0)] H.size q' → H1[q']? = H[q']?) (hF : ∀ q', va_A [(q, e0)] H.size q' → A q') (hP1 : va_P D vwCl w1 H1) (hD1 : va_D (va_A [(q, e0)] H.size) w1) : va_P D vwCl (X ++ w1) H1 ∧ va_D A (X ++ w1) := by
  have inX : ∀ (k : Nat) (x : Nat × va_E), X[k]? = some x → (X ++ [(q, e0)])[k]? = some x := fun k x h => by rw [List.getElem?_append_left (List.getElem?_eq_some_iff.mp h).1]; exact h
  have atq : (X ++ [(q, e0)])[X.length]? = some (q, e0) := by simp
  have apart : ∀ (k : Nat) (x : Nat × va_E), X[k]? = some x → x.1 < H.size ∧ ¬ va_A [(q, e0)] H.size x.1 := by
    intro k x hx
    have hl := (hP k x (inX k x hx)).lt
    refine ⟨hl, fun h => ?_⟩
    rcases h with ⟨k2, e, h⟩ | h
    · have h1 := (List.getElem?_eq_some_iff.mp h).1
      have h0 : k2 = 0 := by simpa using h1
      subst h0
      have h2 : q = x.1 := congrArg Prod.fst (Option.some.inj h)
      have h3 := hD.1 k X.length x (q, e0) (inX k x hx) atq h2.symm
      have h4 := (List.getElem?_eq_some_iff.mp hx).1
      omega
    · omega
  refine ⟨va_P.app (fun k x hx => (hP k x (inX k x hx)).kept (hk x.1 (apart k x hx).1 (apart k x hx).2)) hP1, va_D.app ⟨fun i j a b hi hj hab => hD.1 i j a b (inX i a hi) (inX j b hj) hab, fun k x hx => hD.2 k x (inX k x hx)⟩ (hD1.weaken (fun k x _ h => hF x.1 h)) (fun i j x y hx hy hxy => ?_)⟩
  exact (apart i x hx).2 (by rw [hxy]; exact hD1.2 j y hy)
theorem sg_call (hx : p.tables.exec = Jvm.exec) (hb : c.code = cc) (hml : c.maxLocals = nL) {own : String} (hown : s.vm.findClass own = some m.cls) (hts : ∀ x ∈ mzT, x.before args s = true) (hN : ∀ x ∈ mzN, va_Nw x s) (hK : va_K D vwCl (mztys dA) s) {tr : Nat} (hZ : mzZq tr A s H0) (hA : ∀ q, H0.size ≤ q → A q) {r : mzCr} {as : List Value} {e0 : va_E} {post : (Nat → ClassId) → Nat → va_W → Prop} (con : mzCon r as e0 post) {idx : Nat} (hlk : sgL own idx r.1 as.length) {X : va_W} {q : Nat} (hP : va_P D vwCl (X ++ [(q, e0)]) H) (hD : va_D A (X ++ [(q, e0)])) (hS : va_S A H0 H locs) (hsz : ls.size = nL) (h8 : (rest.map (fun v => v.category)).sum ≤ 8) (hR : r.2.2.2.1 + 1 ≤ R.frames ∧ 8 + (r.2.2.1 + 11) + r.2.2.2.2.2.2 ≤ R.locals) (hcs : cells + r.2.2.2.2.1 ≤ R.cells ∧ slots + r.2.2.2.2.2.1 ≤ R.slots) (hd : decode cc pc = .ok (.invokespecial idx, 3))
    (kk : ∀ (w1 : va_W) (H1 : Heap) (locs1 : List Loc), post dA q w1 → va_P D vwCl (X ++ w1) H1 → va_D A (X ++ w1) → va_S A H0 H1 locs1 → W p l e R s m args below meth c H1 locs1 (cells + r.2.2.2.2.1) (slots + r.2.2.2.2.2.1) Q (F0 m (pc + 3) ls rest)) : W p l e R s m args below meth c H locs cells slots Q (F0 m pc ls (as.reverse ++ .ref q :: rest)) := by
  have atq : (X ++ [(q, e0)])[X.length]? = some (q, e0) := by simp
  have hF : ∀ q', va_A [(q, e0)] H.size q' → A q' := by
    intro q' h
    rcases h with ⟨k2, e, h⟩ | h
    · have h1 := (List.getElem?_eq_some_iff.mp h).1
      have h0 : k2 = 0 := by simpa using h1
      subst h0
      have h2 : q = q' := congrArg Prod.fst (Option.some.inj h)
      rw [← h2]
      exact hD.2 _ _ atq
    · exact hA q' (Nat.le_trans hS.1 h)
  have hP0 : va_P D vwCl [(q, e0)] H := fun k x hk => by
    have h1 := (List.getElem?_eq_some_iff.mp hk).1
    have h0 : k = 0 := by simpa using h1
    subst h0
    rw [← Option.some.inj hk]
    exact hP _ _ atq
  have hZ1 : mzZq tr (va_A [(q, e0)] H.size) s H := (hZ.kept (fun a h1 h2 => hS.2.1 a h1 h2)).narrow hF
  refine va_callv (sg_run hx hb hml hown hts hN hK con hlk hP0 hZ1 hsz h8 hR hcs hd) hS (fun q' _ h => hF q' h) hF (fun w1 t H1 locs1 ht hvm hpo hB hz1 hk1 hS1 => ?_)
  rw [ht] at hB
  obtain ⟨j1, j2⟩ := sg_join hP hD hk1 hF hB.1 hB.2
  exact kk w1 H1 locs1 hpo j1 j2 hS1
/-- how an object is made -/
def sgN (own : String) (cidx ci : Nat) (fs0 : List Value) : Prop := ∃ (C : String) (T : u_T) (N : Nat) (ty : Nat → FieldType), vwCl[ci]? = some (C, T, N) ∧ (∀ z ∈ u_ws C T N, z ∈ mzT) ∧ (∀ k, k < N → parseFieldDescriptor (T k).2.2.1 = some (ty k)) ∧ Jvm.Cond.classLink own cidx C ∈ mzT ∧ Jvm.Cond.instantiable C N ∈ mzT ∧ Jvm.Cond.initialized C ∈ mzT ∧ (∀ j, j < N → defaultValue (ty j) = vp_V fs0 j) ∧ N = fs0.length
theorem sg_new (hx : p.tables.exec = Jvm.exec) (hb : c.code = cc) (hts : ∀ x ∈ mzT, x.before args s = true) {own : String} (hown : s.vm.findClass own = some m.cls) (hK : va_K D vwCl (mztys dA) s) (hA : ∀ q, H0.size ≤ q → A q) {cidx ci : Nat} {fs0 : List Value} (hn : sgN own cidx ci fs0) {X : va_W} (hP : va_P D vwCl X H) (hD : va_D A X) (hS : va_S A H0 H locs) (hcells : cells + 1 ≤ R.cells) (hslots : slots + fs0.length ≤ R.slots) (hdg : decode cc pc = .ok (.new cidx, 3))
    (kk : ∀ (q : Nat) (H1 : Heap), va_P D vwCl (X ++ [(q, .inr (ci, fs0))]) H1 → va_D A (X ++ [(q, .inr (ci, fs0))]) → va_S A H0 H1 locs → W p l e R s m args below meth c H1 locs (cells + 1) (slots + fs0.length) Q (F0 m (pc + 3) ls (.ref q :: rest))) : W p l e R s m args below meth c H locs cells slots Q (F0 m pc ls rest) := by
  obtain ⟨C, T, N, ty, h1, h2, h3, h4, h5, h6, h7, h8⟩ := hn
  subst h8
  exact va_new hx hb hts h2 ty h3 hown (hts _ h4) (hts _ h5) (hts _ h6) hK hP hD hS hA h1 h7 hcells hslots hdg kk
def sgo (cc : ByteArray) (pc cidx : Nat) (pl idx fidx : Nat) : Bool := mzdec cc pc (.aload_n 0) 1 && (mzdec cc (pc + 1) (.new cidx) 3 && (mzdec cc (pc + 4) .dup 1 && (mzdec cc (pc + 5 + pl) (.invokespecial idx) 3 && mzdec cc (pc + 5 + pl + 3) (.putfield fidx) 3)))
/-- this.f = new C(..) -/
theorem sg_obj (hx : p.tables.exec = Jvm.exec) (hb : c.code = cc) (hml : c.maxLocals = nL) {C : String} (hown : s.vm.findClass C = some m.cls) (hts : ∀ x ∈ mzT, x.before args s = true) (hN : ∀ x ∈ mzN, va_Nw x s) (hin2 : meth.name = "<init>") (hK : va_K D vwCl (mztys dA) s) {tr : Nat} (hZ : mzZq tr A s H0) (hA : ∀ q, H0.size ≤ q → A q) {ci0 k fidx : Nat} {fin : Bool} (hf : sgF ci0 C fidx k fin sgR) {h0 : Nat} (hl0 : ls[0]? = some (.val (.ref h0))) (hsz : ls.size = nL) {cidx ci : Nat} {fs0 : List Value} (hn : sgN C cidx ci fs0) {r : mzCr} {as : List Value} {post : (Nat → ClassId) → Nat → va_W → Prop} (con : mzCon r as (.inr (ci, fs0)) post) {idx pl : Nat} (hlk : sgL C idx r.1 as.length) (hpush : ∀ (H1 : Heap) (rest : List Value) (cells slots : Nat), W p l e R s m args below meth c H1 locs cells slots Q (F0 m (pc + 5 + pl) ls (as.reverse ++ rest)) → W p l e R s m args below meth c H1 locs cells slots Q (F0 m (pc + 5) ls rest)) (hd : sgo cc pc cidx pl idx fidx = true) (hR : r.2.2.2.1 + 1 ≤ R.frames ∧ 8 + (r.2.2.1 + 11) + r.2.2.2.2.2.2 ≤ R.locals) (hcs : cells + 1 + r.2.2.2.2.1 ≤ R.cells ∧ slots + fs0.length + r.2.2.2.2.2.1 ≤ R.slots) {fs : List Value} (hl : k < fs.length) {T : va_W} (hP : va_P D vwCl ((h0, .inr (ci0, fs)) :: T) H) (hD : va_D A ((h0, .inr (ci0, fs)) :: T)) (hS : va_S A H0 H locs)
    (kk : ∀ (q : Nat) (w1 : va_W) (H1 : Heap) (locs1 : List Loc), post dA q w1 → va_P D vwCl ((h0, .inr (ci0, fs.set k (.ref q))) :: (T ++ w1)) H1 → va_D A ((h0, .inr (ci0, fs.set k (.ref q))) :: (T ++ w1)) → va_S A H0 H1 locs1 → W p l e R s m args below meth c H1 locs1 (cells + 1 + r.2.2.2.2.1) (slots + fs0.length + r.2.2.2.2.2.1) Q (F0 m (pc + 5 + pl + 3 + 3) ls [])) : W p l e R s m args below meth c H locs cells slots Q (F0 m pc ls []) := by
  unfold sgo at hd
  simp only [Bool.and_eq_true] at hd
  obtain ⟨d0, d1, d2, d3, d4⟩ := hd
  refine lv_aload_n hx hb (mzdec_ok d0) rfl hl0 ?_
  refine sg_new hx hb hts hown hK hA hn hP hD hS (by omega) (by omega) (mzdec_ok d1) (fun q H1 hP1 hD1 hS1 => ?_)
  refine lv_dup hx hb (mzdec_ok d2) rfl ?_
  refine hpush H1 (.ref q :: .ref q :: .ref h0 :: []) _ _ ?_
  refine sg_call hx hb hml hown hts hN hK hZ hA con hlk (X := (h0, .inr (ci0, fs)) :: T) hP1 hD1 hS1 hsz (Nat.le_of_ble_eq_true rfl) hR hcs (mzdec_ok d3) (fun w1 H2 locs2 hpo hP2 hD2 hS2 => ?_)
  exact sg_put hx hb hts hown hin2 hK hf (fun ty h => h q) (T := T ++ w1) hP2 hD2 hS2 hl (mzdec_ok d4) (kk q w1 · · hpo · · ·)
end SC
