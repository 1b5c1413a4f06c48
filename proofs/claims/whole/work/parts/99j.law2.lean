/-! the law: a call on a world -/
theorem lw_call {p : Program} {l : Launch} {e : Env} {R : Room} {s : State} {m : MethodId} {args : Array Value} {below : List Frame} {meth : Method} {c : Code} {Q : State → Prop} (hx : p.tables.exec = Jvm.exec) (hb : c.code = code) (hml : c.maxLocals = 4) (hown : s.vm.findClass "MazeCalendarLaw" = some m.cls) (hts : ∀ x ∈ mzT, x.before args s = true) (hN : ∀ x ∈ mzN, va_Nw x s)
    {w : mzD} (hK : va_K w.1 vwCl (mztys w.2.1) s) (hI : mzInj w) (hZ : mzZ w s) (hnew : ∀ q, mzA w q → s.heap.size ≤ q) (r : mzMt) {idx ci : Nat} (hlk : Jvm.Cond.methodLink "MazeCalendarLaw" idx r.1.1 ∈ mzT) (hinst : Jvm.Cond.instanceMethod r.1.1 ∈ mzT) (hsel : Jvm.Cond.selects r.1.1.cls r.1.1 r.1.1 ∈ mzT) (hini : Jvm.Cond.initialized r.1.1.cls ∈ mzT) (hC : ∃ T N, vwCl[ci]? = some (r.1.1.cls, T, N)) (hci : ci < 20)
    {M : mzM} {H : Heap} {cells slots : Nat} (hP : va_P w.1 vwCl (mzW w M) H) (hold : ∀ q : Nat, q < s.heap.size → H[q]? = s.heap[q]?) (hd : ∀ id, (M.1 id).1 < 99 → id < w.2.2.2.1) (hk : (M.1 0).1 = ci + 4) (hcs : cells ≤ R.cells ∧ slots ≤ R.slots) {as : List Value} (hn : mznp r.1.1 = some as.length) {pc : Nat} {ls : Array Slot} {rest : List Value} (hsz : ls.size = 4) (h8 : (rest.map (fun v => v.category)).sum ≤ 8)
    (hR : r.1.2.2.2.2.1 + 1 ≤ R.frames ∧ 8 + (r.1.2.2.1 + 11) + r.1.2.2.2.2.2.1 ≤ R.locals) (hdc : decode code pc = .ok (.invokevirtual idx, 3)) {K : Value → mzM → Prop} (hw : mzdo r (.ref 0 :: as) M K)
    (g : ∀ (v : Value) (M' : mzM) (H' : Heap), K v M' → mzrt r.1.2.2.2.2.2.2.1 v → va_P w.1 vwCl (mzW w M') H' → (∀ id, (M'.1 id).1 < 99 → id < w.2.2.2.1) → H.size ≤ H'.size → (∀ q : Nat, q < H.size → ¬ mzA w q → H'[q]? = H[q]?) → W p l e R s m args below meth c H' [] cells slots Q (F0 m (pc + 3) ls ((mzro w.2.2.1 r.1.2.2.2.2.2.2.1 v).toList ++ rest))) :
    W p l e R s m args below meth c H [] cells slots Q (F0 m pc ls ((as.map (mzv w.2.2.1)).reverse ++ .ref (w.2.2.1 0) :: rest)) := by
  obtain ⟨⟨y, bytes, maxL, ret, fr, lo, rk, wp⟩, ⟨hcode, hy1, hy2⟩, hM⟩ := r
  have hw : wp (.ref 0 :: as) M K := hw
  dsimp only at hlk hinst hsel hini hC hn hR g hM hcode hy1 hy2 ⊢
  obtain ⟨T, N, hC⟩ := hC
  have hM' := hM l w (.ref 0 :: as) M K hw
  have hat := mzW_at (w := w) (M := M) (id := 0) (hd 0 (by omega))
  rw [mzcell_obj hk] at hat
  have hpre : PreV s H y.cls (w.2.2.1 0) (va_Pc ((Value.ref 0 :: as).map (mzv w.2.2.1)) (mzPre w M)) (as.map (mzv w.2.2.1)) :=
    ⟨mzblind, va_recv hK hP hC hat, fun U hU hW => ⟨rfl, by rw [hU]; exact hP, va_K.moved hW.alike hK, mzN_warm hW hN, hI, ⟨(hZ.1.moved hW.alike).kept (H1 := U.heap) (fun a ha _ => by rw [hU]; exact hold a ha), (hZ.2.moved hW.alike).kept (H1 := U.heap) (fun a ha _ => by rw [hU]; exact hold a ha)⟩, hd⟩⟩
  have hd2 : y.cls ≠ "java/lang/invoke/MethodHandle" ∧ y.cls ≠ "java/lang/invoke/VarHandle" ∧ (parseMethodDescriptor y.desc).map (fun d => d.parameters.length) = some as.length := ⟨hy1, hy2, hn⟩
  have run := va_runV (e := e) (below := below) (meth := meth) (locs := []) (cells := cells) (slots := slots) (g := F0 m pc ls ((as.map (mzv w.2.2.1)).reverse ++ .ref (w.2.2.1 0) :: rest)) (rest := rest) (As := as.map (mzv w.2.2.1)) (n := as.length) (S := (⟨hx, hb, hml, hown, hts⟩ : CallFix p m c code 4 s args mzT "MazeCalendarLaw")) hM' ⟨callB_of (R := R) as.length hts (mzT_good hcode) rfl rfl rfl (hts _ hini) (hts _ hlk) hd2 hR, hts _ hinst, hts _ hsel⟩ hpre rfl (by simp) hsz rfl (lv_room h8) hdc ⟨hcs.1, hcs.2⟩
  intro T0 hT X
  obtain ⟨v, st₀, t, T', L', h0, X', hL, e1, e2, ⟨⟨u, M', hv, hrt, hK', hP', hd'⟩, hz, hkk⟩, st⟩ := run T0 hT X
  cases hv
  rw [h0] at hz hkk
  obtain ⟨t2, a1, b1⟩ := (va_forget (fun q hq => hnew _ (hL q (by simpa using hq))) (g u M' T'.heap hK' hrt (by rw [e1]; exact hP') hd' (by rw [e1]; exact hz) (fun q h1 h2 => by rw [e1]; exact hkk q h1 h2))) T' rfl X'
  exact ⟨t2, st t2 a1, b1⟩
