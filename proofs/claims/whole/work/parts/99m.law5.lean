/-! the law: a case with a long answer -/
def lgJ (pc n ix iy : Nat) : Bool := lgC pc n ix iy && (mzdec code (pc + 1 + 5 * n + 3 + 1 + 5 * n + 3) .lcmp 1 && mzdec code (pc + 1 + 5 * n + 3 + 1 + 5 * n + 3 + 1) (.ifCond .eq ((1445 : Int) - ((pc + 1 + 5 * n + 3 + 1 + 5 * n + 3 + 1 : Nat) : Int))) 3)
theorem lw_caseJ {p : Program} {l : Launch} {e : Env} {R : Room} {s : State} {m : MethodId} {args : Array Value} {below : List Frame} {meth : Method} {c : Code} {Q : State → Prop} (hx : p.tables.exec = Jvm.exec) (hb : c.code = code) (hml : c.maxLocals = 4) (hown : s.vm.findClass "MazeCalendarLaw" = some m.cls) (hts : ∀ x ∈ mzT, x.before args s = true) (hN : ∀ x ∈ mzN, va_Nw x s)
    {w1 w2 : mzD} (hw1 : lwW w1 s) (hw2 : lwW w2 s) (hap : ∀ q, mzA w1 q → ¬ mzA w2 q) {b L : Nat} {xs : Nat → Int32} (hX : va_X b L xs s s.heap) (hbl : b < s.heap.size) (hL : L ≤ 384)
    {rc rr : mzMt} {pc n ix iy ci cj : Nat} (hlc : lwL rc R ix ci n 2) (hlr : lwL rr R iy cj n 2) (hch : lgJ pc n ix iy = true) {M1 M2 : mzM} {H : Heap} {cells slots : Nat} (hS : lwS w1 w2 s M1 M2 H) (hk1 : (M1.1 0).1 = ci + 4) (hk2 : (M2.1 0).1 = cj + 4) (hcs : cells ≤ R.cells ∧ slots ≤ R.slots)
    {ls : Array Slot} (hsz : ls.size = 4) {i : Nat} (hl0 : ls[0]? = some (.val (.ref b))) (hl1 : ls[1]? = some (.val (.ref (w1.2.2.1 0)))) (hl2 : ls[2]? = some (.val (.ref (w2.2.2.1 0)))) (hl3 : ls[3]? = some (.val (.int (nI i)))) (hi : i + n < L)
    (hpr : mzdo rc (.ref 0 :: (lgS xs i n).reverse) M1 (fun v1 N1 => mzdo rr (.ref 0 :: (lgS xs i n).reverse) M2 (fun v2 N2 => okJ v1 v2 N1 N2)))
    (g : ∀ N1 N2 H', rel N1 N2 → lwS w1 w2 s N1 N2 H' → W p l e R s m args below meth c H' [] cells slots Q (F0 m 1445 ls [])) :
    W p l e R s m args below meth c H [] cells slots Q (F0 m pc ls []) := by
  unfold lgJ at hch
  simp only [Bool.and_eq_true] at hch
  refine lw_two hx hb hml hown hts hN hw1 hw2 hap hX hbl hL hlc hlr hch.1 hS hk1 hk2 hcs hsz hl0 hl1 hl2 hl3 hi hpr (fun v hv => ?_) (fun v1 v2 N1 N2 H' hP _ _ hS' => ?_)
  · obtain ⟨z, rfl⟩ := hv
    show 2 + 0 ≤ 8
    omega
  · obtain ⟨⟨z, rfl, rfl⟩, hr⟩ := hP
    show W p l e R s m args below meth c H' [] cells slots Q (F0 m (pc + 1 + 5 * n + 3 + 1 + 5 * n + 3) ls (.long z :: .long z :: []))
    refine W.lcmp hx hb (mzdec_ok hch.2.1) ?_
    refine lv_if_eq (tgt := 1445) hx hb (mzdec_ok hch.2.2) (by omega) (fun _ => g N1 N2 H' hr hS') (fun y => absurd ?_ y)
    unfold lg_cmp
    simp
