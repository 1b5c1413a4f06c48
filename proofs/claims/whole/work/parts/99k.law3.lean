/-! the law: a case -/
def lwS (w1 w2 : mzD) (s : State) (M1 M2 : mzM) (H : Heap) : Prop := va_P w1.1 vwCl (mzW w1 M1) H ∧ va_P w2.1 vwCl (mzW w2 M2) H ∧ (∀ id, (M1.1 id).1 < 99 → id < w1.2.2.2.1) ∧ (∀ id, (M2.1 id).1 < 99 → id < w2.2.2.2.1) ∧ s.heap.size ≤ H.size ∧ (∀ q : Nat, q < s.heap.size → H[q]? = s.heap[q]?) ∧ (∀ q, mzA w1 q → q < H.size) ∧ ∀ q, mzA w2 q → q < H.size
def lwW (w : mzD) (s : State) : Prop := va_K w.1 vwCl (mztys w.2.1) s ∧ mzInj w ∧ mzZ w s ∧ ∀ q, mzA w q → s.heap.size ≤ q
def lwL (r : mzMt) (R : Room) (idx ci n rk : Nat) : Prop := Jvm.Cond.methodLink "MazeCalendarLaw" idx r.1.1 ∈ mzT ∧ Jvm.Cond.instanceMethod r.1.1 ∈ mzT ∧ Jvm.Cond.selects r.1.1.cls r.1.1 r.1.1 ∈ mzT ∧ Jvm.Cond.initialized r.1.1.cls ∈ mzT ∧ (∃ T N, vwCl[ci]? = some (r.1.1.cls, T, N)) ∧ ci < 20 ∧ mznp r.1.1 = some n ∧ (r.1.2.2.2.2.1 + 1 ≤ R.frames ∧ 8 + (r.1.2.2.1 + 11) + r.1.2.2.2.2.2.1 ≤ R.locals) ∧ r.1.2.2.2.2.2.2.1 = rk
theorem lgS_v (ad : Nat → Nat) (xs : Nat → Int32) (i : Nat) : ∀ n, (lgS xs i n).map (mzv ad) = lgS xs i n := by
  intro n
  induction n with
  | zero => rfl
  | succ n ih => rw [lgS, List.map_cons, ih]; rfl
theorem lgS_l (xs : Nat → Int32) (i : Nat) : ∀ n, (lgS xs i n).length = n := by
  intro n
  induction n with
  | zero => rfl
  | succ n ih => rw [lgS, List.length_cons, ih]
theorem mzW_kept {w w' : mzD} {M : mzM} {H H' : Heap} (h : va_P w.1 vwCl (mzW w M) H) (hlt : ∀ q, mzA w q → q < H.size) (hap : ∀ q, mzA w q → ¬ mzA w' q) (hk : ∀ q : Nat, q < H.size → ¬ mzA w' q → H'[q]? = H[q]?) : va_P w.1 vwCl (mzW w M) H' := h.kept (fun k q hq => by
  obtain ⟨h1, h2⟩ := mzW_of hq
  have hA : mzA w q.1 := ⟨k, h1, by rw [h2]⟩
  exact hk q.1 (hlt _ hA) (hap _ hA))
def lgC (pc n ix iy : Nat) : Bool := mzdec code pc (.aload_n 1) 1 && (lgN (pc + 1) n && (mzdec code (pc + 1 + 5 * n) (.invokevirtual ix) 3 && (mzdec code (pc + 1 + 5 * n + 3) (.aload_n 2) 1 && (lgN (pc + 1 + 5 * n + 3 + 1) n && mzdec code (pc + 1 + 5 * n + 3 + 1 + 5 * n) (.invokevirtual iy) 3))))
theorem lw_two {p : Program} {l : Launch} {e : Env} {R : Room} {s : State} {m : MethodId} {args : Array Value} {below : List Frame} {meth : Method} {c : Code} {Q : State → Prop} (hx : p.tables.exec = Jvm.exec) (hb : c.code = code) (hml : c.maxLocals = 4) (hown : s.vm.findClass "MazeCalendarLaw" = some m.cls) (hts : ∀ x ∈ mzT, x.before args s = true) (hN : ∀ x ∈ mzN, va_Nw x s)
    {w1 w2 : mzD} (hw1 : lwW w1 s) (hw2 : lwW w2 s) (hap : ∀ q, mzA w1 q → ¬ mzA w2 q) {b L : Nat} {xs : Nat → Int32} (hX : va_X b L xs s s.heap) (hbl : b < s.heap.size) (hL : L ≤ 384)
    {rc rr : mzMt} {pc n ix iy ci cj rk : Nat} (hlc : lwL rc R ix ci n rk) (hlr : lwL rr R iy cj n rk) (hch : lgC pc n ix iy = true) {M1 M2 : mzM} {H : Heap} {cells slots : Nat} (hS : lwS w1 w2 s M1 M2 H) (hk1 : (M1.1 0).1 = ci + 4) (hk2 : (M2.1 0).1 = cj + 4) (hcs : cells ≤ R.cells ∧ slots ≤ R.slots)
    {ls : Array Slot} (hsz : ls.size = 4) {i : Nat} (hl0 : ls[0]? = some (.val (.ref b))) (hl1 : ls[1]? = some (.val (.ref (w1.2.2.1 0)))) (hl2 : ls[2]? = some (.val (.ref (w2.2.2.1 0)))) (hl3 : ls[3]? = some (.val (.int (nI i)))) (hi : i + n < L)
    {P : Value → Value → mzM → mzM → Prop} (hpr : mzdo rc (.ref 0 :: (lgS xs i n).reverse) M1 (fun v1 N1 => mzdo rr (.ref 0 :: (lgS xs i n).reverse) M2 (fun v2 N2 => P v1 v2 N1 N2)))
    (hcat : ∀ v, mzrt rk v → (((mzro w1.2.2.1 rk v).toList).map (fun v => v.category)).sum ≤ 8)
    (g : ∀ v1 v2 N1 N2 H', P v1 v2 N1 N2 → mzrt rk v1 → mzrt rk v2 → lwS w1 w2 s N1 N2 H' → W p l e R s m args below meth c H' [] cells slots Q (F0 m (pc + 1 + 5 * n + 3 + 1 + 5 * n + 3) ls ((mzro w2.2.2.1 rk v2).toList ++ (mzro w1.2.2.1 rk v1).toList))) :
    W p l e R s m args below meth c H [] cells slots Q (F0 m pc ls []) := by
  unfold lgC at hch
  simp only [Bool.and_eq_true] at hch
  obtain ⟨d0, d1, d2, d3, d4, d5⟩ := hch
  obtain ⟨c1, c2, c3, c4, c5, c6, c7, c8, c9⟩ := hlc
  obtain ⟨r1, r2, r3, r4, r5, r6, r7, r8, r9⟩ := hlr
  obtain ⟨a1, a2, a3, a4, a5, a6, a7, a8⟩ := hS
  have hbA : ¬ (fun q : Nat => s.heap.size ≤ q) b := Nat.not_le.mpr hbl
  have hSS : ∀ H' : Heap, s.heap.size ≤ H'.size → (∀ q : Nat, q < s.heap.size → H'[q]? = s.heap[q]?) → va_S (fun q : Nat => s.heap.size ≤ q) s.heap H' [] := fun H' x y => ⟨x, fun q h _ => y q h, fun q hq => by simp at hq⟩
  have len : ((lgS xs i n).reverse).length = n := by rw [List.length_reverse, lgS_l]
  have st : ∀ ad : Nat → Nat, (((lgS xs i n).reverse).map (mzv ad)).reverse = lgS xs i n := fun ad => by rw [List.map_reverse, lgS_v, List.reverse_reverse]
  refine lv_aload_n hx hb (mzdec_ok d0) rfl hl1 ?_
  refine lw_args hx hb hX hbl hbA (hSS H a5 a6) hl0 hl3 hL n d1 hi ?_
  rw [← st w1.2.2.1]
  refine lw_call hx hb hml hown hts hN hw1.1 hw1.2.1 hw1.2.2.1 hw1.2.2.2 rc c1 c2 c3 c4 c5 c6 a1 a6 a3 hk1 hcs (by rw [len]; exact c7) hsz (by simp) c8 (mzdec_ok d2) hpr (fun v1 N1 H1 hK1 ht1 hP1 hd1 hz1 hu1 => ?_)
  rw [c9] at ht1 ⊢
  have hP2 : va_P w2.1 vwCl (mzW w2 M2) H1 := mzW_kept a2 a8 (fun q x y => hap q y x) hu1
  have ho1 : ∀ q : Nat, q < s.heap.size → H1[q]? = s.heap[q]? := fun q hq => (hu1 q (Nat.lt_of_lt_of_le hq a5) (fun z => Nat.not_le.mpr hq (hw1.2.2.2 q z))).trans (a6 q hq)
  rw [List.append_nil]
  refine lv_aload_n hx hb (mzdec_ok d3) rfl hl2 ?_
  refine lw_args hx hb hX hbl hbA (hSS H1 (Nat.le_trans a5 hz1) ho1) hl0 hl3 hL n d4 hi ?_
  rw [← st w2.2.2.1]
  refine lw_call hx hb hml hown hts hN hw2.1 hw2.2.1 hw2.2.2.1 hw2.2.2.2 rr r1 r2 r3 r4 r5 r6 hP2 ho1 a4 hk2 hcs (by rw [len]; exact r7) hsz (hcat v1 ht1) r8 (mzdec_ok d5) hK1 (fun v2 N2 H2 hK2 ht2 hP2' hd2 hz2 hu2 => ?_)
  rw [r9] at ht2 ⊢
  exact g v1 v2 N1 N2 H2 hK2 ht1 ht2 ⟨mzW_kept hP1 (fun q x => Nat.lt_of_lt_of_le (a7 q x) hz1) hap hu2, hP2', hd1, hd2, Nat.le_trans a5 (Nat.le_trans hz1 hz2), fun q hq => (hu2 q (Nat.lt_of_lt_of_le hq (Nat.le_trans a5 hz1)) (fun z => Nat.not_le.mpr hq (hw2.2.2.2 q z))).trans (ho1 q hq), fun q x => Nat.lt_of_lt_of_le (a7 q x) (Nat.le_trans hz1 hz2), fun q x => Nat.lt_of_lt_of_le (a8 q x) (Nat.le_trans hz1 hz2)⟩
