/-! THE SMALL LANGUAGE, 6: statements -/
abbrev mzsk : Type := mzs → Nat → Option Nat → Nat → Nat → Option Nat
abbrev mzsw : Type := mzL → mzM → (mzL → mzM → Prop) → (Value → mzM → Prop) → (mzL → mzM → Prop) → (mzL → mzM → Prop) → Prop
def mzrI (rk : Nat) : Instr := match rk with
  | 0 => .return_
  | 2 => .lreturn
  | 3 => .areturn
  | _ => .ireturn
abbrev mzat (C : mzs) (x : mzCx) (pc : Nat) (K : mzL → mzM → Prop) : Prop := ∀ (A : Array Slot) (ls : mzL) (M : mzM) (H : Heap) (locs : List Loc), K ls M → mzlo C x A ls → mzhp x M H locs → mzGo x H locs pc A []
abbrev mzend (C : mzs) (x : mzCx) (Kr : Value → mzM → Prop) : Prop := ∀ (v : Value) (M : mzM) (H : Heap) (locs : List Loc) (pc : Nat) (A : Array Slot), Kr v M → mzhp x M H locs → mzrt C.2.2.2.2.2 v → decode C.1 pc = .ok (mzrI C.2.2.2.2.2, 1) → mzGo x H locs pc A (mzro x.1.2.2.1 C.2.2.2.2.2 v).toList
def mzS1 (chk : mzsk) (wp : mzsw) : Prop :=
  ∀ (C : mzs) (p0 : Nat) (kn : Option Nat) (bk ct p1 : Nat), chk C p0 kn bk ct = some p1 → ∀ x : mzCx, mzok C x →
  ∀ (A : Array Slot) (ls : mzL) (M : mzM) (H : Heap) (locs : List Loc) (Kn : mzL → mzM → Prop) (Kr : Value → mzM → Prop) (Kb Kc : mzL → mzM → Prop),
    mzlo C x A ls → mzhp x M H locs → wp ls M Kn Kr Kb Kc → mzat C x p1 Kn → mzat C x bk Kb → mzat C x ct Kc → mzend C x Kr → mzGo x H locs p0 A []
abbrev mzT1 : Type := { g : mzsk × mzsw // mzS1 g.1 g.2 }
abbrev mzB1 : Type := { g : mzcc × mzwc // mzC g.1 g.2 }
theorem mz0 : (([] : List Value).map (fun v => v.category)).sum ≤ 0 := Nat.le_refl 0
def sskip : mzT1 := ⟨(fun C p0 kn _ _ => mzfin C p0 kn, fun ls M Kn _ _ _ => Kn ls M), by
  intro C p0 kn bk ct p1 hc x hx A ls M H locs Kn Kr Kb Kc h1 h2 h3 n1 n2 n3 n4
  exact mzfin_go hx hc (n1 A ls M H locs h3 h1 h2)⟩
def sseq (a b : mzT1) : mzT1 := ⟨(fun C p0 kn bk ct => match a.1.1 C p0 none bk ct with
    | none => none
    | some p1 => b.1.1 C p1 kn bk ct, fun ls M Kn Kr Kb Kc => a.1.2 ls M (fun ls1 M1 => b.1.2 ls1 M1 Kn Kr Kb Kc) Kr Kb Kc), by
  intro C p0 kn bk ct p1 hc x hx A ls M H locs Kn Kr Kb Kc h1 h2 h3 n1 n2 n3 n4
  dsimp only at hc
  split at hc
  · cases hc
  · rename_i q hq
    exact a.2 C p0 none bk ct q hq x hx A ls M H locs _ Kr Kb Kc h1 h2 h3 (fun A1 ls1 M1 H1 locs1 k1 z1 z2 => b.2 C q kn bk ct p1 hc x hx A1 ls1 M1 H1 locs1 Kn Kr Kb Kc z1 z2 k1 n1 n2 n3 n4) n2 n3 n4⟩
/-- a local becomes -/
def mzcst (t k : Nat) (C : mzs) (p1 : Nat) (kn : Option Nat) : Option Nat := match t with
  | 1 => (match decode C.1 p1 with
    | .ok (.istore_n n, 1) => if (n : Nat) = k ∧ k < C.2.2.1 then mzfin C (p1 + 1) kn else none
    | .ok (.istore n, 2) => if n = k ∧ k < C.2.2.1 then mzfin C (p1 + 2) kn else none
    | _ => none)
  | 2 => (match decode C.1 p1 with
    | .ok (.lstore_n n, 1) => if (n : Nat) = k ∧ k + 1 < C.2.2.1 then mzfin C (p1 + 1) kn else none
    | .ok (.lstore n, 2) => if n = k ∧ k + 1 < C.2.2.1 then mzfin C (p1 + 2) kn else none
    | _ => none)
  | _ => (match decode C.1 p1 with
    | .ok (.astore_n n, 1) => if (n : Nat) = k ∧ k < C.2.2.1 then mzfin C (p1 + 1) kn else none
    | .ok (.astore n, 2) => if n = k ∧ k < C.2.2.1 then mzfin C (p1 + 2) kn else none
    | _ => none)
theorem mzst_go {C : mzs} {x : mzCx} (hx : mzok C x) {t k p1 p2 : Nat} {kn : Option Nat} (hc : mzcst t k C p1 kn = some p2) {v : Value} (hv : mzty t v) {A : Array Slot} {ls : mzL} {M : mzM} {H : Heap} {locs : List Loc} (h1 : mzlo C x A ls) (g : ∀ A' : Array Slot, mzlo C x A' (mzst ls k v) → mzGo x H locs p2 A' []) : mzGo x H locs p1 A [mzva x v] := by
  unfold mzcst at hc
  split at hc
  · obtain ⟨z, rfl⟩ := hv
    split at hc
    · rename_i n hd
      split at hc
      · rename_i hk
        exact lv_istore_n hx.1 hx.2.1 hd hk.1 h1 hk.2 rfl (fun A' h' => mzfin_go hx hc (g A' (mzlv_mono h' (mzst1_sub rfl))))
      · cases hc
    · rename_i n hd
      split at hc
      · rename_i hk
        obtain ⟨rfl, hk⟩ := hk
        exact lv_istore hx.1 hx.2.1 hd h1 hk rfl (fun A' h' => mzfin_go hx hc (g A' (mzlv_mono h' (mzst1_sub rfl))))
      · cases hc
    · cases hc
  · obtain ⟨z, rfl⟩ := hv
    split at hc
    · rename_i n hd
      split at hc
      · rename_i hk
        exact lv_lstore_n hx.1 hx.2.1 hd hk.1 h1 hk.2 rfl (fun A' h' => mzfin_go hx hc (g A' (mzlv_mono h' mzst2_sub)))
      · cases hc
    · rename_i n hd
      split at hc
      · rename_i hk
        obtain ⟨rfl, hk⟩ := hk
        exact lv_lstore hx.1 hx.2.1 hd h1 hk rfl (fun A' h' => mzfin_go hx hc (g A' (mzlv_mono h' mzst2_sub)))
      · cases hc
    · cases hc
  · rename_i t1 t2
    have hv' : ∃ r : Option Nat, v = va_rf r := by
      unfold mzty at hv
      split at hv
      · exact absurd rfl t1
      · exact absurd rfl t2
      · exact hv
    obtain ⟨r, rfl⟩ := hv'
    split at hc
    · rename_i n hd
      split at hc
      · rename_i hk
        cases r with
        | none => exact lv_astore_nN hx.1 hx.2.1 hd hk.1 h1 hk.2 rfl (fun A' h' => mzfin_go hx hc (g A' (mzlv_mono h' (mzst1_sub rfl))))
        | some z => exact lv_astore_n hx.1 hx.2.1 hd hk.1 h1 hk.2 rfl (fun A' h' => mzfin_go hx hc (g A' (mzlv_mono h' (mzst1_sub rfl))))
      · cases hc
    · rename_i n hd
      split at hc
      · rename_i hk
        obtain ⟨rfl, hk⟩ := hk
        cases r with
        | none => exact lv_astoreN hx.1 hx.2.1 hd h1 hk rfl (fun A' h' => mzfin_go hx hc (g A' (mzlv_mono h' (mzst1_sub rfl))))
        | some z => exact lv_astore hx.1 hx.2.1 hd h1 hk rfl (fun A' h' => mzfin_go hx hc (g A' (mzlv_mono h' (mzst1_sub rfl))))
      · cases hc
    · cases hc
def sset (k : Nat) (e : mzG) : mzT1 := ⟨(fun C p0 kn _ _ => match e.1.2.1 C 0 p0 none with
    | none => none
    | some p1 => mzcst e.1.1 k C p1 kn, fun ls M Kn _ _ _ => e.1.2.2 ls M (fun v M1 => Kn (mzst ls k v) M1)), by
  intro C p0 kn bk ct p1 hc x hx A ls M H locs Kn Kr Kb Kc h1 h2 h3 n1 n2 n3 n4
  dsimp only at hc
  split at hc
  · cases hc
  · rename_i q hq
    exact e.2 C 0 p0 none q hq x hx A ls M H locs [] _ h1 h2 mz0 h3 (fun v M1 H1 locs1 k1 ty1 hh1 => mzst_go (M := M1) hx hc ty1 h1 (fun A' h' => n1 A' _ M1 H1 locs1 k1 h' hh1))⟩
def sinc (k : Nat) (n : Int) : mzT1 := ⟨(fun C p0 kn _ _ => if (mzdec C.1 p0 (.iinc k n) 3 && decide (k < C.2.2.1)) = true then mzfin C (p0 + 3) kn else none, fun ls M Kn _ _ _ => match ls[k]? with
    | some (some (.int z)) => Kn (mzst ls k (.int (z + Int32.ofInt n))) M
    | _ => False), by
  intro C p0 kn bk ct p1 hc x hx A ls M H locs Kn Kr Kb Kc h1 h2 h3 n1 n2 n3 n4
  dsimp only at hc h3
  split at hc
  · rename_i hd
    rw [Bool.and_eq_true] at hd
    split at h3
    · rename_i z hz
      have hm : (k, Value.int z) ∈ mzlv x.1.2.2.1 ls := mzlv_mem.mpr ⟨.int z, hz, rfl⟩
      obtain ⟨j, hj⟩ := List.getElem?_of_mem hm
      exact lv_iinc hx.1 hx.2.1 (mzdec_ok hd.1) h1 hj rfl (of_decide_eq_true hd.2) rfl (fun A' h' => mzfin_go hx hc (n1 A' _ M H locs h3 (mzlv_mono h' (mzst1_sub rfl)) h2))
    · exact h3.elim
  · cases hc⟩
/-- return of a value -/
def sret (e : mzG) : mzT1 := ⟨(fun C p0 kn _ _ => match e.1.2.1 C 0 p0 none with
    | none => none
    | some p1 => if (mzdec C.1 p1 (mzrI C.2.2.2.2.2) 1 && decide (C.2.2.2.2.2 = e.1.1 ∧ 0 < C.2.2.2.2.2 ∧ C.2.2.2.2.2 < 4)) = true then (match kn with | none => some (p1 + 1) | some k => some k) else none, fun ls M _ Kr _ _ => e.1.2.2 ls M Kr), by
  intro C p0 kn bk ct p1 hc x hx A ls M H locs Kn Kr Kb Kc h1 h2 h3 n1 n2 n3 n4
  dsimp only at hc
  split at hc
  · cases hc
  · rename_i q hq
    split at hc
    · rename_i hd
      rw [Bool.and_eq_true] at hd
      have hr := of_decide_eq_true hd.2
      refine e.2 C 0 p0 none q hq x hx A ls M H locs [] _ h1 h2 mz0 h3 (fun v M1 H1 locs1 k1 ty1 hh1 => ?_)
      have hv : mzrt C.2.2.2.2.2 v ∧ (mzro x.1.2.2.1 C.2.2.2.2.2 v).toList = [mzva x v] := by
        rw [← hr.1] at ty1
        rcases (show C.2.2.2.2.2 = 1 ∨ C.2.2.2.2.2 = 2 ∨ C.2.2.2.2.2 = 3 by omega) with e | e | e <;> rw [e] at ty1 ⊢ <;> exact ⟨ty1, rfl⟩
      have := n4 v M1 H1 locs1 q A k1 hh1 hv.1 (mzdec_ok hd.1)
      rw [hv.2] at this
      exact this
    · cases hc⟩
/-- return of a boolean -/
def sretZ (e : mzG) : mzT1 := ⟨(fun C p0 kn _ _ => match e.1.2.1 C 0 p0 none with
    | none => none
    | some p1 => if (mzdec C.1 p1 (mzrI C.2.2.2.2.2) 1 && decide (C.2.2.2.2.2 = 4 ∧ e.1.1 = 1)) = true then (match kn with | none => some (p1 + 1) | some k => some k) else none, fun ls M _ Kr _ _ => e.1.2.2 ls M (fun v M1 => (v = .int 0 ∨ v = .int 1) ∧ Kr v M1)), by
  intro C p0 kn bk ct p1 hc x hx A ls M H locs Kn Kr Kb Kc h1 h2 h3 n1 n2 n3 n4
  dsimp only at hc
  split at hc
  · cases hc
  · rename_i q hq
    split at hc
    · rename_i hd
      rw [Bool.and_eq_true] at hd
      have hr := of_decide_eq_true hd.2
      refine e.2 C 0 p0 none q hq x hx A ls M H locs [] _ h1 h2 mz0 h3 (fun v M1 H1 locs1 k1 ty1 hh1 => ?_)
      have hv : mzrt C.2.2.2.2.2 v ∧ (mzro x.1.2.2.1 C.2.2.2.2.2 v).toList = [mzva x v] := by
        rw [hr.1]; exact ⟨k1.1, rfl⟩
      have := n4 v M1 H1 locs1 q A k1.2 hh1 hv.1 (mzdec_ok hd.1)
      rw [hv.2] at this
      exact this
    · cases hc⟩
def sretv : mzT1 := ⟨(fun C p0 kn _ _ => if (mzdec C.1 p0 .return_ 1 && decide (C.2.2.2.2.2 = 0)) = true then (match kn with | none => some (p0 + 1) | some k => some k) else none, fun _ M _ Kr _ _ => Kr .null M), by
  intro C p0 kn bk ct p1 hc x hx A ls M H locs Kn Kr Kb Kc h1 h2 h3 n1 n2 n3 n4
  dsimp only at hc
  split at hc
  · rename_i hd
    rw [Bool.and_eq_true] at hd
    have hr : C.2.2.2.2.2 = 0 := of_decide_eq_true hd.2
    have := n4 .null M H locs p0 A h3 h2 (by rw [hr]; rfl) (by rw [hr]; exact mzdec_ok hd.1)
    rw [hr] at this
    exact this
  · cases hc⟩
def sbrk : mzT1 := ⟨(fun C p0 kn bk _ => if mzgt C.1 p0 bk = true then (match kn with | none => some (p0 + 3) | some k => some k) else none, fun ls M _ _ Kb _ => Kb ls M), by
  intro C p0 kn bk ct p1 hc x hx A ls M H locs Kn Kr Kb Kc h1 h2 h3 n1 n2 n3 n4
  dsimp only at hc
  split at hc
  · rename_i hd
    exact mzland_go hx (k := bk) (by unfold mzland; rw [hd]; simp) (n2 A ls M H locs h3 h1 h2)
  · cases hc⟩
def scnt : mzT1 := ⟨(fun C p0 kn _ ct => if mzgt C.1 p0 ct = true then (match kn with | none => some (p0 + 3) | some k => some k) else none, fun ls M _ _ _ Kc => Kc ls M), by
  intro C p0 kn bk ct p1 hc x hx A ls M H locs Kn Kr Kb Kc h1 h2 h3 n1 n2 n3 n4
  dsimp only at hc
  split at hc
  · rename_i hd
    exact mzland_go hx (k := ct) (by unfold mzland; rw [hd]; simp) (n3 A ls M H locs h3 h1 h2)
  · cases hc⟩
def sif (c : mzB1) (pa : Nat) (a : mzT1) (pb : Nat) (b : mzT1) : mzT1 := ⟨(fun C p0 kn bk ct => match kn with
    | none => (match b.1.1 C pb none bk ct with
      | none => none
      | some pe => if (c.1.1 C 0 p0 pa pb && decide (a.1.1 C pa (some pe) bk ct = some pe)) = true then some pe else none)
    | some k => if (c.1.1 C 0 p0 pa pb && decide (a.1.1 C pa (some k) bk ct = some k) && decide (b.1.1 C pb (some k) bk ct = some k)) = true then some k else none,
    fun ls M Kn Kr Kb Kc => c.1.2 ls M (fun M1 => a.1.2 ls M1 Kn Kr Kb Kc) (fun M1 => b.1.2 ls M1 Kn Kr Kb Kc)), by
  intro C p0 kn bk ct p1 hc x hx A ls M H locs Kn Kr Kb Kc h1 h2 h3 n1 n2 n3 n4
  dsimp only at hc
  split at hc
  · split at hc
    · cases hc
    · rename_i pe hpe
      split at hc
      · rename_i hh
        cases hc
        rw [Bool.and_eq_true] at hh
        exact c.2 C 0 p0 pa pb hh.1 x hx A ls M H locs [] _ _ h1 h2 mz0 h3 (fun M1 H1 locs1 k1 z1 => a.2 C pa _ bk ct _ (of_decide_eq_true hh.2) x hx A ls M1 H1 locs1 Kn Kr Kb Kc h1 z1 k1 n1 n2 n3 n4) (fun M1 H1 locs1 k1 z1 => b.2 C pb _ bk ct _ hpe x hx A ls M1 H1 locs1 Kn Kr Kb Kc h1 z1 k1 n1 n2 n3 n4)
      · cases hc
  · split at hc
    · rename_i hh
      cases hc
      rw [Bool.and_eq_true, Bool.and_eq_true] at hh
      exact c.2 C 0 p0 pa pb hh.1.1 x hx A ls M H locs [] _ _ h1 h2 mz0 h3 (fun M1 H1 locs1 k1 z1 => a.2 C pa _ bk ct _ (of_decide_eq_true hh.1.2) x hx A ls M1 H1 locs1 Kn Kr Kb Kc h1 z1 k1 n1 n2 n3 n4) (fun M1 H1 locs1 k1 z1 => b.2 C pb _ bk ct _ (of_decide_eq_true hh.2) x hx A ls M1 H1 locs1 Kn Kr Kb Kc h1 z1 k1 n1 n2 n3 n4)
    · cases hc⟩
def sif1 (c : mzB1) (pa : Nat) (a : mzT1) : mzT1 := ⟨(fun C p0 kn bk ct => match a.1.1 C pa kn bk ct with
      | none => none
      | some pe => if c.1.1 C 0 p0 pa pe = true then some pe else none,
    fun ls M Kn Kr Kb Kc => c.1.2 ls M (fun M1 => a.1.2 ls M1 Kn Kr Kb Kc) (fun M1 => Kn ls M1)), by
  intro C p0 kn bk ct p1 hc x hx A ls M H locs Kn Kr Kb Kc h1 h2 h3 n1 n2 n3 n4
  dsimp only at hc
  split at hc
  · cases hc
  · rename_i pe hpe
    split at hc
    · rename_i hh
      cases hc
      exact c.2 C 0 p0 pa _ hh x hx A ls M H locs [] _ _ h1 h2 mz0 h3 (fun M1 H1 locs1 k1 z1 => a.2 C pa _ bk ct _ hpe x hx A ls M1 H1 locs1 Kn Kr Kb Kc h1 z1 k1 n1 n2 n3 n4) (fun M1 H1 locs1 k1 z1 => n1 A ls M1 H1 locs1 k1 h1 z1)
    · cases hc⟩
/-- a loop: n rounds at most -/
def mzit (c : mzwc) (b st : mzsw) (Kn : mzL → mzM → Prop) (Kr : Value → mzM → Prop) : Nat → mzL → mzM → Prop
  | 0, _, _ => False
  | n + 1, ls, M => c ls M (fun M1 => b ls M1 (fun ls2 M2 => st ls2 M2 (mzit c b st Kn Kr n) Kr (fun _ _ => False) (fun _ _ => False)) Kr Kn (fun ls2 M2 => st ls2 M2 (mzit c b st Kn Kr n) Kr (fun _ _ => False) (fun _ _ => False))) (fun M1 => Kn ls M1)
def sloop (c : mzB1) (pb : Nat) (b : mzT1) (ps : Nat) (st : mzT1) (px : Nat) : mzT1 := ⟨(fun C p0 kn _ _ => if (c.1.1 C 0 p0 pb (kn.getD px) && decide (b.1.1 C pb (some ps) (kn.getD px) ps = some ps) && decide (st.1.1 C ps (some p0) 0 0 = some p0)) = true then some (kn.getD px) else none,
    fun ls M Kn Kr _ _ => ∃ n, mzit c.1.2 b.1.2 st.1.2 Kn Kr n ls M), by
  intro C p0 kn bk ct p1 hc x hx A ls M H locs Kn Kr Kb Kc h1 h2 h3 n1 n2 n3 n4
  dsimp only at hc h3
  split at hc
  · rename_i hh
    cases hc
    rw [Bool.and_eq_true, Bool.and_eq_true] at hh
    obtain ⟨n, hn⟩ := h3
    induction n generalizing A ls M H locs with
    | zero => exact hn.elim
    | succ n ih =>
      have hst : ∀ (A2 : Array Slot) (ls2 : mzL) (M2 : mzM) (H2 : Heap) (locs2 : List Loc), st.1.2 ls2 M2 (mzit c.1.2 b.1.2 st.1.2 Kn Kr n) Kr (fun _ _ => False) (fun _ _ => False) → mzlo C x A2 ls2 → mzhp x M2 H2 locs2 → mzGo x H2 locs2 ps A2 [] :=
        fun A2 ls2 M2 H2 locs2 k2 z1 z2 => st.2 C ps _ 0 0 p0 (of_decide_eq_true hh.2) x hx A2 ls2 M2 H2 locs2 _ Kr _ _ z1 z2 k2 (fun A3 ls3 M3 H3 locs3 k3 y1 y2 => ih A3 ls3 M3 H3 locs3 y1 y2 k3) (fun _ _ _ _ _ q => q.elim) (fun _ _ _ _ _ q => q.elim) n4
      exact c.2 C 0 p0 pb _ hh.1.1 x hx A ls M H locs [] _ _ h1 h2 mz0 hn
        (fun M1 H1 locs1 k1 z1 => b.2 C pb _ _ ps ps (of_decide_eq_true hh.1.2) x hx A ls M1 H1 locs1 _ Kr Kn _ h1 z1 k1 hst n1 hst n4)
        (fun M1 H1 locs1 k1 z1 => n1 A ls M1 H1 locs1 k1 h1 z1)
  · cases hc⟩
