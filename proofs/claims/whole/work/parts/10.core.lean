/-! THE SMALL LANGUAGE, 8: array stores, calls as statements, switches, a method's contract -/
def mzasto (a : Nat) (M : mzM) (id k : Nat) (u : Value) : mzM := match a with
  | 0 => (match u with
    | .int z => (M.1, mzset M.2.1 id k z, M.2.2.1, M.2.2.2)
    | _ => M)
  | 1 => (match u with
    | .long z => (M.1, M.2.1, mzset M.2.2.1 id k z, M.2.2.2)
    | _ => M)
  | _ => (match u with
    | .int z => (M.1, mzset M.2.1 id k (vp_nar .boolean z), M.2.2.1, M.2.2.2)
    | _ => M)
def mzasI (a : Nat) : Instr := match a with
  | 0 => .iastore
  | 1 => .lastore
  | _ => .bastore
theorem mzgo_AS {C : mzs} {x : mzCx} (hx : mzok C x) {a id : Nat} (ha : a < 3) {i : Int32} {M : mzM} {H : Heap} {locs : List Loc} (hh : mzhp x M H locs) (hk : (M.1 id).1 = a) (hin : vp_in i (M.1 id).2) {u : Value} (hu : mzty (mzalT a) u) {pc : Nat} {A : Array Slot} {rest : List Value} (hd : decode C.1 pc = .ok (mzasI a, 1)) (g : ∀ (H' : Heap) (locs' : List Loc), mzhp x (mzasto a M id i.toNatClampNeg u) H' locs' → mzGo x H' locs' (pc + 1) A rest) : mzGo x H locs pc A (mzva x u :: .int i :: .ref (x.1.2.2.1 id) :: rest) := by
  have hat := mzhp_at hh (id := id) (by omega)
  have hD := mzW_D hx.2.2.2.2.2.2.2.1 M
  match a, ha with
  | 0, _ =>
    obtain ⟨z, rfl⟩ := hu
    rw [mzcell_i hk] at hat
    refine va_iast hx.1 hx.2.1 hx.2.2.2.2.2.2.1 hh.1 hD hh.2.1 id 0 hat rfl hin hd (fun H1 locs1 hP1 _ hS1 => ?_)
    rw [mzW_set (M := M) (e := .inl (x.1.2.1 0, (M.1 id).2, .inl (upd (M.2.1 id) i.toNatClampNeg z))) (M' := mzasto 0 M id i.toNatClampNeg (.int z)) (by
      rw [mzcell_i (show ((mzasto 0 M id i.toNatClampNeg (.int z)).1 id).1 = 0 from hk)]
      show (Sum.inl (x.1.2.1 0, (M.1 id).2, .inl (upd (M.2.1 id) i.toNatClampNeg z)) : va_E) = .inl (x.1.2.1 0, (M.1 id).2, .inl (mzset M.2.1 id i.toNatClampNeg z id))
      rw [mzset_eq]; rfl) (fun j hj => mzcell_cong rfl (mzset_ne hj) rfl rfl)] at hP1
    exact g H1 locs1 ⟨hP1, hS1, hh.2.2⟩
  | 1, _ =>
    obtain ⟨z, rfl⟩ := hu
    rw [mzcell_l hk] at hat
    refine va_last hx.1 hx.2.1 hx.2.2.2.2.2.2.1 hh.1 hD hh.2.1 id 1 hat rfl hin hd (fun H1 locs1 hP1 _ hS1 => ?_)
    rw [mzW_set (M := M) (e := .inl (x.1.2.1 1, (M.1 id).2, .inr (.inl (vp_updL (M.2.2.1 id) i.toNatClampNeg z)))) (M' := mzasto 1 M id i.toNatClampNeg (.long z)) (by
      rw [mzcell_l (show ((mzasto 1 M id i.toNatClampNeg (.long z)).1 id).1 = 1 from hk)]
      show (Sum.inl (x.1.2.1 1, (M.1 id).2, .inr (.inl (vp_updL (M.2.2.1 id) i.toNatClampNeg z))) : va_E) = .inl (x.1.2.1 1, (M.1 id).2, .inr (.inl (mzset M.2.2.1 id i.toNatClampNeg z id)))
      rw [mzset_eq]; rfl) (fun j hj => mzcell_cong rfl rfl (mzset_ne hj) rfl)] at hP1
    exact g H1 locs1 ⟨hP1, hS1, hh.2.2⟩
  | 2, _ =>
    obtain ⟨z, rfl⟩ := hu
    rw [mzcell_z hk] at hat
    refine va_zast hx.1 hx.2.1 hx.2.2.2.2.2.2.1 hh.1 hD hh.2.1 id 2 hat rfl hin hd (fun H1 locs1 hP1 _ hS1 => ?_)
    rw [mzW_set (M := M) (e := .inl (x.1.2.1 2, (M.1 id).2, .inl (upd (M.2.1 id) i.toNatClampNeg (vp_nar .boolean z)))) (M' := mzasto 2 M id i.toNatClampNeg (.int z)) (by
      rw [mzcell_z (show ((mzasto 2 M id i.toNatClampNeg (.int z)).1 id).1 = 2 from hk)]
      show (Sum.inl (x.1.2.1 2, (M.1 id).2, .inl (upd (M.2.1 id) i.toNatClampNeg (vp_nar .boolean z))) : va_E) = .inl (x.1.2.1 2, (M.1 id).2, .inl (mzset M.2.1 id i.toNatClampNeg (vp_nar .boolean z) id))
      rw [mzset_eq]; rfl) (fun j hj => mzcell_cong rfl (mzset_ne hj) rfl rfl)] at hP1
    exact g H1 locs1 ⟨hP1, hS1, hh.2.2⟩
theorem mzdeepI {rest : List Value} {d : Nat} {i : Int32} (h : (rest.map (fun v => v.category)).sum ≤ d) : ((Value.int i :: rest).map (fun v => v.category)).sum ≤ d + 1 := by
  have e : (Value.int i).category = 1 := rfl
  simp only [List.map_cons, List.sum_cons, e]
  omega
/-- o[i] = e -/
def sast (a : Nat) (o i e : mzG) : mzT1 := ⟨(fun C p0 kn _ _ => match o.1.2.1 C 0 p0 none with
    | none => none
    | some p1 => match i.1.2.1 C 1 p1 none with
      | none => none
      | some p2 => match e.1.2.1 C 2 p2 none with
        | none => none
        | some p3 => if (mzdec C.1 p3 (mzasI a) 1 && decide (o.1.1 = 3) && decide (i.1.1 = 1) && decide (e.1.1 = mzalT a) && decide (a < 3)) = true then mzfin C (p3 + 1) kn else none,
    fun ls M Kn _ _ _ => o.1.2.2 ls M (fun v M1 => i.1.2.2 ls M1 (fun j M2 => e.1.2.2 ls M2 (fun u M3 => match v, j with
      | .ref id, .int i => (M3.1 id).1 = a ∧ vp_in i (M3.1 id).2 ∧ Kn ls (mzasto a M3 id i.toNatClampNeg u)
      | _, _ => False)))), by
  intro C p0 kn bk ct p1 hc x hx A ls M H locs Kn Kr Kb Kc h1 h2 h3 n1 n2 n3 n4
  dsimp only at hc
  split at hc
  · cases hc
  · rename_i q hq
    split at hc
    · cases hc
    · rename_i q2 hq2
      split at hc
      · cases hc
      · rename_i q3 hq3
        split at hc
        · rename_i hh
          simp only [Bool.and_eq_true] at hh
          obtain ⟨⟨⟨⟨a1, a2⟩, a3⟩, a4⟩, a5⟩ := hh
          have e2 := of_decide_eq_true a2
          have e3 := of_decide_eq_true a3
          have e4 := of_decide_eq_true a4
          refine o.2 C 0 p0 none q hq x hx A ls M H locs [] _ h1 h2 mz0 h3 (fun v1 M1 H1 locs1 k1 ty1 hh1 => ?_)
          have d1 := mzdeep (x := x) mz0 ty1
          rw [e2] at d1
          refine i.2 C 1 q none q2 hq2 x hx A ls M1 H1 locs1 _ _ h1 hh1 d1 k1 (fun v2 M2 H2 locs2 k2 ty2 hh2 => ?_)
          have d2 := mzdeep (x := x) d1 ty2
          rw [e3] at d2
          refine e.2 C 2 q2 none q3 hq3 x hx A ls M2 H2 locs2 _ _ h1 hh2 d2 k2 (fun v3 M3 H3 locs3 k3 ty3 hh3 => ?_)
          rw [e4] at ty3
          split at k3
          · exact mzgo_AS hx (of_decide_eq_true a5) hh3 k3.1 k3.2.1 ty3 (mzdec_ok a1) (fun H' locs' hh' => mzfin_go hx hc (n1 A ls _ H' locs' k3.2.2 h1 hh'))
          · exact k3.elim
        · cases hc⟩
/-- o[i] op= e -/
def sastop {a : Nat} {ins : Instr} {t2 : Nat} {f : Value → Value → Option Value} (hr : mzR2 ins (mzalT a) t2 (mzalT a) f) (ha : a < 2) (o i e : mzG) : mzT1 := ⟨(fun C p0 kn _ _ => match o.1.2.1 C 0 p0 none with
    | none => none
    | some p1 => match i.1.2.1 C 1 p1 none with
      | none => none
      | some p2 => if (mzdec C.1 p2 .dup2 1 && mzdec C.1 (p2 + 1) (mzalI a) 1) = true then (match e.1.2.1 C (2 + mzsz (mzalT a)) (p2 + 2) none with
        | none => none
        | some p3 => if (mzdec C.1 p3 ins 1 && mzdec C.1 (p3 + 1) (mzasI a) 1 && decide (o.1.1 = 3) && decide (i.1.1 = 1) && decide (e.1.1 = t2)) = true then mzfin C (p3 + 2) kn else none) else none,
    fun ls M Kn _ _ _ => o.1.2.2 ls M (fun v M1 => i.1.2.2 ls M1 (fun j M2 => match v, j with
      | .ref id, .int i => (M2.1 id).1 = a ∧ vp_in i (M2.1 id).2 ∧ e.1.2.2 ls M2 (fun u M3 => M3.1 = M2.1 ∧ (match f (mzald a M2 id i.toNatClampNeg) u with
        | some u2 => Kn ls (mzasto a M3 id i.toNatClampNeg u2)
        | none => False))
      | _, _ => False))), by
  intro C p0 kn bk ct p1 hc x hx A ls M H locs Kn Kr Kb Kc h1 h2 h3 n1 n2 n3 n4
  dsimp only at hc
  split at hc
  · cases hc
  · rename_i q hq
    split at hc
    · cases hc
    · rename_i q2 hq2
      split at hc
      · rename_i hd0
        rw [Bool.and_eq_true] at hd0
        split at hc
        · cases hc
        · rename_i q3 hq3
          split at hc
          · rename_i hh
            simp only [Bool.and_eq_true] at hh
            obtain ⟨⟨⟨⟨a1, a1'⟩, a2⟩, a3⟩, a4⟩ := hh
            have e2 := of_decide_eq_true a2
            have e3 := of_decide_eq_true a3
            have e4 := of_decide_eq_true a4
            refine o.2 C 0 p0 none q hq x hx A ls M H locs [] _ h1 h2 mz0 h3 (fun v1 M1 H1 locs1 k1 ty1 hh1 => ?_)
            have d1 := mzdeep (x := x) mz0 ty1
            rw [e2] at d1
            refine i.2 C 1 q none q2 hq2 x hx A ls M1 H1 locs1 _ _ h1 hh1 d1 k1 (fun v2 M2 H2 locs2 k2 ty2 hh2 => ?_)
            split at k2
            · rename_i id j
              obtain ⟨k2, k3, k4⟩ := k2
              refine lv_dup2_11 hx.1 hx.2.1 (mzdec_ok hd0.1) rfl rfl ?_
              have d2 : (([.int j, .ref (x.1.2.2.1 id)] : List Value).map (fun v => v.category)).sum ≤ 2 := Nat.le_refl 2
              have tail : ∀ u0 : Value, mzald a M2 id j.toNatClampNeg = u0 → mzty (mzalT a) u0 → mzGo x H2 locs2 (q2 + 1 + 1) A (mzva x u0 :: [.int j, .ref (x.1.2.2.1 id)]) := by
                intro u0 eu tu
                refine e.2 C _ (q2 + 1 + 1) none q3 hq3 x hx A ls M2 H2 locs2 _ _ h1 hh2 (mzdeep (x := x) d2 tu) k4 (fun v3 M3 H3 locs3 k5 ty3 hh3 => ?_)
                rw [e4] at ty3
                obtain ⟨k5, k6⟩ := k5
                rw [eu] at k6
                split at k6
                · rename_i u2 hu2
                  obtain ⟨r1, r2⟩ := hr C x hx H3 locs3 q3 A [.int j, .ref (x.1.2.2.1 id)] u0 v3 u2 tu ty3 hu2 (mzdec_ok a1)
                  refine r2 (mzgo_AS hx (Nat.lt_succ_of_lt ha) hh3 (by rw [k5]; exact k2) (by rw [k5]; exact k3) r1 (mzdec_ok a1') (fun H' locs' hh' => mzfin_go hx hc (n1 A ls _ H' locs' k6 h1 hh')))
                · exact k6.elim
              match a, ha with
              | 0, _ => exact mzgo_iald hx hh2 k2 k3 (mzdec_ok hd0.2) (tail _ rfl ⟨_, rfl⟩)
              | 1, _ => exact mzgo_lald hx hh2 k2 k3 (mzdec_ok hd0.2) (tail _ rfl ⟨_, rfl⟩)
            · exact k2.elim
          · cases hc
      · cases hc⟩
/-- a call of a method without an answer; a call whose answer is dropped -/
def scV (r : mzMt) {own idx ci : Nat} {y : MethodName} (hl : mzLkV own idx ci y) (hy : r.1.1 = y) (as : List mzG) : mzT1 := ⟨(fun C p0 kn _ _ => if r.1.2.2.2.2.2.2.1 = 0 then mzccV r own idx as C 0 p0 kn else none, fun ls M Kn _ _ _ => mzwV r ci as ls M (fun _ M1 => Kn ls M1)), by
  intro C p0 kn bk ct p1 hc x hx A ls M H locs Kn Kr Kb Kc h1 h2 h3 n1 n2 n3 n4
  dsimp only at hc
  split at hc
  · rename_i h0
    refine mzrun_V hx (hl := by rw [hy]; exact hl) hc h1 h2 mz0 h3 (fun v M' H' locs' z1 z2 z3 => ?_)
    rw [h0]
    exact n1 A ls M' H' locs' z1 h1 z3
  · cases hc⟩
def scS (r : mzMt) {own idx : Nat} {y : MethodName} (hl : mzLkS own idx y) (hy : r.1.1 = y) (as : List mzG) : mzT1 := ⟨(fun C p0 kn _ _ => if r.1.2.2.2.2.2.2.1 = 0 then mzccS r own idx as C 0 p0 kn else none, fun ls M Kn _ _ _ => mzwS r as ls M (fun _ M1 => Kn ls M1)), by
  intro C p0 kn bk ct p1 hc x hx A ls M H locs Kn Kr Kb Kc h1 h2 h3 n1 n2 n3 n4
  dsimp only at hc
  split at hc
  · rename_i h0
    refine mzrun_S hx (hl := by rw [hy]; exact hl) hc h1 h2 mz0 h3 (fun v M' H' locs' z1 z2 z3 => ?_)
    rw [h0]
    exact n1 A ls M' H' locs' z1 h1 z3
  · cases hc⟩
def spop (e : mzG) : mzT1 := ⟨(fun C p0 kn _ _ => match e.1.2.1 C 0 p0 none with
    | none => none
    | some p1 => if (mzdec C.1 p1 .pop 1 && decide (mzsz e.1.1 = 1)) = true then mzfin C (p1 + 1) kn else none, fun ls M Kn _ _ _ => e.1.2.2 ls M (fun _ M1 => Kn ls M1)), by
  intro C p0 kn bk ct p1 hc x hx A ls M H locs Kn Kr Kb Kc h1 h2 h3 n1 n2 n3 n4
  dsimp only at hc
  split at hc
  · cases hc
  · rename_i q hq
    split at hc
    · rename_i hd
      rw [Bool.and_eq_true] at hd
      refine e.2 C 0 p0 none q hq x hx A ls M H locs [] _ h1 h2 mz0 h3 (fun v M1 H1 locs1 k1 ty1 hh1 => ?_)
      exact lv_pop hx.1 hx.2.1 (mzdec_ok hd.1) (by rw [mzv_cat, mzty_cat ty1]; exact of_decide_eq_true hd.2) (mzfin_go hx hc (n1 A ls M1 H1 locs1 k1 h1 hh1))
    · cases hc⟩
