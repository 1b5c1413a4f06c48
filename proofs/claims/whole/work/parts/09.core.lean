/-! THE SMALL LANGUAGE, 7: stores, calls as statements, switches, a method's contract -/
def mzun (v : Value) : Option Nat := match v with
  | .ref a => some a
  | _ => none
def mzput (t : Nat) (M : mzM) (id k : Nat) (u : Value) : mzM := match t with
  | 0 => (match u with
    | .int z => (M.1, mzset M.2.1 id k z, M.2.2.1, M.2.2.2)
    | _ => M)
  | 1 => (match u with
    | .long z => (M.1, M.2.1, mzset M.2.2.1 id k z, M.2.2.2)
    | _ => M)
  | _ => (M.1, M.2.1, M.2.2.1, mzset M.2.2.2 id k (mzun u))
theorem mzset_ne {α : Type} {f : Nat → Nat → α} {a k j : Nat} {v : α} (h : j ≠ a) : mzset f a k v j = f j := by
  unfold mzset; rw [if_neg h]
theorem mzset_eq {α : Type} {f : Nat → Nat → α} {a k : Nat} {v : α} : mzset f a k v a = fun j => if j = k then v else f a j := by
  unfold mzset; rw [if_pos rfl]
theorem mzput_sh (t : Nat) (M : mzM) (id k : Nat) (u : Value) : (mzput t M id k u).1 = M.1 := by
  unfold mzput
  split
  · split <;> rfl
  · split <;> rfl
  · rfl
theorem mzcell_cong {dA : Nat → ClassId} {ad : Nat → Nat} {M M' : mzM} {j : Nat} (h0 : M'.1 j = M.1 j) (h1 : M'.2.1 j = M.2.1 j) (h2 : M'.2.2.1 j = M.2.2.1 j) (h3 : M'.2.2.2 j = M.2.2.2 j) : mzcell dA ad M' j = mzcell dA ad M j := by
  unfold mzcell mzfv
  rw [h0, h1, h2, h3]
theorem mzput_ne (t : Nat) (M : mzM) (id k : Nat) (u : Value) {j : Nat} (h : j ≠ id) {dA : Nat → ClassId} {ad : Nat → Nat} : mzcell dA ad (mzput t M id k u) j = mzcell dA ad M j := by
  unfold mzput
  split
  · split
    · exact mzcell_cong rfl (mzset_ne h) rfl rfl
    · rfl
  · split
    · exact mzcell_cong rfl rfl (mzset_ne h) rfl
    · rfl
  · exact mzcell_cong rfl rfl rfl (mzset_ne h)
theorem mzput_fv {t : Nat} {M : mzM} {id k : Nat} {u : Value} (hu : mzty (t + 1) u) {ad : Nat → Nat} : mzfv ad (mzput t M id k u) id k t = mzv ad u := by
  match t with
  | 0 =>
    obtain ⟨z, rfl⟩ := hu
    show Value.int (mzset M.2.1 id k z id k) = _
    rw [mzset_eq]; simp [mzv]
  | 1 =>
    obtain ⟨z, rfl⟩ := hu
    show Value.long (mzset M.2.2.1 id k z id k) = _
    rw [mzset_eq]; simp [mzv]
  | t + 2 =>
    obtain ⟨r, rfl⟩ := hu
    show va_rf ((mzset M.2.2.2 id k (mzun (va_rf r)) id k).map ad) = _
    rw [mzset_eq]
    simp only [if_true]
    cases r <;> rfl
theorem mzput_fn {t : Nat} {M : mzM} {id k : Nat} {u : Value} {ad : Nat → Nat} {j t' : Nat} (hj : j ≠ k) : mzfv ad (mzput t M id k u) id j t' = mzfv ad M id j t' := by
  unfold mzput
  split
  · split
    · unfold mzfv
      simp only [mzset_eq, if_neg hj]
    · rfl
  · split
    · unfold mzfv
      simp only [mzset_eq, if_neg hj]
    · rfl
  · unfold mzfv
    simp only [mzset_eq, if_neg hj]
theorem mzput_cell {t ci : Nat} {M : mzM} {id k : Nat} {u : Value} (hu : mzty (t + 1) u) (hk : (M.1 id).1 = ci + 4) (ht : (mzfk ci)[k]? = some t) {dA : Nat → ClassId} {ad : Nat → Nat} : (Sum.inr (ci, ((mzfk ci).mapIdx (fun k t => mzfv ad M id k t)).set k (mzv ad u)) : va_E) = mzcell dA ad (mzput t M id k u) id := by
  rw [mzcell_obj (c := ci) (by rw [mzput_sh]; exact hk)]
  congr 2
  apply List.ext_getElem?
  intro j
  rw [List.getElem?_set, List.getElem?_mapIdx]
  by_cases hj : k = j
  · subst hj
    have hl : k < (mzfk ci).length := (List.getElem?_eq_some_iff.mp ht).1
    rw [if_pos rfl, if_pos (by simpa using hl), List.getElem?_mapIdx, ht]
    exact congrArg some (mzput_fv hu).symm
  · rw [if_neg hj, List.getElem?_mapIdx]
    cases (mzfk ci)[j]? with
    | none => rfl
    | some t' => exact congrArg some (mzput_fn (fun e => hj e.symm)).symm
/-- how a putfield is linked -/
def mzLkP (own idx ci k t : Nat) : Prop := ∃ (Cn : String) (T : u_T) (N : Nat) (ty0 : Nat → FieldType), vwCl[ci]? = some (Cn, T, N) ∧ k < N ∧ (∀ z ∈ u_ws Cn T N, z ∈ mzT) ∧ (Jvm.Cond.fieldLink (mzcn own) idx (T k).1 (T k).2.1 (T k).2.2.1 ∈ mzT ∨ ∃ host, Jvm.Cond.fieldLinkNest (mzcn own) idx (T k).1 (T k).2.1 (T k).2.2.1 host ∈ mzN) ∧ (mzfk ci)[k]? = some t ∧
  (∀ k, k < N → parseFieldDescriptor (T k).2.2.1 = some (ty0 k)) ∧ (∀ a, a < N → ∀ b, b < N → a ≠ b → (T a).2.1 ≠ (T b).2.1) ∧ (T k).2.2.2 = false ∧ (mzfk ci).length = N ∧ ci < 20 ∧ (match t with | 0 => ty0 k = .int | 1 => ty0 k = .long | _ => ∃ ty, ty0 k = .array ty)
theorem mzgo_P {C : mzs} {x : mzCx} (hx : mzok C x) {idx ci k t id : Nat} (hl : mzLkP C.2.1 idx ci k t) {M : mzM} {H : Heap} {locs : List Loc} (hh : mzhp x M H locs) (hk : (M.1 id).1 = ci + 4) {u : Value} (hu : mzty (t + 1) u) {pc : Nat} {A : Array Slot} {rest : List Value} (hd : decode C.1 pc = .ok (.putfield idx, 3)) (g : ∀ (H' : Heap) (locs' : List Loc), mzhp x (mzput t M id k u) H' locs' → mzGo x H' locs' (pc + 3) A rest) : mzGo x H locs pc A (mzva x u :: .ref (x.1.2.2.1 id) :: rest) := by
  obtain ⟨Cn, T, N, ty0, hC, hkN, hws, hlk, ht, hty, hnm, hfin, hlen, hci, htt⟩ := hl
  have hat := mzhp_at hh (id := id) (by omega)
  rw [mzcell_obj hk] at hat
  have hN : narrow (ty0 k) (mzva x u) = mzva x u ∧ fits (ty0 k) (mzva x u) = true := by
    match t, htt, hu with
    | 0, htt, hu => rw [show ty0 k = .int from htt]; obtain ⟨z, rfl⟩ := hu; exact ⟨rfl, rfl⟩
    | 1, htt, hu => rw [show ty0 k = .long from htt]; obtain ⟨z, rfl⟩ := hu; exact ⟨rfl, rfl⟩
    | t + 2, htt, hu =>
      obtain ⟨ty, e⟩ := (show ∃ ty, ty0 k = .array ty from htt)
      rw [e]
      obtain ⟨r, rfl⟩ := hu
      cases r <;> exact ⟨rfl, rfl⟩
  have key : ∀ (H1 : Heap) (locs1 : List Loc), va_P x.1.1 vwCl ((mzW x.1 M).set id (x.1.2.2.1 id, .inr (ci, ((mzfk ci).mapIdx (fun k t => mzfv x.1.2.2.1 M id k t)).set k (mzva x u)))) H1 → va_D (mzA x.1) ((mzW x.1 M).set id (x.1.2.2.1 id, .inr (ci, ((mzfk ci).mapIdx (fun k t => mzfv x.1.2.2.1 M id k t)).set k (mzva x u)))) → va_S (mzA x.1) x.2.2.2.2.2.1.heap H1 locs1 → mzGo x H1 locs1 (pc + 3) A rest := by
    intro H1 locs1 hP1 _ hS1
    rw [mzW_set (M' := mzput t M id k u) (mzput_cell hu hk ht) (fun j hj => mzput_ne t M id k u hj)] at hP1
    exact g H1 locs1 ⟨hP1, hS1, by rw [mzput_sh]; exact hh.2.2⟩
  have hD := mzW_D hx.2.2.2.2.2.2.2.1 M
  rcases hlk with hlk | ⟨host, hlk⟩
  · exact va_put hx.1 hx.2.1 hx.2.2.2.2.1 hws ty0 hty hnm hx.2.2.2.1 hx.2.2.2.2.2.2.1 hh.1 hD hh.2.1 id hat hC k hkN (hx.2.2.2.2.1 _ hlk) (fun _ h9 => h9) hfin (hty k hkN) hN.1 hN.2 (by simpa [hlen] using hkN) hd key
  · exact va_putN hx.1 hx.2.1 hx.2.2.2.2.1 hws ty0 hty hnm hx.2.2.2.1 hx.2.2.2.2.2.2.1 hh.1 hD hh.2.1 id hat hC k hkN (va_Nw.use rfl (hx.2.2.2.2.2.1 _ hlk)) (fun _ h9 => h9) hfin (hty k hkN) hN.1 hN.2 (by simpa [hlen] using hkN) hd key
/-- o.f = e -/
def sput {own idx ci k t : Nat} (hl : mzLkP own idx ci k t) (o e : mzG) : mzT1 := ⟨(fun C p0 kn _ _ => match o.1.2.1 C 0 p0 none with
    | none => none
    | some p1 => match e.1.2.1 C 1 p1 none with
      | none => none
      | some p2 => if (C.2.1 == own && mzdec C.1 p2 (.putfield idx) 3 && decide (o.1.1 = 3) && decide (e.1.1 = t + 1)) = true then mzfin C (p2 + 3) kn else none,
    fun ls M Kn _ _ _ => o.1.2.2 ls M (fun v M1 => e.1.2.2 ls M1 (fun u M2 => match v with
      | .ref id => (M2.1 id).1 = ci + 4 ∧ Kn ls (mzput t M2 id k u)
      | _ => False))), by
  intro C p0 kn bk ct p1 hc x hx A ls M H locs Kn Kr Kb Kc h1 h2 h3 n1 n2 n3 n4
  dsimp only at hc
  split at hc
  · cases hc
  · rename_i q hq
    split at hc
    · cases hc
    · rename_i q2 hq2
      split at hc
      · rename_i hh
        simp only [Bool.and_eq_true] at hh
        obtain ⟨⟨⟨a1, a2⟩, a3⟩, a4⟩ := hh
        have ho : C.2.1 = own := by simpa using a1
        subst ho
        have e3 := of_decide_eq_true a3
        have e4 := of_decide_eq_true a4
        refine o.2 C 0 p0 none q hq x hx A ls M H locs [] _ h1 h2 mz0 h3 (fun v1 M1 H1 locs1 k1 ty1 hh1 => ?_)
        refine e.2 C 1 q none q2 hq2 x hx A ls M1 H1 locs1 _ _ h1 hh1 (by have := mzdeep (x := x) mz0 ty1; rw [e3] at this; simpa [mzsz] using this) k1 (fun v2 M2 H2 locs2 k2 ty2 hh2 => ?_)
        rw [e4] at ty2
        split at k2
        · rename_i id
          exact mzgo_P hx hl hh2 k2.1 ty2 (mzdec_ok a2) (fun H' locs' hh' => mzfin_go hx hc (n1 A ls _ H' locs' k2.2 h1 hh'))
        · exact k2.elim
      · cases hc⟩
/-- o.f op= e -/
def sputop {own idx ci k t : Nat} {ins : Instr} {t2 : Nat} {f : Value → Value → Option Value} (hl : mzLkP own idx ci k t) (hr : mzR2 ins (t + 1) t2 (t + 1) f) (o e : mzG) : mzT1 := ⟨(fun C p0 kn _ _ => match o.1.2.1 C 0 p0 none with
    | none => none
    | some p1 => if (mzdec C.1 p1 .dup 1 && mzdec C.1 (p1 + 1) (.getfield idx) 3) = true then (match e.1.2.1 C (1 + mzsz (t + 1)) (p1 + 4) none with
      | none => none
      | some p2 => if (C.2.1 == own && mzdec C.1 p2 ins 1 && mzdec C.1 (p2 + 1) (.putfield idx) 3 && decide (o.1.1 = 3) && decide (e.1.1 = t2)) = true then mzfin C (p2 + 4) kn else none) else none,
    fun ls M Kn _ _ _ => o.1.2.2 ls M (fun v M1 => match v with
      | .ref id => (M1.1 id).1 = ci + 4 ∧ e.1.2.2 ls M1 (fun u M2 => (M2.1 id).1 = ci + 4 ∧ (match f (mzget t M1 id k) u with
        | some u2 => Kn ls (mzput t M2 id k u2)
        | none => False))
      | _ => False)), by
  intro C p0 kn bk ct p1 hc x hx A ls M H locs Kn Kr Kb Kc h1 h2 h3 n1 n2 n3 n4
  dsimp only at hc
  split at hc
  · cases hc
  · rename_i q hq
    split at hc
    · rename_i hd0
      rw [Bool.and_eq_true] at hd0
      split at hc
      · cases hc
      · rename_i q2 hq2
        split at hc
        · rename_i hh
          simp only [Bool.and_eq_true] at hh
          obtain ⟨⟨⟨⟨a1, a2⟩, a2'⟩, a3⟩, a4⟩ := hh
          have ho : C.2.1 = own := by simpa using a1
          subst ho
          have e4 := of_decide_eq_true a4
          refine o.2 C 0 p0 none q hq x hx A ls M H locs [] _ h1 h2 mz0 h3 (fun v1 M1 H1 locs1 k1 ty1 hh1 => ?_)
          split at k1
          · rename_i id
            refine lv_dup hx.1 hx.2.1 (mzdec_ok hd0.1) rfl ?_
            have hl2 := hl
            obtain ⟨Cn, T, N, ty0, hC, hkN, hws, hlk, ht, hrest⟩ := hl2
            refine mzgo_F hx ⟨Cn, T, N, hC, hkN, hws, hlk, ht⟩ hrest.2.2.2.2.1 hh1 k1.1 (mzdec_ok hd0.2) ?_
            refine e.2 C _ (q + 1 + 3) none q2 hq2 x hx A ls M1 H1 locs1 _ _ h1 hh1 (by have h := mzdeep (x := x) (mzdeep1 (a := x.1.2.2.1 id) mz0) (mzget_ty t M1 id k); rw [Nat.zero_add] at h; exact h) k1.2 (fun v2 M2 H2 locs2 k2 ty2 hh2 => ?_)
            rw [e4] at ty2
            obtain ⟨k2, k3⟩ := k2
            split at k3
            · rename_i u2 hu2
              obtain ⟨r1, r2⟩ := hr C x hx H2 locs2 q2 A [.ref (x.1.2.2.1 id)] _ v2 u2 (mzget_ty t M1 id k) ty2 hu2 (mzdec_ok a2)
              exact r2 (mzgo_P hx hl hh2 k2 r1 (mzdec_ok a2') (fun H' locs' hh' => mzfin_go hx hc (n1 A ls _ H' locs' k3 h1 hh')))
            · exact k3.elim
          · exact k1.elim
        · cases hc
    · cases hc⟩
