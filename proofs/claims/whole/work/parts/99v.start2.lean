/-! the start of the law: what holds, the two worlds -/
theorem st_N {args : Array Value} {s : State} (h : ∀ w ∈ lw_tbl, w.before args s = true) : ∀ x ∈ mzN, va_Nw x s := by
  intro x hx
  have h1 := List.mem_filter.mp hx
  have h0 := h x (List.mem_append_right _ h1.1)
  have hk := h1.2
  unfold mzisN at hk
  split at hk
  · exact h0
  · exact h0
  · cases hk
theorem st_K {args : Array Value} {s : State} (hts : ∀ w ∈ mzT, w.before args s = true) (hAO : va_AO "MazeCalendar$Sheet" s) : ∃ (D : va_G) (dA : Nat → ClassId), va_K D vwCl (mztys dA) s := by
  obtain ⟨c0, i0, hK0⟩ := u_known (C := RX0) (T := TX0) (N := 4) hts inX0 (hts _ (mzT_at 244 (by decide +kernel) rfl : Jvm.Cond.instantiable RX0 4 ∈ mzT))
  obtain ⟨c1, i1, hK1⟩ := u_known (C := RX1) (T := TX1) (N := 9) hts inX1 (hts _ (mzT_at 115 (by decide +kernel) rfl : Jvm.Cond.instantiable RX1 9 ∈ mzT))
  obtain ⟨c2, i2, hK2⟩ := u_known (C := RX2) (T := TX2) (N := 4) hts inX2 (hts _ (mzT_at 179 (by decide +kernel) rfl : Jvm.Cond.instantiable RX2 4 ∈ mzT))
  obtain ⟨c3, i3, hK3⟩ := u_known (C := RX3) (T := TX3) (N := 3) hts inX3 (hts _ (mzT_at 225 (by decide +kernel) rfl : Jvm.Cond.instantiable RX3 3 ∈ mzT))
  obtain ⟨c4, i4, hK4⟩ := u_known (C := RX4) (T := TX4) (N := 3) hts inX4 (hts _ (mzT_at 199 (by decide +kernel) rfl : Jvm.Cond.instantiable RX4 3 ∈ mzT))
  obtain ⟨c5, i5, hK5⟩ := u_known (C := RX5) (T := TX5) (N := 2) hts inX5 (hts _ (mzT_at 95 (by decide +kernel) rfl : Jvm.Cond.instantiable RX5 2 ∈ mzT))
  obtain ⟨c6, i6, hK6⟩ := u_known (C := RX6) (T := TX6) (N := 5) hts inX6 (hts _ (mzT_at 152 (by decide +kernel) rfl : Jvm.Cond.instantiable RX6 5 ∈ mzT))
  obtain ⟨c7, i7, hK7⟩ := u_known (C := RX7) (T := TX7) (N := 14) hts inX7 (hts _ (mzT_at 87 (by decide +kernel) rfl : Jvm.Cond.instantiable RX7 14 ∈ mzT))
  obtain ⟨c8, i8, hK8⟩ := u_known (C := RX8) (T := TX8) (N := 29) hts inX8 (hts _ (mzT_at 786 (by decide +kernel) rfl : Jvm.Cond.instantiable RX8 29 ∈ mzT))
  obtain ⟨d0, kA0, co0, x1, x2, x3⟩ := Cond.arrayClass_spec (hts _ harr_0)
  obtain ⟨d1, kA1, co1, y1, y2, y3⟩ := Cond.arrayClass_spec (hts _ harr_1)
  obtain ⟨d2, kA2, co2, z1, z2, z3⟩ := Cond.arrayClass_spec (hts _ harr_2)
  obtain ⟨co3, d3, kA3, w1, w2, w3, w4, w5⟩ := Cond.arrayOver_spec hAO
  refine ⟨(fun k => match k with | 0 => c0 | 1 => c1 | 2 => c2 | 3 => c3 | 4 => c4 | 5 => c5 | 6 => c6 | 7 => c7 | _ => c8, fun k => match k with | 0 => i0 | 1 => i1 | 2 => i2 | 3 => i3 | 4 => i4 | 5 => i5 | 6 => i6 | 7 => i7 | _ => i8), fun k => match k with | 0 => d0 | 1 => d1 | 2 => d2 | _ => d3, ?_, ?_⟩
  · intro k q hq
    match k, hq with
    | 0, hq => cases hq; exact hK0
    | 1, hq => cases hq; exact hK1
    | 2, hq => cases hq; exact hK2
    | 3, hq => cases hq; exact hK3
    | 4, hq => cases hq; exact hK4
    | 5, hq => cases hq; exact hK5
    | 6, hq => cases hq; exact hK6
    | 7, hq => cases hq; exact hK7
    | 8, hq => cases hq; exact hK8
    | k + 9, hq => simp [vwCl] at hq
  · intro k q hq
    match k, hq with
    | 0, hq => cases hq; exact ⟨fun n z => ⟨fun k h => (by cases h), kA0, x2, co0, x3⟩, x1⟩
    | 1, hq => cases hq; exact ⟨fun n z => ⟨fun k h => (by cases h), kA1, y2, co1, y3⟩, y1⟩
    | 2, hq => cases hq; exact ⟨fun n z => ⟨fun k h => (by cases h), kA2, z2, co2, z3⟩, z1⟩
    | 3, hq => cases hq; exact ⟨fun n z => ⟨fun k h => (by cases h), kA3, w3, co3, w4⟩, kA3, co3, w3, w4, w1, w5⟩
    | k + 4, hq => simp [mztys] at hq
theorem st_eq {args : Array Value} {s : State} {tm : Term} {z : Int32} (h : (Cond.eq tm (.int z)).before args s = true) : tm.eval args s none [] s = some (.int z) := by
  cases hv : tm.eval args s none [] s with
  | none => simp [Cond.before, Cond.holds, Cond.value, hv] at h
  | some w =>
    have hz : (Term.int z).eval args s none [] s = some (.int z) := rfl
    simp only [Cond.before, Cond.holds, Cond.value, hv, hz] at h
    cases w <;> simp_all
theorem st_Z {args : Array Value} {s : State} (h : ∀ w ∈ lw_tbl, w.before args s = true) (hgv : (Jvm.Cond.and given_1 narrow_1).before args s = true) : ∃ tr : Nat, mzZq tr (fun q : Nat => s.heap.size ≤ q) s s.heap := by
  have hs := flat_of_before _ hgv
  have hA : ∀ a : Nat, a < s.heap.size → ¬ (fun q : Nat => s.heap.size ≤ q) a := fun a h => Nat.not_le.mpr h
  obtain ⟨t, ht, hT⟩ := va_Tof (args := args) (s := s) (tm := (.static "MazeCalendar" "TURNS" "[I")) (ty := .int) (N := 12) (f := fun j => .int (mzturn j)) (A := fun q : Nat => s.heap.size ≤ q) (by decide) (hs (.arrayOf (.static "MazeCalendar" "TURNS" "[I") .int) (by decide +kernel)) (st_eq (hs (.eq (.length (.static "MazeCalendar" "TURNS" "[I")) (.int 12)) (by decide +kernel))) (fun j hj => by
    match j, hj with
    | 0, _ => exact st_eq (hs (.eq (.elem (.static "MazeCalendar" "TURNS" "[I") (.int 0)) (.int 3)) (by decide +kernel))
    | 1, _ => exact st_eq (hs (.eq (.elem (.static "MazeCalendar" "TURNS" "[I") (.int 1)) (.int 0)) (by decide +kernel))
    | 2, _ => exact st_eq (hs (.eq (.elem (.static "MazeCalendar" "TURNS" "[I") (.int 2)) (.int 1)) (by decide +kernel))
    | 3, _ => exact st_eq (hs (.eq (.elem (.static "MazeCalendar" "TURNS" "[I") (.int 3)) (.int 2)) (by decide +kernel))
    | 4, _ => exact st_eq (hs (.eq (.elem (.static "MazeCalendar" "TURNS" "[I") (.int 4)) (.int 1)) (by decide +kernel))
    | 5, _ => exact st_eq (hs (.eq (.elem (.static "MazeCalendar" "TURNS" "[I") (.int 5)) (.int 0)) (by decide +kernel))
    | 6, _ => exact st_eq (hs (.eq (.elem (.static "MazeCalendar" "TURNS" "[I") (.int 6)) (.int 3)) (by decide +kernel))
    | 7, _ => exact st_eq (hs (.eq (.elem (.static "MazeCalendar" "TURNS" "[I") (.int 7)) (.int 2)) (by decide +kernel))
    | 8, _ => exact st_eq (hs (.eq (.elem (.static "MazeCalendar" "TURNS" "[I") (.int 8)) (.int 0)) (by decide +kernel))
    | 9, _ => exact st_eq (hs (.eq (.elem (.static "MazeCalendar" "TURNS" "[I") (.int 9)) (.int 3)) (by decide +kernel))
    | 10, _ => exact st_eq (hs (.eq (.elem (.static "MazeCalendar" "TURNS" "[I") (.int 10)) (.int 1)) (by decide +kernel))
    | 11, _ => exact st_eq (hs (.eq (.elem (.static "MazeCalendar" "TURNS" "[I") (.int 11)) (.int 2)) (by decide +kernel))
    | j + 12, hj => exact absurd hj (by omega)) hA
  exact ⟨t, ⟨va_Zref (h _ (List.mem_of_getElem? (i := 497) (by decide +kernel))) (h _ (List.mem_of_getElem? (i := 72) (by decide +kernel))) ht hA, hT⟩, va_AO.of (h _ (List.mem_of_getElem? (i := 224) (by decide +kernel)))⟩
theorem sp_l {D : va_G} {cl : List vw_C} {X Y : va_W} {H : Heap} (h : va_P D cl (X ++ Y) H) : va_P D cl X H := fun k q hq => h k q (by rw [List.getElem?_append_left (List.getElem?_eq_some_iff.mp hq).1]; exact hq)
theorem sp_r {D : va_G} {cl : List vw_C} {X Y : va_W} {H : Heap} (h : va_P D cl (X ++ Y) H) : va_P D cl Y H := fun k q hq => h (X.length + k) q (by rw [List.getElem?_append_right (by omega), Nat.add_sub_cancel_left]; exact hq)
theorem sp_dl {A : Nat → Prop} {X Y : va_W} (h : va_D A (X ++ Y)) : va_D A X := by
  have e : ∀ (k : Nat) (q : Nat × va_E), X[k]? = some q → (X ++ Y)[k]? = some q := fun k q hq => by rw [List.getElem?_append_left (List.getElem?_eq_some_iff.mp hq).1]; exact hq
  exact ⟨fun i j p q hi hj hpq => h.1 i j p q (e i p hi) (e j q hj) hpq, fun k q hq => h.2 k q (e k q hq)⟩
theorem sp_dr {A : Nat → Prop} {X Y : va_W} (h : va_D A (X ++ Y)) : va_D A Y := by
  have e : ∀ (k : Nat) (q : Nat × va_E), Y[k]? = some q → (X ++ Y)[X.length + k]? = some q := fun k q hq => by rw [List.getElem?_append_right (by omega), Nat.add_sub_cancel_left]; exact hq
  refine ⟨fun i j p q hi hj hpq => ?_, fun k q hq => h.2 _ q (e k q hq)⟩
  have := h.1 _ _ p q (e i p hi) (e j q hj) hpq
  omega
theorem sp_inj {A : Nat → Prop} {w : mzD} {M : mzM} (h : va_D A (mzW w M)) : mzInj w := fun i j hi hj e => h.1 i j _ _ (mzW_at hi) (mzW_at hj) e
theorem sp_in {A : Nat → Prop} {w : mzD} {M : mzM} (h : va_D A (mzW w M)) : ∀ q, mzA w q → A q := by
  rintro q ⟨id, hid, rfl⟩
  exact h.2 id _ (mzW_at hid)
theorem sp_lt {D : va_G} {w : mzD} {M : mzM} {H : Heap} (h : va_P D vwCl (mzW w M) H) : ∀ q, mzA w q → q < H.size := by
  rintro q ⟨id, hid, rfl⟩
  exact (h id _ (mzW_at hid)).lt
theorem sp_ap {A : Nat → Prop} {w1 w2 : mzD} {M1 M2 : mzM} (h : va_D A (mzW w1 M1 ++ mzW w2 M2)) : ∀ q, mzA w1 q → ¬ mzA w2 q := by
  rintro q ⟨i, hi, rfl⟩ ⟨j, hj, e⟩
  have h1 : (mzW w1 M1)[i]? = some (w1.2.2.1 i, mzcell w1.2.1 w1.2.2.1 M1 i) := mzW_at hi
  have h2 : (mzW w2 M2)[j]? = some (w2.2.2.1 j, mzcell w2.2.1 w2.2.2.1 M2 j) := mzW_at hj
  have hl := (List.getElem?_eq_some_iff.mp h1).1
  have h3 := h.1 i ((mzW w1 M1).length + j) _ _ (by rw [List.getElem?_append_left hl]; exact h1) (by rw [List.getElem?_append_right (by omega), Nat.add_sub_cancel_left]; exact h2) e
  omega
theorem shC_hi (k : Nat) : shC (k + 39) = (99, 0) := rfl
theorem shR_hi (k : Nat) : shR (k + 24) = (99, 0) := rfl
theorem shC_N (id : Nat) (h : (shC id).1 < 99) : id < 39 := by
  by_cases q : id < 39
  · exact q
  · rw [show id = (id - 39) + 39 by omega, shC_hi] at h
    exact absurd h (Nat.lt_irrefl 99)
theorem shR_N (id : Nat) (h : (shR id).1 < 99) : id < 24 := by
  by_cases q : id < 24
  · exact q
  · rw [show id = (id - 24) + 24 by omega, shR_hi] at h
    exact absurd h (Nat.lt_irrefl 99)
theorem rel_0 {f : Nat → Int32} (hf : ∀ k, k < 100 → f k = -1) : rel (mC (I0 f) (fun _ _ => 0) false) (mR (fun _ _ => 0) (fun _ _ => 0)) := by
  refine ⟨_, _, _, _, false, 0, 0, 0, fun _ => 0, rfl, rfl, Rl_0 (fun _ _ => rfl) (fun _ _ => rfl) rfl rfl rfl rfl rfl rfl rfl (fun i j h1 h2 => ?_) rfl rfl hf (fun k hk => ?_) rfl⟩
  · rcases (show i = 12 ∨ i = 13 ∨ i = 14 ∨ i = 15 ∨ i = 16 ∨ i = 17 ∨ i = 18 ∨ i = 19 by omega) with rfl | rfl | rfl | rfl | rfl | rfl | rfl | rfl <;> rfl
  · rcases (show k = 0 ∨ k = 1 ∨ k = 2 ∨ k = 3 by omega) with rfl | rfl | rfl | rfl <;> rfl
theorem d_law_0 : decode code 0 = .ok (.new 7, 3) := by decide +kernel
theorem d_law_3 : decode code 3 = .ok (.dup, 1) := by decide +kernel
theorem d_law_4 : decode code 4 = .ok (.invokespecial 9, 3) := by decide +kernel
theorem d_law_7 : decode code 7 = .ok (.astore_n 1, 1) := by decide +kernel
theorem d_law_8 : decode code 8 = .ok (.new 10, 3) := by decide +kernel
theorem d_law_11 : decode code 11 = .ok (.dup, 1) := by decide +kernel
theorem d_law_12 : decode code 12 = .ok (.invokespecial 12, 3) := by decide +kernel
theorem d_law_15 : decode code 15 = .ok (.astore_n 2, 1) := by decide +kernel
theorem d_law_16 : decode code 16 = .ok (.iconst 0, 1) := by decide +kernel
theorem d_law_17 : decode code 17 = .ok (.istore_n 3, 1) := by decide +kernel
theorem kN_9_7 : sgN "MazeCalendarLaw" 7 7 [.null, .null, .null, .null, .null, .null, .null, .null, .int 0, .null, .null, .null, .null, .null] := ⟨RX7, TX7, 14, tyX7, rfl, inX7, tyX7_ok, mzT_at 86 (by decide +kernel) rfl, mzT_at 87 (by decide +kernel) rfl, mzT_at 72 (by decide +kernel) rfl, fun j hj => by
  match j, hj with
  | 0, _ => rfl
  | 1, _ => rfl
  | 2, _ => rfl
  | 3, _ => rfl
  | 4, _ => rfl
  | 5, _ => rfl
  | 6, _ => rfl
  | 7, _ => rfl
  | 8, _ => rfl
  | 9, _ => rfl
  | 10, _ => rfl
  | 11, _ => rfl
  | 12, _ => rfl
  | 13, _ => rfl
  | j + 14, hj => exact absurd hj (by omega), rfl⟩
theorem kN_9_10 : sgN "MazeCalendarLaw" 10 8 [.null, .null, .int 0, .int 0, .int 0, .null, .int 0, .null, .null, .null, .null, .null, .null, .null, .null, .null, .null, .int 0, .null, .null, .null, .null, .null, .null, .null, .null, .null, .null, .int 0] := ⟨RX8, TX8, 29, tyX8, rfl, inX8, tyX8_ok, mzT_at 785 (by decide +kernel) rfl, mzT_at 786 (by decide +kernel) rfl, mzT_at 82 (by decide +kernel) rfl, fun j hj => by
  match j, hj with
  | 0, _ => rfl
  | 1, _ => rfl
  | 2, _ => rfl
  | 3, _ => rfl
  | 4, _ => rfl
  | 5, _ => rfl
  | 6, _ => rfl
  | 7, _ => rfl
  | 8, _ => rfl
  | 9, _ => rfl
  | 10, _ => rfl
  | 11, _ => rfl
  | 12, _ => rfl
  | 13, _ => rfl
  | 14, _ => rfl
  | 15, _ => rfl
  | 16, _ => rfl
  | 17, _ => rfl
  | 18, _ => rfl
  | 19, _ => rfl
  | 20, _ => rfl
  | 21, _ => rfl
  | 22, _ => rfl
  | 23, _ => rfl
  | 24, _ => rfl
  | 25, _ => rfl
  | 26, _ => rfl
  | 27, _ => rfl
  | 28, _ => rfl
  | j + 29, hj => exact absurd hj (by omega), rfl⟩
theorem kL_9_9 : sgL "MazeCalendarLaw" 9 yX7_init 0 := ⟨Or.inl (mzT_at 88 (by decide +kernel) rfl), mzT_at 89 (by decide +kernel) rfl, mzT_at 72 (by decide +kernel) rfl, by decide +kernel⟩
theorem kL_9_12 : sgL "MazeCalendarLaw" 12 yX8_init 0 := ⟨Or.inl (mzT_at 787 (by decide +kernel) rfl), mzT_at 788 (by decide +kernel) rfl, mzT_at 82 (by decide +kernel) rfl, by decide +kernel⟩
set_option maxHeartbeats 4000000 in
theorem whole_start {p : Program} {e : Env} {s : State} {m : MethodId} {below : List Frame} {meth : Method} {c : Code} (l : Launch) {b L : Nat} {xs : Nat → Int32} (hL : L ≤ 384) (C0 : lw_At p s m meth c b L xs) : W p l e room_1 s m #[Value.ref b] below meth c s.heap [] 0 0 (lw_Z below #[Value.ref b] s) (entryFrame m ([Value.ref b] : List Value).toArray 4) := by
  have C1 := C0
  obtain ⟨hx, hb, hr, hml, hown, hts0, hX, hbl, hlocks, hgv⟩ := C0
  have hts := mzT_of hts0
  have hN := st_N hts0
  obtain ⟨tr, hZ⟩ := st_Z hts0 hgv
  obtain ⟨D, dA, hK⟩ := st_K hts hZ.2
  have hA : ∀ q : Nat, s.heap.size ≤ q → (fun q : Nat => s.heap.size ≤ q) q := fun _ h => h
  have hS : va_S (fun q : Nat => s.heap.size ≤ q) s.heap s.heap [] := va_S.rf
  have hP : va_P D vwCl [] s.heap := fun k q h => by simp at h
  have hD : va_D (fun q : Nat => s.heap.size ≤ q) [] := ⟨fun i j p q h => by simp at h, fun k q h => by simp at h⟩
  have hl := lv_entry ([.ref b]) (n := 4) (Nat.le_of_ble_eq_true rfl)
  rw [lg_entry_eq]
  generalize (lg_sl ([.ref b]) ++ List.replicate (4 - (lg_sl ([.ref b])).length) Slot.unset).toArray = ls at hl ⊢
  have hl : lv_has ls 4 [(0, .ref b)] := hl
  refine sg_new hx hb hts hown hK hA kN_9_7 hP hD hS (by decide +kernel) (by decide +kernel) d_law_0 (fun q1 H hP hD hS => ?_)
  refine lv_dup hx hb d_law_3 rfl ?_
  refine sg_call hx hb hml hown hts hN hK hZ hA con_X7 kL_9_9 (X := []) hP hD hS hl.1 (Nat.le_of_ble_eq_true rfl) (by decide +kernel) (by decide +kernel) d_law_4 (fun u1 H locs hpo hP hD hS => ?_)
  obtain ⟨ad1, f, had1, hf, rfl⟩ := hpo
  have hP : va_P D vwCl (mzW (D, dA, ad1, 39, tr) (mC (I0 f) (fun _ _ => 0) false)) H := hP
  have hD : va_D (fun q : Nat => s.heap.size ≤ q) (mzW (D, dA, ad1, 39, tr) (mC (I0 f) (fun _ _ => 0) false)) := hD
  refine lv_astore_n (lv' := [(1, .ref q1), (0, .ref b)]) hx hb d_law_7 rfl hl (by decide) rfl (fun ls hl => ?_)
  refine sg_new hx hb hts hown hK hA kN_9_10 hP hD hS (by decide +kernel) (by decide +kernel) d_law_8 (fun q2 H hP hD hS => ?_)
  refine lv_dup hx hb d_law_11 rfl ?_
  refine sg_call hx hb hml hown hts hN hK hZ hA con_X8 kL_9_12 hP hD hS hl.1 (Nat.le_of_ble_eq_true rfl) (by decide +kernel) (by decide +kernel) d_law_12 (fun u2 H locs hpo hP hD hS => ?_)
  obtain ⟨ad2, had2, rfl⟩ := hpo
  have hP : va_P D vwCl (mzW (D, dA, ad1, 39, tr) (mC (I0 f) (fun _ _ => 0) false) ++ mzW (D, dA, ad2, 24, tr) (mR (fun _ _ => 0) (fun _ _ => 0))) H := hP
  have hD : va_D (fun q : Nat => s.heap.size ≤ q) (mzW (D, dA, ad1, 39, tr) (mC (I0 f) (fun _ _ => 0) false) ++ mzW (D, dA, ad2, 24, tr) (mR (fun _ _ => 0) (fun _ _ => 0))) := hD
  refine lv_astore_n (lv' := [(2, .ref q2), (1, .ref q1), (0, .ref b)]) hx hb d_law_15 rfl hl (by decide) rfl (fun ls hl => ?_)
  refine lv_iconst (v := nI 0) hx hb d_law_16 rfl ?_
  refine lv_istore_n (lv' := [(3, .int (nI 0)), (2, .ref q2), (1, .ref q1), (0, .ref b)]) hx hb d_law_17 rfl hl (by decide) rfl (fun ls hl => ?_)
  have hl : lv_has ls 4 [(0, .ref b), (1, .ref q1), (2, .ref q2), (3, .int (nI 0))] := lv_sub hl [3, 2, 1, 0] rfl
  refine va_forget (fun q hq => hS.2.2 q hq) ?_
  have hP1 := sp_l hP
  have hP2 := sp_r hP
  have hD1 := sp_dl hD
  have hD2 := sp_dr hD
  have hZw : ∀ w : mzD, w.2.2.2.2 = tr → (∀ q, mzA w q → s.heap.size ≤ q) → mzZ w s := by
    intro w hw h
    subst hw
    exact ⟨hZ.1.1.narrow h, hZ.1.2.narrow h⟩
  have hw1 : lwW (D, dA, ad1, 39, tr) s := ⟨hK, sp_inj hD1, hZw _ rfl (sp_in hD1), sp_in hD1⟩
  have hw2 : lwW (D, dA, ad2, 24, tr) s := ⟨hK, sp_inj hD2, hZw _ rfl (sp_in hD2), sp_in hD2⟩
  have hap := sp_ap hD
  have hlw : lwS (D, dA, ad1, 39, tr) (D, dA, ad2, 24, tr) s (mC (I0 f) (fun _ _ => 0) false) (mR (fun _ _ => 0) (fun _ _ => 0)) H := ⟨hP1, hP2, shC_N, shR_N, hS.1, fun q hq => hS.2.1 q hq (Nat.not_le.mpr hq), sp_lt hP1, sp_lt hP2⟩
  have hll : lv_has ls 4 [(0, .ref b), (1, .ref (ad1 0)), (2, .ref (ad2 0)), (3, .int (nI 0))] := by rw [had1, had2]; exact hl
  exact lw_loop hL C1 hN hw1 hw2 hap (by decide +kernel) (L + 1) 0 (by omega) (by omega) _ _ H (rel_0 hf) hlw ls hll
