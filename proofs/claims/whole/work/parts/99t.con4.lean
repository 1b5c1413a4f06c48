/-! constructors: of the small classes, of the reference -/
theorem ho2 : Jvm.Cond.instanceMethod objectInit ∈ mzT := mzT_at 92 (by decide +kernel) rfl
theorem ho3 : Jvm.Cond.code objectInit ⟨#[0xb1]⟩ 1 none ∈ mzT := mzT_at 93 (by decide +kernel) rfl
theorem harr_0 : Cond.arrayClass (newarray.typeOf (sgt 0)) ∈ mzT := mzT_at 113 (by decide +kernel) rfl
theorem harr_1 : Cond.arrayClass (newarray.typeOf (sgt 1)) ∈ mzT := mzT_at 150 (by decide +kernel) rfl
theorem harr_2 : Cond.arrayClass (newarray.typeOf (sgt 2)) ∈ mzT := mzT_at 879 (by decide +kernel) rfl
theorem kF_0_9 : sgF 0 RX0 9 0 true sgR := ⟨TX0, 4, tyX0, rfl, by decide, inX0, mzT_at 249 (by decide +kernel) rfl, tyX0_ok, nmX0, rfl, rfl, fun _ => ⟨rfl, rfl⟩⟩
theorem kF_0_15 : sgF 0 RX0 15 1 true sgR := ⟨TX0, 4, tyX0, rfl, by decide, inX0, mzT_at 251 (by decide +kernel) rfl, tyX0_ok, nmX0, rfl, rfl, fun _ => ⟨rfl, rfl⟩⟩
theorem kF_0_18 : sgF 0 RX0 18 2 true sgR := ⟨TX0, 4, tyX0, rfl, by decide, inX0, mzT_at 253 (by decide +kernel) rfl, tyX0_ok, nmX0, rfl, rfl, fun _ => ⟨rfl, rfl⟩⟩
theorem hcd_0 : Jvm.Cond.code yX0_init cX0_init 1 none ∈ mzT := mzT_at 247 (by decide +kernel) rfl
theorem hob_0 : Jvm.Cond.methodLink RX0 3 objectInit ∈ mzT := mzT_at 248 (by decide +kernel) rfl
set_option maxRecDepth 20000 in
set_option maxHeartbeats 4000000 in
theorem con_X0 : mzCon (yX0_init, cX0_init, 1, 1, 3, 432, 12) [] (.inr (0, [.null, .null, .null, .int 0])) (fun dA h0 w1 => ∃ q1 q2 q3 : Nat, w1 = (h0, .inr (0, [.ref q1, .ref q2, .ref q3, .int 0])) :: [sgA dA 0 q1 144, sgA dA 0 q2 144, sgA dA 0 q3 144]) := by
  refine con_of (C := RX0) (idx := 3) hcd_0 (by decide) (by decide) rfl rfl hob_0 ho2 ho3 (by decide +kernel) (Nat.le_of_ble_eq_true rfl) (Nat.le_of_ble_eq_true rfl) (fun _ => (Nat.le_of_ble_eq_true rfl)) ?_
  intro p l e s m h0 below meth c D dA tr ls Q hx hb hml hown hts hN hin hK hZ hP hD hl fin
  have hA : ∀ q, s.heap.size ≤ q → va_A [(h0, .inr (0, [.null, .null, .null, .int 0]))] s.heap.size q := fun q h => Or.inr h
  have hl0 : ls[0]? = some (.val (.ref h0)) := hl.2.2 (0, .ref h0) (List.mem_cons_self ..)
  have hS : va_S (va_A [(h0, .inr (0, [.null, .null, .null, .int 0]))] s.heap.size) s.heap s.heap [] := va_S.rf
  refine sg_arr (pc := 4) hx hb hts hown hin hK hA kF_0_9 hl0 0 144 (ins := .sipush 144) (pl := 3) (n := nI 144) rfl (by decide +kernel) (by decide +kernel) (by decide +kernel) harr_0 (by decide +kernel) (by decide +kernel) (by decide +kernel) (Nat.le_of_ble_eq_true rfl) hP hD hS (fun q1 H locs hP hD hS => ?_)
  have hP : va_P D vwCl ((h0, .inr (0, [.ref q1, .null, .null, .int 0])) :: [sgA dA 0 q1 144]) H := hP
  have hD : va_D _ ((h0, .inr (0, [.ref q1, .null, .null, .int 0])) :: [sgA dA 0 q1 144]) := hD
  refine sg_arr (pc := 13) hx hb hts hown hin hK hA kF_0_15 hl0 0 144 (ins := .sipush 144) (pl := 3) (n := nI 144) rfl (by decide +kernel) (by decide +kernel) (by decide +kernel) harr_0 (by decide +kernel) (by decide +kernel) (by decide +kernel) (Nat.le_of_ble_eq_true rfl) hP hD hS (fun q2 H locs hP hD hS => ?_)
  have hP : va_P D vwCl ((h0, .inr (0, [.ref q1, .ref q2, .null, .int 0])) :: [sgA dA 0 q1 144, sgA dA 0 q2 144]) H := hP
  have hD : va_D _ ((h0, .inr (0, [.ref q1, .ref q2, .null, .int 0])) :: [sgA dA 0 q1 144, sgA dA 0 q2 144]) := hD
  refine sg_arr (pc := 22) hx hb hts hown hin hK hA kF_0_18 hl0 0 144 (ins := .sipush 144) (pl := 3) (n := nI 144) rfl (by decide +kernel) (by decide +kernel) (by decide +kernel) harr_0 (by decide +kernel) (by decide +kernel) (by decide +kernel) (Nat.le_of_ble_eq_true rfl) hP hD hS (fun q3 H locs hP hD hS => ?_)
  have hP : va_P D vwCl ((h0, .inr (0, [.ref q1, .ref q2, .ref q3, .int 0])) :: [sgA dA 0 q1 144, sgA dA 0 q2 144, sgA dA 0 q3 144]) H := hP
  have hD : va_D _ ((h0, .inr (0, [.ref q1, .ref q2, .ref q3, .int 0])) :: [sgA dA 0 q1 144, sgA dA 0 q2 144, sgA dA 0 q3 144]) := hD
  exact fin ((h0, .inr (0, [.ref q1, .ref q2, .ref q3, .int 0])) :: [sgA dA 0 q1 144, sgA dA 0 q2 144, sgA dA 0 q3 144]) _ _ 31 ls ⟨q1, q2, q3, rfl⟩ hP hD hS (by decide +kernel)
theorem kF_1_9 : sgF 1 RX1 9 0 true sgR := ⟨TX1, 9, tyX1, rfl, by decide, inX1, mzT_at 120 (by decide +kernel) rfl, tyX1_ok, nmX1, rfl, rfl, fun _ => ⟨rfl, rfl⟩⟩
theorem kF_1_15 : sgF 1 RX1 15 1 true sgR := ⟨TX1, 9, tyX1, rfl, by decide, inX1, mzT_at 121 (by decide +kernel) rfl, tyX1_ok, nmX1, rfl, rfl, fun _ => ⟨rfl, rfl⟩⟩
theorem kF_1_18 : sgF 1 RX1 18 4 false sgI := ⟨TX1, 9, tyX1, rfl, by decide, inX1, mzT_at 125 (by decide +kernel) rfl, tyX1_ok, nmX1, rfl, rfl, fun _ => ⟨rfl, rfl⟩⟩
theorem hcd_1 : Jvm.Cond.code yX1_init cX1_init 1 none ∈ mzT := mzT_at 118 (by decide +kernel) rfl
theorem hob_1 : Jvm.Cond.methodLink RX1 3 objectInit ∈ mzT := mzT_at 119 (by decide +kernel) rfl
set_option maxRecDepth 20000 in
set_option maxHeartbeats 4000000 in
theorem con_X1 : mzCon (yX1_init, cX1_init, 1, 1, 2, 200, 12) [] (.inr (1, [.null, .null, .int 0, .int 0, .int 0, .long 0, .long 0, .long 0, .long 0])) (fun dA h0 w1 => ∃ q1 q2 : Nat, w1 = (h0, .inr (1, [.ref q1, .ref q2, .int 0, .int 0, .int (-1), .long 0, .long 0, .long 0, .long 0])) :: [sgA dA 1 q1 100, sgA dA 1 q2 100]) := by
  refine con_of (C := RX1) (idx := 3) hcd_1 (by decide) (by decide) rfl rfl hob_1 ho2 ho3 (by decide +kernel) (Nat.le_of_ble_eq_true rfl) (Nat.le_of_ble_eq_true rfl) (fun _ => (Nat.le_of_ble_eq_true rfl)) ?_
  intro p l e s m h0 below meth c D dA tr ls Q hx hb hml hown hts hN hin hK hZ hP hD hl fin
  have hA : ∀ q, s.heap.size ≤ q → va_A [(h0, .inr (1, [.null, .null, .int 0, .int 0, .int 0, .long 0, .long 0, .long 0, .long 0]))] s.heap.size q := fun q h => Or.inr h
  have hl0 : ls[0]? = some (.val (.ref h0)) := hl.2.2 (0, .ref h0) (List.mem_cons_self ..)
  have hS : va_S (va_A [(h0, .inr (1, [.null, .null, .int 0, .int 0, .int 0, .long 0, .long 0, .long 0, .long 0]))] s.heap.size) s.heap s.heap [] := va_S.rf
  refine sg_arr (pc := 4) hx hb hts hown hin hK hA kF_1_9 hl0 1 100 (ins := .bipush 100) (pl := 2) (n := nI 100) rfl (by decide +kernel) (by decide +kernel) (by decide +kernel) harr_1 (by decide +kernel) (by decide +kernel) (by decide +kernel) (Nat.le_of_ble_eq_true rfl) hP hD hS (fun q1 H locs hP hD hS => ?_)
  have hP : va_P D vwCl ((h0, .inr (1, [.ref q1, .null, .int 0, .int 0, .int 0, .long 0, .long 0, .long 0, .long 0])) :: [sgA dA 1 q1 100]) H := hP
  have hD : va_D _ ((h0, .inr (1, [.ref q1, .null, .int 0, .int 0, .int 0, .long 0, .long 0, .long 0, .long 0])) :: [sgA dA 1 q1 100]) := hD
  refine sg_arr (pc := 12) hx hb hts hown hin hK hA kF_1_15 hl0 1 100 (ins := .bipush 100) (pl := 2) (n := nI 100) rfl (by decide +kernel) (by decide +kernel) (by decide +kernel) harr_1 (by decide +kernel) (by decide +kernel) (by decide +kernel) (Nat.le_of_ble_eq_true rfl) hP hD hS (fun q2 H locs hP hD hS => ?_)
  have hP : va_P D vwCl ((h0, .inr (1, [.ref q1, .ref q2, .int 0, .int 0, .int 0, .long 0, .long 0, .long 0, .long 0])) :: [sgA dA 1 q1 100, sgA dA 1 q2 100]) H := hP
  have hD : va_D _ ((h0, .inr (1, [.ref q1, .ref q2, .int 0, .int 0, .int 0, .long 0, .long 0, .long 0, .long 0])) :: [sgA dA 1 q1 100, sgA dA 1 q2 100]) := hD
  refine sg_int (pc := 20) hx hb hts hown hin hK kF_1_18 hl0 (ins := .iconst (-1)) (pl := 1) (n := (-1)) rfl (by decide +kernel) (Nat.le_of_ble_eq_true rfl) hP hD hS (fun H locs hP hD hS => ?_)
  have hP : va_P D vwCl ((h0, .inr (1, [.ref q1, .ref q2, .int 0, .int 0, .int (-1), .long 0, .long 0, .long 0, .long 0])) :: [sgA dA 1 q1 100, sgA dA 1 q2 100]) H := hP
  have hD : va_D _ ((h0, .inr (1, [.ref q1, .ref q2, .int 0, .int 0, .int (-1), .long 0, .long 0, .long 0, .long 0])) :: [sgA dA 1 q1 100, sgA dA 1 q2 100]) := hD
  exact fin ((h0, .inr (1, [.ref q1, .ref q2, .int 0, .int 0, .int (-1), .long 0, .long 0, .long 0, .long 0])) :: [sgA dA 1 q1 100, sgA dA 1 q2 100]) _ _ 25 ls ⟨q1, q2, rfl⟩ hP hD hS (by decide +kernel)
theorem kF_2_9 : sgF 2 RX2 9 0 true sgR := ⟨TX2, 4, tyX2, rfl, by decide, inX2, mzT_at 184 (by decide +kernel) rfl, tyX2_ok, nmX2, rfl, rfl, fun _ => ⟨rfl, rfl⟩⟩
theorem kF_2_15 : sgF 2 RX2 15 1 true sgR := ⟨TX2, 4, tyX2, rfl, by decide, inX2, mzT_at 185 (by decide +kernel) rfl, tyX2_ok, nmX2, rfl, rfl, fun _ => ⟨rfl, rfl⟩⟩
theorem kF_2_18 : sgF 2 RX2 18 2 true sgR := ⟨TX2, 4, tyX2, rfl, by decide, inX2, mzT_at 186 (by decide +kernel) rfl, tyX2_ok, nmX2, rfl, rfl, fun _ => ⟨rfl, rfl⟩⟩
theorem hcd_2 : Jvm.Cond.code yX2_init cX2_init 1 none ∈ mzT := mzT_at 182 (by decide +kernel) rfl
theorem hob_2 : Jvm.Cond.methodLink RX2 3 objectInit ∈ mzT := mzT_at 183 (by decide +kernel) rfl
set_option maxRecDepth 20000 in
set_option maxHeartbeats 4000000 in
theorem con_X2 : mzCon (yX2_init, cX2_init, 1, 1, 3, 24, 12) [] (.inr (2, [.null, .null, .null, .int 0])) (fun dA h0 w1 => ∃ q1 q2 q3 : Nat, w1 = (h0, .inr (2, [.ref q1, .ref q2, .ref q3, .int 0])) :: [sgA dA 0 q1 8, sgA dA 0 q2 8, sgA dA 0 q3 8]) := by
  refine con_of (C := RX2) (idx := 3) hcd_2 (by decide) (by decide) rfl rfl hob_2 ho2 ho3 (by decide +kernel) (Nat.le_of_ble_eq_true rfl) (Nat.le_of_ble_eq_true rfl) (fun _ => (Nat.le_of_ble_eq_true rfl)) ?_
  intro p l e s m h0 below meth c D dA tr ls Q hx hb hml hown hts hN hin hK hZ hP hD hl fin
  have hA : ∀ q, s.heap.size ≤ q → va_A [(h0, .inr (2, [.null, .null, .null, .int 0]))] s.heap.size q := fun q h => Or.inr h
  have hl0 : ls[0]? = some (.val (.ref h0)) := hl.2.2 (0, .ref h0) (List.mem_cons_self ..)
  have hS : va_S (va_A [(h0, .inr (2, [.null, .null, .null, .int 0]))] s.heap.size) s.heap s.heap [] := va_S.rf
  refine sg_arr (pc := 4) hx hb hts hown hin hK hA kF_2_9 hl0 0 8 (ins := .bipush 8) (pl := 2) (n := nI 8) rfl (by decide +kernel) (by decide +kernel) (by decide +kernel) harr_0 (by decide +kernel) (by decide +kernel) (by decide +kernel) (Nat.le_of_ble_eq_true rfl) hP hD hS (fun q1 H locs hP hD hS => ?_)
  have hP : va_P D vwCl ((h0, .inr (2, [.ref q1, .null, .null, .int 0])) :: [sgA dA 0 q1 8]) H := hP
  have hD : va_D _ ((h0, .inr (2, [.ref q1, .null, .null, .int 0])) :: [sgA dA 0 q1 8]) := hD
  refine sg_arr (pc := 12) hx hb hts hown hin hK hA kF_2_15 hl0 0 8 (ins := .bipush 8) (pl := 2) (n := nI 8) rfl (by decide +kernel) (by decide +kernel) (by decide +kernel) harr_0 (by decide +kernel) (by decide +kernel) (by decide +kernel) (Nat.le_of_ble_eq_true rfl) hP hD hS (fun q2 H locs hP hD hS => ?_)
  have hP : va_P D vwCl ((h0, .inr (2, [.ref q1, .ref q2, .null, .int 0])) :: [sgA dA 0 q1 8, sgA dA 0 q2 8]) H := hP
  have hD : va_D _ ((h0, .inr (2, [.ref q1, .ref q2, .null, .int 0])) :: [sgA dA 0 q1 8, sgA dA 0 q2 8]) := hD
  refine sg_arr (pc := 20) hx hb hts hown hin hK hA kF_2_18 hl0 0 8 (ins := .bipush 8) (pl := 2) (n := nI 8) rfl (by decide +kernel) (by decide +kernel) (by decide +kernel) harr_0 (by decide +kernel) (by decide +kernel) (by decide +kernel) (Nat.le_of_ble_eq_true rfl) hP hD hS (fun q3 H locs hP hD hS => ?_)
  have hP : va_P D vwCl ((h0, .inr (2, [.ref q1, .ref q2, .ref q3, .int 0])) :: [sgA dA 0 q1 8, sgA dA 0 q2 8, sgA dA 0 q3 8]) H := hP
  have hD : va_D _ ((h0, .inr (2, [.ref q1, .ref q2, .ref q3, .int 0])) :: [sgA dA 0 q1 8, sgA dA 0 q2 8, sgA dA 0 q3 8]) := hD
  exact fin ((h0, .inr (2, [.ref q1, .ref q2, .ref q3, .int 0])) :: [sgA dA 0 q1 8, sgA dA 0 q2 8, sgA dA 0 q3 8]) _ _ 28 ls ⟨q1, q2, q3, rfl⟩ hP hD hS (by decide +kernel)
theorem kF_3_9 : sgF 3 RX3 9 0 true sgR := ⟨TX3, 3, tyX3, rfl, by decide, inX3, mzT_at 230 (by decide +kernel) rfl, tyX3_ok, nmX3, rfl, rfl, fun _ => ⟨rfl, rfl⟩⟩
theorem kF_3_15 : sgF 3 RX3 15 1 false sgI := ⟨TX3, 3, tyX3, rfl, by decide, inX3, mzT_at 232 (by decide +kernel) rfl, tyX3_ok, nmX3, rfl, rfl, fun _ => ⟨rfl, rfl⟩⟩
theorem hcd_3 : Jvm.Cond.code yX3_init cX3_init 1 none ∈ mzT := mzT_at 228 (by decide +kernel) rfl
theorem hob_3 : Jvm.Cond.methodLink RX3 3 objectInit ∈ mzT := mzT_at 229 (by decide +kernel) rfl
set_option maxRecDepth 20000 in
set_option maxHeartbeats 4000000 in
theorem con_X3 : mzCon (yX3_init, cX3_init, 1, 1, 1, 60, 12) [] (.inr (3, [.null, .int 0, .int 0])) (fun dA h0 w1 => ∃ q1 : Nat, w1 = (h0, .inr (3, [.ref q1, .int (-1), .int 0])) :: [sgA dA 0 q1 60]) := by
  refine con_of (C := RX3) (idx := 3) hcd_3 (by decide) (by decide) rfl rfl hob_3 ho2 ho3 (by decide +kernel) (Nat.le_of_ble_eq_true rfl) (Nat.le_of_ble_eq_true rfl) (fun _ => (Nat.le_of_ble_eq_true rfl)) ?_
  intro p l e s m h0 below meth c D dA tr ls Q hx hb hml hown hts hN hin hK hZ hP hD hl fin
  have hA : ∀ q, s.heap.size ≤ q → va_A [(h0, .inr (3, [.null, .int 0, .int 0]))] s.heap.size q := fun q h => Or.inr h
  have hl0 : ls[0]? = some (.val (.ref h0)) := hl.2.2 (0, .ref h0) (List.mem_cons_self ..)
  have hS : va_S (va_A [(h0, .inr (3, [.null, .int 0, .int 0]))] s.heap.size) s.heap s.heap [] := va_S.rf
  refine sg_arr (pc := 4) hx hb hts hown hin hK hA kF_3_9 hl0 0 60 (ins := .bipush 60) (pl := 2) (n := nI 60) rfl (by decide +kernel) (by decide +kernel) (by decide +kernel) harr_0 (by decide +kernel) (by decide +kernel) (by decide +kernel) (Nat.le_of_ble_eq_true rfl) hP hD hS (fun q1 H locs hP hD hS => ?_)
  have hP : va_P D vwCl ((h0, .inr (3, [.ref q1, .int 0, .int 0])) :: [sgA dA 0 q1 60]) H := hP
  have hD : va_D _ ((h0, .inr (3, [.ref q1, .int 0, .int 0])) :: [sgA dA 0 q1 60]) := hD
  refine sg_int (pc := 12) hx hb hts hown hin hK kF_3_15 hl0 (ins := .iconst (-1)) (pl := 1) (n := (-1)) rfl (by decide +kernel) (Nat.le_of_ble_eq_true rfl) hP hD hS (fun H locs hP hD hS => ?_)
  have hP : va_P D vwCl ((h0, .inr (3, [.ref q1, .int (-1), .int 0])) :: [sgA dA 0 q1 60]) H := hP
  have hD : va_D _ ((h0, .inr (3, [.ref q1, .int (-1), .int 0])) :: [sgA dA 0 q1 60]) := hD
  exact fin ((h0, .inr (3, [.ref q1, .int (-1), .int 0])) :: [sgA dA 0 q1 60]) _ _ 17 ls ⟨q1, rfl⟩ hP hD hS (by decide +kernel)
theorem kF_6_9 : sgF 6 RX6 9 0 true sgR := ⟨TX6, 5, tyX6, rfl, by decide, inX6, mzT_at 157 (by decide +kernel) rfl, tyX6_ok, nmX6, rfl, rfl, fun _ => ⟨rfl, rfl⟩⟩
theorem kF_6_15 : sgF 6 RX6 15 1 true sgR := ⟨TX6, 5, tyX6, rfl, by decide, inX6, mzT_at 159 (by decide +kernel) rfl, tyX6_ok, nmX6, rfl, rfl, fun _ => ⟨rfl, rfl⟩⟩
theorem kF_6_18 : sgF 6 RX6 18 2 true sgR := ⟨TX6, 5, tyX6, rfl, by decide, inX6, mzT_at 161 (by decide +kernel) rfl, tyX6_ok, nmX6, rfl, rfl, fun _ => ⟨rfl, rfl⟩⟩
theorem kF_6_21 : sgF 6 RX6 21 4 false sgI := ⟨TX6, 5, tyX6, rfl, by decide, inX6, mzT_at 165 (by decide +kernel) rfl, tyX6_ok, nmX6, rfl, rfl, fun _ => ⟨rfl, rfl⟩⟩
theorem hcd_6 : Jvm.Cond.code yX6_init cX6_init 1 none ∈ mzT := mzT_at 155 (by decide +kernel) rfl
theorem hob_6 : Jvm.Cond.methodLink RX6 3 objectInit ∈ mzT := mzT_at 156 (by decide +kernel) rfl
set_option maxRecDepth 20000 in
set_option maxHeartbeats 4000000 in
theorem con_X6 : mzCon (yX6_init, cX6_init, 1, 1, 3, 24, 12) [] (.inr (6, [.null, .null, .null, .int 0, .int 0])) (fun dA h0 w1 => ∃ q1 q2 q3 : Nat, w1 = (h0, .inr (6, [.ref q1, .ref q2, .ref q3, .int 0, .int (-1)])) :: [sgA dA 0 q1 8, sgA dA 0 q2 8, sgA dA 0 q3 8]) := by
  refine con_of (C := RX6) (idx := 3) hcd_6 (by decide) (by decide) rfl rfl hob_6 ho2 ho3 (by decide +kernel) (Nat.le_of_ble_eq_true rfl) (Nat.le_of_ble_eq_true rfl) (fun _ => (Nat.le_of_ble_eq_true rfl)) ?_
  intro p l e s m h0 below meth c D dA tr ls Q hx hb hml hown hts hN hin hK hZ hP hD hl fin
  have hA : ∀ q, s.heap.size ≤ q → va_A [(h0, .inr (6, [.null, .null, .null, .int 0, .int 0]))] s.heap.size q := fun q h => Or.inr h
  have hl0 : ls[0]? = some (.val (.ref h0)) := hl.2.2 (0, .ref h0) (List.mem_cons_self ..)
  have hS : va_S (va_A [(h0, .inr (6, [.null, .null, .null, .int 0, .int 0]))] s.heap.size) s.heap s.heap [] := va_S.rf
  refine sg_arr (pc := 4) hx hb hts hown hin hK hA kF_6_9 hl0 0 8 (ins := .bipush 8) (pl := 2) (n := nI 8) rfl (by decide +kernel) (by decide +kernel) (by decide +kernel) harr_0 (by decide +kernel) (by decide +kernel) (by decide +kernel) (Nat.le_of_ble_eq_true rfl) hP hD hS (fun q1 H locs hP hD hS => ?_)
  have hP : va_P D vwCl ((h0, .inr (6, [.ref q1, .null, .null, .int 0, .int 0])) :: [sgA dA 0 q1 8]) H := hP
  have hD : va_D _ ((h0, .inr (6, [.ref q1, .null, .null, .int 0, .int 0])) :: [sgA dA 0 q1 8]) := hD
  refine sg_arr (pc := 12) hx hb hts hown hin hK hA kF_6_15 hl0 0 8 (ins := .bipush 8) (pl := 2) (n := nI 8) rfl (by decide +kernel) (by decide +kernel) (by decide +kernel) harr_0 (by decide +kernel) (by decide +kernel) (by decide +kernel) (Nat.le_of_ble_eq_true rfl) hP hD hS (fun q2 H locs hP hD hS => ?_)
  have hP : va_P D vwCl ((h0, .inr (6, [.ref q1, .ref q2, .null, .int 0, .int 0])) :: [sgA dA 0 q1 8, sgA dA 0 q2 8]) H := hP
  have hD : va_D _ ((h0, .inr (6, [.ref q1, .ref q2, .null, .int 0, .int 0])) :: [sgA dA 0 q1 8, sgA dA 0 q2 8]) := hD
  refine sg_arr (pc := 20) hx hb hts hown hin hK hA kF_6_18 hl0 0 8 (ins := .bipush 8) (pl := 2) (n := nI 8) rfl (by decide +kernel) (by decide +kernel) (by decide +kernel) harr_0 (by decide +kernel) (by decide +kernel) (by decide +kernel) (Nat.le_of_ble_eq_true rfl) hP hD hS (fun q3 H locs hP hD hS => ?_)
  have hP : va_P D vwCl ((h0, .inr (6, [.ref q1, .ref q2, .ref q3, .int 0, .int 0])) :: [sgA dA 0 q1 8, sgA dA 0 q2 8, sgA dA 0 q3 8]) H := hP
  have hD : va_D _ ((h0, .inr (6, [.ref q1, .ref q2, .ref q3, .int 0, .int 0])) :: [sgA dA 0 q1 8, sgA dA 0 q2 8, sgA dA 0 q3 8]) := hD
  refine sg_int (pc := 28) hx hb hts hown hin hK kF_6_21 hl0 (ins := .iconst (-1)) (pl := 1) (n := (-1)) rfl (by decide +kernel) (Nat.le_of_ble_eq_true rfl) hP hD hS (fun H locs hP hD hS => ?_)
  have hP : va_P D vwCl ((h0, .inr (6, [.ref q1, .ref q2, .ref q3, .int 0, .int (-1)])) :: [sgA dA 0 q1 8, sgA dA 0 q2 8, sgA dA 0 q3 8]) H := hP
  have hD : va_D _ ((h0, .inr (6, [.ref q1, .ref q2, .ref q3, .int 0, .int (-1)])) :: [sgA dA 0 q1 8, sgA dA 0 q2 8, sgA dA 0 q3 8]) := hD
  exact fin ((h0, .inr (6, [.ref q1, .ref q2, .ref q3, .int 0, .int (-1)])) :: [sgA dA 0 q1 8, sgA dA 0 q2 8, sgA dA 0 q3 8]) _ _ 33 ls ⟨q1, q2, q3, rfl⟩ hP hD hS (by decide +kernel)
theorem hcd_5 : Jvm.Cond.code yX5_init cX5_init 2 none ∈ mzT := mzT_at 98 (by decide +kernel) rfl
theorem hob_5 : Jvm.Cond.methodLink RX5 3 objectInit ∈ mzT := mzT_at 99 (by decide +kernel) rfl
theorem kF_5_15 : sgF 5 RX5 15 0 true sgR := ⟨TX5, 2, tyX5, rfl, by decide, inX5, mzT_at 103 (by decide +kernel) rfl, tyX5_ok, nmX5, rfl, rfl, fun _ => ⟨rfl, rfl⟩⟩
theorem kF_5_21 : sgF 5 RX5 21 1 false sgI := ⟨TX5, 2, tyX5, rfl, by decide, inX5, mzT_at 104 (by decide +kernel) rfl, tyX5_ok, nmX5, rfl, rfl, fun _ => ⟨rfl, rfl⟩⟩
theorem lkX_5_9c : mzLkX yJ9_max_7cf53 cJ9_max_7cf53 5 9 := ⟨mzT_at 100 (by decide +kernel) rfl, mzT_at 101 (by decide +kernel) rfl, mzT_at 74 (by decide +kernel) rfl, mzT_at 102 (by decide +kernel) rfl⟩
theorem dI_5_0 : decode cX5_init 0 = .ok (.aload_n 0, 1) := by decide +kernel
theorem dI_5_1 : decode cX5_init 1 = .ok (.invokespecial 3, 3) := by decide +kernel
theorem dI_5_4 : decode cX5_init 4 = .ok (.aload_n 0, 1) := by decide +kernel
theorem dI_5_5 : decode cX5_init 5 = .ok (.iload_n 1, 1) := by decide +kernel
theorem dI_5_6 : decode cX5_init 6 = .ok (.iconst 0, 1) := by decide +kernel
theorem dI_5_7 : decode cX5_init 7 = .ok (.invokestatic 9, 3) := by decide +kernel
theorem dI_5_10 : decode cX5_init 10 = .ok (.newarray .int, 2) := by decide +kernel
theorem dI_5_12 : decode cX5_init 12 = .ok (.putfield 15, 3) := by decide +kernel
theorem dI_5_15 : decode cX5_init 15 = .ok (.aload_n 0, 1) := by decide +kernel
theorem dI_5_16 : decode cX5_init 16 = .ok (.iconst 0, 1) := by decide +kernel
theorem dI_5_17 : decode cX5_init 17 = .ok (.putfield 21, 3) := by decide +kernel
theorem dI_5_20 : decode cX5_init 20 = .ok (.return_, 1) := by decide +kernel
set_option maxHeartbeats 4000000 in
theorem con_X5 (n : Nat) (hn : n ≤ 1000) : mzCon (yX5_init, cX5_init, 2, 1, 1, n, 14) [.int (nI n)] (.inr (5, [.null, .int 0])) (fun dA h0 w1 => ∃ q1 : Nat, w1 = (h0, .inr (5, [.ref q1, .int 0])) :: [sgA dA 0 q1 n]) := by
  refine con_of (C := RX5) (idx := 3) hcd_5 (by decide) (by decide) rfl rfl hob_5 ho2 ho3 (by decide +kernel) (Nat.le_of_ble_eq_true rfl) (Nat.le_of_ble_eq_true rfl) (fun _ => (Nat.le_of_ble_eq_true rfl)) ?_
  intro p l e s m h0 below meth c D dA tr ls Q hx hb hml hown hts hN hin hK hZ hP hD hl fin
  have hA : ∀ q, s.heap.size ≤ q → va_A [(h0, .inr (5, [.null, .int 0]))] s.heap.size q := fun q h => Or.inr h
  have hl0 : ls[0]? = some (.val (.ref h0)) := hl.2.2 (0, .ref h0) (List.mem_cons_self ..)
  have hS : va_S (va_A [(h0, .inr (5, [.null, .int 0]))] s.heap.size) s.heap s.heap [] := va_S.rf
  have hl1 : ls[1]? = some (.val (.int (nI n))) := hl.2.2 (1, .int (nI n)) (by simp [lv_args, Value.category])
  obtain ⟨l1, l2, l3, l4⟩ := lkX_5_9c
  rw [yJ9_max_eq] at l1 l2 l4
  rw [cJ9_max_eq] at l4
  refine lv_aload_n hx hb dI_5_4 rfl hl0 ?_
  refine lv_iload_n hx hb dI_5_5 rfl hl1 ?_
  refine lv_iconst (v := 0) hx hb dI_5_6 rfl ?_
  refine va_mmax hx hb (by rw [hml]; exact hl.1.symm) hown (hts _ l1) (hts _ l2) (hts _ l3) (hts _ l4) (Nat.le_refl 1) (by exact Nat.le_refl 14) (Nat.zero_le _) (Nat.zero_le _) dI_5_7 ?_
  have h0n : ¬ nI n < 0 := by rw [show (0 : Int32) = nI 0 from rfl, nu_lt (by omega) (by omega)]; omega
  rw [if_neg h0n]
  refine sg_newk hx hb 0 (hts _ harr_0) hK hP hD hS hA h0n (nu_cl (by omega)) (by omega) (Nat.le_refl 1) (by show 0 + n ≤ n; omega) dI_5_10 (fun q1 H hP hD hS => ?_)
  refine sg_put hx hb hts hown hin hK kF_5_15 (fun ty h => h q1) (T := [sgA dA 0 q1 n]) hP hD hS (Nat.le_of_ble_eq_true rfl) dI_5_12 (fun H locs hP hD hS => ?_)
  refine sg_int (pc := 15) hx hb hts hown hin hK kF_5_21 hl0 (ins := .iconst 0) (pl := 1) (n := 0) rfl (by decide +kernel) (Nat.le_of_ble_eq_true rfl) hP hD hS (fun H locs hP hD hS => ?_)
  refine W.widen (k := 1) (n := n) (Nat.le_refl _) (by omega) ?_
  exact fin _ _ _ 20 ls ⟨q1, rfl⟩ hP hD hS (by decide +kernel)
theorem hcd_4 : Jvm.Cond.code yX4_init cX4_init 1 none ∈ mzT := mzT_at 202 (by decide +kernel) rfl
theorem hob_4 : Jvm.Cond.methodLink RX4 3 objectInit ∈ mzT := mzT_at 203 (by decide +kernel) rfl
theorem kF_4_9 : sgF 4 RX4 9 0 true sgR := ⟨TX4, 3, tyX4, rfl, by decide, inX4, mzT_at 211 (by decide +kernel) rfl, tyX4_ok, nmX4, rfl, rfl, fun _ => ⟨rfl, rfl⟩⟩
theorem dI_4_0 : decode cX4_init 0 = .ok (.aload_n 0, 1) := by decide +kernel
theorem dI_4_1 : decode cX4_init 1 = .ok (.invokespecial 3, 3) := by decide +kernel
theorem dI_4_4 : decode cX4_init 4 = .ok (.aload_n 0, 1) := by decide +kernel
theorem dI_4_5 : decode cX4_init 5 = .ok (.bipush 100, 2) := by decide +kernel
theorem dI_4_7 : decode cX4_init 7 = .ok (.newarray .int, 2) := by decide +kernel
theorem dI_4_9 : decode cX4_init 9 = .ok (.putfield 9, 3) := by decide +kernel
theorem dI_4_12 : decode cX4_init 12 = .ok (.aload_n 0, 1) := by decide +kernel
theorem dI_4_13 : decode cX4_init 13 = .ok (.invokevirtual 15, 3) := by decide +kernel
theorem dI_4_16 : decode cX4_init 16 = .ok (.return_, 1) := by decide +kernel
theorem lk_clear : Jvm.Cond.methodLink RX4 15 M_X4_clear.1.1 ∈ mzT ∧ Jvm.Cond.instanceMethod M_X4_clear.1.1 ∈ mzT ∧ Jvm.Cond.selects M_X4_clear.1.1.cls M_X4_clear.1.1 M_X4_clear.1.1 ∈ mzT ∧ Jvm.Cond.initialized M_X4_clear.1.1.cls ∈ mzT := ⟨mzT_at 204 (by decide +kernel) rfl, mzT_at 206 (by decide +kernel) rfl, mzT_at 0 (by decide +kernel) rfl, mzT_at 78 (by decide +kernel) rfl⟩
def fr4 : Nat := M_X4_clear.1.2.2.2.2.1 + 1
def lo4 : Nat := 8 + (M_X4_clear.1.2.2.1 + 11) + M_X4_clear.1.2.2.2.2.2.1
set_option maxHeartbeats 4000000 in
theorem con_X4 : mzCon (yX4_init, cX4_init, 1, fr4, 1, 100, lo4) [] (.inr (4, [.null, .int 0, .int 0])) (fun dA h0 w1 => ∃ (q1 : Nat) (f : Nat → Int32), (∀ k, k < 100 → f k = -1) ∧ w1 = (h0, .inr (4, [.ref q1, .int 0, .int (-1)])) :: [(q1, .inl (dA 0, 100, .inl f))]) := by
  refine con_of (C := RX4) (idx := 3) hcd_4 (by decide) (by decide) rfl rfl hob_4 ho2 ho3 (by decide +kernel) (by decide +kernel) (by decide +kernel) (fun _ => (Nat.le_of_ble_eq_true rfl)) ?_
  intro p l e s m h0 below meth c D dA tr ls Q hx hb hml hown hts hN hin hK hZ hP hD hl fin
  have hA : ∀ q, s.heap.size ≤ q → va_A [(h0, .inr (4, [.null, .int 0, .int 0]))] s.heap.size q := fun q h => Or.inr h
  have hl0 : ls[0]? = some (.val (.ref h0)) := hl.2.2 (0, .ref h0) (List.mem_cons_self ..)
  have hS : va_S (va_A [(h0, .inr (4, [.null, .int 0, .int 0]))] s.heap.size) s.heap s.heap [] := va_S.rf
  refine sg_arr (pc := 4) hx hb hts hown hin hK hA kF_4_9 hl0 0 100 (ins := .bipush 100) (pl := 2) (n := nI 100) rfl (by decide) (by decide) (by decide) harr_0 (by decide +kernel) (Nat.le_of_ble_eq_true rfl) (Nat.le_of_ble_eq_true rfl) (Nat.le_of_ble_eq_true rfl) hP hD hS (fun q1 H locs hP hD hS => ?_)
  have hP : va_P D vwCl ((h0, .inr (4, [.ref q1, .int 0, .int 0])) :: [sgA dA 0 q1 100]) H := hP
  have hD : va_D _ ((h0, .inr (4, [.ref q1, .int 0, .int 0])) :: [sgA dA 0 q1 100]) := hD
  refine lv_aload_n hx hb dI_4_12 rfl hl0 ?_
  obtain ⟨k1, k2, k3, k4⟩ := lk_clear
  obtain ⟨ad, had⟩ : ∃ ad : Nat → Nat, ad = fun i => match i with | 0 => h0 | _ => q1 := ⟨_, rfl⟩
  have ad0 : ad 0 = h0 := congrFun had 0
  have ad1 : ad 1 = q1 := congrFun had 1
  have hmA : ∀ q, mzA (D, dA, ad, 2, tr) q → va_A [(h0, .inr (4, [.null, .int 0, .int 0]))] s.heap.size q := by
    rintro q ⟨id, hid, rfl⟩
    have hid : id < 2 := hid
    rcases (show id = 0 ∨ id = 1 by omega) with rfl | rfl
    · rw [show (D, dA, ad, 2, tr).2.2.1 0 = h0 from ad0]; exact hD.2 0 _ rfl
    · rw [show (D, dA, ad, 2, tr).2.2.1 1 = q1 from ad1]; exact hD.2 1 _ rfl
  have hI : mzInj (D, dA, ad, 2, tr) := by
    intro i j hi hj hij
    have hne : h0 ≠ q1 := fun e => absurd (hD.1 0 1 _ _ rfl rfl e) (by decide)
    have hi : i < 2 := hi
    have hj : j < 2 := hj
    have hij : ad i = ad j := hij
    rcases (show i = 0 ∨ i = 1 by omega) with rfl | rfl <;> rcases (show j = 0 ∨ j = 1 by omega) with rfl | rfl
    · rfl
    · rw [ad0, ad1] at hij; exact absurd hij hne
    · rw [ad0, ad1] at hij; exact absurd hij.symm hne
    · rfl
  have hW0 : ∀ I : Nat → Nat → Int32, mzW (D, dA, ad, 2, tr) (mS I) = [(h0, .inr (4, [.ref q1, .int (I 0 1), .int (I 0 2)])), (q1, .inl (dA 0, 100, .inl (I 1)))] := fun I => by rw [had]; rfl
  have hP0 : va_P D vwCl (mzW (D, dA, ad, 2, tr) (mS (fun _ _ => 0))) H := by rw [hW0]; exact hP
  have hZ0 : mzZq tr (mzA (D, dA, ad, 2, tr)) s H := (hZ.kept (fun a h1 h2 => hS.2.1 a h1 h2)).narrow hmA
  have hds : ∀ I : Nat → Nat → Int32, ∀ id, ((mS I).1 id).1 < 99 → id < (D, dA, ad, 2, tr).2.2.2.1 := by
    intro I id h
    match id, h with
    | 0, _ => exact (by decide : 0 < 2)
    | 1, _ => exact (by decide : 1 < 2)
    | k + 2, h => exact absurd h (show ¬ (99 < 99) from Nat.lt_irrefl 99)
  have key := sg_virt (p := p) (l := l) (e := e) (R := { frames := fr4, cells := 1, slots := 100, locals := lo4 }) (s := s) (m := m) (args := (Value.ref h0 :: []).toArray) (below := below) (meth := meth) (c := c) (Q := Q) (locs := locs) (cells := 1) (slots := 100) (ls := ls) (rest := []) (pc := 13) (as := []) (w := (D, dA, ad, 2, tr)) (M := mS (fun _ _ => 0)) (ci := 4) (K := fun v M => v = .null ∧ ∃ I', I' 0 1 = 0 ∧ I' 0 2 = -1 ∧ (∀ k, k < 100 → I' 1 k = -1) ∧ M = mS I') hx hb hml hown hts hN hK hI M_X4_clear k1 k2 k3 k4 ⟨_, _, rfl⟩ (by decide) hZ0 hP0 (hds _) rfl ⟨Nat.le_refl _, Nat.le_refl _⟩ (by decide +kernel) hl.1 (by decide) ⟨Nat.le_refl _, Nat.le_refl _⟩ dI_4_13 (c_clearS _ _ (fun I' e1 e2 e3 => ⟨rfl, I', e1, e2, e3, rfl⟩)) (fun v M' H' L hKv hrt hP' hz' hk' hL' => ?_)
  · rw [show (D, dA, ad, 2, tr).2.2.1 0 = h0 from ad0] at key
    exact key
  · obtain ⟨rfl, I', e1, e2, e3, rfl⟩ := hKv
    rw [hW0, e1, e2] at hP'
    refine fin _ H' (locs ++ L) 16 ls ⟨q1, I' 1, e3, rfl⟩ hP' (va_D_ad (ws := (h0, .inr (4, [.ref q1, .int 0, .int 0])) :: [sgA dA 0 q1 100]) rfl hD) ⟨Nat.le_trans hS.1 hz', fun q h1 h2 => ?_, fun q hq => ?_⟩ (by decide +kernel)
    · rw [hk' q (Nat.lt_of_lt_of_le h1 hS.1) (fun z => h2 (hmA q z))]; exact hS.2.1 q h1 h2
    · rcases List.mem_append.mp hq with h | h
      · exact hS.2.2 q h
      · exact hmA _ (hL' q h)
