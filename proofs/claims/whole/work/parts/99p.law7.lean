/-! the law: its switch and its loop -/
theorem d_law_33 : decode code 33 = .ok (.tableswitch 1412 0 34 #[155, 188, 211, 234, 257, 290, 333, 376, 399, 422, 455, 498, 531, 564, 587, 620, 663, 716, 749, 792, 835, 888, 921, 934, 967, 1000, 1064, 1117, 1160, 1183, 1236, 1279, 1342, 1375, 1398], 155) := by decide +kernel
theorem d_law_18 : decode code 18 = .ok (.iload_n 3, 1) := by decide +kernel
theorem d_law_19 : decode code 19 = .ok (.aload_n 0, 1) := by decide +kernel
theorem d_law_20 : decode code 20 = .ok (.arraylength, 1) := by decide +kernel
theorem d_law_21 : decode code 21 = .ok (.bipush 6, 2) := by decide +kernel
theorem d_law_23 : decode code 23 = .ok (.isub, 1) := by decide +kernel
theorem d_law_24 : decode code 24 = .ok (.if_icmp .gt 1427, 3) := by decide +kernel
theorem d_law_27 : decode code 27 = .ok (.aload_n 0, 1) := by decide +kernel
theorem d_law_28 : decode code 28 = .ok (.iload_n 3, 1) := by decide +kernel
theorem d_law_29 : decode code 29 = .ok (.iaload, 1) := by decide +kernel
theorem d_law_30 : decode code 30 = .ok (.bipush 63, 2) := by decide +kernel
theorem d_law_32 : decode code 32 = .ok (.iand, 1) := by decide +kernel
theorem d_law_1445 : decode code 1445 = .ok (.iinc 3 6, 3) := by decide +kernel
theorem d_law_1448 : decode code 1448 = .ok (.goto (-1430), 3) := by decide +kernel
theorem d_law_1451 : decode code 1451 = .ok (.iconst 1, 1) := by decide +kernel
theorem d_law_1452 : decode code 1452 = .ok (.ireturn, 1) := by decide +kernel
theorem mzT_of {P : Cond → Prop} (h : ∀ w ∈ lw_tbl, P w) : ∀ w ∈ mzT, P w := fun w hw => h w (List.mem_filter.mp hw).1
theorem rel_k1 {M1 M2 : mzM} (h : rel M1 M2) : (M1.1 0).1 = 7 + 4 := by
  obtain ⟨_, _, _, _, _, _, _, _, _, rfl, rfl, _⟩ := h
  rfl
theorem rel_k2 {M1 M2 : mzM} (h : rel M1 M2) : (M2.1 0).1 = 8 + 4 := by
  obtain ⟨_, _, _, _, _, _, _, _, _, rfl, rfl, _⟩ := h
  rfl
set_option maxHeartbeats 4000000 in
theorem lw_sw {p : Program} {l : Launch} {e : Env} {s : State} {m : MethodId} {below : List Frame} {meth : Method} {c : Code} {b L : Nat} {xs : Nat → Int32} (hL : L ≤ 384) (C0 : lw_At p s m meth c b L xs) (hN : ∀ x ∈ mzN, va_Nw x s) {w1 w2 : mzD} (hw1 : lwW w1 s) (hw2 : lwW w2 s) (hap : ∀ q, mzA w1 q → ¬ mzA w2 q) {cells slots : Nat} (hcs : cells ≤ 600000 ∧ slots ≤ 7302249) {Q : State → Prop} {M1 M2 : mzM} {H : Heap} (hrel : rel M1 M2) (hS : lwS w1 w2 s M1 M2 H) {ls : Array Slot} (hsz : ls.size = 4) {i : Nat} (hl0 : ls[0]? = some (.val (.ref b))) (hl1 : ls[1]? = some (.val (.ref (w1.2.2.1 0)))) (hl2 : ls[2]? = some (.val (.ref (w2.2.2.1 0)))) (hl3 : ls[3]? = some (.val (.int (nI i)))) (hi : i + 5 < L) (z : Int32)
    (g : ∀ N1 N2 H', rel N1 N2 → lwS w1 w2 s N1 N2 H' → W p l e room_1 s m #[Value.ref b] below meth c H' [] cells slots Q (F0 m 1445 ls [])) : W p l e room_1 s m #[Value.ref b] below meth c H [] cells slots Q (F0 m 33 ls [.int z]) := by
  obtain ⟨hx, hb, hr, hml, hown, hts, hX, hbl, hlocks, hgv⟩ := C0
  have hts := mzT_of hts
  have hk1 := rel_k1 hrel
  have hk2 := rel_k2 hrel
  by_cases hz : z.toInt < 0 ∨ 34 < z.toInt
  · exact lv_tableOut (tgt := 1445) hx hb d_law_33 hz (by decide) (g M1 M2 H hrel hS)
  · obtain ⟨k, hk⟩ : ∃ k : Nat, z.toInt = (k : Int) := ⟨z.toInt.toNat, by omega⟩
    have h1 : ¬ z.toInt < 0 := by omega
    have h2 : ¬ (34 : Int) < z.toInt := by omega
    rcases (show k = 0 ∨ k = 1 ∨ k = 2 ∨ k = 3 ∨ k = 4 ∨ k = 5 ∨ k = 6 ∨ k = 7 ∨ k = 8 ∨ k = 9 ∨ k = 10 ∨ k = 11 ∨ k = 12 ∨ k = 13 ∨ k = 14 ∨ k = 15 ∨ k = 16 ∨ k = 17 ∨ k = 18 ∨ k = 19 ∨ k = 20 ∨ k = 21 ∨ k = 22 ∨ k = 23 ∨ k = 24 ∨ k = 25 ∨ k = 26 ∨ k = 27 ∨ k = 28 ∨ k = 29 ∨ k = 30 ∨ k = 31 ∨ k = 32 ∨ k = 33 ∨ k = 34 by omega) with rfl | rfl | rfl | rfl | rfl | rfl | rfl | rfl | rfl | rfl | rfl | rfl | rfl | rfl | rfl | rfl | rfl | rfl | rfl | rfl | rfl | rfl | rfl | rfl | rfl | rfl | rfl | rfl | rfl | rfl | rfl | rfl | rfl | rfl | rfl
    · exact lv_tableIn (off := 155) (tgt := 188) hx hb d_law_33 h1 h2 (by rw [hk]; rfl) (by decide) (lw_caseI hx hb hml hown hts hN hw1 hw2 hap hX hbl hL lwL_7_type lwL_8_type lgc_type hS hk1 hk2 hcs hsz hl0 hl1 hl2 hl3 (by omega) (pr_type _ _ hrel) g)
    · exact lv_tableIn (off := 188) (tgt := 221) hx hb d_law_33 h1 h2 (by rw [hk]; rfl) (by decide) (lw_caseI hx hb hml hown hts hN hw1 hw2 hap hX hbl hL lwL_7_wipe lwL_8_wipe lgc_wipe hS hk1 hk2 hcs hsz hl0 hl1 hl2 hl3 (by omega) (pr_wipe _ hrel) g)
    · exact lv_tableIn (off := 211) (tgt := 244) hx hb d_law_33 h1 h2 (by rw [hk]; rfl) (by decide) (lw_caseI hx hb hml hown hts hN hw1 hw2 hap hX hbl hL lwL_7_undo lwL_8_undo lgc_undo hS hk1 hk2 hcs hsz hl0 hl1 hl2 hl3 (by omega) (pr_undo _ hrel) g)
    · exact lv_tableIn (off := 234) (tgt := 267) hx hb d_law_33 h1 h2 (by rw [hk]; rfl) (by decide) (lw_caseI hx hb hml hown hts hN hw1 hw2 hap hX hbl hL lwL_7_fault lwL_8_fault lgc_fault hS hk1 hk2 hcs hsz hl0 hl1 hl2 hl3 (by omega) (pr_fault _ hrel) g)
    · exact lv_tableIn (off := 257) (tgt := 290) hx hb d_law_33 h1 h2 (by rw [hk]; rfl) (by decide) (lw_caseI hx hb hml hown hts hN hw1 hw2 hap hX hbl hL lwL_7_walker lwL_8_walker lgc_walker hS hk1 hk2 hcs hsz hl0 hl1 hl2 hl3 (by omega) (pr_walker _ _ hrel) g)
    · exact lv_tableIn (off := 290) (tgt := 323) hx hb d_law_33 h1 h2 (by rw [hk]; rfl) (by decide) (lw_caseI hx hb hml hown hts hN hw1 hw2 hap hX hbl hL lwL_7_hedge lwL_8_hedge lgc_hedge hS hk1 hk2 hcs hsz hl0 hl1 hl2 hl3 (by omega) (pr_hedge _ _ _ hrel) g)
    · exact lv_tableIn (off := 333) (tgt := 366) hx hb d_law_33 h1 h2 (by rw [hk]; rfl) (by decide) (lw_caseI hx hb hml hown hts hN hw1 hw2 hap hX hbl hL lwL_7_gap lwL_8_gap lgc_gap hS hk1 hk2 hcs hsz hl0 hl1 hl2 hl3 (by omega) (pr_gap _ _ _ hrel) g)
    · exact lv_tableIn (off := 376) (tgt := 409) hx hb d_law_33 h1 h2 (by rw [hk]; rfl) (by decide) (lw_caseI hx hb hml hown hts hN hw1 hw2 hap hX hbl hL lwL_7_back lwL_8_back lgc_back hS hk1 hk2 hcs hsz hl0 hl1 hl2 hl3 (by omega) (pr_back _ hrel) g)
    · exact lv_tableIn (off := 399) (tgt := 432) hx hb d_law_33 h1 h2 (by rw [hk]; rfl) (by decide) (lw_caseI hx hb hml hown hts hN hw1 hw2 hap hX hbl hL lwL_7_read lwL_8_read lgc_read hS hk1 hk2 hcs hsz hl0 hl1 hl2 hl3 (by omega) (pr_read _ hrel) g)
    · exact lv_tableIn (off := 422) (tgt := 455) hx hb d_law_33 h1 h2 (by rw [hk]; rfl) (by decide) (lw_caseI hx hb hml hown hts hN hw1 hw2 hap hX hbl hL lwL_7_open lwL_8_open lgc_open hS hk1 hk2 hcs hsz hl0 hl1 hl2 hl3 (by omega) (pr_open _ _ hrel) g)
    · exact lv_tableIn (off := 455) (tgt := 488) hx hb d_law_33 h1 h2 (by rw [hk]; rfl) (by decide) (lw_caseI hx hb hml hown hts hN hw1 hw2 hap hX hbl hL lwL_7_on lwL_8_on lgc_on hS hk1 hk2 hcs hsz hl0 hl1 hl2 hl3 (by omega) (pr_on _ _ _ hrel) g)
    · exact lv_tableIn (off := 498) (tgt := 531) hx hb d_law_33 h1 h2 (by rw [hk]; rfl) (by decide) (lw_caseI hx hb hml hown hts hN hw1 hw2 hap hX hbl hL lwL_7_comes lwL_8_comes lgc_comes hS hk1 hk2 hcs hsz hl0 hl1 hl2 hl3 (by omega) (pr_comes _ _ hrel) g)
    · exact lv_tableIn (off := 531) (tgt := 564) hx hb d_law_33 h1 h2 (by rw [hk]; rfl) (by decide) (lw_caseI hx hb hml hown hts hN hw1 hw2 hap hX hbl hL lwL_7_meet lwL_8_meet lgc_meet hS hk1 hk2 hcs hsz hl0 hl1 hl2 hl3 (by omega) (pr_meet _ _ hrel) g)
    · exact lv_tableIn (off := 564) (tgt := 597) hx hb d_law_33 h1 h2 (by rw [hk]; rfl) (by decide) (lw_caseI hx hb hml hown hts hN hw1 hw2 hap hX hbl hL lwL_7_round lwL_8_round lgc_round hS hk1 hk2 hcs hsz hl0 hl1 hl2 hl3 (by omega) (pr_round _ hrel) g)
    · exact lv_tableIn (off := 587) (tgt := 620) hx hb d_law_33 h1 h2 (by rw [hk]; rfl) (by decide) (lw_caseI hx hb hml hown hts hN hw1 hw2 hap hX hbl hL lwL_7_trod lwL_8_trod lgc_trod hS hk1 hk2 hcs hsz hl0 hl1 hl2 hl3 (by omega) (pr_trod _ _ hrel) g)
    · exact lv_tableIn (off := 620) (tgt := 653) hx hb d_law_33 h1 h2 (by rw [hk]; rfl) (by decide) (lw_caseI hx hb hml hown hts hN hw1 hw2 hap hX hbl hL lwL_7_way lwL_8_way lgc_way hS hk1 hk2 hcs hsz hl0 hl1 hl2 hl3 (by omega) (pr_way _ _ _ hrel) g)
    · exact lv_tableIn (off := 663) (tgt := 696) hx hb d_law_33 h1 h2 (by rw [hk]; rfl) (by decide) (lw_caseI hx hb hml hown hts hN hw1 hw2 hap hX hbl hL lwL_7_through lwL_8_through lgc_through hS hk1 hk2 hcs hsz hl0 hl1 hl2 hl3 (by omega) (pr_through _ _ _ _ hrel) g)
    · exact lv_tableIn (off := 716) (tgt := 749) hx hb d_law_33 h1 h2 (by rw [hk]; rfl) (by decide) (lw_caseI hx hb hml hown hts hN hw1 hw2 hap hX hbl hL lwL_7_joined lwL_8_joined lgc_joined hS hk1 hk2 hcs hsz hl0 hl1 hl2 hl3 (by omega) (pr_joined _ _ hrel) g)
    · exact lv_tableIn (off := 749) (tgt := 782) hx hb d_law_33 h1 h2 (by rw [hk]; rfl) (by decide) (lw_caseI hx hb hml hown hts hN hw1 hw2 hap hX hbl hL lwL_7_hear lwL_8_hear lgc_hear hS hk1 hk2 hcs hsz hl0 hl1 hl2 hl3 (by omega) (pr_hear _ _ _ hrel) g)
    · exact lv_tableIn (off := 792) (tgt := 825) hx hb d_law_33 h1 h2 (by rw [hk]; rfl) (by decide) (lw_caseI hx hb hml hown hts hN hw1 hw2 hap hX hbl hL lwL_7_cut lwL_8_cut lgc_cut hS hk1 hk2 hcs hsz hl0 hl1 hl2 hl3 (by omega) (pr_cut _ _ _ hrel) g)
    · exact lv_tableIn (off := 835) (tgt := 868) hx hb d_law_33 h1 h2 (by rw [hk]; rfl) (by decide) (lw_caseI hx hb hml hown hts hN hw1 hw2 hap hX hbl hL lwL_7_guard lwL_8_guard lgc_guard hS hk1 hk2 hcs hsz hl0 hl1 hl2 hl3 (by omega) (pr_guard _ _ _ _ hrel) g)
    · exact lv_tableIn (off := 888) (tgt := 921) hx hb d_law_33 h1 h2 (by rw [hk]; rfl) (by decide) (lw_caseI hx hb hml hown hts hN hw1 hw2 hap hX hbl hL lwL_7_seen lwL_8_seen lgc_seen hS hk1 hk2 hcs hsz hl0 hl1 hl2 hl3 (by omega) (pr_seen _ _ hrel) g)
    · exact lv_tableIn (off := 921) (tgt := 954) hx hb d_law_33 h1 h2 (by rw [hk]; rfl) (by decide) (lw_caseI hx hb hml hown hts hN hw1 hw2 hap hX hbl hL lwL_7_forget lwL_8_forget lgc_forget hS hk1 hk2 hcs hsz hl0 hl1 hl2 hl3 (by omega) (pr_forget hrel) g)
    · exact lv_tableIn (off := 934) (tgt := 967) hx hb d_law_33 h1 h2 (by rw [hk]; rfl) (by decide) (lw_caseI hx hb hml hown hts hN hw1 hw2 hap hX hbl hL lwL_7_began lwL_8_began lgc_began hS hk1 hk2 hcs hsz hl0 hl1 hl2 hl3 (by omega) (pr_began _ _ hrel) g)
    · exact lv_tableIn (off := 967) (tgt := 1000) hx hb d_law_33 h1 h2 (by rw [hk]; rfl) (by decide) (lw_caseI hx hb hml hown hts hN hw1 hw2 hap hX hbl hL lwL_7_look lwL_8_look lgc_look hS hk1 hk2 hcs hsz hl0 hl1 hl2 hl3 (by omega) (pr_look _ _ hrel) g)
    · exact lv_tableIn (off := 1000) (tgt := 1033) hx hb d_law_33 h1 h2 (by rw [hk]; rfl) (by decide) (lw_caseJ hx hb hml hown hts hN hw1 hw2 hap hX hbl hL lwL_7_stray lwL_8_stray lgc_stray hS hk1 hk2 hcs hsz hl0 hl1 hl2 hl3 (by omega) (pr_stray _ _ _ _ _ hrel) g)
    · exact lv_tableIn (off := 1064) (tgt := 1097) hx hb d_law_33 h1 h2 (by rw [hk]; rfl) (by decide) (lw_caseI hx hb hml hown hts hN hw1 hw2 hap hX hbl hL lwL_7_child lwL_8_child lgc_child hS hk1 hk2 hcs hsz hl0 hl1 hl2 hl3 (by omega) (pr_child _ _ _ _ hrel) g)
    · exact lv_tableIn (off := 1117) (tgt := 1150) hx hb d_law_33 h1 h2 (by rw [hk]; rfl) (by decide) (lw_caseI hx hb hml hown hts hN hw1 hw2 hap hX hbl hL lwL_7_sheet lwL_8_sheet lgc_sheet hS hk1 hk2 hcs hsz hl0 hl1 hl2 hl3 (by omega) (pr_sheet _ _ _ hrel) g)
    · exact lv_tableIn (off := 1160) (tgt := 1193) hx hb d_law_33 h1 h2 (by rw [hk]; rfl) (by decide) (lw_caseI hx hb hml hown hts hN hw1 hw2 hap hX hbl hL lwL_7_lose lwL_8_lose lgc_lose hS hk1 hk2 hcs hsz hl0 hl1 hl2 hl3 (by omega) (pr_lose _ hrel) g)
    · exact lv_tableIn (off := 1183) (tgt := 1216) hx hb d_law_33 h1 h2 (by rw [hk]; rfl) (by decide) (lw_caseI hx hb hml hown hts hN hw1 hw2 hap hX hbl hL lwL_7_put lwL_8_put lgc_put hS hk1 hk2 hcs hsz hl0 hl1 hl2 hl3 (by omega) (pr_put _ _ _ _ hrel) g)
    · exact lv_tableIn (off := 1236) (tgt := 1269) hx hb d_law_33 h1 h2 (by rw [hk]; rfl) (by decide) (lw_caseI hx hb hml hown hts hN hw1 hw2 hap hX hbl hL lwL_7_get lwL_8_get lgc_get hS hk1 hk2 hcs hsz hl0 hl1 hl2 hl3 (by omega) (pr_get _ _ _ hrel) g)
    · exact lv_tableIn (off := 1279) (tgt := 1312) hx hb d_law_33 h1 h2 (by rw [hk]; rfl) (by decide) (lw_caseI hx hb hml hown hts hN hw1 hw2 hap hX hbl hL lwL_7_copy lwL_8_copy lgc_copy hS hk1 hk2 hcs hsz hl0 hl1 hl2 hl3 (by omega) (pr_copy _ _ _ _ _ hrel) g)
    · exact lv_tableIn (off := 1342) (tgt := 1375) hx hb d_law_33 h1 h2 (by rw [hk]; rfl) (by decide) (lw_caseI hx hb hml hown hts hN hw1 hw2 hap hX hbl hL lwL_7_write lwL_8_write lgc_write hS hk1 hk2 hcs hsz hl0 hl1 hl2 hl3 (by omega) (pr_write _ _ hrel) g)
    · exact lv_tableIn (off := 1375) (tgt := 1408) hx hb d_law_33 h1 h2 (by rw [hk]; rfl) (by decide) (lw_caseI hx hb hml hown hts hN hw1 hw2 hap hX hbl hL lwL_7_count lwL_8_count lgc_count hS hk1 hk2 hcs hsz hl0 hl1 hl2 hl3 (by omega) (pr_count _ hrel) g)
    · exact lv_tableIn (off := 1398) (tgt := 1431) hx hb d_law_33 h1 h2 (by rw [hk]; rfl) (by decide) (lw_caseJ hx hb hml hown hts hN hw1 hw2 hap hX hbl hL lwL_7_digest lwL_8_digest lgc_digest hS hk1 hk2 hcs hsz hl0 hl1 hl2 hl3 (by omega) (pr_digest hrel) g)
theorem nu_6 {i L : Nat} (hi : i ≤ 384) (hL : L ≤ 384) : nI L - 6 < nI i ↔ L < i + 6 := by
  rw [Int32.lt_iff_toInt_lt, Int32.toInt_sub, nI_toInt (by omega), nI_toInt (by omega), show (6 : Int32).toInt = 6 from rfl, Int.bmod_eq_of_le (by omega) (by omega)]
  omega
set_option maxHeartbeats 4000000 in
theorem lw_loop {p : Program} {l : Launch} {e : Env} {s : State} {m : MethodId} {below : List Frame} {meth : Method} {c : Code} {b L : Nat} {xs : Nat → Int32} (hL : L ≤ 384) (C0 : lw_At p s m meth c b L xs) (hN : ∀ x ∈ mzN, va_Nw x s) {w1 w2 : mzD} (hw1 : lwW w1 s) (hw2 : lwW w2 s) (hap : ∀ q, mzA w1 q → ¬ mzA w2 q) {cells slots : Nat} (hcs : cells ≤ 600000 ∧ slots ≤ 7302249) : ∀ (n i : Nat), i ≤ 384 → L + 1 ≤ i + n → ∀ (M1 M2 : mzM) (H : Heap), rel M1 M2 → lwS w1 w2 s M1 M2 H → ∀ (ls : Array Slot), lv_has ls 4 [(0, .ref b), (1, .ref (w1.2.2.1 0)), (2, .ref (w2.2.2.1 0)), (3, .int (nI i))] → W p l e room_1 s m #[Value.ref b] below meth c H [] cells slots (lw_Z below #[Value.ref b] s) (F0 m 18 ls []) := by
  have C1 := C0
  obtain ⟨hx, hb, hr, hml, hown, hts, hX, hbl, hlocks, hgv⟩ := C0
  have hbA : ¬ (fun q : Nat => s.heap.size ≤ q) b := Nat.not_le.mpr hbl
  intro n
  induction n with
  | zero =>
    intro i hi hn M1 M2 H hrel hS ls hl
    have hSS : va_S (fun q : Nat => s.heap.size ≤ q) s.heap H [] := ⟨hS.2.2.2.2.1, fun q h _ => hS.2.2.2.2.2.1 q h, fun q hq => by simp at hq⟩
    refine lv_iload_n hx hb d_law_18 rfl (lv_at hl 3 rfl) ?_
    refine lv_aload_n hx hb d_law_19 rfl (lv_at hl 0 rfl) ?_
    refine va_slen hx hb hX hbl hbA hSS d_law_20 ?_
    refine lv_bipush (v := 6) hx hb d_law_21 (by decide) ?_
    refine lv_isub hx hb d_law_23 ?_
    refine lv_icmp_gt (tgt := 1451) hx hb d_law_24 (by decide) (fun h => ?_) (fun h => absurd ((nu_6 hi hL).mpr (by omega)) h)
    refine lv_iconst (v := 1) hx hb d_law_1451 (by decide) ?_
    refine W.widen hcs.1 hcs.2 ?_
    exact lw_ret hx hb hr hlocks d_law_1452
  | succ n ih =>
    intro i hi hn M1 M2 H hrel hS ls hl
    have hSS : va_S (fun q : Nat => s.heap.size ≤ q) s.heap H [] := ⟨hS.2.2.2.2.1, fun q h _ => hS.2.2.2.2.2.1 q h, fun q hq => by simp at hq⟩
    refine lv_iload_n hx hb d_law_18 rfl (lv_at hl 3 rfl) ?_
    refine lv_aload_n hx hb d_law_19 rfl (lv_at hl 0 rfl) ?_
    refine va_slen hx hb hX hbl hbA hSS d_law_20 ?_
    refine lv_bipush (v := 6) hx hb d_law_21 (by decide) ?_
    refine lv_isub hx hb d_law_23 ?_
    refine lv_icmp_gt (tgt := 1451) hx hb d_law_24 (by decide) (fun h => ?_) (fun h => ?_)
    · refine lv_iconst (v := 1) hx hb d_law_1451 (by decide) ?_
      refine W.widen hcs.1 hcs.2 ?_
      exact lw_ret hx hb hr hlocks d_law_1452
    · have h6 : ¬ L < i + 6 := fun z => h ((nu_6 hi hL).mpr z)
      refine lv_aload_n hx hb d_law_27 rfl (lv_at hl 0 rfl) ?_
      refine lv_iload_n hx hb d_law_28 rfl (lv_at hl 3 rfl) ?_
      have hin : vp_in (nI i) L := by rw [in_nI (by omega)]; omega
      refine va_sld hx hb hX hbl hbA hSS hin d_law_29 ?_
      refine lv_bipush (v := 63) hx hb d_law_30 (by decide) ?_
      refine lv_iand hx hb d_law_32 ?_
      refine lw_sw hL C1 hN hw1 hw2 hap hcs hrel hS hl.1 (lv_at hl 0 rfl) (lv_at hl 1 rfl) (lv_at hl 2 rfl) (lv_at hl 3 rfl) (by omega) _ (fun N1 N2 H' hr' hS' => ?_)
      refine lv_iinc (v := nI (i + 6)) (lv' := [(3, .int (nI (i + 6))), (0, .ref b), (1, .ref (w1.2.2.1 0)), (2, .ref (w2.2.2.1 0))]) hx hb d_law_1445 hl (k := 3) rfl (nu_add i 6) (by decide) rfl (fun ls hl => ?_)
      refine lv_goto (tgt := 18) hx hb d_law_1448 (by decide) ?_
      exact ih (i + 6) (by omega) (by omega) N1 N2 H' hr' hS' ls (lv_sub hl [1, 2, 3, 0] rfl)
