/-! the class: stray -/
def Lc1_X7_commonDivisor : mzB1 :=
  (gB (cand 16 (ccmp .lt (iL 8) (iK 100)) (ccml .ne (jL 6) (jK 0))))
def Lb1_X7_commonDivisor : mzT1 :=
  (sseq (sset 9 (gJ (jrem (jL 4) (jL 6))))
  (sseq (sset 4 (gJ (jL 6)))
  (sset 6 (gJ (jL 9)))))
def Ls1_X7_commonDivisor : mzT1 :=
  (sinc 8 1)
def Lt1_X7_commonDivisor : mzT1 :=
  (sret (gJ (jL 4)))
def B_X7_commonDivisor : mzT1 :=
  (sseq (sset 4 (gJ (jL 0)))
  (sseq (sset 6 (gJ (jL 2)))
  (sseq (sset 8 (gI (iK 0)))
  (sseq (sloop Lc1_X7_commonDivisor 23 Lb1_X7_commonDivisor 38 Ls1_X7_commonDivisor 44)
  Lt1_X7_commonDivisor))))
theorem ok_X7_commonDivisor : mzok1 yX7_commonDivisor cX7_commonDivisor 7 11 (some .long) 0 0 2 B_X7_commonDivisor := ⟨by decide +kernel, mzT_at 687 (by decide +kernel) rfl, by decide, rfl, rfl, rfl⟩
def M_X7_commonDivisor : mzMt := mzmk yX7_commonDivisor cX7_commonDivisor 7 11 (some .long) 0 0 2 B_X7_commonDivisor ok_X7_commonDivisor
theorem ym_X7_commonDivisor : M_X7_commonDivisor.1.1 = yX7_commonDivisor := rfl

def B_J6_bitCount_0f7a4 : mzT1 :=
  (sseq (sset 0 (gI (isub (iL 0) (iand (iushr (iL 0) (iK 1)) (iKw kc_9_265)))))
  (sseq (sset 0 (gI (iadd (iand (iL 0) (iKw kc_9_266)) (iand (iushr (iL 0) (iK 2)) (iKw kc_9_266)))))
  (sseq (sset 0 (gI (iand (iadd (iL 0) (iushr (iL 0) (iK 4))) (iKw kc_9_267))))
  (sseq (sset 0 (gI (iadd (iL 0) (iushr (iL 0) (iK 8)))))
  (sseq (sset 0 (gI (iadd (iL 0) (iushr (iL 0) (iK 16)))))
  (sret (gI (iand (iL 0) (iK 63)))))))))
theorem ok_J6_bitCount_0f7a4 : mzok1 yJ6_bitCount_0f7a4 cJ6_bitCount_0f7a4 9 1 (some .int) 0 0 1 B_J6_bitCount_0f7a4 := ⟨by decide +kernel, mzT_at 679 (by decide +kernel) rfl, by decide, rfl, rfl, rfl⟩
def M_J6_bitCount_0f7a4 : mzMt := mzmk yJ6_bitCount_0f7a4 cJ6_bitCount_0f7a4 9 1 (some .int) 0 0 1 B_J6_bitCount_0f7a4 ok_J6_bitCount_0f7a4
theorem ym_J6_bitCount_0f7a4 : M_J6_bitCount_0f7a4.1.1 = yJ6_bitCount_0f7a4 := rfl

set_option maxRecDepth 10000 in
def P_J6_bitCount_0f7a4 : mzPI := ⟨(M_J6_bitCount_0f7a4, pfi_I (fun x M => 0), po_I (fun x M => True)), by decide, rfl, ppi_I (fun x M K _h _k => by
  simp only [M_J6_bitCount_0f7a4, w_mk, B_J6_bitCount_0f7a4, w_gI, w_gJ, w_gR, w_gB, w_gV, w_gcV, w_gcS, w_g1, w_g2, w_gq, w_bcmp, w_bif0, w_band, w_bor, w_bnot, w_sskip, w_sseq, w_sset, w_sinc, w_sret, w_sretZ, w_sretv, w_sbrk, w_scnt, w_sif, w_sif1, w_sloop, w_sput, w_sputop, w_sast, w_sastop, w_sastI, w_sastJ, w_sputI, w_sputJ, w_scV, w_scS, w_spop, w_ssw, mzfi, mzfl, mzfs, mzf1il, mzf1li, mzf1ii, e_iK, e_iKc, e_iKw, e_jK, e_jKc, e_rN, e_iL, e_jL, e_rL, e_iadd, e_isub, e_imul, e_iand, e_ior, e_ishl, e_ishr, e_iushr, e_idiv, e_irem, e_jadd, e_jsub, e_jmul, e_jand, e_jor, e_jxor, e_jdiv, e_jrem, e_jshl, e_jushr, e_i2j, e_j2i, e_i2b, e_i2s, e_iF, e_jF, e_rF, e_iA, e_jA, e_zA, e_rA, e_ilen, e_iU, e_ccmp, e_cif0, e_ccml, e_cnul, e_cand, e_cor, e_cnot, e_iq, e_jq, e_rq, e_icV, e_icS, e_jcV, e_jcS, e_rcV, e_rcS, e_vI, e_vJ, e_vR, o_iK, o_iKc, o_iKw, o_jK, o_jKc, o_rN, o_iL, o_jL, o_rL, o_iadd, o_isub, o_imul, o_iand, o_ior, o_ishl, o_ishr, o_iushr, o_idiv, o_irem, o_jadd, o_jsub, o_jmul, o_jand, o_jor, o_jxor, o_jdiv, o_jrem, o_jshl, o_jushr, o_i2j, o_j2i, o_i2b, o_i2s, o_iF, o_jF, o_rF, o_iA, o_jA, o_zA, o_rA, o_ilen, o_iU, o_ccmp, o_cif0, o_ccml, o_cnul, o_cand, o_cor, o_cnot, o_iq, o_jq, o_rq, o_icV, o_icS, o_jcV, o_jcS, o_rcV, o_rcS, o_vI, o_vJ, o_vR, mzwV, mzwS, mzwas, w_do, mzini, a_nil, a_int, a_long, a_ref, a_null, st_int, st_ref, st_null, st_long, kl_0, kl_s, rf_some, rf_none, List.length_cons, List.length_nil, Nat.reduceAdd, Nat.reduceSub, Nat.reduceLeDiff, List.replicate_succ, List.replicate_zero, List.cons_append, List.nil_append, List.append_nil, mzgi, mzgio, mzgj, mzgjo, mzgr, mzgro, List.getElem?_cons_succ, List.getElem?_cons_zero, List.set_cons_succ, List.set_cons_zero, true_and, and_true, Nat.le_refl, Nat.sub_self, implies_true, Bool.and_eq_true, Bool.or_eq_true, decide_eq_true_eq, Bool.not_eq_true, Bool.not_eq_false, Bool.not_eq_eq_eq_not, Bool.not_true, Bool.not_false, decide_eq_false_iff_not, Bool.and_eq_false_iff, Bool.or_eq_false_iff, in_0_2, in_1_2, mzevs, mzoks, mzrc, e_pfi_I, e_pfj_I, e_pfr_I, e_po_I, e_pfi_II, e_pfj_II, e_pfr_II, e_po_II, e_pfi_III, e_pfj_III, e_pfr_III, e_po_III, e_pfi_IIII, e_pfj_IIII, e_pfr_IIII, e_po_IIII, e_pfi_IIIII, e_pfj_IIIII, e_pfr_IIIII, e_po_IIIII, e_pfi_R, e_pfj_R, e_pfr_R, e_po_R, e_pfi_RI, e_pfj_RI, e_pfr_RI, e_po_RI, e_pfi_RII, e_pfj_RII, e_pfr_RII, e_po_RII, e_pfi_RIII, e_pfj_RIII, e_pfr_RIII, e_po_RIII, e_pfi_RIIII, e_pfj_RIIII, e_pfr_RIIII, e_po_RIIII, e_pfi_RIIIII, e_pfj_RIIIII, e_pfr_RIIIII, e_po_RIIIII, e_pfi_JI, e_pfj_JI, e_pfr_JI, e_po_JI, e_pfi_JJ, e_pfj_JJ, e_pfr_JJ, e_po_JJ, e_pfi_RJ, e_pfj_RJ, e_pfr_RJ, e_po_RJ, e_pfi_RJI, e_pfj_RJI, e_pfr_RJI, e_po_RJI, e_pfi_RJJJ, e_pfj_RJJJ, e_pfr_RJJJ, e_po_RJJJ, e_pfi_RJIJ, e_pfj_RJIJ, e_pfr_RJIJ, e_po_RJIJ, e_pfi_RIIIJ, e_pfj_RIIIJ, e_pfr_RIIIJ, e_po_RIIIJ, e_pfi_J, e_pfj_J, e_pfr_J, e_po_J, e_pfi_RR, e_pfj_RR, e_pfr_RR, e_po_RR, e_pfi_RRI, e_pfj_RRI, e_pfr_RRI, e_po_RRI, e_pfi_RRII, e_pfj_RRII, e_pfr_RRII, e_po_RRII, e_pfi_RRIII, e_pfj_RRIII, e_pfr_RRIII, e_po_RRIII, e_pfi_RIJ, e_pfj_RIJ, e_pfr_RIJ, e_po_RIJ, e_X8_in, o_X8_in, e_X8_isIn, o_X8_isIn, e_X8_isText, o_X8_isText, e_X8_isStep, o_X8_isStep, e_X8_isSheet, o_X8_isSheet, e_X8_kindOf, o_X8_kindOf, e_X8_headOf, o_X8_headOf, e_X8_handOf, o_X8_handOf, e_X8_ones, o_X8_ones, e_X8_tries, o_X8_tries, e_X8_no, o_X8_no, e_X8_byteAt, o_X8_byteAt, e_X8_isPlace, o_X8_isPlace, e_X8_beside, o_X8_beside, e_X8_isAnywhere, o_X8_isAnywhere, e_X8_ofRow, o_X8_ofRow, e_X8_lacks, o_X8_lacks, e_X7_has, o_X7_has, e_X7_isText, o_X7_isText, e_X7_isStep, o_X7_isStep, e_X7_isHand, o_X7_isHand, e_X7_isForm, o_X7_isForm, e_X7_mix, o_X7_mix, e_X1_isDaySign, o_X1_isDaySign, e_X5_isFull, o_X5_isFull, e_X5_at, o_X5_at, e_X2_isFull, o_X2_isFull, e_X1_days, o_X1_days, e_X1_hasDay, o_X1_hasDay, e_X1_leastDays, o_X1_leastDays, e_X1_mostDays, o_X1_mostDays, e_X1_beside, o_X1_beside, e_X1_isChanged, o_X1_isChanged, e_X1_across, o_X1_across, e_X6_headingOf, o_X6_headingOf, e_X6_handOf, o_X6_handOf, e_X4_isFull, o_X4_isFull, e_X4_dayAt, o_X4_dayAt, e_X3_isLost, o_X3_isLost, e_X3_holds, o_X3_holds, e_X3_holdsFrom, o_X3_holdsFrom, e_X7_isWalker, o_X7_isWalker, e_X7_textAt, o_X7_textAt, e_X7_sheetAt, o_X7_sheetAt, e_X7_startAt, o_X7_startAt, e_J13_bitCount_95d88, o_J13_bitCount_95d88, e_X1_spreadOverHedges, o_X1_spreadOverHedges, e_X1_spread, o_X1_spread, e_X7_startOf, o_X7_startOf, shC_0, shC_1, shC_2, shC_3, shC_4, shC_5, shC_6, shC_7, shC_8, shC_9, shC_10, shC_11, shC_12, shC_13, shC_14, shC_15, shC_16, shC_17, shC_18, shC_19, shC_20, shC_21, shC_22, shC_23, shC_24, shC_25, shC_26, shC_27, shC_28, shC_29, shC_30, shC_31, shC_32, shC_33, shC_34, shC_35, shC_36, shC_37, shC_38, rrC_0_0, rrC_0_1, rrC_0_2, rrC_0_3, rrC_0_4, rrC_0_5, rrC_0_6, rrC_0_7, rrC_0_9, rrC_0_10, rrC_0_11, rrC_0_12, rrC_0_13, rrC_1_0, rrC_3_0, rrC_5_0, rrC_5_1, rrC_8_0, rrC_8_1, rrC_8_2, rrC_12_0, rrC_12_1, rrC_12_2, rrC_16_0, rrC_16_1, rrC_16_2, rrC_20_0, rrC_22_0, rrC_22_1, rrC_22_2, rrC_22_3, rrC_23_0, rrC_25_0, rrC_27_0, rrC_29_0, rrC_32_0, rrC_32_1, rrC_32_2, mC_1, mC_2, mC_3, mC_4, mC_p0, mC_p1, mC_a0, mC_a1, mC_g0, mC_g1, mC_d0, mC_d1, gd_some, is_some, la_some, e_imax, o_imax, e_imin, o_imin, ex_sw, is_some, la_some]; try simp only [mzcmp, mzcml, mzz01, it_ne0, it_eq0, it_eq1, eq_10, eq_20, eq_21, eq_01, eq_self, Classical.not_not, if_true, if_false, not_true_eq_false, not_false_eq_true, ite_true, ite_false, reduceIte, decide_eq_true_eq, Bool.and_eq_true, Bool.or_eq_true, Bool.not_eq_true, decide_eq_false_iff_not, true_and, and_true, implies_true, is_some, la_some]
  done)⟩
theorem yp_J6_bitCount_0f7a4 : P_J6_bitCount_0f7a4.1.1.1.1 = yJ6_bitCount_0f7a4 := rfl
theorem e_J6_bitCount_0f7a4 {as : List Value} {M : mzM} : P_J6_bitCount_0f7a4.1.2.1 as M = pfi_I (fun x M => 0) as M := mzrf rfl
theorem o_J6_bitCount_0f7a4 {as : List Value} {M : mzM} : P_J6_bitCount_0f7a4.1.2.2 as M = po_I (fun x M => True) as M := mzrf rfl
def Lc1_X7_strayOn : mzB1 :=
  (gB (ccmp .lt (iL 5) (iK 4)))
def Lb1_X7_strayOn : mzT1 :=
  (sseq (sset 6 (gI (icV P_X1_beside lkV_7_238 yp_X1_beside [(vR (rF lkF_7_24 (by decide) (rL 0))), (vI (iL 2)), (vI (iL 5))])))
  (sif1 (gB (cand 94 (cif0 .ne (iand (ishr (iL 3) (iL 5)) (iK 1))) (cif0 .ne (icV P_X1_hasDay lkV_7_147 yp_X1_hasDay [(vR (rF lkF_7_24 (by decide) (rL 0))), (vI (iL 6))])))) 106
  (sastJ mzr_ladd (gR (rF lkF_7_77 (by decide) (rL 0))) (gI (iL 6)) (gJ (jmul (jdiv (jKc kc_7_231) (i2j (iL 4))) (jA (rF lkF_7_73 (by decide) (rL 0)) (iL 2)))))))
def Ls1_X7_strayOn : mzT1 :=
  (sinc 5 1)
def Lt1_X7_strayOn : mzT1 :=
  (sseq (sset 4 (gI (icS P_J6_bitCount_0f7a4 lkS_7_361 yp_J6_bitCount_0f7a4 [(vI (iL 3))])))
  (sseq (sif1 (gB (cif0 .eq (iL 4))) 42
  (sseq (sastJ mzr_ladd (gR (rF lkF_7_77 (by decide) (rL 0))) (gI (iL 2)) (gJ (jmul (jKc kc_7_231) (jA (rF lkF_7_73 (by decide) (rL 0)) (iL 2)))))
  scnt))
  (sseq (sset 5 (gI (iK 0)))
  (sloop Lc1_X7_strayOn 73 Lb1_X7_strayOn 130 Ls1_X7_strayOn 136))))
def Lc2_X7_strayOn : mzB1 :=
  (gB (ccmp .lt (iL 2) (icV P_X1_days lkV_7_268 yp_X1_days [(vR (rF lkF_7_24 (by decide) (rL 0)))])))
def Lb2_X7_strayOn : mzT1 :=
  (sseq (sset 3 (gcV M_X1_openWays lkV_7_150 ym_X1_openWays (by decide) [(gR (rF lkF_7_24 (by decide) (rL 0))), (gI (iL 1)), (gI (iL 2))]))
  Lt1_X7_strayOn)
def Ls2_X7_strayOn : mzT1 :=
  (sinc 2 1)
def Lt2_X7_strayOn : mzT1 :=
  (sseq (sset 2 (gR (rF lkF_7_73 (by decide) (rL 0))))
  (sseq (sput lkP_7_73 (gR (rL 0)) (gR (rF lkF_7_77 (by decide) (rL 0))))
  (sseq (sput lkP_7_77 (gR (rL 0)) (gR (rL 2)))
  sretv)))
def Lt3_X7_strayOn : mzT1 :=
  (sseq (sset 2 (gI (iK 0)))
  (sseq (sloop Lc2_X7_strayOn 21 Lb2_X7_strayOn 136 Ls2_X7_strayOn 142)
  Lt2_X7_strayOn))
def B_X7_strayOn : mzT1 :=
  (sseq (scS M_J7_fill_d0a16 lkS_7_222 ym_J7_fill_d0a16 [(gR (rF lkF_7_77 (by decide) (rL 0))), (gJ (jK 0))])
  Lt3_X7_strayOn)
theorem ok_X7_strayOn : mzok1 yX7_strayOn cX7_strayOn 7 7 none 2 45 0 B_X7_strayOn := ⟨by decide +kernel, mzT_at 676 (by decide +kernel) rfl, by decide, rfl, rfl, rfl⟩
def M_X7_strayOn : mzMt := mzmk yX7_strayOn cX7_strayOn 7 7 none 2 45 0 B_X7_strayOn ok_X7_strayOn
theorem ym_X7_strayOn : M_X7_strayOn.1.1 = yX7_strayOn := rfl

def Lt1_X7_stray : mzT1 :=
  (sset 6 (gJ (jmul (jL 6) (jKc kc_7_231))))
def Lc1_X7_stray : mzB1 :=
  (gB (ccmp .lt (iL 8) (iL 3)))
def Lb1_X7_stray : mzT1 :=
  (sseq (scV M_X7_strayOn lkV_7_228 ym_X7_strayOn [(gR (rL 0)), (gI (iL 1))])
  Lt1_X7_stray)
def Ls1_X7_stray : mzT1 :=
  (sinc 8 1)
def Lt2_X7_stray : mzT1 :=
  (sseq (sif1 (gB (ccml .eq (jL 10) (jK 0))) 130
  (sret (gJ (jKc kc_7_220))))
  (sret (gJ (jdiv (jq 139 144 (cif0 .eq (iL 5)) (jL 8) (jL 6)) (jL 10)))))
def Lt3_X7_stray : mzT1 :=
  (sseq (sset 8 (gJ (jA (rF lkF_7_73 (by decide) (rL 0)) (iL 4))))
  (sseq (sset 10 (gcS M_X7_commonDivisor lkS_7_233 ym_X7_commonDivisor (by decide) [(gJ (jL 8)), (gJ (jL 6))]))
  Lt2_X7_stray))
def Lt4_X7_stray : mzT1 :=
  (sseq (sast 1 (gR (rF lkF_7_73 (by decide) (rL 0))) (gI (iL 2)) (gJ (jK 1)))
  (sseq (sset 6 (gJ (jK 1)))
  (sseq (sset 8 (gI (iK 0)))
  (sseq (sloop Lc1_X7_stray 86 Lb1_X7_stray 99 Ls1_X7_stray 105)
  Lt3_X7_stray))))
def B_X7_stray : mzT1 :=
  (sseq (sif1 (gB (cor 18 (cor 7 (cnot (cif0 .ne (icS P_X7_isStep lkS_7_144 yp_X7_isStep [(vI (iL 1))]))) (cnot (cif0 .ne (icV P_X1_hasDay lkV_7_147 yp_X1_hasDay [(vR (rF lkF_7_24 (by decide) (rL 0))), (vI (iL 2))])))) (cnot (cif0 .ne (icV P_X1_hasDay lkV_7_147 yp_X1_hasDay [(vR (rF lkF_7_24 (by decide) (rL 0))), (vI (iL 4))]))))) 30
  (sret (gJ (jKc kc_7_220))))
  (sseq (sif1 (gB (cor 44 (cor 38 (cif0 .lt (iL 3)) (ccmp .gt (iL 3) (iK 8))) (cand 49 (cif0 .ne (iL 5)) (ccmp .ne (iL 5) (iK 1))))) 55
  (sret (gJ (jKc kc_7_220))))
  (sseq (scS M_J7_fill_d0a16 lkS_7_222 ym_J7_fill_d0a16 [(gR (rF lkF_7_73 (by decide) (rL 0))), (gJ (jK 0))])
  Lt4_X7_stray)))
theorem ok_X7_stray : mzok1 yX7_stray cX7_stray 7 12 (some .long) 3 71 2 B_X7_stray := ⟨by decide +kernel, mzT_at 668 (by decide +kernel) rfl, by decide, rfl, rfl, rfl⟩
def M_X7_stray : mzMt := mzmk yX7_stray cX7_stray 7 12 (some .long) 3 71 2 B_X7_stray ok_X7_stray
theorem ym_X7_stray : M_X7_stray.1.1 = yX7_stray := rfl

