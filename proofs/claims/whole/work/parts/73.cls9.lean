/-! the class: reach, distance -/
def Lc1_X1_reach : mzB1 :=
  (gB (ccmp .lt (iL 8) (iK 36)))
def Lb1_X1_reach : mzT1 :=
  (sseq (sset 9 (gJ (jand (jcV P_X1_across lkV_1_110 yp_X1_across [(vR (rL 0)), (vJ (jL 6)), (vJ (jA (rF lkF_1_9 (by decide) (rL 0)) (iL 3))), (vJ (jA (rF lkF_1_15 (by decide) (rL 0)) (iL 3)))]) (jxor (jL 4) (jKc kc_1_80)))))
  (sseq (sif1 (gB (ccml .eq (jL 9) (jL 6))) 65
  sbrk)
  (sset 6 (gJ (jL 9)))))
def Ls1_X1_reach : mzT1 :=
  (sinc 8 1)
def Lt1_X1_reach : mzT1 :=
  (sret (gJ (jL 6)))
def B_X1_reach : mzT1 :=
  (sseq (sset 6 (gJ (jand (jL 1) (jxor (jL 4) (jKc kc_1_80)))))
  (sseq (sif1 (gB (cnot (cif0 .ne (icS P_X7_isStep lkS_1_82 yp_X7_isStep [(vI (iL 3))])))) 17
  (sret (gJ (jL 6))))
  (sseq (sset 8 (gI (iK 0)))
  (sseq (sloop Lc1_X1_reach 30 Lb1_X1_reach 72 Ls1_X1_reach 78)
  Lt1_X1_reach))))
theorem ok_X1_reach : mzok1 yX1_reach cX1_reach 1 11 (some .long) 1 30 2 B_X1_reach := ⟨by decide +kernel, mzT_at 551 (by decide +kernel) rfl, by decide, rfl, rfl, rfl⟩
def M_X1_reach : mzMt := mzmk yX1_reach cX1_reach 1 11 (some .long) 1 30 2 B_X1_reach ok_X1_reach
theorem ym_X1_reach : M_X1_reach.1.1 = yX1_reach := rfl

def Lc1_X1_distance : mzB1 :=
  (gB (ccmp .lt (iL 6) (iK 36)))
def Lb1_X1_distance : mzT1 :=
  (sseq (sif1 (gB (cif0 .ne (icS P_X7_has lkS_1_88 yp_X7_has [(vJ (jL 4)), (vI (iL 3))]))) 24
  (sret (gI (iL 6))))
  (sset 4 (gJ (jcV P_X1_spread lkV_1_114 yp_X1_spread [(vR (rL 0)), (vJ (jL 4)), (vI (iL 1))]))))
def Ls1_X1_distance : mzT1 :=
  (sinc 6 1)
def Lt1_X1_distance : mzT1 :=
  (sret (gI (iK (-1))))
def B_X1_distance : mzT1 :=
  (sseq (sset 4 (gJ (jshl (jK 1) (iL 2))))
  (sseq (sset 6 (gI (iK 0)))
  (sseq (sloop Lc1_X1_distance 15 Lb1_X1_distance 36 Ls1_X1_distance 42)
  Lt1_X1_distance)))
theorem ok_X1_distance : mzok1 yX1_distance cX1_distance 1 7 (some .int) 2 53 1 B_X1_distance := ⟨by decide +kernel, mzT_at 531 (by decide +kernel) rfl, by decide, rfl, rfl, rfl⟩
def M_X1_distance : mzMt := mzmk yX1_distance cX1_distance 1 7 (some .int) 2 53 1 B_X1_distance ok_X1_distance
theorem ym_X1_distance : M_X1_distance.1.1 = yX1_distance := rfl

def B_X1_isParted : mzT1 :=
  (sretZ (gq 17 21 (bnot (bif0 .ne (gcS P_X7_has.1.1 lkS_1_88 yp_X7_has (by decide) [(gcV M_X1_reach lkV_1_118 ym_X1_reach (by decide) [(gR (rL 0)), (gJ (jshl (jK 1) (iL 2))), (gI (iL 1)), (gJ (jL 4))]), (gI (iL 3))]))) (gI (iK 1)) (gI (iK 0))))
theorem ok_X1_isParted : mzok1 yX1_isParted cX1_isParted 1 6 (some .boolean) 2 60 4 B_X1_isParted := ⟨by decide +kernel, mzT_at 583 (by decide +kernel) rfl, by decide, rfl, rfl, rfl⟩
def M_X1_isParted : mzMt := mzmk yX1_isParted cX1_isParted 1 6 (some .boolean) 2 60 4 B_X1_isParted ok_X1_isParted
theorem ym_X1_isParted : M_X1_isParted.1.1 = yX1_isParted := rfl

def B_X7_way : mzT1 :=
  (sseq (sif1 (gB (cor 18 (cor 7 (cnot (cif0 .ne (icS P_X7_isStep lkS_7_144 yp_X7_isStep [(vI (iL 1))]))) (cnot (cif0 .ne (icV P_X1_hasDay lkV_7_147 yp_X1_hasDay [(vR (rF lkF_7_24 (by decide) (rL 0))), (vI (iL 2))])))) (cnot (cif0 .ne (icV P_X1_hasDay lkV_7_147 yp_X1_hasDay [(vR (rF lkF_7_24 (by decide) (rL 0))), (vI (iL 3))]))))) 29
  (sret (gI (iK (-2)))))
  (sret (gcV M_X1_distance lkV_7_171 ym_X1_distance (by decide) [(gR (rF lkF_7_24 (by decide) (rL 0))), (gI (iL 1)), (gI (iL 2)), (gI (iL 3))])))
theorem ok_X7_way : mzok1 yX7_way cX7_way 7 4 (some .int) 3 79 1 B_X7_way := ⟨by decide +kernel, mzT_at 527 (by decide +kernel) rfl, by decide, rfl, rfl, rfl⟩
def M_X7_way : mzMt := mzmk yX7_way cX7_way 7 4 (some .int) 3 79 1 B_X7_way ok_X7_way
theorem ym_X7_way : M_X7_way.1.1 = yX7_way := rfl

def Lt1_X7_through : mzT1 :=
  (sret (gI (iq 81 85 (cor 75 (ccmp .eq (iL 5) (iK (-1))) (ccmp .eq (iL 6) (iK (-1)))) (iK (-1)) (iadd (iL 5) (iL 6)))))
def Lt2_X7_through : mzT1 :=
  (sseq (sset 6 (gcV M_X1_distance lkV_7_171 ym_X1_distance (by decide) [(gR (rF lkF_7_24 (by decide) (rL 0))), (gI (iL 1)), (gI (iL 3)), (gI (iL 4))]))
  Lt1_X7_through)
def B_X7_through : mzT1 :=
  (sseq (sif1 (gB (cor 29 (cor 18 (cor 7 (cnot (cif0 .ne (icS P_X7_isStep lkS_7_144 yp_X7_isStep [(vI (iL 1))]))) (cnot (cif0 .ne (icV P_X1_hasDay lkV_7_147 yp_X1_hasDay [(vR (rF lkF_7_24 (by decide) (rL 0))), (vI (iL 2))])))) (cnot (cif0 .ne (icV P_X1_hasDay lkV_7_147 yp_X1_hasDay [(vR (rF lkF_7_24 (by decide) (rL 0))), (vI (iL 3))])))) (cnot (cif0 .ne (icV P_X1_hasDay lkV_7_147 yp_X1_hasDay [(vR (rF lkF_7_24 (by decide) (rL 0))), (vI (iL 4))]))))) 41
  (sret (gI (iK (-2)))))
  (sseq (sset 5 (gcV M_X1_distance lkV_7_171 ym_X1_distance (by decide) [(gR (rF lkF_7_24 (by decide) (rL 0))), (gI (iL 1)), (gI (iL 2)), (gI (iL 3))]))
  Lt2_X7_through))
theorem ok_X7_through : mzok1 yX7_through cX7_through 7 7 (some .int) 3 79 1 B_X7_through := ⟨by decide +kernel, mzT_at 543 (by decide +kernel) rfl, by decide, rfl, rfl, rfl⟩
def M_X7_through : mzMt := mzmk yX7_through cX7_through 7 7 (some .int) 3 79 1 B_X7_through ok_X7_through
theorem ym_X7_through : M_X7_through.1.1 = yX7_through := rfl

def B_X7_joined : mzT1 :=
  (sseq (sif1 (gB (cor 7 (cnot (cif0 .ne (icS P_X7_isStep lkS_7_144 yp_X7_isStep [(vI (iL 1))]))) (cnot (cif0 .ne (icV P_X1_hasDay lkV_7_147 yp_X1_hasDay [(vR (rF lkF_7_24 (by decide) (rL 0))), (vI (iL 2))]))))) 18
  (sret (gI (iK (-2)))))
  (sret (gcS P_J13_bitCount_95d88.1.1 lkS_7_178 yp_J13_bitCount_95d88 (by decide) [(gcV M_X1_reach lkV_7_174 ym_X1_reach (by decide) [(gR (rF lkF_7_24 (by decide) (rL 0))), (gJ (jshl (jK 1) (iL 2))), (gI (iL 1)), (gJ (jK 0))])])))
theorem ok_X7_joined : mzok1 yX7_joined cX7_joined 7 3 (some .int) 2 60 1 B_X7_joined := ⟨by decide +kernel, mzT_at 547 (by decide +kernel) rfl, by decide, rfl, rfl, rfl⟩
def M_X7_joined : mzMt := mzmk yX7_joined cX7_joined 7 3 (some .int) 2 60 1 B_X7_joined ok_X7_joined
theorem ym_X7_joined : M_X7_joined.1.1 = yX7_joined := rfl

def B_X7_hear : mzT1 :=
  (sseq (sif1 (gB (cor 18 (cor 7 (cnot (cif0 .ne (icS P_X7_isStep lkS_7_144 yp_X7_isStep [(vI (iL 1))]))) (cnot (cif0 .ne (icV P_X1_hasDay lkV_7_147 yp_X1_hasDay [(vR (rF lkF_7_24 (by decide) (rL 0))), (vI (iL 2))])))) (cnot (cif0 .ne (icV P_X1_hasDay lkV_7_147 yp_X1_hasDay [(vR (rF lkF_7_24 (by decide) (rL 0))), (vI (iL 3))]))))) 29
  (sret (gI (iK (-2)))))
  (sseq (sset 4 (gI (iq 54 58 (cand 37 (ccmp .ne (iL 2) (iL 3)) (cif0 .ne (icS P_X7_has lkS_7_188 yp_X7_has [(vJ (jcV P_X1_spreadOverHedges lkV_7_184 yp_X1_spreadOverHedges [(vR (rF lkF_7_24 (by decide) (rL 0))), (vJ (jshl (jK 1) (iL 2)))])), (vI (iL 3))]))) (iK 1) (iK 0))))
  (sret (gI (iq 84 88 (cand 66 (cif0 .ne (iL 4)) (cnot (cif0 .ne (icS P_X7_has lkS_7_188 yp_X7_has [(vJ (jcV P_X1_spread lkV_7_192 yp_X1_spread [(vR (rF lkF_7_24 (by decide) (rL 0))), (vJ (jshl (jK 1) (iL 2))), (vI (iL 1))])), (vI (iL 3))])))) (iK 1) (iK 0))))))
theorem ok_X7_hear : mzok1 yX7_hear cX7_hear 7 5 (some .int) 2 53 1 B_X7_hear := ⟨by decide +kernel, mzT_at 561 (by decide +kernel) rfl, by decide, rfl, rfl, rfl⟩
def M_X7_hear : mzMt := mzmk yX7_hear cX7_hear 7 5 (some .int) 2 53 1 B_X7_hear ok_X7_hear
theorem ym_X7_hear : M_X7_hear.1.1 = yX7_hear := rfl

def Lc1_X7_cut : mzB1 :=
  (gB (ccmp .le (iL 6) (iK 3)))
def Lb1_X7_cut : mzT1 :=
  (sseq (sif1 (gB (cif0 .ne (icS P_X7_has lkS_7_188 yp_X7_has [(vJ (jL 4)), (vI (iL 3))]))) 64
  (sret (gI (iL 6))))
  (sset 4 (gcV M_X1_reach lkV_7_174 ym_X1_reach (by decide) [(gR (rF lkF_7_24 (by decide) (rL 0))), (gJ (jcV P_X1_spreadOverHedges lkV_7_184 yp_X1_spreadOverHedges [(vR (rF lkF_7_24 (by decide) (rL 0))), (vJ (jL 4))])), (gI (iL 1)), (gJ (jK 0))])))
def Ls1_X7_cut : mzT1 :=
  (sinc 6 1)
def Lt1_X7_cut : mzT1 :=
  (sret (gI (iK (-1))))
def Lt2_X7_cut : mzT1 :=
  (sseq (sset 6 (gI (iK 0)))
  (sseq (sloop Lc1_X7_cut 55 Lb1_X7_cut 87 Ls1_X7_cut 93)
  Lt1_X7_cut))
def B_X7_cut : mzT1 :=
  (sseq (sif1 (gB (cor 18 (cor 7 (cnot (cif0 .ne (icS P_X7_isStep lkS_7_144 yp_X7_isStep [(vI (iL 1))]))) (cnot (cif0 .ne (icV P_X1_hasDay lkV_7_147 yp_X1_hasDay [(vR (rF lkF_7_24 (by decide) (rL 0))), (vI (iL 2))])))) (cnot (cif0 .ne (icV P_X1_hasDay lkV_7_147 yp_X1_hasDay [(vR (rF lkF_7_24 (by decide) (rL 0))), (vI (iL 3))]))))) 29
  (sret (gI (iK (-2)))))
  (sseq (sset 4 (gcV M_X1_reach lkV_7_174 ym_X1_reach (by decide) [(gR (rF lkF_7_24 (by decide) (rL 0))), (gJ (jshl (jK 1) (iL 2))), (gI (iL 1)), (gJ (jK 0))]))
  Lt2_X7_cut))
theorem ok_X7_cut : mzok1 yX7_cut cX7_cut 7 7 (some .int) 2 60 1 B_X7_cut := ⟨by decide +kernel, mzT_at 571 (by decide +kernel) rfl, by decide, rfl, rfl, rfl⟩
def M_X7_cut : mzMt := mzmk yX7_cut cX7_cut 7 7 (some .int) 2 60 1 B_X7_cut ok_X7_cut
theorem ym_X7_cut : M_X7_cut.1.1 = yX7_cut := rfl

def Lt1_X7_findSecondGuard : mzT1 :=
  (sseq (sast 0 (gR (rF lkF_7_59 (by decide) (rL 0))) (gI (iK 0)) (gI (iL 4)))
  (sseq (sast 0 (gR (rF lkF_7_59 (by decide) (rL 0))) (gI (iK 1)) (gI (iL 5)))
  (sretZ (gI (iK 1)))))
def Lc1_X7_findSecondGuard : mzB1 :=
  (gB (ccmp .lt (iL 5) (icV P_X1_days lkV_7_268 yp_X1_days [(vR (rF lkF_7_24 (by decide) (rL 0)))])))
def Lb1_X7_findSecondGuard : mzT1 :=
  (sif1 (band 30 (gB (cand 24 (ccmp .ne (iL 5) (iL 2)) (ccmp .ne (iL 5) (iL 3)))) (bif0 .ne (gcV M_X1_isParted lkV_7_325 ym_X1_isParted (by decide) [(gR (rF lkF_7_24 (by decide) (rL 0))), (gI (iL 1)), (gI (iL 2)), (gI (iL 3)), (gJ (jor (jshl (jK 1) (iL 4)) (jshl (jK 1) (iL 5))))]))) 52
  Lt1_X7_findSecondGuard)
def Ls1_X7_findSecondGuard : mzT1 :=
  (sinc 5 1)
def Lt2_X7_findSecondGuard : mzT1 :=
  (sretZ (gI (iK 0)))
def B_X7_findSecondGuard : mzT1 :=
  (sseq (sset 5 (gI (iadd (iL 4) (iK 1))))
  (sseq (sloop Lc1_X7_findSecondGuard 18 Lb1_X7_findSecondGuard 70 Ls1_X7_findSecondGuard 76)
  Lt2_X7_findSecondGuard))
theorem ok_X7_findSecondGuard : mzok1 yX7_findSecondGuard cX7_findSecondGuard 7 6 (some .boolean) 3 85 4 B_X7_findSecondGuard := ⟨by decide +kernel, mzT_at 592 (by decide +kernel) rfl, by decide, rfl, rfl, rfl⟩
def M_X7_findSecondGuard : mzMt := mzmk yX7_findSecondGuard cX7_findSecondGuard 7 6 (some .boolean) 3 85 4 B_X7_findSecondGuard ok_X7_findSecondGuard
theorem ym_X7_findSecondGuard : M_X7_findSecondGuard.1.1 = yX7_findSecondGuard := rfl

def Lt1_X7_findGuards : mzT1 :=
  (sret (gI (iK 0)))
def Lt2_X7_findGuards : mzT1 :=
  (sseq (sast 0 (gR (rF lkF_7_59 (by decide) (rL 0))) (gI (iK 0)) (gI (iL 4)))
  (sret (gI (iK 1))))
def Lc1_X7_findGuards : mzB1 :=
  (gB (ccmp .lt (iL 4) (icV P_X1_days lkV_7_268 yp_X1_days [(vR (rF lkF_7_24 (by decide) (rL 0)))])))
def Lb1_X7_findGuards : mzT1 :=
  (sif1 (band 63 (gB (cand 57 (ccmp .ne (iL 4) (iL 2)) (ccmp .ne (iL 4) (iL 3)))) (bif0 .ne (gcV M_X1_isParted lkV_7_325 ym_X1_isParted (by decide) [(gR (rF lkF_7_24 (by decide) (rL 0))), (gI (iL 1)), (gI (iL 2)), (gI (iL 3)), (gJ (jshl (jK 1) (iL 4)))]))) 80
  Lt2_X7_findGuards)
def Ls1_X7_findGuards : mzT1 :=
  (sinc 4 1)
def Lt3_X7_findGuards : mzT1 :=
  (sret (gI (iK 2)))
def Lc2_X7_findGuards : mzB1 :=
  (gB (ccmp .lt (iL 4) (icV P_X1_days lkV_7_268 yp_X1_days [(vR (rF lkF_7_24 (by decide) (rL 0)))])))
def Lb2_X7_findGuards : mzT1 :=
  (sif1 (band 123 (gB (cand 117 (ccmp .ne (iL 4) (iL 2)) (ccmp .ne (iL 4) (iL 3)))) (bif0 .ne (gcV M_X7_findSecondGuard lkV_7_329 ym_X7_findSecondGuard (by decide) [(gR (rL 0)), (gI (iL 1)), (gI (iL 2)), (gI (iL 3)), (gI (iL 4))]))) 135
  Lt3_X7_findGuards)
def Ls2_X7_findGuards : mzT1 :=
  (sinc 4 1)
def Lt4_X7_findGuards : mzT1 :=
  (sret (gI (iK (-1))))
def Lt5_X7_findGuards : mzT1 :=
  (sseq (sset 4 (gI (iK 0)))
  (sseq (sloop Lc2_X7_findGuards 111 Lb2_X7_findGuards 137 Ls2_X7_findGuards 143)
  Lt4_X7_findGuards))
def Lt6_X7_findGuards : mzT1 :=
  (sseq (sif1 (gB (cif0 .ne (icS P_X7_has lkS_7_188 yp_X7_has [(vJ (jcV P_X1_spread lkV_7_192 yp_X1_spread [(vR (rF lkF_7_24 (by decide) (rL 0))), (vJ (jshl (jK 1) (iL 2))), (vI (iL 1))])), (vI (iL 3))]))) 34
  (sret (gI (iK (-1)))))
  (sseq (sset 4 (gI (iK 0)))
  (sseq (sloop Lc1_X7_findGuards 51 Lb1_X7_findGuards 90 Ls1_X7_findGuards 96)
  Lt5_X7_findGuards)))
def B_X7_findGuards : mzT1 :=
  (sseq (sif1 (bif0 .ne (gcV M_X1_isParted lkV_7_325 ym_X1_isParted (by decide) [(gR (rF lkF_7_24 (by decide) (rL 0))), (gI (iL 1)), (gI (iL 2)), (gI (iL 3)), (gJ (jK 0))])) 14
  Lt1_X7_findGuards)
  Lt6_X7_findGuards)
theorem ok_X7_findGuards : mzok1 yX7_findGuards cX7_findGuards 7 5 (some .int) 4 110 1 B_X7_findGuards := ⟨by decide +kernel, mzT_at 579 (by decide +kernel) rfl, by decide, rfl, rfl, rfl⟩
def M_X7_findGuards : mzMt := mzmk yX7_findGuards cX7_findGuards 7 5 (some .int) 4 110 1 B_X7_findGuards ok_X7_findGuards
theorem ym_X7_findGuards : M_X7_findGuards.1.1 = yX7_findGuards := rfl

def Lt1_X7_guard : mzT1 :=
  (sseq (sif1 (gB (ccmp .eq (iL 4) (iK (-1)))) 67
  (sret (gI (iL 5))))
  (sret (gI (iq 77 87 (ccmp .lt (iL 4) (iL 5)) (iA (rF lkF_7_59 (by decide) (rL 0)) (iL 4)) (iK (-1))))))
def B_X7_guard : mzT1 :=
  (sseq (sif1 (gB (cor 29 (cor 18 (cor 7 (cnot (cif0 .ne (icS P_X7_isStep lkS_7_144 yp_X7_isStep [(vI (iL 1))]))) (cnot (cif0 .ne (icV P_X1_hasDay lkV_7_147 yp_X1_hasDay [(vR (rF lkF_7_24 (by decide) (rL 0))), (vI (iL 2))])))) (cnot (cif0 .ne (icV P_X1_hasDay lkV_7_147 yp_X1_hasDay [(vR (rF lkF_7_24 (by decide) (rL 0))), (vI (iL 3))])))) (ccmp .eq (iL 2) (iL 3)))) 34
  (sret (gI (iK (-2)))))
  (sseq (sif1 (gB (cor 43 (ccmp .lt (iL 4) (iK (-1))) (ccmp .ge (iL 4) (iK 2)))) 49
  (sret (gI (iK (-2)))))
  (sseq (sset 5 (gcV M_X7_findGuards lkV_7_196 ym_X7_findGuards (by decide) [(gR (rL 0)), (gI (iL 1)), (gI (iL 2)), (gI (iL 3))]))
  Lt1_X7_guard)))
theorem ok_X7_guard : mzok1 yX7_guard cX7_guard 7 6 (some .int) 5 134 1 B_X7_guard := ⟨by decide +kernel, mzT_at 575 (by decide +kernel) rfl, by decide, rfl, rfl, rfl⟩
def M_X7_guard : mzMt := mzmk yX7_guard cX7_guard 7 6 (some .int) 5 134 1 B_X7_guard ok_X7_guard
theorem ym_X7_guard : M_X7_guard.1.1 = yX7_guard := rfl

