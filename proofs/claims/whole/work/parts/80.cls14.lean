/-! the class: the lost one -/
def Lc1_X0_beginAgain : mzB1 :=
  (gB (ccmp .lt (iL 1) (iF lkF_0_27 (by decide) (rL 0))))
def Lb1_X0_beginAgain : mzT1 :=
  (sast 0 (gR (rF lkF_0_15 (by decide) (rL 0))) (gI (iL 1)) (gI (iA (rF lkF_0_9 (by decide) (rL 0)) (iL 1))))
def Ls1_X0_beginAgain : mzT1 :=
  (sinc 1 1)
def Lt1_X0_beginAgain : mzT1 :=
  sretv
def B_X0_beginAgain : mzT1 :=
  (sseq (sset 1 (gI (iK 0)))
  (sseq (sloop Lc1_X0_beginAgain 10 Lb1_X0_beginAgain 22 Ls1_X0_beginAgain 28)
  Lt1_X0_beginAgain))
theorem ok_X0_beginAgain : mzok1 yX0_beginAgain cX0_beginAgain 0 2 none 0 0 0 B_X0_beginAgain := ⟨by decide +kernel, mzT_at 632 (by decide +kernel) rfl, by decide, rfl, rfl, rfl⟩
def M_X0_beginAgain : mzMt := mzmk yX0_beginAgain cX0_beginAgain 0 2 none 0 0 0 B_X0_beginAgain ok_X0_beginAgain
theorem ym_X0_beginAgain : M_X0_beginAgain.1.1 = yX0_beginAgain := rfl

def Lc1_X0_beginAnywhere : mzB1 :=
  (gB (ccmp .lt (iL 2) (iF lkF_0_27 (by decide) (rL 0))))
def Lb1_X0_beginAnywhere : mzT1 :=
  (sast 0 (gR (rF lkF_0_9 (by decide) (rL 0))) (gI (iL 2)) (gI (iL 2)))
def Ls1_X0_beginAnywhere : mzT1 :=
  (sinc 2 1)
def Lt1_X0_beginAnywhere : mzT1 :=
  sretv
def Lt2_X0_beginAnywhere : mzT1 :=
  (sseq (scV M_X0_beginAgain lkV_0_31 ym_X0_beginAgain [(gR (rL 0))])
  Lt1_X0_beginAnywhere)
def B_X0_beginAnywhere : mzT1 :=
  (sseq (sput lkP_0_27 (gR (rL 0)) (gI (imin lkX_0_21 (imul (iK 4) (iL 1)) (iK 144))))
  (sseq (sset 2 (gI (iK 0)))
  (sseq (sloop Lc1_X0_beginAnywhere 23 Lb1_X0_beginAnywhere 30 Ls1_X0_beginAnywhere 36)
  Lt2_X0_beginAnywhere)))
theorem ok_X0_beginAnywhere : mzok1 yX0_beginAnywhere cX0_beginAnywhere 0 3 none 1 32 0 B_X0_beginAnywhere := ⟨by decide +kernel, mzT_at 625 (by decide +kernel) rfl, by decide, rfl, rfl, rfl⟩
def M_X0_beginAnywhere : mzMt := mzmk yX0_beginAnywhere cX0_beginAnywhere 0 3 none 1 32 0 B_X0_beginAnywhere ok_X0_beginAnywhere
theorem ym_X0_beginAnywhere : M_X0_beginAnywhere.1.1 = yX0_beginAnywhere := rfl

def Lc1_X0_keepThoseOn : mzB1 :=
  (gB (ccmp .lt (iL 3) (iF lkF_0_27 (by decide) (rL 0))))
def Lb1_X0_keepThoseOn : mzT1 :=
  (sif1 (gB (ccmp .eq (idiv (iA (rF lkF_0_15 (by decide) (rL 0)) (iL 3)) (iK 4)) (iL 1))) 24
  (sseq (sast 0 (gR (rF lkF_0_9 (by decide) (rL 0))) (gI (iL 2)) (gI (iA (rF lkF_0_9 (by decide) (rL 0)) (iL 3))))
  (sseq (sast 0 (gR (rF lkF_0_15 (by decide) (rL 0))) (gI (iL 2)) (gI (iA (rF lkF_0_15 (by decide) (rL 0)) (iL 3))))
  (sinc 2 1))))
def Ls1_X0_keepThoseOn : mzT1 :=
  (sinc 3 1)
def Lt1_X0_keepThoseOn : mzT1 :=
  (sseq (sput lkP_0_27 (gR (rL 0)) (gI (iL 2)))
  sretv)
def B_X0_keepThoseOn : mzT1 :=
  (sseq (sset 2 (gI (iK 0)))
  (sseq (sset 3 (gI (iK 0)))
  (sseq (sloop Lc1_X0_keepThoseOn 12 Lb1_X0_keepThoseOn 51 Ls1_X0_keepThoseOn 57)
  Lt1_X0_keepThoseOn)))
theorem ok_X0_keepThoseOn : mzok1 yX0_keepThoseOn cX0_keepThoseOn 0 4 none 0 0 0 B_X0_keepThoseOn := ⟨by decide +kernel, mzT_at 640 (by decide +kernel) rfl, by decide, rfl, rfl, rfl⟩
def M_X0_keepThoseOn : mzMt := mzmk yX0_keepThoseOn cX0_keepThoseOn 0 4 none 0 0 0 B_X0_keepThoseOn ok_X0_keepThoseOn
theorem ym_X0_keepThoseOn : M_X0_keepThoseOn.1.1 = yX0_keepThoseOn := rfl

def Lt1_X0_goOn : mzT1 :=
  (sast 0 (gR (rF lkF_0_15 (by decide) (rL 0))) (gI (iL 4)) (gI (iA (rF lkF_0_18 (by decide) (rL 0)) (iL 5))))
def Lc1_X0_goOn : mzB1 :=
  (gB (ccmp .lt (iL 4) (iF lkF_0_27 (by decide) (rL 0))))
def Lb1_X0_goOn : mzT1 :=
  (sseq (sset 5 (gI (iA (rF lkF_0_15 (by decide) (rL 0)) (iL 4))))
  (sif1 (gB (cand 42 (cif0 .ge (iL 5)) (ccmp .lt (iL 5) (iK 144)))) 50
  (sseq (sif1 (gB (ccmp .eq (iA (rF lkF_0_18 (by decide) (rL 0)) (iL 5)) (iK (-1)))) 61
  (sast 0 (gR (rF lkF_0_18 (by decide) (rL 0))) (gI (iL 5)) (gcV M_X1_next lkV_0_46 ym_X1_next (by decide) [(gR (rL 1)), (gI (iL 5)), (gI (iL 2)), (gI (iL 3))])))
  Lt1_X0_goOn)))
def Ls1_X0_goOn : mzT1 :=
  (sinc 4 1)
def Lt2_X0_goOn : mzT1 :=
  sretv
def Lt3_X0_goOn : mzT1 :=
  (sseq (sset 4 (gI (iK 0)))
  (sseq (sloop Lc1_X0_goOn 28 Lb1_X0_goOn 90 Ls1_X0_goOn 96)
  Lt2_X0_goOn))
def B_X0_goOn : mzT1 :=
  (sseq (sif1 (gB (cif0 .ne (icV P_X1_isChanged lkV_0_34 yp_X1_isChanged [(vR (rL 1)), (vI (iL 3))]))) 8
  (scS M_J7_fill_53178 lkS_0_40 ym_J7_fill_53178 [(gR (rF lkF_0_18 (by decide) (rL 0))), (gI (iK (-1)))]))
  Lt3_X0_goOn)
theorem ok_X0_goOn : mzok1 yX0_goOn cX0_goOn 0 6 none 3 72 0 B_X0_goOn := ⟨by decide +kernel, mzT_at 644 (by decide +kernel) rfl, by decide, rfl, rfl, rfl⟩
def M_X0_goOn : mzMt := mzmk yX0_goOn cX0_goOn 0 6 none 3 72 0 B_X0_goOn ok_X0_goOn
theorem ym_X0_goOn : M_X0_goOn.1.1 = yX0_goOn := rfl

def Lt1_X7_findStarts : mzT1 :=
  (scV M_X0_goOn lkV_7_345 ym_X0_goOn [(gR (rF lkF_7_66 (by decide) (rL 0))), (gR (rF lkF_7_24 (by decide) (rL 0))), (gI (iL 1)), (gI (iL 2))])
def Lc1_X7_findStarts : mzB1 :=
  (gB (ccmp .le (iL 2) (iF lkF_7_336 (by decide) (rF lkF_7_48 (by decide) (rL 0)))))
def Lb1_X7_findStarts : mzT1 :=
  (sseq (sset 3 (gI (icV P_X4_dayAt lkV_7_339 yp_X4_dayAt [(vR (rF lkF_7_48 (by decide) (rL 0))), (vI (iL 2))])))
  (sseq (sif1 (gB (ccmp .ne (iL 3) (iK (-1)))) 41
  (scV M_X0_keepThoseOn lkV_7_342 ym_X0_keepThoseOn [(gR (rF lkF_7_66 (by decide) (rL 0))), (gI (iL 3))]))
  Lt1_X7_findStarts))
def Ls1_X7_findStarts : mzT1 :=
  (sinc 2 1)
def Lt2_X7_findStarts : mzT1 :=
  sretv
def Lt3_X7_findStarts : mzT1 :=
  (sseq (sset 2 (gI (iK 0)))
  (sseq (sloop Lc1_X7_findStarts 27 Lb1_X7_findStarts 62 Ls1_X7_findStarts 68)
  Lt2_X7_findStarts))
def B_X7_findStarts : mzT1 :=
  (sseq (scV M_X0_beginAnywhere lkV_7_333 ym_X0_beginAnywhere [(gR (rF lkF_7_66 (by decide) (rL 0))), (gI (icV P_X1_days lkV_7_268 yp_X1_days [(vR (rF lkF_7_24 (by decide) (rL 0)))]))])
  Lt3_X7_findStarts)
theorem ok_X7_findStarts : mzok1 yX7_findStarts cX7_findStarts 7 4 none 4 97 0 B_X7_findStarts := ⟨by decide +kernel, mzT_at 621 (by decide +kernel) rfl, by decide, rfl, rfl, rfl⟩
def M_X7_findStarts : mzMt := mzmk yX7_findStarts cX7_findStarts 7 4 none 4 97 0 B_X7_findStarts ok_X7_findStarts
theorem ym_X7_findStarts : M_X7_findStarts.1.1 = yX7_findStarts := rfl

def Lc1_X7_busiestDay : mzB1 :=
  (gB (ccmp .lt (iL 3) (iL 2)))
def Lb1_X7_busiestDay : mzT1 :=
  (scV M_X0_goOn lkV_7_345 ym_X0_goOn [(gR (rF lkF_7_66 (by decide) (rL 0))), (gR (rF lkF_7_24 (by decide) (rL 0))), (gI (iL 1)), (gI (iL 3))])
def Ls1_X7_busiestDay : mzT1 :=
  (sinc 3 1)
def Lc2_X7_busiestDay : mzB1 :=
  (gB (ccmp .lt (iL 3) (iF lkF_7_213 (by decide) (rF lkF_7_66 (by decide) (rL 0)))))
def Lb2_X7_busiestDay : mzT1 :=
  (sseq (sset 4 (gI (idiv (iA (rF lkF_7_358 (by decide) (rF lkF_7_66 (by decide) (rL 0))) (iL 3)) (iK 4))))
  (sif1 (gB (cif0 .ne (icV P_X1_hasDay lkV_7_147 yp_X1_hasDay [(vR (rF lkF_7_24 (by decide) (rL 0))), (vI (iL 4))]))) 79
  (sastI mzr_iadd (gR (rF lkF_7_70 (by decide) (rL 0))) (gI (iL 4)) (gI (iK 1)))))
def Ls2_X7_busiestDay : mzT1 :=
  (sinc 3 1)
def Lc3_X7_busiestDay : mzB1 :=
  (gB (ccmp .lt (iL 5) (iK 36)))
def Lb3_X7_busiestDay : mzT1 :=
  (sif1 (gB (ccmp .gt (iA (rF lkF_7_70 (by decide) (rL 0)) (iL 5)) (iL 4))) 123
  (sseq (sset 4 (gI (iA (rF lkF_7_70 (by decide) (rL 0)) (iL 5))))
  (sset 3 (gI (iL 5)))))
def Ls3_X7_busiestDay : mzT1 :=
  (sinc 5 1)
def Lt1_X7_busiestDay : mzT1 :=
  (sret (gI (iL 3)))
def Lt2_X7_busiestDay : mzT1 :=
  (sseq (sset 3 (gI (iK (-1))))
  (sseq (sset 4 (gI (iK 0)))
  (sseq (sset 5 (gI (iK 0)))
  (sseq (sloop Lc3_X7_busiestDay 111 Lb3_X7_busiestDay 135 Ls3_X7_busiestDay 141)
  Lt1_X7_busiestDay))))
def Lt3_X7_busiestDay : mzT1 :=
  (sseq (sset 3 (gI (iK 0)))
  (sseq (sloop Lc2_X7_busiestDay 54 Lb2_X7_busiestDay 90 Ls2_X7_busiestDay 96)
  Lt2_X7_busiestDay))
def Lt4_X7_busiestDay : mzT1 :=
  (sseq (scS M_J7_fill_53178 lkS_7_355 ym_J7_fill_53178 [(gR (rF lkF_7_70 (by decide) (rL 0))), (gI (iK 0))])
  Lt3_X7_busiestDay)
def Lt5_X7_busiestDay : mzT1 :=
  (sseq (sset 3 (gI (iK 0)))
  (sseq (sloop Lc1_X7_busiestDay 14 Lb1_X7_busiestDay 27 Ls1_X7_busiestDay 33)
  Lt4_X7_busiestDay))
def B_X7_busiestDay : mzT1 :=
  (sseq (scV M_X0_beginAgain lkV_7_352 ym_X0_beginAgain [(gR (rF lkF_7_66 (by decide) (rL 0)))])
  Lt5_X7_busiestDay)
theorem ok_X7_busiestDay : mzok1 yX7_busiestDay cX7_busiestDay 7 6 (some .int) 4 97 1 B_X7_busiestDay := ⟨by decide +kernel, mzT_at 662 (by decide +kernel) rfl, by decide, rfl, rfl, rfl⟩
def M_X7_busiestDay : mzMt := mzmk yX7_busiestDay cX7_busiestDay 7 6 (some .int) 4 97 1 B_X7_busiestDay ok_X7_busiestDay
theorem ym_X7_busiestDay : M_X7_busiestDay.1.1 = yX7_busiestDay := rfl

def Lt1_X7_began : mzT1 :=
  (sret (gI (iq 32 42 (ccmp .eq (iL 2) (iK (-1))) (iF lkF_7_213 (by decide) (rF lkF_7_66 (by decide) (rL 0))) (icV P_X7_startAt lkV_7_214 yp_X7_startAt [(vR (rL 0)), (vI (iL 2))]))))
def B_X7_began : mzT1 :=
  (sseq (sif1 (gB (cor 12 (cor 7 (cnot (cif0 .ne (icS P_X7_isHand lkS_7_207 yp_X7_isHand [(vI (iL 1))]))) (ccmp .lt (iL 2) (iK (-1)))) (ccmp .ge (iL 2) (iK 144)))) 19
  (sret (gI (iK (-2)))))
  (sseq (scV M_X7_findStarts lkV_7_210 ym_X7_findStarts [(gR (rL 0)), (gI (iL 1))])
  Lt1_X7_began))
theorem ok_X7_began : mzok1 yX7_began cX7_began 7 3 (some .int) 5 120 1 B_X7_began := ⟨by decide +kernel, mzT_at 616 (by decide +kernel) rfl, by decide, rfl, rfl, rfl⟩
def M_X7_began : mzMt := mzmk yX7_began cX7_began 7 3 (some .int) 5 120 1 B_X7_began ok_X7_began
theorem ym_X7_began : M_X7_began.1.1 = yX7_began := rfl

def Lt1_X7_look : mzT1 :=
  (sret (gcV M_X7_busiestDay lkV_7_217 ym_X7_busiestDay (by decide) [(gR (rL 0)), (gI (iL 1)), (gI (iL 2))]))
def B_X7_look : mzT1 :=
  (sseq (sif1 (gB (cor 7 (cnot (cif0 .ne (icS P_X7_isHand lkS_7_207 yp_X7_isHand [(vI (iL 1))]))) (cnot (cif0 .ne (icS P_X7_isStep lkS_7_144 yp_X7_isStep [(vI (iL 2))]))))) 14
  (sret (gI (iK (-2)))))
  (sseq (scV M_X7_findStarts lkV_7_210 ym_X7_findStarts [(gR (rL 0)), (gI (iL 1))])
  Lt1_X7_look))
theorem ok_X7_look : mzok1 yX7_look cX7_look 7 3 (some .int) 5 122 1 B_X7_look := ⟨by decide +kernel, mzT_at 658 (by decide +kernel) rfl, by decide, rfl, rfl, rfl⟩
def M_X7_look : mzMt := mzmk yX7_look cX7_look 7 3 (some .int) 5 122 1 B_X7_look ok_X7_look
theorem ym_X7_look : M_X7_look.1.1 = yX7_look := rfl

def Lt1_X4_clear : mzT1 :=
  (sseq (sput lkP_4_24 (gR (rL 0)) (gI (iK 0)))
  (sseq (sput lkP_4_28 (gR (rL 0)) (gI (iK (-1))))
  sretv))
def B_X4_clear : mzT1 :=
  (sseq (scS M_J7_fill_53178 lkS_4_18 ym_J7_fill_53178 [(gR (rF lkF_4_9 (by decide) (rL 0))), (gI (iK (-1)))])
  Lt1_X4_clear)
theorem ok_X4_clear : mzok1 yX4_clear cX4_clear 4 1 none 1 23 0 B_X4_clear := ⟨by decide +kernel, mzT_at 207 (by decide +kernel) rfl, by decide, rfl, rfl, rfl⟩
def M_X4_clear : mzMt := mzmk yX4_clear cX4_clear 4 1 none 1 23 0 B_X4_clear ok_X4_clear
theorem ym_X4_clear : M_X4_clear.1.1 = yX4_clear := rfl

def B_X4_add : mzT1 :=
  (sseq (sif1 (gB (cor 7 (cif0 .ne (icV P_X4_isFull lkV_4_31 yp_X4_isFull [(vR (rL 0))])) (cnot (cif0 .ne (icS P_X7_isStep lkS_4_35 yp_X7_isStep [(vI (iL 1))]))))) 14
  sretv)
  (sseq (sast 0 (gR (rF lkF_4_9 (by decide) (rL 0))) (gI (iL 1)) (gI (iq 40 44 (cor 30 (ccmp .eq (iA (rF lkF_4_9 (by decide) (rL 0)) (iL 1)) (iK (-1))) (ccmp .eq (iA (rF lkF_4_9 (by decide) (rL 0)) (iL 1)) (iL 2))) (iL 2) (iK 36))))
  (sseq (sputI lkP_4_24 mzr_iadd (gR (rL 0)) (gI (iK 1)))
  (sseq (sput lkP_4_28 (gR (rL 0)) (gI (imax lkX_4_39 (iF lkF_4_28 (by decide) (rL 0)) (iL 1))))
  sretv))))
theorem ok_X4_add : mzok1 yX4_add cX4_add 4 3 none 1 32 0 B_X4_add := ⟨by decide +kernel, mzT_at 604 (by decide +kernel) rfl, by decide, rfl, rfl, rfl⟩
def M_X4_add : mzMt := mzmk yX4_add cX4_add 4 3 none 1 32 0 B_X4_add ok_X4_add
theorem ym_X4_add : M_X4_add.1.1 = yX4_add := rfl

def Lt1_X7_seen : mzT1 :=
  (sret (gI (iF lkF_7_203 (by decide) (rF lkF_7_48 (by decide) (rL 0)))))
def B_X7_seen : mzT1 :=
  (sseq (sif1 (gB (cor 11 (cor 7 (cnot (cif0 .ne (icS P_X7_isStep lkS_7_144 yp_X7_isStep [(vI (iL 1))]))) (cif0 .lt (iL 2))) (ccmp .ge (iL 2) (iK 36)))) 17
  (sret (gI (iK (-2)))))
  (sseq (sif1 (gB (cif0 .ne (icV P_X4_isFull lkV_7_199 yp_X4_isFull [(vR (rF lkF_7_48 (by decide) (rL 0)))]))) 30
  (sret (gI (iK (-4)))))
  (sseq (scV M_X4_add lkV_7_200 ym_X4_add [(gR (rF lkF_7_48 (by decide) (rL 0))), (gI (iL 1)), (gI (iL 2))])
  Lt1_X7_seen)))
theorem ok_X7_seen : mzok1 yX7_seen cX7_seen 7 3 (some .int) 2 54 1 B_X7_seen := ⟨by decide +kernel, mzT_at 596 (by decide +kernel) rfl, by decide, rfl, rfl, rfl⟩
def M_X7_seen : mzMt := mzmk yX7_seen cX7_seen 7 3 (some .int) 2 54 1 B_X7_seen ok_X7_seen
theorem ym_X7_seen : M_X7_seen.1.1 = yX7_seen := rfl

def Lt1_X7_forget : mzT1 :=
  (sret (gI (iL 1)))
def B_X7_forget : mzT1 :=
  (sseq (sset 1 (gI (iF lkF_7_203 (by decide) (rF lkF_7_48 (by decide) (rL 0)))))
  (sseq (scV M_X4_clear lkV_7_204 ym_X4_clear [(gR (rF lkF_7_48 (by decide) (rL 0)))])
  Lt1_X7_forget))
theorem ok_X7_forget : mzok1 yX7_forget cX7_forget 7 2 (some .int) 2 43 1 B_X7_forget := ⟨by decide +kernel, mzT_at 611 (by decide +kernel) rfl, by decide, rfl, rfl, rfl⟩
def M_X7_forget : mzMt := mzmk yX7_forget cX7_forget 7 2 (some .int) 2 43 1 B_X7_forget ok_X7_forget
theorem ym_X7_forget : M_X7_forget.1.1 = yX7_forget := rfl

