/-! the class: sheets -/
def Lt1_X3_renew : mzT1 :=
  (sseq (sput lkP_3_15 (gR (rL 0)) (gI (iL 1)))
  (sseq (sput lkP_3_19 (gR (rL 0)) (gI (iL 2)))
  sretv))
def B_X3_renew : mzT1 :=
  (sseq (scS M_J7_fill_53178 lkS_3_22 ym_J7_fill_53178 [(gR (rF lkF_3_9 (by decide) (rL 0))), (gI (iK 0))])
  Lt1_X3_renew)
theorem ok_X3_renew : mzok1 yX3_renew cX3_renew 3 3 none 1 23 0 B_X3_renew := ⟨by decide +kernel, mzT_at 703 (by decide +kernel) rfl, by decide, rfl, rfl, rfl⟩
def M_X3_renew : mzMt := mzmk yX3_renew cX3_renew 3 3 none 1 23 0 B_X3_renew ok_X3_renew
theorem ym_X3_renew : M_X3_renew.1.1 = yX3_renew := rfl

def B_X3_setItem : mzT1 :=
  (sseq (sif1 (gB (cnot (cif0 .ne (icV P_X3_holds lkV_3_28 yp_X3_holds [(vR (rL 0)), (vI (iL 1))])))) 8
  sretv)
  (sseq (ssw (gI (iF lkF_3_15 (by decide) (rL 0))) [(0, 40, (sseq (sast 0 (gR (rF lkF_3_9 (by decide) (rL 0))) (gI (iL 1)) (gI (i2b (iL 2))))
  sbrk)),
    (1, 51, (sseq (sast 0 (gR (rF lkF_3_9 (by decide) (rL 0))) (gI (iL 1)) (gI (i2s (iL 2))))
  sbrk))] 62 (sseq (sast 0 (gR (rF lkF_3_9 (by decide) (rL 0))) (gI (iL 1)) (gI (iL 2)))
  sskip) 69)
  sretv))
theorem ok_X3_setItem : mzok1 yX3_setItem cX3_setItem 3 3 none 1 21 0 B_X3_setItem := ⟨by decide +kernel, mzT_at 723 (by decide +kernel) rfl, by decide, rfl, rfl, rfl⟩
def M_X3_setItem : mzMt := mzmk yX3_setItem cX3_setItem 3 3 none 1 21 0 B_X3_setItem ok_X3_setItem
theorem ym_X3_setItem : M_X3_setItem.1.1 = yX3_setItem := rfl

def B_X7_find : mzT1 :=
  (sseq (sput lkP_7_274 (gR (rL 0)) (gI (iL 1)))
  (sret (gI (isub (iK (-10)) (iL 1)))))
theorem ok_X7_find : mzok1 yX7_find cX7_find 7 2 (some .int) 0 0 1 B_X7_find := ⟨by decide +kernel, mzT_at 458 (by decide +kernel) rfl, by decide, rfl, rfl, rfl⟩
def M_X7_find : mzMt := mzmk yX7_find cX7_find 7 2 (some .int) 0 0 1 B_X7_find ok_X7_find
theorem ym_X7_find : M_X7_find.1.1 = yX7_find := rfl

def B_X7_itemFinding : mzT1 :=
  (sseq (sif1 (gB (cif0 .ne (icV P_X3_isLost lkV_7_133 yp_X3_isLost [(vR (rL 0))]))) 7
  (sret (gI (iK 1))))
  (sseq (sif1 (gB (ccmp .ne (iF lkF_7_255 (by decide) (rL 0)) (iL 1))) 17
  (sret (gI (iK 3))))
  (sret (gI (iq 27 31 (cif0 .ne (icV P_X3_holds lkV_7_318 yp_X3_holds [(vR (rL 0)), (vI (iL 2))])) (iK 0) (iK 2))))))
theorem ok_X7_itemFinding : mzok1 yX7_itemFinding cX7_itemFinding 7 3 (some .int) 1 21 1 B_X7_itemFinding := ⟨by decide +kernel, mzT_at 715 (by decide +kernel) rfl, by decide, rfl, rfl, rfl⟩
def M_X7_itemFinding : mzMt := mzmk yX7_itemFinding cX7_itemFinding 7 3 (some .int) 1 21 1 B_X7_itemFinding ok_X7_itemFinding
theorem ym_X7_itemFinding : M_X7_itemFinding.1.1 = yX7_itemFinding := rfl

def Lt1_X7_sheet : mzT1 :=
  (sret (gI (iL 3)))
def Lt2_X7_sheet : mzT1 :=
  (sseq (scV M_X3_renew lkV_7_244 ym_X3_renew [(gR (rL 4)), (gI (iL 2)), (gI (iL 3))])
  Lt1_X7_sheet)
def B_X7_sheet : mzT1 :=
  (sseq (sset 4 (gR (rcV P_X7_sheetAt lkV_7_129 yp_X7_sheetAt [(vR (rL 0)), (vI (iL 1))])))
  (sseq (sif1 (gB (cor 19 (cor 12 (cnul .eq (rL 4)) (cnot (cif0 .ne (icS P_X7_isForm lkS_7_241 yp_X7_isForm [(vI (iL 2))])))) (ccmp .gt (iL 3) (iK 60)))) 25
  (sret (gI (iK (-2)))))
  (sseq (sif1 (gB (cif0 .lt (iL 3))) 32
  (sret (gcV M_X7_find lkV_7_136 ym_X7_find (by decide) [(gR (rL 0)), (gI (iK 5))])))
  Lt2_X7_sheet)))
theorem ok_X7_sheet : mzok1 yX7_sheet cX7_sheet 7 5 (some .int) 2 45 1 B_X7_sheet := ⟨by decide +kernel, mzT_at 696 (by decide +kernel) rfl, by decide, rfl, rfl, rfl⟩
def M_X7_sheet : mzMt := mzmk yX7_sheet cX7_sheet 7 5 (some .int) 2 45 1 B_X7_sheet ok_X7_sheet
theorem ym_X7_sheet : M_X7_sheet.1.1 = yX7_sheet := rfl

def Lt1_X7_lose : mzT1 :=
  (sret (gI (iL 3)))
def Lt2_X7_lose : mzT1 :=
  (sseq (sset 3 (gI (iF lkF_7_140 (by decide) (rL 2))))
  (sseq (scV M_X3_renew lkV_7_244 ym_X3_renew [(gR (rL 2)), (gI (iK (-1))), (gI (iK 0))])
  Lt1_X7_lose))
def B_X7_lose : mzT1 :=
  (sseq (sset 2 (gR (rcV P_X7_sheetAt lkV_7_129 yp_X7_sheetAt [(vR (rL 0)), (vI (iL 1))])))
  (sseq (sif1 (gB (cnul .eq (rL 2))) 10
  (sret (gI (iK (-2)))))
  (sseq (sif1 (gB (cif0 .ne (icV P_X3_isLost lkV_7_133 yp_X3_isLost [(vR (rL 2))]))) 20
  (sret (gcV M_X7_find lkV_7_136 ym_X7_find (by decide) [(gR (rL 0)), (gI (iK 1))])))
  Lt2_X7_lose)))
theorem ok_X7_lose : mzok1 yX7_lose cX7_lose 7 4 (some .int) 2 45 1 B_X7_lose := ⟨by decide +kernel, mzT_at 708 (by decide +kernel) rfl, by decide, rfl, rfl, rfl⟩
def M_X7_lose : mzMt := mzmk yX7_lose cX7_lose 7 4 (some .int) 2 45 1 B_X7_lose ok_X7_lose
theorem ym_X7_lose : M_X7_lose.1.1 = yX7_lose := rfl

def Lt1_X7_put : mzT1 :=
  (sret (gI (iK 1)))
def Lt2_X7_put : mzT1 :=
  (sseq (scV M_X3_setItem lkV_7_251 ym_X3_setItem [(gR (rL 5)), (gI (iL 3)), (gI (iL 4))])
  Lt1_X7_put)
def Lt3_X7_put : mzT1 :=
  (sseq (sif1 (gB (cif0 .ne (iL 6))) 36
  (sret (gcV M_X7_find lkV_7_136 ym_X7_find (by decide) [(gR (rL 0)), (gI (iL 6))])))
  Lt2_X7_put)
def B_X7_put : mzT1 :=
  (sseq (sset 5 (gR (rcV P_X7_sheetAt lkV_7_129 yp_X7_sheetAt [(vR (rL 0)), (vI (iL 1))])))
  (sseq (sif1 (gB (cor 12 (cnul .eq (rL 5)) (cnot (cif0 .ne (icS P_X7_isForm lkS_7_241 yp_X7_isForm [(vI (iL 2))]))))) 19
  (sret (gI (iK (-2)))))
  (sseq (sset 6 (gcS M_X7_itemFinding lkS_7_247 ym_X7_itemFinding (by decide) [(gR (rL 5)), (gI (iL 2)), (gI (iL 3))]))
  Lt3_X7_put)))
theorem ok_X7_put : mzok1 yX7_put cX7_put 7 7 (some .int) 2 43 1 B_X7_put := ⟨by decide +kernel, mzT_at 712 (by decide +kernel) rfl, by decide, rfl, rfl, rfl⟩
def M_X7_put : mzMt := mzmk yX7_put cX7_put 7 7 (some .int) 2 43 1 B_X7_put ok_X7_put
theorem ym_X7_put : M_X7_put.1.1 = yX7_put := rfl

def Lt1_X7_get : mzT1 :=
  (sret (gI (iKc kc_7_254)))
def Lt2_X7_get : mzT1 :=
  (sret (gI (iA (rF lkF_7_141 (by decide) (rL 4)) (iL 3))))
def Lt3_X7_get : mzT1 :=
  (sseq (sif1 (gB (cif0 .ne (iL 5))) 36
  (sseq (spop (gcV M_X7_find lkV_7_136 ym_X7_find (by decide) [(gR (rL 0)), (gI (iL 5))]))
  Lt1_X7_get))
  Lt2_X7_get)
def B_X7_get : mzT1 :=
  (sseq (sset 4 (gR (rcV P_X7_sheetAt lkV_7_129 yp_X7_sheetAt [(vR (rL 0)), (vI (iL 1))])))
  (sseq (sif1 (gB (cor 12 (cnul .eq (rL 4)) (cnot (cif0 .ne (icS P_X7_isForm lkS_7_241 yp_X7_isForm [(vI (iL 2))]))))) 19
  (sret (gI (iKc kc_7_254))))
  (sseq (sset 5 (gcS M_X7_itemFinding lkS_7_247 ym_X7_itemFinding (by decide) [(gR (rL 4)), (gI (iL 2)), (gI (iL 3))]))
  Lt3_X7_get)))
theorem ok_X7_get : mzok1 yX7_get cX7_get 7 6 (some .int) 2 43 1 B_X7_get := ⟨by decide +kernel, mzT_at 728 (by decide +kernel) rfl, by decide, rfl, rfl, rfl⟩
def M_X7_get : mzMt := mzmk yX7_get cX7_get 7 6 (some .int) 2 43 1 B_X7_get ok_X7_get
theorem ym_X7_get : M_X7_get.1.1 = yX7_get := rfl

def Lt1_X7_copy : mzT1 :=
  (sseq (scopy lkC_7_262 (rF lkF_7_141 (by decide) (rL 6)) (iL 2) (rF lkF_7_141 (by decide) (rL 7)) (iL 4) (iL 5))
  (sret (gI (iK 1))))
def Lt2_X7_copy : mzT1 :=
  (sseq (sif1 (gB (cor 79 (cnot (cif0 .ne (icV P_X3_holdsFrom lkV_7_258 yp_X3_holdsFrom [(vR (rL 6)), (vI (iL 2)), (vI (iL 5))]))) (cnot (cif0 .ne (icV P_X3_holdsFrom lkV_7_258 yp_X3_holdsFrom [(vR (rL 7)), (vI (iL 4)), (vI (iL 5))]))))) 91
  (sret (gcV M_X7_find lkV_7_136 ym_X7_find (by decide) [(gR (rL 0)), (gI (iK 2))])))
  Lt1_X7_copy)
def Lt3_X7_copy : mzT1 :=
  (sseq (sif1 (gB (ccmp .ne (iF lkF_7_255 (by decide) (rL 6)) (iF lkF_7_255 (by decide) (rL 7)))) 62
  (sret (gcV M_X7_find lkV_7_136 ym_X7_find (by decide) [(gR (rL 0)), (gI (iK 4))])))
  Lt2_X7_copy)
def B_X7_copy : mzT1 :=
  (sseq (sset 6 (gR (rcV P_X7_sheetAt lkV_7_129 yp_X7_sheetAt [(vR (rL 0)), (vI (iL 1))])))
  (sseq (sset 7 (gR (rcV P_X7_sheetAt lkV_7_129 yp_X7_sheetAt [(vR (rL 0)), (vI (iL 3))])))
  (sseq (sif1 (gB (cor 19 (cnul .eq (rL 6)) (cnul .eq (rL 7)))) 24
  (sret (gI (iK (-2)))))
  (sseq (sif1 (gB (cor 35 (cif0 .ne (icV P_X3_isLost lkV_7_133 yp_X3_isLost [(vR (rL 6))])) (cif0 .ne (icV P_X3_isLost lkV_7_133 yp_X3_isLost [(vR (rL 7))])))) 43
  (sret (gcV M_X7_find lkV_7_136 ym_X7_find (by decide) [(gR (rL 0)), (gI (iK 1))])))
  Lt3_X7_copy))))
theorem ok_X7_copy : mzok1 yX7_copy cX7_copy 7 8 (some .int) 1 64 1 B_X7_copy := ⟨by decide +kernel, mzT_at 733 (by decide +kernel) rfl, by decide, rfl, rfl, rfl⟩
def M_X7_copy : mzMt := mzmk yX7_copy cX7_copy 7 8 (some .int) 1 64 1 B_X7_copy ok_X7_copy
theorem ym_X7_copy : M_X7_copy.1.1 = yX7_copy := rfl

def Lt1_X7_write : mzT1 :=
  (sset 4 (gcV M_X1_next lkV_7_161 ym_X1_next (by decide) [(gR (rF lkF_7_24 (by decide) (rL 0))), (gI (iL 4)), (gI (iA (rF lkF_7_115 (by decide) (rF lkF_7_31 (by decide) (rL 0))) (iL 1))), (gI (iL 5))]))
def Lc1_X7_write : mzB1 :=
  (gB (ccmp .lt (iL 5) (iF lkF_7_140 (by decide) (rL 3))))
def Lb1_X7_write : mzT1 :=
  (sif (gB (ccmp .eq (iL 4) (iK (-1)))) 59
  (scV M_X3_setItem lkV_7_251 ym_X3_setItem [(gR (rL 3)), (gI (iL 5)), (gI (iK (-1)))]) 69
  (sseq (scV M_X3_setItem lkV_7_251 ym_X3_setItem [(gR (rL 3)), (gI (iL 5)), (gI (idiv (iL 4) (iK 4)))])
  Lt1_X7_write))
def Ls1_X7_write : mzT1 :=
  (sinc 5 1)
def Lt2_X7_write : mzT1 :=
  (sret (gI (iF lkF_7_140 (by decide) (rL 3))))
def Lt3_X7_write : mzT1 :=
  (sseq (sset 4 (gI (icV P_X7_startOf lkV_7_154 yp_X7_startOf [(vR (rL 0)), (vI (iL 1))])))
  (sseq (sset 5 (gI (iK 0)))
  (sseq (sloop Lc1_X7_write 53 Lb1_X7_write 101 Ls1_X7_write 107)
  Lt2_X7_write)))
def B_X7_write : mzT1 :=
  (sseq (sset 3 (gR (rcV P_X7_sheetAt lkV_7_129 yp_X7_sheetAt [(vR (rL 0)), (vI (iL 2))])))
  (sseq (sif1 (gB (cor 14 (cnot (cif0 .ne (icV P_X7_isWalker lkV_7_106 yp_X7_isWalker [(vR (rL 0)), (vI (iL 1))]))) (cnul .eq (rL 3)))) 18
  (sret (gI (iK (-2)))))
  (sseq (sif1 (gB (cif0 .ne (icV P_X3_isLost lkV_7_133 yp_X3_isLost [(vR (rL 3))]))) 28
  (sret (gcV M_X7_find lkV_7_136 ym_X7_find (by decide) [(gR (rL 0)), (gI (iK 1))])))
  Lt3_X7_write)))
theorem ok_X7_write : mzok1 yX7_write cX7_write 7 6 (some .int) 3 72 1 B_X7_write := ⟨by decide +kernel, mzT_at 744 (by decide +kernel) rfl, by decide, rfl, rfl, rfl⟩
def M_X7_write : mzMt := mzmk yX7_write cX7_write 7 6 (some .int) 3 72 1 B_X7_write ok_X7_write
theorem ym_X7_write : M_X7_write.1.1 = yX7_write := rfl

def B_X2_add : mzT1 :=
  (sseq (sif1 (gB (cnot (cif0 .ne (icV P_X2_isFull lkV_2_25 yp_X2_isFull [(vR (rL 0))])))) 7
  (sseq (sast 0 (gR (rF lkF_2_9 (by decide) (rL 0))) (gI (iF lkF_2_21 (by decide) (rL 0))) (gI (iL 1)))
  (sseq (sast 0 (gR (rF lkF_2_15 (by decide) (rL 0))) (gI (iF lkF_2_21 (by decide) (rL 0))) (gI (iL 2)))
  (sseq (sast 0 (gR (rF lkF_2_18 (by decide) (rL 0))) (gI (iF lkF_2_21 (by decide) (rL 0))) (gI (iL 3)))
  (sputI lkP_2_21 mzr_iadd (gR (rL 0)) (gI (iK 1)))))))
  sretv)
theorem ok_X2_add : mzok1 yX2_add cX2_add 2 4 none 1 20 0 B_X2_add := ⟨by decide +kernel, mzT_at 433 (by decide +kernel) rfl, by decide, rfl, rfl, rfl⟩
def M_X2_add : mzMt := mzmk yX2_add cX2_add 2 4 none 1 20 0 B_X2_add ok_X2_add
theorem ym_X2_add : M_X2_add.1.1 = yX2_add := rfl

def Lc1_X2_changed : mzB1 :=
  (gB (ccmp .lt (iL 5) (iF lkF_2_21 (by decide) (rL 0))))
def Lb1_X2_changed : mzT1 :=
  (sif1 (gB (cand 25 (ccmp .eq (iA (rF lkF_2_9 (by decide) (rL 0)) (iL 5)) (iL 1)) (ccmp .eq (iA (rF lkF_2_18 (by decide) (rL 0)) (iL 5)) (iL 2)))) 36
  (sset 3 (gJ (jor (jL 3) (jshl (jK 1) (iA (rF lkF_2_15 (by decide) (rL 0)) (iL 5)))))))
def Ls1_X2_changed : mzT1 :=
  (sinc 5 1)
def Lt1_X2_changed : mzT1 :=
  (sret (gJ (jL 3)))
def B_X2_changed : mzT1 :=
  (sseq (sset 3 (gJ (jK 0)))
  (sseq (sset 5 (gI (iK 0)))
  (sseq (sloop Lc1_X2_changed 14 Lb1_X2_changed 48 Ls1_X2_changed 54)
  Lt1_X2_changed)))
theorem ok_X2_changed : mzok1 yX2_changed cX2_changed 2 6 (some .long) 0 0 2 B_X2_changed := ⟨by decide +kernel, mzT_at 374 (by decide +kernel) rfl, by decide, rfl, rfl, rfl⟩
def M_X2_changed : mzMt := mzmk yX2_changed cX2_changed 2 6 (some .long) 0 0 2 B_X2_changed ok_X2_changed
theorem ym_X2_changed : M_X2_changed.1.1 = yX2_changed := rfl

def Lt1_X1_layOut : mzT1 :=
  (sseq (sast 1 (gR (rF lkF_1_9 (by decide) (rL 0))) (gI (iL 7)) (gJ (jL 3)))
  (sast 1 (gR (rF lkF_1_15 (by decide) (rL 0))) (gI (iL 7)) (gJ (jL 5))))
def Lt2_X1_layOut : mzT1 :=
  (sseq (sset 5 (g2 mzr_lor (gJ (jL 5)) (g2 mzr_land (gcV M_X2_changed lkV_1_74 ym_X2_changed (by decide) [(gR (rL 2)), (gI (iL 7)), (gI (iK 1))]) (gJ (jF lkF_1_71 (by decide) (rL 0))))))
  Lt1_X1_layOut)
def Lt3_X1_layOut : mzT1 :=
  (sseq (sset 3 (g2 mzr_lor (gJ (jL 3)) (g2 mzr_land (gcV M_X2_changed lkV_1_74 ym_X2_changed (by decide) [(gR (rL 2)), (gI (iL 7)), (gI (iK 0))]) (gJ (jF lkF_1_68 (by decide) (rL 0))))))
  Lt2_X1_layOut)
def Lt4_X1_layOut : mzT1 :=
  (sseq (sset 5 (g2 mzr_land (gJ (jL 5)) (g2 mzr_lxor (gcV M_X2_changed lkV_1_74 ym_X2_changed (by decide) [(gR (rL 1)), (gI (iL 7)), (gI (iK 1))]) (gJ (jKc kc_1_80)))))
  Lt3_X1_layOut)
def Lc1_X1_layOut : mzB1 :=
  (gB (ccmp .lt (iL 7) (iK 100)))
def Lb1_X1_layOut : mzT1 :=
  (sseq (sset 3 (g2 mzr_land (gJ (jL 3)) (g2 mzr_lxor (gcV M_X2_changed lkV_1_74 ym_X2_changed (by decide) [(gR (rL 1)), (gI (iL 7)), (gI (iK 0))]) (gJ (jKc kc_1_80)))))
  Lt4_X1_layOut)
def Ls1_X1_layOut : mzT1 :=
  (sinc 7 1)
def Lt5_X1_layOut : mzT1 :=
  sretv
def B_X1_layOut : mzT1 :=
  (sseq (sset 3 (gJ (jand (jF lkF_1_43 (by decide) (rL 0)) (jF lkF_1_68 (by decide) (rL 0)))))
  (sseq (sset 5 (gJ (jand (jF lkF_1_47 (by decide) (rL 0)) (jF lkF_1_71 (by decide) (rL 0)))))
  (sseq (sset 7 (gI (iK 0)))
  (sseq (sloop Lc1_X1_layOut 31 Lb1_X1_layOut 110 Ls1_X1_layOut 116)
  Lt5_X1_layOut))))
theorem ok_X1_layOut : mzok1 yX1_layOut cX1_layOut 1 8 none 1 25 0 B_X1_layOut := ⟨by decide +kernel, mzT_at 370 (by decide +kernel) rfl, by decide, rfl, rfl, rfl⟩
def M_X1_layOut : mzMt := mzmk yX1_layOut cX1_layOut 1 8 none 1 25 0 B_X1_layOut ok_X1_layOut
theorem ym_X1_layOut : M_X1_layOut.1.1 = yX1_layOut := rfl

def Lt1_X7_addPlace : mzT1 :=
  (sret (gI (iF lkF_7_122 (by decide) (rL 1))))
def Lt2_X7_addPlace : mzT1 :=
  (sseq (scV M_X1_layOut lkV_7_125 ym_X1_layOut [(gR (rF lkF_7_24 (by decide) (rL 0))), (gR (rF lkF_7_38 (by decide) (rL 0))), (gR (rF lkF_7_42 (by decide) (rL 0)))])
  Lt1_X7_addPlace)
def B_X7_addPlace : mzT1 :=
  (sseq (sif1 (gB (cor 17 (cor 11 (cor 7 (cnot (cif0 .ne (icS P_X7_isStep lkS_7_144 yp_X7_isStep [(vI (iL 2))]))) (cif0 .lt (iL 3))) (ccmp .ge (iL 3) (iK 36))) (cand 22 (cif0 .ne (iL 4)) (ccmp .ne (iL 4) (iK 1))))) 28
  (sret (gI (iK (-2)))))
  (sseq (sif1 (gB (cif0 .ne (icV P_X2_isFull lkV_7_321 yp_X2_isFull [(vR (rL 1))]))) 38
  (sret (gI (iK (-4)))))
  (sseq (scV M_X2_add lkV_7_322 ym_X2_add [(gR (rL 1)), (gI (iL 2)), (gI (iL 3)), (gI (iL 4))])
  Lt2_X7_addPlace)))
theorem ok_X7_addPlace : mzok1 yX7_addPlace cX7_addPlace 7 5 (some .int) 2 52 1 B_X7_addPlace := ⟨by decide +kernel, mzT_at 422 (by decide +kernel) rfl, by decide, rfl, rfl, rfl⟩
def M_X7_addPlace : mzMt := mzmk yX7_addPlace cX7_addPlace 7 5 (some .int) 2 52 1 B_X7_addPlace ok_X7_addPlace
theorem ym_X7_addPlace : M_X7_addPlace.1.1 = yX7_addPlace := rfl

def B_X7_hedge : mzT1 :=
  (sret (gcV M_X7_addPlace lkV_7_118 ym_X7_addPlace (by decide) [(gR (rL 0)), (gR (rF lkF_7_38 (by decide) (rL 0))), (gI (iL 1)), (gI (iL 2)), (gI (iL 3))]))
theorem ok_X7_hedge : mzok1 yX7_hedge cX7_hedge 7 4 (some .int) 3 76 1 B_X7_hedge := ⟨by decide +kernel, mzT_at 418 (by decide +kernel) rfl, by decide, rfl, rfl, rfl⟩
def M_X7_hedge : mzMt := mzmk yX7_hedge cX7_hedge 7 4 (some .int) 3 76 1 B_X7_hedge ok_X7_hedge
theorem ym_X7_hedge : M_X7_hedge.1.1 = yX7_hedge := rfl

def B_X7_gap : mzT1 :=
  (sret (gcV M_X7_addPlace lkV_7_118 ym_X7_addPlace (by decide) [(gR (rL 0)), (gR (rF lkF_7_42 (by decide) (rL 0))), (gI (iL 1)), (gI (iL 2)), (gI (iL 3))]))
theorem ok_X7_gap : mzok1 yX7_gap cX7_gap 7 4 (some .int) 3 76 1 B_X7_gap := ⟨by decide +kernel, mzT_at 438 (by decide +kernel) rfl, by decide, rfl, rfl, rfl⟩
def M_X7_gap : mzMt := mzmk yX7_gap cX7_gap 7 4 (some .int) 3 76 1 B_X7_gap ok_X7_gap
theorem ym_X7_gap : M_X7_gap.1.1 = yX7_gap := rfl

def Lt1_X7_back : mzT1 :=
  (sret (gI (iF lkF_7_122 (by decide) (rL 2))))
def B_X7_back : mzT1 :=
  (sseq (sif1 (gB (cand 4 (cif0 .ne (iL 1)) (ccmp .ne (iL 1) (iK 1)))) 9
  (sret (gI (iK (-2)))))
  (sseq (sset 2 (gR (rq 16 23 (cif0 .eq (iL 1)) (rF lkF_7_38 (by decide) (rL 0)) (rF lkF_7_42 (by decide) (rL 0)))))
  (sseq (sif1 (gB (cif0 .eq (iF lkF_7_122 (by decide) (rL 2)))) 35
  (sret (gI (iK (-3)))))
  (sseq (sputI lkP_7_122 mzr_isub (gR (rL 2)) (gI (iK 1)))
  (sseq (scV M_X1_layOut lkV_7_125 ym_X1_layOut [(gR (rF lkF_7_24 (by decide) (rL 0))), (gR (rF lkF_7_38 (by decide) (rL 0))), (gR (rF lkF_7_42 (by decide) (rL 0)))])
  Lt1_X7_back)))))
theorem ok_X7_back : mzok1 yX7_back cX7_back 7 3 (some .int) 2 52 1 B_X7_back := ⟨by decide +kernel, mzT_at 442 (by decide +kernel) rfl, by decide, rfl, rfl, rfl⟩
def M_X7_back : mzMt := mzmk yX7_back cX7_back 7 3 (some .int) 2 52 1 B_X7_back ok_X7_back
theorem ym_X7_back : M_X7_back.1.1 = yX7_back := rfl

def Lt1_X7_read : mzT1 :=
  sbrk
def Lt2_X7_read : mzT1 :=
  (sinc 3 1)
def Lc1_X7_read : mzB1 :=
  (gB (ccmp .lt (iadd (iL 4) (iK 2)) (iF lkF_7_140 (by decide) (rL 2))))
def Lb1_X7_read : mzT1 :=
  (sseq (sif1 (bif0 .lt (gcV M_X7_addPlace lkV_7_118 ym_X7_addPlace (by decide) [(gR (rL 0)), (gR (rF lkF_7_42 (by decide) (rL 0))), (gI (iA (rF lkF_7_141 (by decide) (rL 2)) (iL 4))), (gI (iA (rF lkF_7_141 (by decide) (rL 2)) (iadd (iL 4) (iK 1)))), (gI (iA (rF lkF_7_141 (by decide) (rL 2)) (iadd (iL 4) (iK 2))))])) 78
  Lt1_X7_read)
  Lt2_X7_read)
def Ls1_X7_read : mzT1 :=
  (sinc 4 3)
def Lt3_X7_read : mzT1 :=
  (sret (gI (iL 3)))
def Lt4_X7_read : mzT1 :=
  (sseq (sset 3 (gI (iK 0)))
  (sseq (sset 4 (gI (iK 0)))
  (sseq (sloop Lc1_X7_read 42 Lb1_X7_read 84 Ls1_X7_read 90)
  Lt3_X7_read)))
def B_X7_read : mzT1 :=
  (sseq (sset 2 (gR (rcV P_X7_sheetAt lkV_7_129 yp_X7_sheetAt [(vR (rL 0)), (vI (iL 1))])))
  (sseq (sif1 (gB (cnul .eq (rL 2))) 10
  (sret (gI (iK (-2)))))
  (sseq (sif1 (gB (cif0 .ne (icV P_X3_isLost lkV_7_133 yp_X3_isLost [(vR (rL 2))]))) 20
  (sret (gcV M_X7_find lkV_7_136 ym_X7_find (by decide) [(gR (rL 0)), (gI (iK 1))])))
  Lt4_X7_read)))
theorem ok_X7_read : mzok1 yX7_read cX7_read 7 5 (some .int) 3 76 1 B_X7_read := ⟨by decide +kernel, mzT_at 446 (by decide +kernel) rfl, by decide, rfl, rfl, rfl⟩
def M_X7_read : mzMt := mzmk yX7_read cX7_read 7 5 (some .int) 3 76 1 B_X7_read ok_X7_read
theorem ym_X7_read : M_X7_read.1.1 = yX7_read := rfl

def B_X5_add : mzT1 :=
  (sseq (sif1 (gB (cnot (cif0 .ne (icV P_X5_isFull lkV_5_25 yp_X5_isFull [(vR (rL 0))])))) 7
  (sseq (sast 0 (gR (rF lkF_5_15 (by decide) (rL 0))) (gI (iF lkF_5_21 (by decide) (rL 0))) (gI (iL 1)))
  (sputI lkP_5_21 mzr_iadd (gR (rL 0)) (gI (iK 1)))))
  sretv)
theorem ok_X5_add : mzok1 yX5_add cX5_add 5 2 none 1 20 0 B_X5_add := ⟨by decide +kernel, mzT_at 326 (by decide +kernel) rfl, by decide, rfl, rfl, rfl⟩
def M_X5_add : mzMt := mzmk yX5_add cX5_add 5 2 none 1 20 0 B_X5_add ok_X5_add
theorem ym_X5_add : M_X5_add.1.1 = yX5_add := rfl

def B_X1_clear : mzT1 :=
  (sseq (sput lkP_1_25 (gR (rL 0)) (gI (iK 0)))
  (sseq (sput lkP_1_22 (gR (rL 0)) (gI (iK 0)))
  (sseq (sput lkP_1_43 (gR (rL 0)) (gJ (jK 0)))
  (sseq (sput lkP_1_47 (gR (rL 0)) (gJ (jK 0)))
  sretv))))
theorem ok_X1_clear : mzok1 yX1_clear cX1_clear 1 1 none 0 0 0 B_X1_clear := ⟨by decide +kernel, mzT_at 339 (by decide +kernel) rfl, by decide, rfl, rfl, rfl⟩
def M_X1_clear : mzMt := mzmk yX1_clear cX1_clear 1 1 none 0 0 0 B_X1_clear ok_X1_clear
theorem ym_X1_clear : M_X1_clear.1.1 = yX1_clear := rfl

def B_X1_tell : mzT1 :=
  (sseq (sif1 (gB (cor 6 (ccmp .eq (iL 1) (iK 114)) (ccmp .eq (iL 1) (iK 98)))) 12
  (sputJ lkP_1_43 mzr_lor (gR (rL 0)) (gJ (jshl (jK 1) (iL 2)))))
  (sseq (sif1 (gB (cor 30 (ccmp .eq (iL 1) (iK 100)) (ccmp .eq (iL 1) (iK 98)))) 36
  (sputJ lkP_1_47 mzr_lor (gR (rL 0)) (gJ (jshl (jK 1) (iL 2)))))
  sretv))
theorem ok_X1_tell : mzok1 yX1_tell cX1_tell 1 3 none 0 0 0 B_X1_tell := ⟨by decide +kernel, mzT_at 362 (by decide +kernel) rfl, by decide, rfl, rfl, rfl⟩
def M_X1_tell : mzMt := mzmk yX1_tell cX1_tell 1 3 none 0 0 0 B_X1_tell ok_X1_tell
theorem ym_X1_tell : M_X1_tell.1.1 = yX1_tell := rfl

def Lt1_X1_scan : mzT1 :=
  (sseq (sinc 3 1)
  (sinc 4 1))
def Lc1_X1_scan : mzB1 :=
  (gB (ccmp .lt (iL 5) (iF lkF_1_31 (by decide) (rL 1))))
def Lb1_X1_scan : mzT1 :=
  (sseq (sset 6 (gI (icV P_X5_at lkV_1_50 yp_X5_at [(vR (rL 1)), (vI (iL 5))])))
  (sseq (sif1 (gB (ccmp .ge (iL 2) (iK 6))) 33
  (sret (gI (iL 5))))
  (sif (gB (ccmp .eq (iL 6) (iK 59))) 43
  (sseq (sif1 (gB (ccmp .lt (iL 3) (icV P_X1_leastDays lkV_1_54 yp_X1_leastDays [(vR (rL 0)), (vI (iL 2))]))) 52
  (sret (gI (iL 5))))
  (sseq (sput lkP_1_25 (gR (rL 0)) (gI (iL 3)))
  (sseq (sinc 2 1)
  (sset 3 (gI (iK 0)))))) 68
  (sseq (sif1 (gB (cor 76 (cnot (cif0 .ne (icS P_X1_isDaySign lkS_1_57 yp_X1_isDaySign [(vI (iL 6))]))) (ccmp .ge (iL 3) (icV P_X1_mostDays lkV_1_61 yp_X1_mostDays [(vR (rL 0)), (vI (iL 2))])))) 85
  (sret (gI (iL 5))))
  (sseq (scV M_X1_tell lkV_1_64 ym_X1_tell [(gR (rL 0)), (gI (iL 6)), (gI (iL 4))])
  Lt1_X1_scan)))))
def Ls1_X1_scan : mzT1 :=
  (sinc 5 1)
def Lt2_X1_scan : mzT1 :=
  (sseq (sif1 (gB (ccmp .lt (iL 3) (icV P_X1_leastDays lkV_1_54 yp_X1_leastDays [(vR (rL 0)), (vI (iL 2))]))) 117
  (sret (gI (iF lkF_1_31 (by decide) (rL 1)))))
  (sseq (sput lkP_1_25 (gR (rL 0)) (gI (iL 3)))
  (sseq (sput lkP_1_22 (gR (rL 0)) (gI (iadd (iL 2) (iK 1))))
  (sret (gI (iK (-1)))))))
def B_X1_scan : mzT1 :=
  (sseq (sset 2 (gI (iK 0)))
  (sseq (sset 3 (gI (iK 0)))
  (sseq (sset 4 (gI (iK 0)))
  (sseq (sset 5 (gI (iK 0)))
  (sseq (sloop Lc1_X1_scan 19 Lb1_X1_scan 102 Ls1_X1_scan 108)
  Lt2_X1_scan)))))
theorem ok_X1_scan : mzok1 yX1_scan cX1_scan 1 7 (some .int) 1 22 1 B_X1_scan := ⟨by decide +kernel, mzT_at 343 (by decide +kernel) rfl, by decide, rfl, rfl, rfl⟩
def M_X1_scan : mzMt := mzmk yX1_scan cX1_scan 1 7 (some .int) 1 22 1 B_X1_scan ok_X1_scan
theorem ym_X1_scan : M_X1_scan.1.1 = yX1_scan := rfl

def Lc1_X1_findPlaces : mzB1 :=
  (gB (ccmp .lt (iL 2) (iF lkF_1_25 (by decide) (rL 0))))
def Lb1_X1_findPlaces : mzT1 :=
  (sseq (sset 3 (gJ (jshl (jK 1) (iadd (imul (iL 1) (iF lkF_1_25 (by decide) (rL 0))) (iL 2)))))
  (sseq (sif1 (gB (ccmp .lt (iadd (iL 2) (iK 1)) (iF lkF_1_25 (by decide) (rL 0)))) 51
  (sputJ lkP_1_68 mzr_lor (gR (rL 0)) (gJ (jL 3))))
  (sif1 (gB (ccmp .lt (iadd (iL 1) (iK 1)) (iF lkF_1_22 (by decide) (rL 0)))) 71
  (sputJ lkP_1_71 mzr_lor (gR (rL 0)) (gJ (jL 3))))))
def Ls1_X1_findPlaces : mzT1 :=
  (sinc 2 1)
def Lc2_X1_findPlaces : mzB1 :=
  (gB (ccmp .lt (iL 1) (iF lkF_1_22 (by decide) (rL 0))))
def Lb2_X1_findPlaces : mzT1 :=
  (sseq (sset 2 (gI (iK 0)))
  (sloop Lc1_X1_findPlaces 30 Lb1_X1_findPlaces 81 Ls1_X1_findPlaces 87))
def Ls2_X1_findPlaces : mzT1 :=
  (sinc 1 1)
def Lt1_X1_findPlaces : mzT1 :=
  sretv
def B_X1_findPlaces : mzT1 :=
  (sseq (sput lkP_1_68 (gR (rL 0)) (gJ (jK 0)))
  (sseq (sput lkP_1_71 (gR (rL 0)) (gJ (jK 0)))
  (sseq (sset 1 (gI (iK 0)))
  (sseq (sloop Lc2_X1_findPlaces 20 Lb2_X1_findPlaces 87 Ls2_X1_findPlaces 93)
  Lt1_X1_findPlaces))))
theorem ok_X1_findPlaces : mzok1 yX1_findPlaces cX1_findPlaces 1 5 none 0 0 0 B_X1_findPlaces := ⟨by decide +kernel, mzT_at 366 (by decide +kernel) rfl, by decide, rfl, rfl, rfl⟩
def M_X1_findPlaces : mzMt := mzmk yX1_findPlaces cX1_findPlaces 1 5 none 0 0 0 B_X1_findPlaces ok_X1_findPlaces
theorem ym_X1_findPlaces : M_X1_findPlaces.1.1 = yX1_findPlaces := rfl

def Lt1_X1_take : mzT1 :=
  sretv
def Lt2_X1_take : mzT1 :=
  (sseq (scV M_X1_findPlaces lkV_1_40 ym_X1_findPlaces [(gR (rL 0))])
  Lt1_X1_take)
def Lt3_X1_take : mzT1 :=
  (sseq (sif1 (gB (ccmp .ne (iF lkF_1_18 (by decide) (rL 0)) (iK (-1)))) 32
  (scV M_X1_clear lkV_1_28 ym_X1_clear [(gR (rL 0))]))
  Lt2_X1_take)
def Lt4_X1_take : mzT1 :=
  (sseq (sput lkP_1_18 (gR (rL 0)) (gq 12 16 (gB (cif0 .eq (iF lkF_1_31 (by decide) (rL 1)))) (gI (iK (-1))) (gcV M_X1_scan lkV_1_36 ym_X1_scan (by decide) [(gR (rL 0)), (gR (rL 1))])))
  Lt3_X1_take)
def B_X1_take : mzT1 :=
  (sseq (scV M_X1_clear lkV_1_28 ym_X1_clear [(gR (rL 0))])
  Lt4_X1_take)
theorem ok_X1_take : mzok1 yX1_take cX1_take 1 2 none 2 48 0 B_X1_take := ⟨by decide +kernel, mzT_at 335 (by decide +kernel) rfl, by decide, rfl, rfl, rfl⟩
def M_X1_take : mzMt := mzmk yX1_take cX1_take 1 2 none 2 48 0 B_X1_take ok_X1_take
theorem ym_X1_take : M_X1_take.1.1 = yX1_take := rfl

def B_X6_tell : mzT1 :=
  (ssw (gI (iL 2)) [(0, 32, (sseq (sast 0 (gR (rF lkF_6_9 (by decide) (rL 0))) (gI (iL 1)) (gI (imul (iK 10) (isub (iL 3) (iK 48)))))
  (sretZ (gI (iq 57 61 (cand 51 (ccmp .ge (iL 3) (iK 48)) (ccmp .le (iL 3) (iK 51))) (iK 1) (iK 0)))))),
    (1, 63, (sseq (sastI mzr_iadd (gR (rF lkF_6_9 (by decide) (rL 0))) (gI (iL 1)) (gI (isub (iL 3) (iK 48))))
  (sretZ (gI (iq 88 92 (cand 82 (ccmp .ge (iL 3) (iK 48)) (ccmp .le (iL 3) (iK 57))) (iK 1) (iK 0)))))),
    (2, 94, (sseq (sast 0 (gR (rF lkF_6_15 (by decide) (rL 0))) (gI (iL 1)) (gI (icS P_X6_headingOf lkS_6_45 yp_X6_headingOf [(vI (iL 3))])))
  (sretZ (gI (iq 114 118 (ccmp .ne (iA (rF lkF_6_15 (by decide) (rL 0)) (iL 1)) (iK (-1))) (iK 1) (iK 0)))))),
    (3, 120, (sseq (sast 0 (gR (rF lkF_6_18 (by decide) (rL 0))) (gI (iL 1)) (gI (icS P_X6_handOf lkS_6_48 yp_X6_handOf [(vI (iL 3))])))
  (sretZ (gI (iq 140 144 (ccmp .ne (iA (rF lkF_6_18 (by decide) (rL 0)) (iL 1)) (iK (-1))) (iK 1) (iK 0))))))] 146 (sretZ (gI (iq 152 156 (ccmp .eq (iL 3) (iK 59)) (iK 1) (iK 0)))) 158)
theorem ok_X6_tell : mzok1 yX6_tell cX6_tell 6 4 (some .boolean) 1 20 4 B_X6_tell := ⟨by decide +kernel, mzT_at 388 (by decide +kernel) rfl, by decide, rfl, rfl, rfl⟩
def M_X6_tell : mzMt := mzmk yX6_tell cX6_tell 6 4 (some .boolean) 1 20 4 B_X6_tell ok_X6_tell
theorem ym_X6_tell : M_X6_tell.1.1 = yX6_tell := rfl

def Lt1_X6_scan : mzT1 :=
  (sret (gI (iL 2)))
def Lc1_X6_scan : mzB1 :=
  (gB (ccmp .lt (iL 2) (iF lkF_6_25 (by decide) (rL 1))))
def Lb1_X6_scan : mzT1 :=
  (sseq (sset 3 (gI (idiv (iL 2) (iK 5))))
  (sif1 (bor 20 (gB (ccmp .ge (iL 3) (iK 8))) (bnot (bif0 .ne (gcV M_X6_tell lkV_6_41 ym_X6_tell (by decide) [(gR (rL 0)), (gI (iL 3)), (gI (irem (iL 2) (iK 5))), (gI (icV P_X5_at lkV_6_37 yp_X5_at [(vR (rL 1)), (vI (iL 2))]))])))) 36
  Lt1_X6_scan))
def Ls1_X6_scan : mzT1 :=
  (sinc 2 1)
def Lt2_X6_scan : mzT1 :=
  (sret (gI (iq 54 58 (ccmp .eq (irem (iF lkF_6_25 (by decide) (rL 1)) (iK 5)) (iK 4)) (iK (-1)) (iF lkF_6_25 (by decide) (rL 1)))))
def B_X6_scan : mzT1 :=
  (sseq (sset 2 (gI (iK 0)))
  (sseq (sloop Lc1_X6_scan 10 Lb1_X6_scan 38 Ls1_X6_scan 44)
  Lt2_X6_scan))
theorem ok_X6_scan : mzok1 yX6_scan cX6_scan 6 4 (some .int) 2 43 1 B_X6_scan := ⟨by decide +kernel, mzT_at 383 (by decide +kernel) rfl, by decide, rfl, rfl, rfl⟩
def M_X6_scan : mzMt := mzmk yX6_scan cX6_scan 6 4 (some .int) 2 43 1 B_X6_scan ok_X6_scan
theorem ym_X6_scan : M_X6_scan.1.1 = yX6_scan := rfl

def Lt1_X6_take : mzT1 :=
  (sseq (sput lkP_6_34 (gR (rL 0)) (gI (iq 29 40 (ccmp .eq (iF lkF_6_21 (by decide) (rL 0)) (iK (-1))) (idiv (iadd (iF lkF_6_25 (by decide) (rL 1)) (iK 1)) (iK 5)) (iK 0))))
  sretv)
def B_X6_take : mzT1 :=
  (sseq (sput lkP_6_21 (gR (rL 0)) (gq 8 12 (gB (cif0 .eq (iF lkF_6_25 (by decide) (rL 1)))) (gI (iK (-1))) (gcV M_X6_scan lkV_6_30 ym_X6_scan (by decide) [(gR (rL 0)), (gR (rL 1))])))
  Lt1_X6_take)
theorem ok_X6_take : mzok1 yX6_take cX6_take 6 2 none 3 66 0 B_X6_take := ⟨by decide +kernel, mzT_at 379 (by decide +kernel) rfl, by decide, rfl, rfl, rfl⟩
def M_X6_take : mzMt := mzmk yX6_take cX6_take 6 2 none 3 66 0 B_X6_take ok_X6_take
theorem ym_X6_take : M_X6_take.1.1 = yX6_take := rfl

def Lt1_X7_takeText : mzT1 :=
  (scV M_X1_layOut lkV_7_125 ym_X1_layOut [(gR (rF lkF_7_24 (by decide) (rL 0))), (gR (rF lkF_7_38 (by decide) (rL 0))), (gR (rF lkF_7_42 (by decide) (rL 0)))])
def Lt2_X7_takeText : mzT1 :=
  sretv
def B_X7_takeText : mzT1 :=
  (sseq (sif (gB (cif0 .eq (iL 1))) 4
  (sseq (scV M_X1_take lkV_7_313 ym_X1_take [(gR (rF lkF_7_24 (by decide) (rL 0))), (gR (rF lkF_7_14 (by decide) (rL 0)))])
  Lt1_X7_takeText) 33
  (scV M_X6_take lkV_7_317 ym_X6_take [(gR (rF lkF_7_31 (by decide) (rL 0))), (gR (rF lkF_7_18 (by decide) (rL 0)))]))
  Lt2_X7_takeText)
theorem ok_X7_takeText : mzok1 yX7_takeText cX7_takeText 7 2 none 4 87 0 B_X7_takeText := ⟨by decide +kernel, mzT_at 331 (by decide +kernel) rfl, by decide, rfl, rfl, rfl⟩
def M_X7_takeText : mzMt := mzmk yX7_takeText cX7_takeText 7 2 none 4 87 0 B_X7_takeText ok_X7_takeText
theorem ym_X7_takeText : M_X7_takeText.1.1 = yX7_takeText := rfl

def Lt1_X7_type : mzT1 :=
  (sret (gI (iF lkF_7_98 (by decide) (rL 3))))
def Lt2_X7_type : mzT1 :=
  (sseq (scV M_X7_takeText lkV_7_95 ym_X7_takeText [(gR (rL 0)), (gI (iL 1))])
  Lt1_X7_type)
def B_X7_type : mzT1 :=
  (sseq (sif1 (gB (cor 11 (cor 7 (cnot (cif0 .ne (icS P_X7_isText lkS_7_80 yp_X7_isText [(vI (iL 1))]))) (cif0 .lt (iL 2))) (ccmp .gt (iL 2) (iK 255)))) 18
  (sret (gI (iK (-2)))))
  (sseq (sset 3 (gR (rcV P_X7_textAt lkV_7_84 yp_X7_textAt [(vR (rL 0)), (vI (iL 1))])))
  (sseq (sif1 (gB (cif0 .ne (icV P_X5_isFull lkV_7_88 yp_X5_isFull [(vR (rL 3))]))) 34
  (sret (gI (iK (-4)))))
  (sseq (scV M_X5_add lkV_7_92 ym_X5_add [(gR (rL 3)), (gI (iL 2))])
  Lt2_X7_type))))
theorem ok_X7_type : mzok1 yX7_type cX7_type 7 4 (some .int) 5 108 1 B_X7_type := ⟨by decide +kernel, mzT_at 311 (by decide +kernel) rfl, by decide, rfl, rfl, rfl⟩
def M_X7_type : mzMt := mzmk yX7_type cX7_type 7 4 (some .int) 5 108 1 B_X7_type ok_X7_type
theorem ym_X7_type : M_X7_type.1.1 = yX7_type := rfl

def Lt1_X7_wipe : mzT1 :=
  (sret (gI (iL 3)))
def B_X7_wipe : mzT1 :=
  (sseq (sif1 (gB (cnot (cif0 .ne (icS P_X7_isText lkS_7_80 yp_X7_isText [(vI (iL 1))])))) 7
  (sret (gI (iK (-2)))))
  (sseq (sset 2 (gR (rcV P_X7_textAt lkV_7_84 yp_X7_textAt [(vR (rL 0)), (vI (iL 1))])))
  (sseq (sset 3 (gI (iF lkF_7_98 (by decide) (rL 2))))
  (sseq (sput lkP_7_98 (gR (rL 2)) (gI (iK 0)))
  (sseq (scV M_X7_takeText lkV_7_95 ym_X7_takeText [(gR (rL 0)), (gI (iL 1))])
  Lt1_X7_wipe)))))
theorem ok_X7_wipe : mzok1 yX7_wipe cX7_wipe 7 4 (some .int) 5 108 1 B_X7_wipe := ⟨by decide +kernel, mzT_at 398 (by decide +kernel) rfl, by decide, rfl, rfl, rfl⟩
def M_X7_wipe : mzMt := mzmk yX7_wipe cX7_wipe 7 4 (some .int) 5 108 1 B_X7_wipe ok_X7_wipe
theorem ym_X7_wipe : M_X7_wipe.1.1 = yX7_wipe := rfl

def Lt1_X7_undo : mzT1 :=
  (sret (gI (iF lkF_7_98 (by decide) (rL 2))))
def B_X7_undo : mzT1 :=
  (sseq (sif1 (gB (cnot (cif0 .ne (icS P_X7_isText lkS_7_80 yp_X7_isText [(vI (iL 1))])))) 7
  (sret (gI (iK (-2)))))
  (sseq (sset 2 (gR (rcV P_X7_textAt lkV_7_84 yp_X7_textAt [(vR (rL 0)), (vI (iL 1))])))
  (sseq (sif1 (gB (cif0 .eq (iF lkF_7_98 (by decide) (rL 2)))) 23
  (sret (gI (iK (-3)))))
  (sseq (sputI lkP_7_98 mzr_isub (gR (rL 2)) (gI (iK 1)))
  (sseq (scV M_X7_takeText lkV_7_95 ym_X7_takeText [(gR (rL 0)), (gI (iL 1))])
  Lt1_X7_undo)))))
theorem ok_X7_undo : mzok1 yX7_undo cX7_undo 7 3 (some .int) 5 108 1 B_X7_undo := ⟨by decide +kernel, mzT_at 402 (by decide +kernel) rfl, by decide, rfl, rfl, rfl⟩
def M_X7_undo : mzMt := mzmk yX7_undo cX7_undo 7 3 (some .int) 5 108 1 B_X7_undo ok_X7_undo
theorem ym_X7_undo : M_X7_undo.1.1 = yX7_undo := rfl

