/-! the reference: what stands on laysFar, the texts -/
def Lt1_X8_wayNow : mzT1 :=
  (sret (gI (iq 21 30 (ccmp .lt (iA (rF lkF_8_43 (by decide) (rL 0)) (iL 3)) (iKc kc_8_200)) (iA (rF lkF_8_43 (by decide) (rL 0)) (iL 3)) (iK (-1)))))
def B_X8_wayNow : mzT1 :=
  (sseq (scV M_X8_laysFar lkV_8_201 ym_X8_laysFar [(gR (rL 0)), (gI (iL 1)), (gI (iL 2)), (gI (iKc kc_8_200)), (gI (iK (-1))), (gI (iK (-1)))])
  Lt1_X8_wayNow)
theorem ok_X8_wayNow : mzok1 yX8_wayNow cX8_wayNow 8 4 (some .int) 2 52 1 B_X8_wayNow := ⟨by decide +kernel, mzT_at 1070 (by decide +kernel) rfl, by decide, rfl, rfl, rfl⟩
def M_X8_wayNow : mzMt := mzmk yX8_wayNow cX8_wayNow 8 4 (some .int) 2 52 1 B_X8_wayNow ok_X8_wayNow
theorem ym_X8_wayNow : M_X8_wayNow.1.1 = yX8_wayNow := rfl

def Lt1_X8_wayOf : mzT1 :=
  (sret (gcV M_X8_wayNow lkV_8_205 ym_X8_wayNow (by decide) [(gR (rL 0)), (gI (iL 1)), (gI (iL 2)), (gI (iL 3))]))
def B_X8_wayOf : mzT1 :=
  (sseq (scV M_X8_lays lkV_8_157 ym_X8_lays [(gR (rL 0))])
  Lt1_X8_wayOf)
theorem ok_X8_wayOf : mzok1 yX8_wayOf cX8_wayOf 8 4 (some .int) 5 117 1 B_X8_wayOf := ⟨by decide +kernel, mzT_at 1066 (by decide +kernel) rfl, by decide, rfl, rfl, rfl⟩
def M_X8_wayOf : mzMt := mzmk yX8_wayOf cX8_wayOf 8 4 (some .int) 5 117 1 B_X8_wayOf ok_X8_wayOf
theorem ym_X8_wayOf : M_X8_wayOf.1.1 = yX8_wayOf := rfl

def B_X8_way : mzT1 :=
  (sret (gq 23 33 (band 15 (band 7 (gB (cif0 .ne (icS P_X8_isStep lkS_8_134 yp_X8_isStep [(vI (iL 1))]))) (bif0 .ne (gcV M_X8_isDay lkV_8_160 ym_X8_isDay (by decide) [(gR (rL 0)), (gI (iL 2))]))) (bif0 .ne (gcV M_X8_isDay lkV_8_160 ym_X8_isDay (by decide) [(gR (rL 0)), (gI (iL 3))]))) (gcV M_X8_wayOf lkV_8_208 ym_X8_wayOf (by decide) [(gR (rL 0)), (gI (iL 1)), (gI (iL 2)), (gI (iL 3))]) (gI (iK (-2)))))
theorem ok_X8_way : mzok1 yX8_way cX8_way 8 4 (some .int) 6 140 1 B_X8_way := ⟨by decide +kernel, mzT_at 1062 (by decide +kernel) rfl, by decide, rfl, rfl, rfl⟩
def M_X8_way : mzMt := mzmk yX8_way cX8_way 8 4 (some .int) 6 140 1 B_X8_way ok_X8_way
theorem ym_X8_way : M_X8_way.1.1 = yX8_way := rfl

def Lt1_X8_throughOf : mzT1 :=
  (sret (gI (iq 35 39 (cor 29 (ccmp .eq (iL 5) (iK (-1))) (ccmp .eq (iL 6) (iK (-1)))) (iK (-1)) (iadd (iL 5) (iL 6)))))
def Lt2_X8_throughOf : mzT1 :=
  (sseq (sset 6 (gcV M_X8_wayNow lkV_8_205 ym_X8_wayNow (by decide) [(gR (rL 0)), (gI (iL 1)), (gI (iL 3)), (gI (iL 4))]))
  Lt1_X8_throughOf)
def Lt3_X8_throughOf : mzT1 :=
  (sseq (sset 5 (gcV M_X8_wayNow lkV_8_205 ym_X8_wayNow (by decide) [(gR (rL 0)), (gI (iL 1)), (gI (iL 2)), (gI (iL 3))]))
  Lt2_X8_throughOf)
def B_X8_throughOf : mzT1 :=
  (sseq (scV M_X8_lays lkV_8_157 ym_X8_lays [(gR (rL 0))])
  Lt3_X8_throughOf)
theorem ok_X8_throughOf : mzok1 yX8_throughOf cX8_throughOf 8 7 (some .int) 5 117 1 B_X8_throughOf := ⟨by decide +kernel, mzT_at 1083 (by decide +kernel) rfl, by decide, rfl, rfl, rfl⟩
def M_X8_throughOf : mzMt := mzmk yX8_throughOf cX8_throughOf 8 7 (some .int) 5 117 1 B_X8_throughOf ok_X8_throughOf
theorem ym_X8_throughOf : M_X8_throughOf.1.1 = yX8_throughOf := rfl

def B_X8_through : mzT1 :=
  (sret (gq 32 44 (band 23 (band 15 (band 7 (gB (cif0 .ne (icS P_X8_isStep lkS_8_134 yp_X8_isStep [(vI (iL 1))]))) (bif0 .ne (gcV M_X8_isDay lkV_8_160 ym_X8_isDay (by decide) [(gR (rL 0)), (gI (iL 2))]))) (bif0 .ne (gcV M_X8_isDay lkV_8_160 ym_X8_isDay (by decide) [(gR (rL 0)), (gI (iL 3))]))) (bif0 .ne (gcV M_X8_isDay lkV_8_160 ym_X8_isDay (by decide) [(gR (rL 0)), (gI (iL 4))]))) (gcV M_X8_throughOf lkV_8_211 ym_X8_throughOf (by decide) [(gR (rL 0)), (gI (iL 1)), (gI (iL 2)), (gI (iL 3)), (gI (iL 4))]) (gI (iK (-2)))))
theorem ok_X8_through : mzok1 yX8_through cX8_through 8 5 (some .int) 6 143 1 B_X8_through := ⟨by decide +kernel, mzT_at 1079 (by decide +kernel) rfl, by decide, rfl, rfl, rfl⟩
def M_X8_through : mzMt := mzmk yX8_through cX8_through 8 5 (some .int) 6 143 1 B_X8_through ok_X8_through
theorem ym_X8_through : M_X8_through.1.1 = yX8_through := rfl

def Lc1_X8_joinedOf : mzB1 :=
  (gB (ccmp .lt (iL 4) (iF lkF_8_91 (by decide) (rL 0))))
def Lb1_X8_joinedOf : mzT1 :=
  (sset 3 (gI (iadd (iL 3) (iq 41 45 (ccmp .lt (iA (rF lkF_8_43 (by decide) (rL 0)) (iL 4)) (iKc kc_8_200)) (iK 1) (iK 0)))))
def Ls1_X8_joinedOf : mzT1 :=
  (sinc 4 1)
def Lt1_X8_joinedOf : mzT1 :=
  (sret (gI (iL 3)))
def Lt2_X8_joinedOf : mzT1 :=
  (sseq (sset 3 (gI (iK 0)))
  (sseq (sset 4 (gI (iK 0)))
  (sseq (sloop Lc1_X8_joinedOf 28 Lb1_X8_joinedOf 48 Ls1_X8_joinedOf 54)
  Lt1_X8_joinedOf)))
def Lt3_X8_joinedOf : mzT1 :=
  (sseq (scV M_X8_laysFar lkV_8_201 ym_X8_laysFar [(gR (rL 0)), (gI (iL 1)), (gI (iL 2)), (gI (iKc kc_8_200)), (gI (iK (-1))), (gI (iK (-1)))])
  Lt2_X8_joinedOf)
def B_X8_joinedOf : mzT1 :=
  (sseq (scV M_X8_lays lkV_8_157 ym_X8_lays [(gR (rL 0))])
  Lt3_X8_joinedOf)
theorem ok_X8_joinedOf : mzok1 yX8_joinedOf cX8_joinedOf 8 5 (some .int) 5 117 1 B_X8_joinedOf := ⟨by decide +kernel, mzT_at 1091 (by decide +kernel) rfl, by decide, rfl, rfl, rfl⟩
def M_X8_joinedOf : mzMt := mzmk yX8_joinedOf cX8_joinedOf 8 5 (some .int) 5 117 1 B_X8_joinedOf ok_X8_joinedOf
theorem ym_X8_joinedOf : M_X8_joinedOf.1.1 = yX8_joinedOf := rfl

def B_X8_joined : mzT1 :=
  (sret (gq 15 24 (band 7 (gB (cif0 .ne (icS P_X8_isStep lkS_8_134 yp_X8_isStep [(vI (iL 1))]))) (bif0 .ne (gcV M_X8_isDay lkV_8_160 ym_X8_isDay (by decide) [(gR (rL 0)), (gI (iL 2))]))) (gcV M_X8_joinedOf lkV_8_214 ym_X8_joinedOf (by decide) [(gR (rL 0)), (gI (iL 1)), (gI (iL 2))]) (gI (iK (-2)))))
theorem ok_X8_joined : mzok1 yX8_joined cX8_joined 8 3 (some .int) 6 141 1 B_X8_joined := ⟨by decide +kernel, mzT_at 1087 (by decide +kernel) rfl, by decide, rfl, rfl, rfl⟩
def M_X8_joined : mzMt := mzmk yX8_joined cX8_joined 8 3 (some .int) 6 141 1 B_X8_joined ok_X8_joined
theorem ym_X8_joined : M_X8_joined.1.1 = yX8_joined := rfl

def Lt1_X8_cutOf : mzT1 :=
  (sret (gI (iq 23 32 (ccmp .lt (iA (rF lkF_8_43 (by decide) (rL 0)) (iL 3)) (iK 4)) (iA (rF lkF_8_43 (by decide) (rL 0)) (iL 3)) (iK (-1)))))
def Lt2_X8_cutOf : mzT1 :=
  (sseq (scV M_X8_laysFar lkV_8_201 ym_X8_laysFar [(gR (rL 0)), (gI (iL 1)), (gI (iL 2)), (gI (iK 1)), (gI (iK (-1))), (gI (iK (-1)))])
  Lt1_X8_cutOf)
def B_X8_cutOf : mzT1 :=
  (sseq (scV M_X8_lays lkV_8_157 ym_X8_lays [(gR (rL 0))])
  Lt2_X8_cutOf)
theorem ok_X8_cutOf : mzok1 yX8_cutOf cX8_cutOf 8 4 (some .int) 5 117 1 B_X8_cutOf := ⟨by decide +kernel, mzT_at 1107 (by decide +kernel) rfl, by decide, rfl, rfl, rfl⟩
def M_X8_cutOf : mzMt := mzmk yX8_cutOf cX8_cutOf 8 4 (some .int) 5 117 1 B_X8_cutOf ok_X8_cutOf
theorem ym_X8_cutOf : M_X8_cutOf.1.1 = yX8_cutOf := rfl

def B_X8_cut : mzT1 :=
  (sret (gq 23 33 (band 15 (band 7 (gB (cif0 .ne (icS P_X8_isStep lkS_8_134 yp_X8_isStep [(vI (iL 1))]))) (bif0 .ne (gcV M_X8_isDay lkV_8_160 ym_X8_isDay (by decide) [(gR (rL 0)), (gI (iL 2))]))) (bif0 .ne (gcV M_X8_isDay lkV_8_160 ym_X8_isDay (by decide) [(gR (rL 0)), (gI (iL 3))]))) (gcV M_X8_cutOf lkV_8_220 ym_X8_cutOf (by decide) [(gR (rL 0)), (gI (iL 1)), (gI (iL 2)), (gI (iL 3))]) (gI (iK (-2)))))
theorem ok_X8_cut : mzok1 yX8_cut cX8_cut 8 4 (some .int) 6 140 1 B_X8_cut := ⟨by decide +kernel, mzT_at 1103 (by decide +kernel) rfl, by decide, rfl, rfl, rfl⟩
def M_X8_cut : mzMt := mzmk yX8_cut cX8_cut 8 4 (some .int) 6 140 1 B_X8_cut ok_X8_cut
theorem ym_X8_cut : M_X8_cut.1.1 = yX8_cut := rfl

def Lt1_X8_guards : mzT1 :=
  (sretZ (gI (iq 39 43 (ccmp .eq (iA (rF lkF_8_43 (by decide) (rL 0)) (iL 3)) (iKc kc_8_200)) (iK 1) (iK 0))))
def B_X8_guards : mzT1 :=
  (sseq (sast 0 (gR (rF lkF_8_46 (by decide) (rL 0))) (gI (iK 0)) (gI (iL 4)))
  (sseq (sast 0 (gR (rF lkF_8_46 (by decide) (rL 0))) (gI (iK 1)) (gI (iL 5)))
  (sseq (scV M_X8_laysFar lkV_8_201 ym_X8_laysFar [(gR (rL 0)), (gI (iL 1)), (gI (iL 2)), (gI (iKc kc_8_200)), (gI (iL 4)), (gI (iL 5))])
  Lt1_X8_guards)))
theorem ok_X8_guards : mzok1 yX8_guards cX8_guards 8 6 (some .boolean) 2 52 4 B_X8_guards := ⟨by decide +kernel, mzT_at 1123 (by decide +kernel) rfl, by decide, rfl, rfl, rfl⟩
def M_X8_guards : mzMt := mzmk yX8_guards cX8_guards 8 6 (some .boolean) 2 52 4 B_X8_guards ok_X8_guards
theorem ym_X8_guards : M_X8_guards.1.1 = yX8_guards := rfl

def Lt1_X8_guardBy : mzT1 :=
  (sret (gI (iK 0)))
def Lt2_X8_guardBy : mzT1 :=
  (sret (gI (iK 1)))
def Lc1_X8_guardBy : mzB1 :=
  (gB (ccmp .lt (iL 4) (iF lkF_8_91 (by decide) (rL 0))))
def Lb1_X8_guardBy : mzT1 :=
  (sif1 (band 42 (gB (cand 36 (ccmp .ne (iL 4) (iL 2)) (ccmp .ne (iL 4) (iL 3)))) (bif0 .ne (gcV M_X8_guards lkV_8_223 ym_X8_guards (by decide) [(gR (rL 0)), (gI (iL 1)), (gI (iL 2)), (gI (iL 3)), (gI (iL 4)), (gI (iK (-1)))]))) 55
  Lt2_X8_guardBy)
def Ls1_X8_guardBy : mzT1 :=
  (sinc 4 1)
def Lt3_X8_guardBy : mzT1 :=
  (sret (gI (iK 2)))
def Lc2_X8_guardBy : mzB1 :=
  (gB (ccmp .lt (iL 5) (iF lkF_8_91 (by decide) (rL 0))))
def Lb2_X8_guardBy : mzT1 :=
  (sif1 (band 114 (gB (cand 108 (cand 102 (cand 96 (ccmp .ne (iL 4) (iL 2)) (ccmp .ne (iL 4) (iL 3))) (ccmp .ne (iL 5) (iL 2))) (ccmp .ne (iL 5) (iL 3)))) (bif0 .ne (gcV M_X8_guards lkV_8_223 ym_X8_guards (by decide) [(gR (rL 0)), (gI (iL 1)), (gI (iL 2)), (gI (iL 3)), (gI (iL 4)), (gI (iL 5))]))) 128
  Lt3_X8_guardBy)
def Ls2_X8_guardBy : mzT1 :=
  (sinc 5 1)
def Lc3_X8_guardBy : mzB1 :=
  (gB (ccmp .lt (iL 4) (iF lkF_8_91 (by decide) (rL 0))))
def Lb3_X8_guardBy : mzT1 :=
  (sseq (sset 5 (gI (iadd (iL 4) (iK 1))))
  (sloop Lc2_X8_guardBy 90 Lb2_X8_guardBy 130 Ls2_X8_guardBy 136))
def Ls3_X8_guardBy : mzT1 :=
  (sinc 4 1)
def Lt4_X8_guardBy : mzT1 :=
  (sret (gI (iK (-1))))
def Lt5_X8_guardBy : mzT1 :=
  (sseq (sset 4 (gI (iK 0)))
  (sseq (sloop Lc3_X8_guardBy 75 Lb3_X8_guardBy 136 Ls3_X8_guardBy 142)
  Lt4_X8_guardBy))
def Lt6_X8_guardBy : mzT1 :=
  (sseq (sset 4 (gI (iK 0)))
  (sseq (sloop Lc1_X8_guardBy 30 Lb1_X8_guardBy 57 Ls1_X8_guardBy 63)
  Lt5_X8_guardBy))
def Lt7_X8_guardBy : mzT1 :=
  (sseq (sif1 (bif0 .ne (gcV M_X8_guards lkV_8_223 ym_X8_guards (by decide) [(gR (rL 0)), (gI (iL 1)), (gI (iL 2)), (gI (iL 3)), (gI (iK (-1))), (gI (iK (-1)))])) 16
  Lt1_X8_guardBy)
  Lt6_X8_guardBy)
def B_X8_guardBy : mzT1 :=
  (sseq (scV M_X8_lays lkV_8_157 ym_X8_lays [(gR (rL 0))])
  Lt7_X8_guardBy)
theorem ok_X8_guardBy : mzok1 yX8_guardBy cX8_guardBy 8 6 (some .int) 5 117 1 B_X8_guardBy := ⟨by decide +kernel, mzT_at 1119 (by decide +kernel) rfl, by decide, rfl, rfl, rfl⟩
def M_X8_guardBy : mzMt := mzmk yX8_guardBy cX8_guardBy 8 6 (some .int) 5 117 1 B_X8_guardBy ok_X8_guardBy
theorem ym_X8_guardBy : M_X8_guardBy.1.1 = yX8_guardBy := rfl

def B_X8_guardOf : mzT1 :=
  (sret (gcV P_X8_ofRow.1.1 lkV_8_230 yp_X8_ofRow (by decide) [(gR (rL 0)), (gcV M_X8_guardBy lkV_8_227 ym_X8_guardBy (by decide) [(gR (rL 0)), (gI (iL 1)), (gI (iL 2)), (gI (iL 3))]), (gI (iL 4))]))
theorem ok_X8_guardOf : mzok1 yX8_guardOf cX8_guardOf 8 5 (some .int) 6 142 1 B_X8_guardOf := ⟨by decide +kernel, mzT_at 1115 (by decide +kernel) rfl, by decide, rfl, rfl, rfl⟩
def M_X8_guardOf : mzMt := mzmk yX8_guardOf cX8_guardOf 8 5 (some .int) 6 142 1 B_X8_guardOf ok_X8_guardOf
theorem ym_X8_guardOf : M_X8_guardOf.1.1 = yX8_guardOf := rfl

def B_X8_guard : mzT1 :=
  (sret (gq 38 50 (band 28 (band 23 (band 15 (band 7 (gB (cif0 .ne (icS P_X8_isStep lkS_8_134 yp_X8_isStep [(vI (iL 1))]))) (bif0 .ne (gcV M_X8_isDay lkV_8_160 ym_X8_isDay (by decide) [(gR (rL 0)), (gI (iL 2))]))) (bif0 .ne (gcV M_X8_isDay lkV_8_160 ym_X8_isDay (by decide) [(gR (rL 0)), (gI (iL 3))]))) (gB (ccmp .ne (iL 2) (iL 3)))) (gB (cif0 .ne (icS P_X8_in lkS_8_83 yp_X8_in [(vI (iL 4)), (vI (iK (-1))), (vI (iK 1))])))) (gcV M_X8_guardOf lkV_8_233 ym_X8_guardOf (by decide) [(gR (rL 0)), (gI (iL 1)), (gI (iL 2)), (gI (iL 3)), (gI (iL 4))]) (gI (iK (-2)))))
theorem ok_X8_guard : mzok1 yX8_guard cX8_guard 8 5 (some .int) 7 166 1 B_X8_guard := ⟨by decide +kernel, mzT_at 1111 (by decide +kernel) rfl, by decide, rfl, rfl, rfl⟩
def M_X8_guard : mzMt := mzmk yX8_guard cX8_guard 8 5 (some .int) 7 166 1 B_X8_guard ok_X8_guard
theorem ym_X8_guard : M_X8_guard.1.1 = yX8_guard := rfl

