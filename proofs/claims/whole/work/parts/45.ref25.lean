/-! the reference: isSeen, began -/
def Lc1_X8_isSeen : mzB1 :=
  (gB (ccmp .lt (iL 6) (iF lkF_8_236 (by decide) (rL 0))))
def Lb1_X8_isSeen : mzT1 :=
  (sset 3 (gI (iq 61 65 (cand 35 (cif0 .ne (iL 3)) (cor 47 (ccmp .ne (iA (rF lkF_8_49 (by decide) (rL 0)) (iL 6)) (iL 5)) (ccmp .eq (iA (rF lkF_8_52 (by decide) (rL 0)) (iL 6)) (idiv (iL 4) (iK 4))))) (iK 1) (iK 0))))
def Ls1_X8_isSeen : mzT1 :=
  (sinc 6 1)
def Lt1_X8_isSeen : mzT1 :=
  (sset 4 (gcV M_X8_goes lkV_8_173 ym_X8_goes (by decide) [(gR (rL 0)), (gI (iL 4)), (gI (iL 2)), (gI (iL 5))]))
def Lc2_X8_isSeen : mzB1 :=
  (gB (cand 15 (ccmp .lt (iL 5) (iK 100)) (cif0 .ne (iL 3))))
def Lb2_X8_isSeen : mzT1 :=
  (sseq (sset 6 (gI (iK 0)))
  (sseq (sloop Lc1_X8_isSeen 31 Lb1_X8_isSeen 67 Ls1_X8_isSeen 73)
  Lt1_X8_isSeen))
def Ls2_X8_isSeen : mzT1 :=
  (sinc 5 1)
def Lt2_X8_isSeen : mzT1 :=
  (sretZ (gI (iL 3)))
def B_X8_isSeen : mzT1 :=
  (sseq (sset 3 (gI (iK 1)))
  (sseq (sset 4 (gI (iL 1)))
  (sseq (sset 5 (gI (iK 0)))
  (sseq (sloop Lc2_X8_isSeen 19 Lb2_X8_isSeen 84 Ls2_X8_isSeen 90)
  Lt2_X8_isSeen))))
theorem ok_X8_isSeen : mzok1 yX8_isSeen cX8_isSeen 8 7 (some .boolean) 2 49 4 B_X8_isSeen := ⟨by decide +kernel, mzT_at 1147 (by decide +kernel) rfl, by decide, rfl, rfl, rfl⟩
def M_X8_isSeen : mzMt := mzmk yX8_isSeen cX8_isSeen 8 7 (some .boolean) 2 49 4 B_X8_isSeen ok_X8_isSeen
theorem ym_X8_isSeen : M_X8_isSeen.1.1 = yX8_isSeen := rfl

def Lt1_X8_beganOf : mzT1 :=
  (sseq (sset 4 (gI (iq 42 47 (cand 37 (cif0 .ne (iL 6)) (ccmp .eq (iL 3) (iL 2))) (iL 5) (iL 4))))
  (sset 3 (gI (iadd (iL 3) (iq 57 61 (cif0 .ne (iL 6)) (iK 1) (iK 0))))))
def Lc1_X8_beganOf : mzB1 :=
  (gB (ccmp .lt (iL 5) (imul (iK 4) (iF lkF_8_91 (by decide) (rL 0)))))
def Lb1_X8_beganOf : mzT1 :=
  (sseq (sset 6 (gcV M_X8_isSeen lkV_8_239 ym_X8_isSeen (by decide) [(gR (rL 0)), (gI (iL 5)), (gI (iL 1))]))
  Lt1_X8_beganOf)
def Ls1_X8_beganOf : mzT1 :=
  (sinc 5 1)
def Lt2_X8_beganOf : mzT1 :=
  (sret (gI (iq 75 79 (ccmp .eq (iL 2) (iK (-1))) (iL 3) (iL 4))))
def Lt3_X8_beganOf : mzT1 :=
  (sseq (sset 3 (gI (iK 0)))
  (sseq (sset 4 (gI (iK (-1))))
  (sseq (sset 5 (gI (iK 0)))
  (sseq (sloop Lc1_X8_beganOf 23 Lb1_X8_beganOf 64 Ls1_X8_beganOf 70)
  Lt2_X8_beganOf))))
def B_X8_beganOf : mzT1 :=
  (sseq (scV M_X8_lays lkV_8_157 ym_X8_lays [(gR (rL 0))])
  Lt3_X8_beganOf)
theorem ok_X8_beganOf : mzok1 yX8_beganOf cX8_beganOf 8 7 (some .int) 5 117 1 B_X8_beganOf := ⟨by decide +kernel, mzT_at 1143 (by decide +kernel) rfl, by decide, rfl, rfl, rfl⟩
def M_X8_beganOf : mzMt := mzmk yX8_beganOf cX8_beganOf 8 7 (some .int) 5 117 1 B_X8_beganOf ok_X8_beganOf
theorem ym_X8_beganOf : M_X8_beganOf.1.1 = yX8_beganOf := rfl

def B_X8_began : mzT1 :=
  (sret (gq 20 29 (gB (cand 9 (cif0 .ne (icS P_X8_in lkS_8_83 yp_X8_in [(vI (iL 1)), (vI (iK 0)), (vI (iK 2))])) (cif0 .ne (icS P_X8_in lkS_8_83 yp_X8_in [(vI (iL 2)), (vI (iK (-1))), (vI (iK 143))])))) (gcV M_X8_beganOf lkV_8_242 ym_X8_beganOf (by decide) [(gR (rL 0)), (gI (iL 1)), (gI (iL 2))]) (gI (iK (-2)))))
theorem ok_X8_began : mzok1 yX8_began cX8_began 8 3 (some .int) 6 143 1 B_X8_began := ⟨by decide +kernel, mzT_at 1139 (by decide +kernel) rfl, by decide, rfl, rfl, rfl⟩
def M_X8_began : mzMt := mzmk yX8_began cX8_began 8 3 (some .int) 6 143 1 B_X8_began ok_X8_began
theorem ym_X8_began : M_X8_began.1.1 = yX8_began := rfl

