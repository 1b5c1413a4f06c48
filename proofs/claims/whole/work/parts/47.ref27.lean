/-! the reference: look -/
def Lc1_X8_lookOf : mzB1 :=
  (gB (ccmp .lt (iL 3) (iK 36)))
def Lb1_X8_lookOf : mzT1 :=
  (sast 0 (gR (rF lkF_8_55 (by decide) (rL 0))) (gI (iL 3)) (gI (iK 0)))
def Ls1_X8_lookOf : mzT1 :=
  (sinc 3 1)
def Lt1_X8_lookOf : mzT1 :=
  (sastI mzr_iadd (gR (rF lkF_8_55 (by decide) (rL 0))) (g2 mzr_idiv (gcV M_X8_behind lkV_8_179 ym_X8_behind (by decide) [(gR (rL 0)), (gI (iL 3)), (gI (iL 1)), (gI (iL 2))]) (gI (iK 4))) (gI (iK 1)))
def Lc2_X8_lookOf : mzB1 :=
  (gB (ccmp .lt (iL 3) (imul (iK 4) (iF lkF_8_91 (by decide) (rL 0)))))
def Lb2_X8_lookOf : mzT1 :=
  (sif1 (bif0 .ne (gcV M_X8_isSeen lkV_8_239 ym_X8_isSeen (by decide) [(gR (rL 0)), (gI (iL 3)), (gI (iL 1))])) 46
  Lt1_X8_lookOf)
def Ls2_X8_lookOf : mzT1 :=
  (sinc 3 1)
def Lc3_X8_lookOf : mzB1 :=
  (gB (ccmp .lt (iL 5) (iF lkF_8_91 (by decide) (rL 0))))
def Lb3_X8_lookOf : mzT1 :=
  (sseq (sset 3 (gI (iq 99 104 (ccmp .gt (iA (rF lkF_8_55 (by decide) (rL 0)) (iL 5)) (iL 4)) (iL 5) (iL 3))))
  (sset 4 (gI (iq 118 128 (ccmp .gt (iA (rF lkF_8_55 (by decide) (rL 0)) (iL 5)) (iL 4)) (iA (rF lkF_8_55 (by decide) (rL 0)) (iL 5)) (iL 4)))))
def Ls3_X8_lookOf : mzT1 :=
  (sinc 5 1)
def Lt2_X8_lookOf : mzT1 :=
  (sret (gI (iL 3)))
def Lt3_X8_lookOf : mzT1 :=
  (sseq (sset 3 (gI (iK (-1))))
  (sseq (sset 4 (gI (iK 0)))
  (sseq (sset 5 (gI (iK 0)))
  (sseq (sloop Lc3_X8_lookOf 87 Lb3_X8_lookOf 132 Ls3_X8_lookOf 138)
  Lt2_X8_lookOf))))
def Lt4_X8_lookOf : mzT1 :=
  (sseq (sset 3 (gI (iK 0)))
  (sseq (sloop Lc2_X8_lookOf 37 Lb2_X8_lookOf 64 Ls2_X8_lookOf 70)
  Lt3_X8_lookOf))
def Lt5_X8_lookOf : mzT1 :=
  (sseq (sset 3 (gI (iK 0)))
  (sseq (sloop Lc1_X8_lookOf 12 Lb1_X8_lookOf 19 Ls1_X8_lookOf 25)
  Lt4_X8_lookOf))
def B_X8_lookOf : mzT1 :=
  (sseq (scV M_X8_lays lkV_8_157 ym_X8_lays [(gR (rL 0))])
  Lt5_X8_lookOf)
theorem ok_X8_lookOf : mzok1 yX8_lookOf cX8_lookOf 8 6 (some .int) 5 117 1 B_X8_lookOf := ⟨by decide +kernel, mzT_at 1155 (by decide +kernel) rfl, by decide, rfl, rfl, rfl⟩
def M_X8_lookOf : mzMt := mzmk yX8_lookOf cX8_lookOf 8 6 (some .int) 5 117 1 B_X8_lookOf ok_X8_lookOf
theorem ym_X8_lookOf : M_X8_lookOf.1.1 = yX8_lookOf := rfl

def B_X8_look : mzT1 :=
  (sret (gq 16 25 (gB (cand 9 (cif0 .ne (icS P_X8_in lkS_8_83 yp_X8_in [(vI (iL 1)), (vI (iK 0)), (vI (iK 2))])) (cif0 .ne (icS P_X8_isStep lkS_8_134 yp_X8_isStep [(vI (iL 2))])))) (gcV M_X8_lookOf lkV_8_245 ym_X8_lookOf (by decide) [(gR (rL 0)), (gI (iL 1)), (gI (iL 2))]) (gI (iK (-2)))))
theorem ok_X8_look : mzok1 yX8_look cX8_look 8 3 (some .int) 6 142 1 B_X8_look := ⟨by decide +kernel, mzT_at 1151 (by decide +kernel) rfl, by decide, rfl, rfl, rfl⟩
def M_X8_look : mzMt := mzmk yX8_look cX8_look 8 3 (some .int) 6 142 1 B_X8_look ok_X8_look
theorem ym_X8_look : M_X8_look.1.1 = yX8_look := rfl

