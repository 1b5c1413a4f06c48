/-! the reference: laysFar, its text -/
def Lc1_X8_laysFar : mzB1 :=
  (gB (ccmp .lt (iL 6) (iF lkF_8_91 (by decide) (rL 0))))
def Lb1_X8_laysFar : mzT1 :=
  (sast 0 (gR (rF lkF_8_43 (by decide) (rL 0))) (gI (iL 6)) (gI (iq 24 28 (ccmp .eq (iL 6) (iL 2)) (iK 0) (iKc kc_8_200))))
def Ls1_X8_laysFar : mzT1 :=
  (sinc 6 1)
def Lc2_X8_laysFar : mzB1 :=
  (gB (cand 88 (cand 81 (cand 69 (ccmp .lt (iL 8) (iK 4)) (ccmp .lt (iA (rF lkF_8_43 (by decide) (rL 0)) (iL 7)) (iKc kc_8_200))) (ccmp .ne (iL 7) (iL 4))) (ccmp .ne (iL 7) (iL 5))))
def Lb2_X8_laysFar : mzT1 :=
  (sseq (sset 9 (gI (iq 100 117 (cif0 .eq (iL 8)) (iq 109 113 (ccmp .ge (iL 7) (iF lkF_8_98 (by decide) (rL 0))) (iK 1) (iK 0)) (iq 123 133 (ccmp .eq (iL 8) (iK 1)) (icV P_X8_isPlace lkV_8_151 yp_X8_isPlace [(vR (rL 0)), (vI (iL 7)), (vI (iK 0))]) (iq 139 149 (ccmp .eq (iL 8) (iK 2)) (icV P_X8_isPlace lkV_8_151 yp_X8_isPlace [(vR (rL 0)), (vI (iL 7)), (vI (iK 1))]) (iq 159 163 (cif0 .gt (irem (iL 7) (iF lkF_8_98 (by decide) (rL 0)))) (iK 1) (iK 0)))))))
  (sseq (sset 10 (gI (iq 186 200 (cif0 .ne (icS P_X8_isIn lkS_8_147 yp_X8_isIn [(vI (iA (rF lkF_8_40 (by decide) (rL 0)) (iadd (imul (iK 36) (iL 1)) (iL 7)))), (vI (iL 8))])) (iq 192 196 (ccmp .eq (iL 3) (iKc kc_8_200)) (iK 1) (iK 0)) (iL 3))))
  (sif1 (gB (cand 215 (cand 208 (cif0 .ne (iL 9)) (ccmp .lt (iL 10) (iKc kc_8_200))) (ccmp .lt (iadd (iA (rF lkF_8_43 (by decide) (rL 0)) (iL 7)) (iL 10)) (iA (rF lkF_8_43 (by decide) (rL 0)) (icV P_X8_beside lkV_8_170 yp_X8_beside [(vR (rL 0)), (vI (iL 7)), (vI (iL 8))]))))) 241
  (sseq (sast 0 (gR (rF lkF_8_43 (by decide) (rL 0))) (gI (icV P_X8_beside lkV_8_170 yp_X8_beside [(vR (rL 0)), (vI (iL 7)), (vI (iL 8))])) (gI (iadd (iA (rF lkF_8_43 (by decide) (rL 0)) (iL 7)) (iL 10))))
  (sset 6 (gI (iK 1)))))))
def Ls2_X8_laysFar : mzT1 :=
  (sinc 8 1)
def Lc3_X8_laysFar : mzB1 :=
  (gB (ccmp .lt (iL 7) (iF lkF_8_91 (by decide) (rL 0))))
def Lb3_X8_laysFar : mzT1 :=
  (sseq (sset 8 (gI (iK 0)))
  (sloop Lc2_X8_laysFar 95 Lb2_X8_laysFar 267 Ls2_X8_laysFar 273))
def Ls3_X8_laysFar : mzT1 :=
  (sinc 7 1)
def Lc4_X8_laysFar : mzB1 :=
  (gB (cif0 .ne (iL 6)))
def Lb4_X8_laysFar : mzT1 :=
  (sseq (sset 6 (gI (iK 0)))
  (sseq (sset 7 (gI (iK 0)))
  (sloop Lc3_X8_laysFar 60 Lb3_X8_laysFar 273 Ls3_X8_laysFar 279)))
def Ls4_X8_laysFar : mzT1 :=
  sskip
def Lt1_X8_laysFar : mzT1 :=
  sretv
def Lt2_X8_laysFar : mzT1 :=
  (sseq (sset 6 (gI (iK 1)))
  (sseq (sloop Lc4_X8_laysFar 45 Lb4_X8_laysFar 40 Ls4_X8_laysFar 282)
  Lt1_X8_laysFar))
def B_X8_laysFar : mzT1 :=
  (sseq (sset 6 (gI (iK 0)))
  (sseq (sloop Lc1_X8_laysFar 12 Lb1_X8_laysFar 31 Ls1_X8_laysFar 37)
  Lt2_X8_laysFar))
theorem ok_X8_laysFar : mzok1 yX8_laysFar cX8_laysFar 8 11 none 1 22 0 B_X8_laysFar := ⟨by decide +kernel, mzT_at 1075 (by decide +kernel) rfl, by decide, rfl, rfl, rfl⟩
def M_X8_laysFar : mzMt := mzmk yX8_laysFar cX8_laysFar 8 11 none 1 22 0 B_X8_laysFar ok_X8_laysFar
theorem ym_X8_laysFar : M_X8_laysFar.1.1 = yX8_laysFar := rfl

