/-! the reference: digest, its texts -/
def Lt1_X8_dayDigest : mzT1 :=
  (sret (g2 mzr_ladd (gJ (jmul (jKc kc_8_283) (jL 4))) (g1 mzr_i2l (gcV M_X8_cutOf lkV_8_220 ym_X8_cutOf (by decide) [(gR (rL 0)), (gI (iK 5)), (gI (iK 0)), (gI (iL 3))]))))
def Lt2_X8_dayDigest : mzT1 :=
  (sseq (sset 4 (g2 mzr_ladd (gJ (jmul (jKc kc_8_283) (jL 4))) (g1 mzr_i2l (gcV M_X8_wayOf lkV_8_208 ym_X8_wayOf (by decide) [(gR (rL 0)), (gI (iK 5)), (gI (iK 0)), (gI (iL 3))]))))
  Lt1_X8_dayDigest)
def B_X8_dayDigest : mzT1 :=
  (sseq (sset 4 (gJ (jadd (jmul (jKc kc_8_283) (jL 1)) (i2j (iA (rF lkF_8_40 (by decide) (rL 0)) (iL 3))))))
  (sseq (sset 4 (gJ (jadd (jmul (jKc kc_8_283) (jL 4)) (i2j (iA (rF lkF_8_40 (by decide) (rL 0)) (iadd (iK 1800) (iL 3)))))))
  (sseq (sset 4 (g2 mzr_ladd (gJ (jmul (jKc kc_8_283) (jL 4))) (g1 mzr_i2l (gcV M_X8_joinedOf lkV_8_214 ym_X8_joinedOf (by decide) [(gR (rL 0)), (gI (iK 5)), (gI (iL 3))]))))
  Lt2_X8_dayDigest)))
theorem ok_X8_dayDigest : mzok1 yX8_dayDigest cX8_dayDigest 8 6 (some .long) 6 141 2 B_X8_dayDigest := ⟨by decide +kernel, mzT_at 1235 (by decide +kernel) rfl, by decide, rfl, rfl, rfl⟩
def M_X8_dayDigest : mzMt := mzmk yX8_dayDigest cX8_dayDigest 8 6 (some .long) 6 141 2 B_X8_dayDigest ok_X8_dayDigest
theorem ym_X8_dayDigest : M_X8_dayDigest.1.1 = yX8_dayDigest := rfl

def Lt1_X8_walkerDigest : mzT1 :=
  (sret (g2 mzr_ladd (gJ (jmul (jKc kc_8_283) (jL 4))) (g1 mzr_i2l (gcV M_X8_roundOf lkV_8_194 ym_X8_roundOf (by decide) [(gR (rL 0)), (gI (iL 3))]))))
def Lt2_X8_walkerDigest : mzT1 :=
  (sseq (sset 4 (g2 mzr_ladd (gJ (jmul (jKc kc_8_283) (jL 4))) (g1 mzr_i2l (gcV M_X8_comes lkV_8_285 ym_X8_comes (by decide) [(gR (rL 0)), (gI (iL 3)), (gI (iK 0))]))))
  Lt1_X8_walkerDigest)
def Lt3_X8_walkerDigest : mzT1 :=
  (sseq (sset 4 (g2 mzr_ladd (gJ (jmul (jKc kc_8_283) (jL 4))) (g1 mzr_i2l (gcV M_X8_onOf lkV_8_185 ym_X8_onOf (by decide) [(gR (rL 0)), (gI (iL 3)), (gI (iK 99)), (gI (iK 0))]))))
  Lt2_X8_walkerDigest)
def Lt4_X8_walkerDigest : mzT1 :=
  (sseq (sset 4 (g2 mzr_ladd (gJ (jmul (jKc kc_8_283) (jL 4))) (g1 mzr_i2l (gcV M_X8_onOf lkV_8_185 ym_X8_onOf (by decide) [(gR (rL 0)), (gI (iL 3)), (gI (iK 7)), (gI (iK 1))]))))
  Lt3_X8_walkerDigest)
def B_X8_walkerDigest : mzT1 :=
  (sseq (sset 4 (gJ (jadd (jmul (jKc kc_8_283) (jL 1)) (i2j (iA (rF lkF_8_19 (by decide) (rL 0)) (iL 3))))))
  (sseq (sset 4 (gJ (jadd (jmul (jKc kc_8_283) (jL 4)) (i2j (iA (rF lkF_8_22 (by decide) (rL 0)) (iL 3))))))
  (sseq (sset 4 (gJ (jadd (jmul (jKc kc_8_283) (jL 4)) (i2j (iA (rF lkF_8_25 (by decide) (rL 0)) (iL 3))))))
  (sseq (sset 4 (g2 mzr_ladd (gJ (jmul (jKc kc_8_283) (jL 4))) (g1 mzr_i2l (gcV M_X8_onOf lkV_8_185 ym_X8_onOf (by decide) [(gR (rL 0)), (gI (iL 3)), (gI (iK 7)), (gI (iK 0))]))))
  Lt4_X8_walkerDigest))))
theorem ok_X8_walkerDigest : mzok1 yX8_walkerDigest cX8_walkerDigest 8 6 (some .long) 7 163 2 B_X8_walkerDigest := ⟨by decide +kernel, mzT_at 1239 (by decide +kernel) rfl, by decide, rfl, rfl, rfl⟩
def M_X8_walkerDigest : mzMt := mzmk yX8_walkerDigest cX8_walkerDigest 8 6 (some .long) 7 163 2 B_X8_walkerDigest ok_X8_walkerDigest
theorem ym_X8_walkerDigest : M_X8_walkerDigest.1.1 = yX8_walkerDigest := rfl

def Lc1_X8_digest : mzB1 :=
  (gB (ccmp .lt (iL 3) (iK 8)))
def Lb1_X8_digest : mzT1 :=
  (sset 1 (g2 mzr_ladd (gJ (jmul (jKc kc_8_283) (jL 1))) (g1 mzr_i2l (gcV M_X8_count lkV_8_290 ym_X8_count (by decide) [(gR (rL 0)), (gI (iL 3))]))))
def Ls1_X8_digest : mzT1 :=
  (sinc 3 1)
def Lc2_X8_digest : mzB1 :=
  (gB (ccmp .lt (iL 3) (iF lkF_8_91 (by decide) (rL 0))))
def Lb2_X8_digest : mzT1 :=
  (sset 1 (gcV M_X8_dayDigest lkV_8_293 ym_X8_dayDigest (by decide) [(gR (rL 0)), (gJ (jL 1)), (gI (iL 3))]))
def Ls2_X8_digest : mzT1 :=
  (sinc 3 1)
def Lc3_X8_digest : mzB1 :=
  (gB (ccmp .lt (iL 3) (iF lkF_8_114 (by decide) (rL 0))))
def Lb3_X8_digest : mzT1 :=
  (sset 1 (gcV M_X8_walkerDigest lkV_8_297 ym_X8_walkerDigest (by decide) [(gR (rL 0)), (gJ (jL 1)), (gI (iL 3))]))
def Ls3_X8_digest : mzT1 :=
  (sinc 3 1)
def Lt1_X8_digest : mzT1 :=
  (sset 1 (g2 mzr_ladd (gJ (jmul (jKc kc_8_283) (jL 1))) (g1 mzr_i2l (gcV M_X8_lookOf lkV_8_245 ym_X8_lookOf (by decide) [(gR (rL 0)), (gI (iL 4)), (gI (iK 9))]))))
def Lt2_X8_digest : mzT1 :=
  (sseq (sset 1 (g2 mzr_ladd (gJ (jmul (jKc kc_8_283) (jL 1))) (g1 mzr_i2l (gcV M_X8_beganOf lkV_8_242 ym_X8_beganOf (by decide) [(gR (rL 0)), (gI (iL 4)), (gI (iK 0))]))))
  Lt1_X8_digest)
def Lc4_X8_digest : mzB1 :=
  (gB (ccmp .lt (iL 4) (iK 3)))
def Lb4_X8_digest : mzT1 :=
  (sseq (sset 1 (g2 mzr_ladd (gJ (jmul (jKc kc_8_283) (jL 1))) (g1 mzr_i2l (gcV M_X8_beganOf lkV_8_242 ym_X8_beganOf (by decide) [(gR (rL 0)), (gI (iL 4)), (gI (iK (-1)))]))))
  Lt2_X8_digest)
def Ls4_X8_digest : mzT1 :=
  (sinc 4 1)
def Lt3_X8_digest : mzT1 :=
  (sret (g2 mzr_ladd (gJ (jmul (jKc kc_8_283) (jL 1))) (g1 mzr_i2l (gcV M_X8_child lkV_8_309 ym_X8_child (by decide) [(gR (rL 0)), (gI (iK 7)), (gI (iK 0)), (gI (iK 30)), (gI (iK 1))]))))
def Lt4_X8_digest : mzT1 :=
  (sseq (sset 1 (g2 mzr_ladd (gJ (jmul (jKc kc_8_283) (jL 1))) (g1 mzr_i2l (gcV M_X8_child lkV_8_309 ym_X8_child (by decide) [(gR (rL 0)), (gI (iK 7)), (gI (iK 0)), (gI (iK 30)), (gI (iK 0))]))))
  Lt3_X8_digest)
def Lt5_X8_digest : mzT1 :=
  (sseq (sset 1 (g2 mzr_ladd (gJ (jmul (jKc kc_8_283) (jL 1))) (gcV M_X8_stray lkV_8_306 ym_X8_stray (by decide) [(gR (rL 0)), (gI (iK 5)), (gI (iK 0)), (gI (iK 5)), (gI (iK 1)), (gI (iK 1))])))
  Lt4_X8_digest)
def Lt6_X8_digest : mzT1 :=
  (sseq (sset 1 (g2 mzr_ladd (gJ (jmul (jKc kc_8_283) (jL 1))) (gcV M_X8_stray lkV_8_306 ym_X8_stray (by decide) [(gR (rL 0)), (gI (iK 5)), (gI (iK 0)), (gI (iK 5)), (gI (iK 1)), (gI (iK 0))])))
  Lt5_X8_digest)
def Lt7_X8_digest : mzT1 :=
  (sseq (sset 1 (gJ (jadd (jmul (jKc kc_8_283) (jL 1)) (i2j (iL 3)))))
  (sseq (sset 1 (gJ (jadd (jmul (jKc kc_8_283) (jL 1)) (i2j (iq 181 186 (ccmp .eq (iL 3) (iK (-2))) (iK (-2)) (icV P_X8_ofRow lkV_8_230 yp_X8_ofRow [(vR (rL 0)), (vI (iL 3)), (vI (iK 0))]))))))
  (sseq (sset 4 (gI (iK 0)))
  (sseq (sloop Lc4_X8_digest 204 Lb4_X8_digest 250 Ls4_X8_digest 256)
  Lt6_X8_digest))))
def Lt8_X8_digest : mzT1 :=
  (sseq (sset 3 (gcV M_X8_guard lkV_8_303 ym_X8_guard (by decide) [(gR (rL 0)), (gI (iK 5)), (gI (iK 0)), (gI (iK 8)), (gI (iK (-1)))]))
  Lt7_X8_digest)
def Lt9_X8_digest : mzT1 :=
  (sseq (sset 1 (g2 mzr_ladd (gJ (jmul (jKc kc_8_283) (jL 1))) (g1 mzr_i2l (gcV M_X8_trodOf lkV_8_197 ym_X8_trodOf (by decide) [(gR (rL 0)), (gI (iK 20)), (gI (iK 1))]))))
  Lt8_X8_digest)
def Lt10_X8_digest : mzT1 :=
  (sseq (sset 1 (g2 mzr_ladd (gJ (jmul (jKc kc_8_283) (jL 1))) (g1 mzr_i2l (gcV M_X8_trodOf lkV_8_197 ym_X8_trodOf (by decide) [(gR (rL 0)), (gI (iK 20)), (gI (iK 0))]))))
  Lt9_X8_digest)
def Lt11_X8_digest : mzT1 :=
  (sseq (sset 1 (g2 mzr_ladd (gJ (jmul (jKc kc_8_283) (jL 1))) (g1 mzr_i2l (gcV M_X8_meet lkV_8_300 ym_X8_meet (by decide) [(gR (rL 0)), (gI (iK 0)), (gI (iK 1))]))))
  Lt10_X8_digest)
def Lt12_X8_digest : mzT1 :=
  (sseq (sset 3 (gI (iK 0)))
  (sseq (sloop Lc3_X8_digest 94 Lb3_X8_digest 101 Ls3_X8_digest 107)
  Lt11_X8_digest))
def Lt13_X8_digest : mzT1 :=
  (sseq (sset 3 (gI (iK 0)))
  (sseq (sloop Lc2_X8_digest 71 Lb2_X8_digest 78 Ls2_X8_digest 84)
  Lt12_X8_digest))
def Lt14_X8_digest : mzT1 :=
  (sseq (scV M_X8_lays lkV_8_157 ym_X8_lays [(gR (rL 0))])
  Lt13_X8_digest)
def Lt15_X8_digest : mzT1 :=
  (sseq (sset 1 (g2 mzr_ladd (gJ (jmul (jKc kc_8_283) (jL 1))) (g1 mzr_i2l (gcV M_X8_faultOf lkV_8_128 ym_X8_faultOf (by decide) [(gR (rL 0)), (gI (iK 1))]))))
  Lt14_X8_digest)
def Lt16_X8_digest : mzT1 :=
  (sseq (sset 1 (g2 mzr_ladd (gJ (jmul (jKc kc_8_283) (jL 1))) (g1 mzr_i2l (gcV M_X8_faultOf lkV_8_128 ym_X8_faultOf (by decide) [(gR (rL 0)), (gI (iK 0))]))))
  Lt15_X8_digest)
def B_X8_digest : mzT1 :=
  (sseq (sset 1 (gJ (jKc kc_8_288)))
  (sseq (sset 3 (gI (iK 0)))
  (sseq (sloop Lc1_X8_digest 12 Lb1_X8_digest 25 Ls1_X8_digest 31)
  Lt16_X8_digest)))
theorem ok_X8_digest : mzok1 yX8_digest cX8_digest 8 5 (some .long) 8 190 2 B_X8_digest := ⟨by decide +kernel, mzT_at 1228 (by decide +kernel) rfl, by decide, rfl, rfl, rfl⟩
def M_X8_digest : mzMt := mzmk yX8_digest cX8_digest 8 5 (some .long) 8 190 2 B_X8_digest ok_X8_digest
theorem ym_X8_digest : M_X8_digest.1.1 = yX8_digest := rfl

