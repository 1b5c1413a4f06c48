/-! arguments within a range -/
def ix (m : Nat) (w : Int32) : Option Nat := if 0 ≤ w ∧ w.toNatClampNeg < m then some w.toNatClampNeg else none
theorem ix_nI {m j : Nat} (h : j < m) (hm : m < 2147483648) : ix m (nI j) = some j := by
  unfold ix
  rw [nu_cl (by omega), if_pos ⟨nI_pos' (by omega), h⟩]
theorem ix_of {m j : Nat} {w : Int32} (h : ix m w = some j) (hm : m < 2147483648) : j < m ∧ w = nI j := by
  unfold ix at h
  by_cases c : 0 ≤ w ∧ w.toNatClampNeg < m
  · rw [if_pos c] at h
    cases h
    obtain ⟨k, hk, e⟩ := nI_of (x := w) (Int32.not_lt.mpr c.1)
    refine ⟨c.2, ?_⟩
    rw [e, nu_cl hk]
  · rw [if_neg c] at h; cases h
/-- 0 ≤ w ≤ hi, hi one below m -/
theorem ix_in {m : Nat} {w hi : Int32} (hm : m < 1000) (he : hi.toInt = (m : Int) - 1) (h : 0 ≤ w ∧ w ≤ hi) : ∃ j, j < m ∧ w = nI j ∧ ix m w = some j := by
  obtain ⟨k, hk, e⟩ := nI_of (x := w) (Int32.not_lt.mpr h.1)
  have h2 := Int32.le_iff_toInt_le.mp h.2
  rw [e, nI_toInt hk, he] at h2
  exact ⟨k, by omega, e, by rw [e]; exact ix_nI (by omega) (by omega)⟩
theorem ix_out {m : Nat} {w hi : Int32} (hm : m < 1000) (he : hi.toInt = (m : Int) - 1) (h : ¬ (0 ≤ w ∧ w ≤ hi)) : ix m w = none := by
  cases hx : ix m w with
  | none => rfl
  | some j =>
    obtain ⟨h1, h2⟩ := ix_of hx (by omega)
    refine absurd ⟨?_, ?_⟩ h
    · rw [h2]; exact nI_pos' (by omega)
    · apply Int32.le_iff_toInt_le.mpr
      rw [h2, nI_toInt (by omega), he]
      omega
theorem hi_sub (m : Nat) (hm : m < 1000) : (nI m - 1 : Int32).toInt = (m : Int) - 1 := by
  rcases Nat.eq_zero_or_pos m with e | e
  · subst e; decide
  · rw [show (1 : Int32) = nI 1 from rfl, nu_sub e, nI_toInt (by omega)]
    omega
theorem hi_99 : (99 : Int32).toInt = ((100 : Nat) : Int) - 1 := by decide
theorem hi_1 : (1 : Int32).toInt = ((2 : Nat) : Int) - 1 := by decide
theorem hi_2 : (2 : Int32).toInt = ((3 : Nat) : Int) - 1 := by decide
theorem hi_3 : (3 : Int32).toInt = ((4 : Nat) : Int) - 1 := by decide
theorem hi_35 : (35 : Int32).toInt = ((36 : Nat) : Int) - 1 := by decide
theorem hi_255 : (255 : Int32).toInt = ((256 : Nat) : Int) - 1 := by decide
/-! walkers as numbers -/
def wDn (T : Nat → Int32) (w : Nat) : Nat := (wkDay T w).toNatClampNeg
def wHn (T : Nat → Int32) (w : Nat) : Nat := (hdOf (T (5 * w + 2))).toNatClampNeg
def wAn (T : Nat → Int32) (w : Nat) : Nat := (haOf (T (5 * w + 3))).toNatClampNeg
theorem wk_n {T : Nat → Int32} {n w : Nat} (hw : w < nWk T n) : (wDn T w < 40 ∧ wkDay T w = nI (wDn T w)) ∧ (wHn T w < 4 ∧ hdOf (T (5 * w + 2)) = nI (wHn T w)) ∧ (wAn T w < 3 ∧ haOf (T (5 * w + 3)) = nI (wAn T w)) := by
  obtain ⟨⟨a, a1, a2⟩, ⟨b, b1, b2⟩, ⟨c, c1, c2⟩⟩ := nWk_ok hw
  have ea : wDn T w = a := by unfold wDn; rw [a2]; exact nu_cl (by omega)
  have eb : wHn T w = b := by unfold wHn; rw [b2]; exact nu_cl (by omega)
  have ec : wAn T w = c := by unfold wAn; rw [c2]; exact nu_cl (by omega)
  rw [ea, eb, ec]
  exact ⟨⟨a1, a2⟩, ⟨b1, b2⟩, ⟨c1, c2⟩⟩
/-- where a walker is behind n steps: none: nowhere -/
def wSt (op : Nat → Nat → Nat → Bool) (W D : Nat) (T : Nat → Int32) (w n : Nat) : Option Nat := if wDn T w < D then some (wlk op W (wAn T w) 0 n (4 * wDn T w + wHn T w)) else none
def oI (o : Option Nat) : Int32 := match o with
  | some k => nI k
  | none => nM
def B_X8_state : mzT1 :=
  (sret (gq 8 37 (gB (cif0 .ne (icV P_X8_isAnywhere lkV_8_176 yp_X8_isAnywhere [(vR (rL 0)), (vI (iL 1))]))) (gcV M_X8_behind lkV_8_179 ym_X8_behind (by decide) [(gR (rL 0)), (gI (iadd (imul (iK 4) (iA (rF lkF_8_19 (by decide) (rL 0)) (iL 1))) (iA (rF lkF_8_22 (by decide) (rL 0)) (iL 1)))), (gI (iA (rF lkF_8_25 (by decide) (rL 0)) (iL 1))), (gI (iL 2))]) (gI (iK (-1)))))
theorem ok_X8_state : mzok1 yX8_state cX8_state 8 3 (some .int) 3 74 1 B_X8_state := ⟨by decide +kernel, mzT_at 1007 (by decide +kernel) rfl, by decide, rfl, rfl, rfl⟩
def M_X8_state : mzMt := mzmk yX8_state cX8_state 8 3 (some .int) 3 74 1 B_X8_state ok_X8_state
theorem ym_X8_state : M_X8_state.1.1 = yX8_state := rfl

set_option maxRecDepth 10000 in
theorem r_state (I : Nat → Nat → Int32) (L : Nat → Nat → Int64) (K : Value → mzM → Prop) {op : Nat → Nat → Nat → Bool} {W D : Nat} (hP : rdP op W D I) (h4 : I 0 4 = nI D) {T : Nat → Int32} {n1 : Nat} (h39 : n1 ≤ 39) (hw : rdW T n1 I) (w n : Nat) (hwn : w < nWk T n1) (hn : n ≤ 100) (hK : K (.int (oI (wSt op W D T w n))) (mR I L)) : mzdo M_X8_state [.ref 0, .int (nI w), .int (nI n)] (mR I L) K := by
  have hD := hP.2.1
  have h8 := nWk_8 (T := T) h39
  obtain ⟨⟨a1, a2⟩, ⟨b1, b2⟩, ⟨c1, c2⟩⟩ := wk_n hwn
  obtain ⟨w4, w5, w6⟩ := hw.2 w hwn
  rw [a2] at w4
  rw [b2] at w5
  rw [c2] at w6
  unfold wSt at hK
  simp only [M_X8_state, w_mk, B_X8_state, w_gI, w_gJ, w_gR, w_gB, w_gV, w_gcV, w_gcS, w_g1, w_g2, w_gq, w_bcmp, w_bif0, w_band, w_bor, w_bnot, w_sskip, w_sseq, w_sset, w_sinc, w_sret, w_sretZ, w_sretv, w_sbrk, w_scnt, w_sif, w_sif1, w_sloop, w_sput, w_sputop, w_sast, w_sastop, w_sastI, w_sastJ, w_sputI, w_sputJ, w_scV, w_scS, w_spop, w_ssw, mzfi, mzfl, mzfs, mzf1il, mzf1li, mzf1ii, e_iK, e_iKc, e_iKw, e_jK, e_jKc, e_rN, e_iL, e_jL, e_rL, e_iadd, e_isub, e_imul, e_iand, e_ior, e_ishl, e_ishr, e_iushr, e_idiv, e_irem, e_jadd, e_jsub, e_jmul, e_jand, e_jor, e_jxor, e_jdiv, e_jrem, e_jshl, e_jushr, e_i2j, e_j2i, e_i2b, e_i2s, e_iF, e_jF, e_rF, e_iA, e_jA, e_zA, e_rA, e_ilen, e_iU, e_ccmp, e_cif0, e_ccml, e_cnul, e_cand, e_cor, e_cnot, e_iq, e_jq, e_rq, e_icV, e_icS, e_jcV, e_jcS, e_rcV, e_rcS, e_vI, e_vJ, e_vR, o_iK, o_iKc, o_iKw, o_jK, o_jKc, o_rN, o_iL, o_jL, o_rL, o_iadd, o_isub, o_imul, o_iand, o_ior, o_ishl, o_ishr, o_iushr, o_idiv, o_irem, o_jadd, o_jsub, o_jmul, o_jand, o_jor, o_jxor, o_jdiv, o_jrem, o_jshl, o_jushr, o_i2j, o_j2i, o_i2b, o_i2s, o_iF, o_jF, o_rF, o_iA, o_jA, o_zA, o_rA, o_ilen, o_iU, o_ccmp, o_cif0, o_ccml, o_cnul, o_cand, o_cor, o_cnot, o_iq, o_jq, o_rq, o_icV, o_icS, o_jcV, o_jcS, o_rcV, o_rcS, o_vI, o_vJ, o_vR, mzwV, mzwS, mzwas, w_do, mzini, a_nil, a_int, a_long, a_ref, a_null, st_int, st_ref, st_null, st_long, kl_0, kl_s, rf_some, rf_none, List.length_cons, List.length_nil, Nat.reduceAdd, Nat.reduceSub, Nat.reduceLeDiff, List.replicate_succ, List.replicate_zero, List.cons_append, List.nil_append, List.append_nil, mzgi, mzgio, mzgj, mzgjo, mzgr, mzgro, List.getElem?_cons_succ, List.getElem?_cons_zero, List.set_cons_succ, List.set_cons_zero, true_and, and_true, Nat.le_refl, Nat.sub_self, implies_true, Bool.and_eq_true, Bool.or_eq_true, decide_eq_true_eq, Bool.not_eq_true, Bool.not_eq_false, Bool.not_eq_eq_eq_not, Bool.not_true, Bool.not_false, decide_eq_false_iff_not, Bool.and_eq_false_iff, Bool.or_eq_false_iff, in_0_2, in_1_2, mzevs, mzoks, mzrc, e_pfi_I, e_pfj_I, e_pfr_I, e_po_I, e_pfi_II, e_pfj_II, e_pfr_II, e_po_II, e_pfi_III, e_pfj_III, e_pfr_III, e_po_III, e_pfi_IIII, e_pfj_IIII, e_pfr_IIII, e_po_IIII, e_pfi_IIIII, e_pfj_IIIII, e_pfr_IIIII, e_po_IIIII, e_pfi_R, e_pfj_R, e_pfr_R, e_po_R, e_pfi_RI, e_pfj_RI, e_pfr_RI, e_po_RI, e_pfi_RII, e_pfj_RII, e_pfr_RII, e_po_RII, e_pfi_RIII, e_pfj_RIII, e_pfr_RIII, e_po_RIII, e_pfi_RIIII, e_pfj_RIIII, e_pfr_RIIII, e_po_RIIII, e_pfi_RIIIII, e_pfj_RIIIII, e_pfr_RIIIII, e_po_RIIIII, e_pfi_JI, e_pfj_JI, e_pfr_JI, e_po_JI, e_pfi_JJ, e_pfj_JJ, e_pfr_JJ, e_po_JJ, e_pfi_RJ, e_pfj_RJ, e_pfr_RJ, e_po_RJ, e_pfi_RJI, e_pfj_RJI, e_pfr_RJI, e_po_RJI, e_pfi_RJJJ, e_pfj_RJJJ, e_pfr_RJJJ, e_po_RJJJ, e_pfi_RJIJ, e_pfj_RJIJ, e_pfr_RJIJ, e_po_RJIJ, e_pfi_RIIIJ, e_pfj_RIIIJ, e_pfr_RIIIJ, e_po_RIIIJ, e_pfi_J, e_pfj_J, e_pfr_J, e_po_J, e_pfi_RR, e_pfj_RR, e_pfr_RR, e_po_RR, e_pfi_RRI, e_pfj_RRI, e_pfr_RRI, e_po_RRI, e_pfi_RRII, e_pfj_RRII, e_pfr_RRII, e_po_RRII, e_pfi_RRIII, e_pfj_RRIII, e_pfr_RRIII, e_po_RRIII, e_pfi_RIJ, e_pfj_RIJ, e_pfr_RIJ, e_po_RIJ, e_X8_in, o_X8_in, e_X8_isIn, o_X8_isIn, e_X8_isText, o_X8_isText, e_X8_isStep, o_X8_isStep, e_X8_isSheet, o_X8_isSheet, e_X8_kindOf, o_X8_kindOf, e_X8_headOf, o_X8_headOf, e_X8_handOf, o_X8_handOf, e_X8_ones, o_X8_ones, e_X8_tries, o_X8_tries, e_X8_no, o_X8_no, e_X8_byteAt, o_X8_byteAt, e_X8_isPlace, o_X8_isPlace, e_X8_beside, o_X8_beside, e_X8_isAnywhere, o_X8_isAnywhere, e_X8_ofRow, o_X8_ofRow, e_X8_lacks, o_X8_lacks, shR_0, shR_1, shR_2, shR_3, shR_4, shR_5, shR_6, shR_7, shR_8, shR_9, shR_10, shR_11, shR_12, shR_13, shR_14, shR_15, shR_16, shR_17, shR_18, shR_19, shR_20, shR_21, shR_22, shR_23, rrR_0_0, rrR_0_1, rrR_0_5, rrR_0_7, rrR_0_8, rrR_0_9, rrR_0_10, rrR_0_11, rrR_0_12, rrR_0_13, rrR_0_14, rrR_0_15, rrR_0_16, rrR_0_18, rrR_0_19, rrR_0_20, rrR_0_21, rrR_0_22, rrR_0_23, rrR_0_24, rrR_0_25, rrR_0_26, rrR_0_27, mR_1, mR_2, mR_3, mR_4, mR_p0, mR_p1, mR_a0, mR_a1, mR_a2, mR_g0, mR_g1, mR_d0, mR_d1, gd_some, is_some, la_some]; try simp only [mzcmp, mzcml, mzz01, it_ne0, it_eq0, it_eq1, eq_10, eq_20, eq_21, eq_01, eq_self, Classical.not_not, if_true, if_false, not_true_eq_false, not_false_eq_true, ite_true, ite_false, reduceIte, decide_eq_true_eq, Bool.and_eq_true, Bool.or_eq_true, Bool.not_eq_true, decide_eq_false_iff_not, true_and, and_true, implies_true]
  simp (disch := omega) only [it_n0, it_n1, not_false_eq_true, not_true_eq_false, Classical.not_not, Nat.reduceEqDiff, Nat.reduceLeDiff, false_and, and_false, true_and, and_true, if_false, if_true, reduceIte, eq_self, li_0, li_1, li_2, li_3, li_4, li_5, li_6, li_7, li_8, li_9, li_10, li_12, li_16, li_18, li_35, li_36, li_39, li_41, li_60, li_99, li_100, li_143, li_144, li_150, li_255, li_1000, li_1800, li_far, in_nI, nu_lt, nu_le, nu_eq, nu_cl, nu_sub, nu_div, nu_rem, nu_add, nu_mul, ng1, nu_mM, nu_Mm, nu_ltM, nu_Mlt, nu_leM, nu_Mle, nu_m1, nu_oi1, nu_oi2, nu_oi4, nu_oi3, nu_m1', w4, w5, w6, h4]
  refine ⟨by omega, fun h => ⟨⟨by omega, by omega⟩, by omega, ?_⟩, fun h => ?_⟩
  · rw [if_pos h] at hK
    exact r_behind I L K hP (wAn T w) n _ c1 hn (by omega) hK
  · rw [if_neg h] at hK
    exact hK
def Lt1_X8_onOf : mzT1 :=
  (sret (gI (iq 18 22 (ccmp .eq (iL 4) (iK (-1))) (iK (-1)) (iq 26 33 (cif0 .eq (iL 3)) (idiv (iL 4) (iK 4)) (irem (iL 4) (iK 4))))))
def Lt2_X8_onOf : mzT1 :=
  (sseq (sset 4 (gcV M_X8_state lkV_8_182 ym_X8_state (by decide) [(gR (rL 0)), (gI (iL 1)), (gI (iL 2))]))
  Lt1_X8_onOf)
def B_X8_onOf : mzT1 :=
  (sseq (scV M_X8_lays lkV_8_157 ym_X8_lays [(gR (rL 0))])
  Lt2_X8_onOf)
theorem ok_X8_onOf : mzok1 yX8_onOf cX8_onOf 8 5 (some .int) 5 117 1 B_X8_onOf := ⟨by decide +kernel, mzT_at 1003 (by decide +kernel) rfl, by decide, rfl, rfl, rfl⟩
def M_X8_onOf : mzMt := mzmk yX8_onOf cX8_onOf 8 5 (some .int) 5 117 1 B_X8_onOf ok_X8_onOf
theorem ym_X8_onOf : M_X8_onOf.1.1 = yX8_onOf := rfl

/-- on: the answer -/
def aOn (op : Nat → Nat → Nat → Bool) (W D : Nat) (T : Nat → Int32) (w n : Nat) (what : Int32) : Int32 := match wSt op W D T w n with
  | none => nM
  | some st => if what = 0 then nI (st / 4) else nI (st % 4)
set_option maxRecDepth 10000 in
theorem r_onOf (I : Nat → Nat → Int32) (L : Nat → Nat → Int64) (K : Value → mzM → Prop) {n0 n1 : Nat} (hb : rbT I n0 n1) (w n : Nat) (what : Int32) (hwn : w < nWk (fun p => I 2 (41 + p)) n1) (hn : n ≤ 100) (hK : ∀ I', eqx fD I I' → rdM (I 2) n0 I' → rdW (fun p => I 2 (41 + p)) n1 I' → rdP (opX I n0) (mzq (I 2) n0).1 (mzq (I 2) n0).2.2.1 I' → K (.int (aOn (opX I n0) (mzq (I 2) n0).1 (mzq (I 2) n0).2.2.1 (fun p => I 2 (41 + p)) w n what)) (mR I' L)) : mzdo M_X8_onOf [.ref 0, .int (nI w), .int (nI n), .int what] (mR I L) K := by
  simp only [M_X8_onOf, w_mk, B_X8_onOf, w_gI, w_gJ, w_gR, w_gB, w_gV, w_gcV, w_gcS, w_g1, w_g2, w_gq, w_bcmp, w_bif0, w_band, w_bor, w_bnot, w_sskip, w_sseq, w_sset, w_sinc, w_sret, w_sretZ, w_sretv, w_sbrk, w_scnt, w_sif, w_sif1, w_sloop, w_sput, w_sputop, w_sast, w_sastop, w_sastI, w_sastJ, w_sputI, w_sputJ, w_scV, w_scS, w_spop, w_ssw, mzfi, mzfl, mzfs, mzf1il, mzf1li, mzf1ii, e_iK, e_iKc, e_iKw, e_jK, e_jKc, e_rN, e_iL, e_jL, e_rL, e_iadd, e_isub, e_imul, e_iand, e_ior, e_ishl, e_ishr, e_iushr, e_idiv, e_irem, e_jadd, e_jsub, e_jmul, e_jand, e_jor, e_jxor, e_jdiv, e_jrem, e_jshl, e_jushr, e_i2j, e_j2i, e_i2b, e_i2s, e_iF, e_jF, e_rF, e_iA, e_jA, e_zA, e_rA, e_ilen, e_iU, e_ccmp, e_cif0, e_ccml, e_cnul, e_cand, e_cor, e_cnot, e_iq, e_jq, e_rq, e_icV, e_icS, e_jcV, e_jcS, e_rcV, e_rcS, e_vI, e_vJ, e_vR, o_iK, o_iKc, o_iKw, o_jK, o_jKc, o_rN, o_iL, o_jL, o_rL, o_iadd, o_isub, o_imul, o_iand, o_ior, o_ishl, o_ishr, o_iushr, o_idiv, o_irem, o_jadd, o_jsub, o_jmul, o_jand, o_jor, o_jxor, o_jdiv, o_jrem, o_jshl, o_jushr, o_i2j, o_j2i, o_i2b, o_i2s, o_iF, o_jF, o_rF, o_iA, o_jA, o_zA, o_rA, o_ilen, o_iU, o_ccmp, o_cif0, o_ccml, o_cnul, o_cand, o_cor, o_cnot, o_iq, o_jq, o_rq, o_icV, o_icS, o_jcV, o_jcS, o_rcV, o_rcS, o_vI, o_vJ, o_vR, mzwV, mzwS, mzwas, w_do, mzini, a_nil, a_int, a_long, a_ref, a_null, st_int, st_ref, st_null, st_long, kl_0, kl_s, rf_some, rf_none, List.length_cons, List.length_nil, Nat.reduceAdd, Nat.reduceSub, Nat.reduceLeDiff, List.replicate_succ, List.replicate_zero, List.cons_append, List.nil_append, List.append_nil, mzgi, mzgio, mzgj, mzgjo, mzgr, mzgro, List.getElem?_cons_succ, List.getElem?_cons_zero, List.set_cons_succ, List.set_cons_zero, true_and, and_true, Nat.le_refl, Nat.sub_self, implies_true, Bool.and_eq_true, Bool.or_eq_true, decide_eq_true_eq, Bool.not_eq_true, Bool.not_eq_false, Bool.not_eq_eq_eq_not, Bool.not_true, Bool.not_false, decide_eq_false_iff_not, Bool.and_eq_false_iff, Bool.or_eq_false_iff, in_0_2, in_1_2, mzevs, mzoks, mzrc, e_pfi_I, e_pfj_I, e_pfr_I, e_po_I, e_pfi_II, e_pfj_II, e_pfr_II, e_po_II, e_pfi_III, e_pfj_III, e_pfr_III, e_po_III, e_pfi_IIII, e_pfj_IIII, e_pfr_IIII, e_po_IIII, e_pfi_IIIII, e_pfj_IIIII, e_pfr_IIIII, e_po_IIIII, e_pfi_R, e_pfj_R, e_pfr_R, e_po_R, e_pfi_RI, e_pfj_RI, e_pfr_RI, e_po_RI, e_pfi_RII, e_pfj_RII, e_pfr_RII, e_po_RII, e_pfi_RIII, e_pfj_RIII, e_pfr_RIII, e_po_RIII, e_pfi_RIIII, e_pfj_RIIII, e_pfr_RIIII, e_po_RIIII, e_pfi_RIIIII, e_pfj_RIIIII, e_pfr_RIIIII, e_po_RIIIII, e_pfi_JI, e_pfj_JI, e_pfr_JI, e_po_JI, e_pfi_JJ, e_pfj_JJ, e_pfr_JJ, e_po_JJ, e_pfi_RJ, e_pfj_RJ, e_pfr_RJ, e_po_RJ, e_pfi_RJI, e_pfj_RJI, e_pfr_RJI, e_po_RJI, e_pfi_RJJJ, e_pfj_RJJJ, e_pfr_RJJJ, e_po_RJJJ, e_pfi_RJIJ, e_pfj_RJIJ, e_pfr_RJIJ, e_po_RJIJ, e_pfi_RIIIJ, e_pfj_RIIIJ, e_pfr_RIIIJ, e_po_RIIIJ, e_pfi_J, e_pfj_J, e_pfr_J, e_po_J, e_pfi_RR, e_pfj_RR, e_pfr_RR, e_po_RR, e_pfi_RRI, e_pfj_RRI, e_pfr_RRI, e_po_RRI, e_pfi_RRII, e_pfj_RRII, e_pfr_RRII, e_po_RRII, e_pfi_RRIII, e_pfj_RRIII, e_pfr_RRIII, e_po_RRIII, e_pfi_RIJ, e_pfj_RIJ, e_pfr_RIJ, e_po_RIJ, e_X8_in, o_X8_in, e_X8_isIn, o_X8_isIn, e_X8_isText, o_X8_isText, e_X8_isStep, o_X8_isStep, e_X8_isSheet, o_X8_isSheet, e_X8_kindOf, o_X8_kindOf, e_X8_headOf, o_X8_headOf, e_X8_handOf, o_X8_handOf, e_X8_ones, o_X8_ones, e_X8_tries, o_X8_tries, e_X8_no, o_X8_no, e_X8_byteAt, o_X8_byteAt, e_X8_isPlace, o_X8_isPlace, e_X8_beside, o_X8_beside, e_X8_isAnywhere, o_X8_isAnywhere, e_X8_ofRow, o_X8_ofRow, e_X8_lacks, o_X8_lacks, shR_0, shR_1, shR_2, shR_3, shR_4, shR_5, shR_6, shR_7, shR_8, shR_9, shR_10, shR_11, shR_12, shR_13, shR_14, shR_15, shR_16, shR_17, shR_18, shR_19, shR_20, shR_21, shR_22, shR_23, rrR_0_0, rrR_0_1, rrR_0_5, rrR_0_7, rrR_0_8, rrR_0_9, rrR_0_10, rrR_0_11, rrR_0_12, rrR_0_13, rrR_0_14, rrR_0_15, rrR_0_16, rrR_0_18, rrR_0_19, rrR_0_20, rrR_0_21, rrR_0_22, rrR_0_23, rrR_0_24, rrR_0_25, rrR_0_26, rrR_0_27, mR_1, mR_2, mR_3, mR_4, mR_p0, mR_p1, mR_a0, mR_a1, mR_a2, mR_g0, mR_g1, mR_d0, mR_d1, gd_some, is_some, la_some]; try simp only [mzcmp, mzcml, mzz01, it_ne0, it_eq0, it_eq1, eq_10, eq_20, eq_21, eq_01, eq_self, Classical.not_not, if_true, if_false, not_true_eq_false, not_false_eq_true, ite_true, ite_false, reduceIte, decide_eq_true_eq, Bool.and_eq_true, Bool.or_eq_true, Bool.not_eq_true, decide_eq_false_iff_not, true_and, and_true, implies_true]
  refine r_laysP I L _ hb (fun I1 e m wk p => ?_)
  have hk := hK I1 e m wk p
  simp only [Lt2_X8_onOf, w_gI, w_gJ, w_gR, w_gB, w_gV, w_gcV, w_gcS, w_g1, w_g2, w_gq, w_bcmp, w_bif0, w_band, w_bor, w_bnot, w_sskip, w_sseq, w_sset, w_sinc, w_sret, w_sretZ, w_sretv, w_sbrk, w_scnt, w_sif, w_sif1, w_sloop, w_sput, w_sputop, w_sast, w_sastop, w_sastI, w_sastJ, w_sputI, w_sputJ, w_scV, w_scS, w_spop, w_ssw, mzfi, mzfl, mzfs, mzf1il, mzf1li, mzf1ii, e_iK, e_iKc, e_iKw, e_jK, e_jKc, e_rN, e_iL, e_jL, e_rL, e_iadd, e_isub, e_imul, e_iand, e_ior, e_ishl, e_ishr, e_iushr, e_idiv, e_irem, e_jadd, e_jsub, e_jmul, e_jand, e_jor, e_jxor, e_jdiv, e_jrem, e_jshl, e_jushr, e_i2j, e_j2i, e_i2b, e_i2s, e_iF, e_jF, e_rF, e_iA, e_jA, e_zA, e_rA, e_ilen, e_iU, e_ccmp, e_cif0, e_ccml, e_cnul, e_cand, e_cor, e_cnot, e_iq, e_jq, e_rq, e_icV, e_icS, e_jcV, e_jcS, e_rcV, e_rcS, e_vI, e_vJ, e_vR, o_iK, o_iKc, o_iKw, o_jK, o_jKc, o_rN, o_iL, o_jL, o_rL, o_iadd, o_isub, o_imul, o_iand, o_ior, o_ishl, o_ishr, o_iushr, o_idiv, o_irem, o_jadd, o_jsub, o_jmul, o_jand, o_jor, o_jxor, o_jdiv, o_jrem, o_jshl, o_jushr, o_i2j, o_j2i, o_i2b, o_i2s, o_iF, o_jF, o_rF, o_iA, o_jA, o_zA, o_rA, o_ilen, o_iU, o_ccmp, o_cif0, o_ccml, o_cnul, o_cand, o_cor, o_cnot, o_iq, o_jq, o_rq, o_icV, o_icS, o_jcV, o_jcS, o_rcV, o_rcS, o_vI, o_vJ, o_vR, mzwV, mzwS, mzwas, w_do, mzini, a_nil, a_int, a_long, a_ref, a_null, st_int, st_ref, st_null, st_long, kl_0, kl_s, rf_some, rf_none, List.length_cons, List.length_nil, Nat.reduceAdd, Nat.reduceSub, Nat.reduceLeDiff, List.replicate_succ, List.replicate_zero, List.cons_append, List.nil_append, List.append_nil, mzgi, mzgio, mzgj, mzgjo, mzgr, mzgro, List.getElem?_cons_succ, List.getElem?_cons_zero, List.set_cons_succ, List.set_cons_zero, true_and, and_true, Nat.le_refl, Nat.sub_self, implies_true, Bool.and_eq_true, Bool.or_eq_true, decide_eq_true_eq, Bool.not_eq_true, Bool.not_eq_false, Bool.not_eq_eq_eq_not, Bool.not_true, Bool.not_false, decide_eq_false_iff_not, Bool.and_eq_false_iff, Bool.or_eq_false_iff, in_0_2, in_1_2, mzevs, mzoks, mzrc, e_pfi_I, e_pfj_I, e_pfr_I, e_po_I, e_pfi_II, e_pfj_II, e_pfr_II, e_po_II, e_pfi_III, e_pfj_III, e_pfr_III, e_po_III, e_pfi_IIII, e_pfj_IIII, e_pfr_IIII, e_po_IIII, e_pfi_IIIII, e_pfj_IIIII, e_pfr_IIIII, e_po_IIIII, e_pfi_R, e_pfj_R, e_pfr_R, e_po_R, e_pfi_RI, e_pfj_RI, e_pfr_RI, e_po_RI, e_pfi_RII, e_pfj_RII, e_pfr_RII, e_po_RII, e_pfi_RIII, e_pfj_RIII, e_pfr_RIII, e_po_RIII, e_pfi_RIIII, e_pfj_RIIII, e_pfr_RIIII, e_po_RIIII, e_pfi_RIIIII, e_pfj_RIIIII, e_pfr_RIIIII, e_po_RIIIII, e_pfi_JI, e_pfj_JI, e_pfr_JI, e_po_JI, e_pfi_JJ, e_pfj_JJ, e_pfr_JJ, e_po_JJ, e_pfi_RJ, e_pfj_RJ, e_pfr_RJ, e_po_RJ, e_pfi_RJI, e_pfj_RJI, e_pfr_RJI, e_po_RJI, e_pfi_RJJJ, e_pfj_RJJJ, e_pfr_RJJJ, e_po_RJJJ, e_pfi_RJIJ, e_pfj_RJIJ, e_pfr_RJIJ, e_po_RJIJ, e_pfi_RIIIJ, e_pfj_RIIIJ, e_pfr_RIIIJ, e_po_RIIIJ, e_pfi_J, e_pfj_J, e_pfr_J, e_po_J, e_pfi_RR, e_pfj_RR, e_pfr_RR, e_po_RR, e_pfi_RRI, e_pfj_RRI, e_pfr_RRI, e_po_RRI, e_pfi_RRII, e_pfj_RRII, e_pfr_RRII, e_po_RRII, e_pfi_RRIII, e_pfj_RRIII, e_pfr_RRIII, e_po_RRIII, e_pfi_RIJ, e_pfj_RIJ, e_pfr_RIJ, e_po_RIJ, e_X8_in, o_X8_in, e_X8_isIn, o_X8_isIn, e_X8_isText, o_X8_isText, e_X8_isStep, o_X8_isStep, e_X8_isSheet, o_X8_isSheet, e_X8_kindOf, o_X8_kindOf, e_X8_headOf, o_X8_headOf, e_X8_handOf, o_X8_handOf, e_X8_ones, o_X8_ones, e_X8_tries, o_X8_tries, e_X8_no, o_X8_no, e_X8_byteAt, o_X8_byteAt, e_X8_isPlace, o_X8_isPlace, e_X8_beside, o_X8_beside, e_X8_isAnywhere, o_X8_isAnywhere, e_X8_ofRow, o_X8_ofRow, e_X8_lacks, o_X8_lacks, shR_0, shR_1, shR_2, shR_3, shR_4, shR_5, shR_6, shR_7, shR_8, shR_9, shR_10, shR_11, shR_12, shR_13, shR_14, shR_15, shR_16, shR_17, shR_18, shR_19, shR_20, shR_21, shR_22, shR_23, rrR_0_0, rrR_0_1, rrR_0_5, rrR_0_7, rrR_0_8, rrR_0_9, rrR_0_10, rrR_0_11, rrR_0_12, rrR_0_13, rrR_0_14, rrR_0_15, rrR_0_16, rrR_0_18, rrR_0_19, rrR_0_20, rrR_0_21, rrR_0_22, rrR_0_23, rrR_0_24, rrR_0_25, rrR_0_26, rrR_0_27, mR_1, mR_2, mR_3, mR_4, mR_p0, mR_p1, mR_a0, mR_a1, mR_a2, mR_g0, mR_g1, mR_d0, mR_d1, gd_some, is_some, la_some]; try simp only [mzcmp, mzcml, mzz01, it_ne0, it_eq0, it_eq1, eq_10, eq_20, eq_21, eq_01, eq_self, Classical.not_not, if_true, if_false, not_true_eq_false, not_false_eq_true, ite_true, ite_false, reduceIte, decide_eq_true_eq, Bool.and_eq_true, Bool.or_eq_true, Bool.not_eq_true, decide_eq_false_iff_not, true_and, and_true, implies_true]
  refine r_state I1 L _ p m.2.1 hb.2.2.2 wk w n hwn hn ?_
  simp only [Lt1_X8_onOf, w_gI, w_gJ, w_gR, w_gB, w_gV, w_gcV, w_gcS, w_g1, w_g2, w_gq, w_bcmp, w_bif0, w_band, w_bor, w_bnot, w_sskip, w_sseq, w_sset, w_sinc, w_sret, w_sretZ, w_sretv, w_sbrk, w_scnt, w_sif, w_sif1, w_sloop, w_sput, w_sputop, w_sast, w_sastop, w_sastI, w_sastJ, w_sputI, w_sputJ, w_scV, w_scS, w_spop, w_ssw, mzfi, mzfl, mzfs, mzf1il, mzf1li, mzf1ii, e_iK, e_iKc, e_iKw, e_jK, e_jKc, e_rN, e_iL, e_jL, e_rL, e_iadd, e_isub, e_imul, e_iand, e_ior, e_ishl, e_ishr, e_iushr, e_idiv, e_irem, e_jadd, e_jsub, e_jmul, e_jand, e_jor, e_jxor, e_jdiv, e_jrem, e_jshl, e_jushr, e_i2j, e_j2i, e_i2b, e_i2s, e_iF, e_jF, e_rF, e_iA, e_jA, e_zA, e_rA, e_ilen, e_iU, e_ccmp, e_cif0, e_ccml, e_cnul, e_cand, e_cor, e_cnot, e_iq, e_jq, e_rq, e_icV, e_icS, e_jcV, e_jcS, e_rcV, e_rcS, e_vI, e_vJ, e_vR, o_iK, o_iKc, o_iKw, o_jK, o_jKc, o_rN, o_iL, o_jL, o_rL, o_iadd, o_isub, o_imul, o_iand, o_ior, o_ishl, o_ishr, o_iushr, o_idiv, o_irem, o_jadd, o_jsub, o_jmul, o_jand, o_jor, o_jxor, o_jdiv, o_jrem, o_jshl, o_jushr, o_i2j, o_j2i, o_i2b, o_i2s, o_iF, o_jF, o_rF, o_iA, o_jA, o_zA, o_rA, o_ilen, o_iU, o_ccmp, o_cif0, o_ccml, o_cnul, o_cand, o_cor, o_cnot, o_iq, o_jq, o_rq, o_icV, o_icS, o_jcV, o_jcS, o_rcV, o_rcS, o_vI, o_vJ, o_vR, mzwV, mzwS, mzwas, w_do, mzini, a_nil, a_int, a_long, a_ref, a_null, st_int, st_ref, st_null, st_long, kl_0, kl_s, rf_some, rf_none, List.length_cons, List.length_nil, Nat.reduceAdd, Nat.reduceSub, Nat.reduceLeDiff, List.replicate_succ, List.replicate_zero, List.cons_append, List.nil_append, List.append_nil, mzgi, mzgio, mzgj, mzgjo, mzgr, mzgro, List.getElem?_cons_succ, List.getElem?_cons_zero, List.set_cons_succ, List.set_cons_zero, true_and, and_true, Nat.le_refl, Nat.sub_self, implies_true, Bool.and_eq_true, Bool.or_eq_true, decide_eq_true_eq, Bool.not_eq_true, Bool.not_eq_false, Bool.not_eq_eq_eq_not, Bool.not_true, Bool.not_false, decide_eq_false_iff_not, Bool.and_eq_false_iff, Bool.or_eq_false_iff, in_0_2, in_1_2, mzevs, mzoks, mzrc, e_pfi_I, e_pfj_I, e_pfr_I, e_po_I, e_pfi_II, e_pfj_II, e_pfr_II, e_po_II, e_pfi_III, e_pfj_III, e_pfr_III, e_po_III, e_pfi_IIII, e_pfj_IIII, e_pfr_IIII, e_po_IIII, e_pfi_IIIII, e_pfj_IIIII, e_pfr_IIIII, e_po_IIIII, e_pfi_R, e_pfj_R, e_pfr_R, e_po_R, e_pfi_RI, e_pfj_RI, e_pfr_RI, e_po_RI, e_pfi_RII, e_pfj_RII, e_pfr_RII, e_po_RII, e_pfi_RIII, e_pfj_RIII, e_pfr_RIII, e_po_RIII, e_pfi_RIIII, e_pfj_RIIII, e_pfr_RIIII, e_po_RIIII, e_pfi_RIIIII, e_pfj_RIIIII, e_pfr_RIIIII, e_po_RIIIII, e_pfi_JI, e_pfj_JI, e_pfr_JI, e_po_JI, e_pfi_JJ, e_pfj_JJ, e_pfr_JJ, e_po_JJ, e_pfi_RJ, e_pfj_RJ, e_pfr_RJ, e_po_RJ, e_pfi_RJI, e_pfj_RJI, e_pfr_RJI, e_po_RJI, e_pfi_RJJJ, e_pfj_RJJJ, e_pfr_RJJJ, e_po_RJJJ, e_pfi_RJIJ, e_pfj_RJIJ, e_pfr_RJIJ, e_po_RJIJ, e_pfi_RIIIJ, e_pfj_RIIIJ, e_pfr_RIIIJ, e_po_RIIIJ, e_pfi_J, e_pfj_J, e_pfr_J, e_po_J, e_pfi_RR, e_pfj_RR, e_pfr_RR, e_po_RR, e_pfi_RRI, e_pfj_RRI, e_pfr_RRI, e_po_RRI, e_pfi_RRII, e_pfj_RRII, e_pfr_RRII, e_po_RRII, e_pfi_RRIII, e_pfj_RRIII, e_pfr_RRIII, e_po_RRIII, e_pfi_RIJ, e_pfj_RIJ, e_pfr_RIJ, e_po_RIJ, e_X8_in, o_X8_in, e_X8_isIn, o_X8_isIn, e_X8_isText, o_X8_isText, e_X8_isStep, o_X8_isStep, e_X8_isSheet, o_X8_isSheet, e_X8_kindOf, o_X8_kindOf, e_X8_headOf, o_X8_headOf, e_X8_handOf, o_X8_handOf, e_X8_ones, o_X8_ones, e_X8_tries, o_X8_tries, e_X8_no, o_X8_no, e_X8_byteAt, o_X8_byteAt, e_X8_isPlace, o_X8_isPlace, e_X8_beside, o_X8_beside, e_X8_isAnywhere, o_X8_isAnywhere, e_X8_ofRow, o_X8_ofRow, e_X8_lacks, o_X8_lacks, shR_0, shR_1, shR_2, shR_3, shR_4, shR_5, shR_6, shR_7, shR_8, shR_9, shR_10, shR_11, shR_12, shR_13, shR_14, shR_15, shR_16, shR_17, shR_18, shR_19, shR_20, shR_21, shR_22, shR_23, rrR_0_0, rrR_0_1, rrR_0_5, rrR_0_7, rrR_0_8, rrR_0_9, rrR_0_10, rrR_0_11, rrR_0_12, rrR_0_13, rrR_0_14, rrR_0_15, rrR_0_16, rrR_0_18, rrR_0_19, rrR_0_20, rrR_0_21, rrR_0_22, rrR_0_23, rrR_0_24, rrR_0_25, rrR_0_26, rrR_0_27, mR_1, mR_2, mR_3, mR_4, mR_p0, mR_p1, mR_a0, mR_a1, mR_a2, mR_g0, mR_g1, mR_d0, mR_d1, gd_some, is_some, la_some]; try simp only [mzcmp, mzcml, mzz01, it_ne0, it_eq0, it_eq1, eq_10, eq_20, eq_21, eq_01, eq_self, Classical.not_not, if_true, if_false, not_true_eq_false, not_false_eq_true, ite_true, ite_false, reduceIte, decide_eq_true_eq, Bool.and_eq_true, Bool.or_eq_true, Bool.not_eq_true, decide_eq_false_iff_not, true_and, and_true, implies_true]
  unfold aOn at hk
  have h36 := mzq_36 (I 2) n0
  cases hst : wSt (opX I n0) (mzq (I 2) n0).1 (mzq (I 2) n0).2.2.1 (fun p => I 2 (41 + p)) w n with
  | none =>
    rw [hst] at hk
    dsimp only [oI] at hk ⊢
    exact ⟨fun h => absurd rfl h, hk⟩
  | some st =>
    rw [hst] at hk
    have hlt : st < 4 * (mzq (I 2) n0).2.2.1 := by
      unfold wSt at hst
      split at hst
      · rename_i q
        cases hst
        have := (wk_n hwn).2.1.1
        exact wlk_lt p.2.2.2.1 n 0 _ (by omega) (by omega)
      · cases hst
    dsimp only [oI] at hk ⊢
    simp (disch := omega) only [it_n0, it_n1, not_false_eq_true, not_true_eq_false, Classical.not_not, Nat.reduceEqDiff, Nat.reduceLeDiff, false_and, and_false, true_and, and_true, if_false, if_true, reduceIte, eq_self, li_0, li_1, li_2, li_3, li_4, li_5, li_6, li_7, li_8, li_9, li_10, li_12, li_16, li_18, li_35, li_36, li_39, li_41, li_60, li_99, li_100, li_143, li_144, li_150, li_255, li_1000, li_1800, li_far, in_nI, nu_lt, nu_le, nu_eq, nu_cl, nu_sub, nu_div, nu_rem, nu_add, nu_mul, ng1, nu_mM, nu_Mm, nu_ltM, nu_Mlt, nu_leM, nu_Mle, nu_m1, nu_oi1, nu_oi2, nu_oi4, nu_oi3, nu_m1']
    exact ⟨fun _ => ⟨fun _ => trivial, fun _ => trivial⟩, hk⟩
def B_X8_on : mzT1 :=
  (sret (gq 24 34 (band 15 (band 8 (bif0 .ne (gcV M_X8_isWalker lkV_8_131 ym_X8_isWalker (by decide) [(gR (rL 0)), (gI (iL 1))])) (gB (cif0 .ne (icS P_X8_isStep lkS_8_134 yp_X8_isStep [(vI (iL 2))])))) (gB (cif0 .ne (icS P_X8_in lkS_8_83 yp_X8_in [(vI (iL 3)), (vI (iK 0)), (vI (iK 1))])))) (gcV M_X8_onOf lkV_8_185 ym_X8_onOf (by decide) [(gR (rL 0)), (gI (iL 1)), (gI (iL 2)), (gI (iL 3))]) (gI (iK (-2)))))
theorem ok_X8_on : mzok1 yX8_on cX8_on 8 4 (some .int) 6 141 1 B_X8_on := ⟨by decide +kernel, mzT_at 999 (by decide +kernel) rfl, by decide, rfl, rfl, rfl⟩
def M_X8_on : mzMt := mzmk yX8_on cX8_on 8 4 (some .int) 6 141 1 B_X8_on ok_X8_on
theorem ym_X8_on : M_X8_on.1.1 = yX8_on := rfl

/-- an answer of told numbers; BAD where one isn't as told -/
def a1 (a : Option Nat) (f : Nat → Int32) : Int32 := match a with
  | some a => f a
  | none => -2
def a2 (a b : Option Nat) (f : Nat → Nat → Int32) : Int32 := a1 a (fun x => a1 b (fun y => f x y))
def a3 (a b c : Option Nat) (f : Nat → Nat → Nat → Int32) : Int32 := a1 a (fun x => a2 b c (f x))
def a4 (a b c d : Option Nat) (f : Nat → Nat → Nat → Nat → Int32) : Int32 := a1 a (fun x => a3 b c d (f x))
theorem a1_n {f : Nat → Int32} : a1 none f = -2 := rfl
theorem a1_s {f : Nat → Int32} {a : Nat} : a1 (some a) f = f a := rfl
theorem a2_1 {b : Option Nat} {f : Nat → Nat → Int32} : a2 none b f = -2 := rfl
theorem a2_2 {a : Option Nat} {f : Nat → Nat → Int32} : a2 a none f = -2 := by cases a <;> rfl
theorem a3_1 {b c : Option Nat} {f : Nat → Nat → Nat → Int32} : a3 none b c f = -2 := rfl
theorem a3_2 {a c : Option Nat} {f : Nat → Nat → Nat → Int32} : a3 a none c f = -2 := by cases a <;> rfl
theorem a3_3 {a b : Option Nat} {f : Nat → Nat → Nat → Int32} : a3 a b none f = -2 := by cases a <;> cases b <;> rfl
theorem a4_1 {b c d : Option Nat} {f : Nat → Nat → Nat → Nat → Int32} : a4 none b c d f = -2 := rfl
theorem a4_2 {a c d : Option Nat} {f : Nat → Nat → Nat → Nat → Int32} : a4 a none c d f = -2 := by cases a <;> rfl
theorem a4_3 {a b d : Option Nat} {f : Nat → Nat → Nat → Nat → Int32} : a4 a b none d f = -2 := by cases a <;> cases b <;> rfl
theorem a4_4 {a b c : Option Nat} {f : Nat → Nat → Nat → Nat → Int32} : a4 a b c none f = -2 := by cases a <;> cases b <;> cases c <;> rfl
/-- on: every answer -/
def ansOn (I : Nat → Nat → Int32) (n0 n1 : Nat) (w s what : Int32) : Int32 := a3 (ix (nWk (fun p => I 2 (41 + p)) n1) w) (ix 100 s) (ix 2 what) (fun j k _ => aOn (opX I n0) (mzq (I 2) n0).1 (mzq (I 2) n0).2.2.1 (fun p => I 2 (41 + p)) j k what)
theorem fW_base {I I' : Nat → Nat → Int32} (e : eqx fW I I') : eqx fD I I' := eqx_mn e fW_D
theorem fM_base {I I' : Nat → Nat → Int32} (e : eqx fM I I') : eqx fD I I' := eqx_mn e fM_D
theorem eqx_DD {I I' I'' : Nat → Nat → Int32} (e : eqx fD I I') (e' : eqx fD I' I'') : eqx fD I I'' := eqx_tr e e' (fun _ _ h => h)
/-- what is open depends on the base alone -/
theorem opX_k {I I' : Nat → Nat → Int32} (he : eqx fD I I') (n0 : Nat) : opX I' n0 = opX I n0 := by
  have k2 : I' 2 = I 2 := rT_k he
  have k7 : I' 7 = I 7 := funext fun j => he 7 j (by unfold fD fM fW; omega)
  have k8 : I' 8 = I 8 := funext fun j => he 8 j (by unfold fD fM fW; omega)
  have k9 : I' 9 = I 9 := funext fun j => he 9 j (by unfold fD fM fW; omega)
  have k10 : I' 10 = I 10 := funext fun j => he 10 j (by unfold fD fM fW; omega)
  have hk : ∀ kd s d x, opK I' kd s d x = opK I kd s d x := fun kd s d x => by
    unfold opK
    rw [oaH_k k7 k8 k9 k10, oaG_k k7 k8 k9 k10]
  funext s d way
  unfold opX opN opKD opKR
  rw [k2]
  simp only [hk]
set_option maxRecDepth 10000 in
theorem r_on (I : Nat → Nat → Int32) (L : Nat → Nat → Int64) (K : Value → mzM → Prop) {n0 n1 : Nat} (hb : rbT I n0 n1) (w s what : Int32) (hK : ∀ I', eqx fD I I' → K (.int (ansOn I n0 n1 w s what)) (mR I' L)) : mzdo M_X8_on [.ref 0, .int w, .int s, .int what] (mR I L) K := by
  simp only [M_X8_on, w_mk, B_X8_on, w_gI, w_gJ, w_gR, w_gB, w_gV, w_gcV, w_gcS, w_g1, w_g2, w_gq, w_bcmp, w_bif0, w_band, w_bor, w_bnot, w_sskip, w_sseq, w_sset, w_sinc, w_sret, w_sretZ, w_sretv, w_sbrk, w_scnt, w_sif, w_sif1, w_sloop, w_sput, w_sputop, w_sast, w_sastop, w_sastI, w_sastJ, w_sputI, w_sputJ, w_scV, w_scS, w_spop, w_ssw, mzfi, mzfl, mzfs, mzf1il, mzf1li, mzf1ii, e_iK, e_iKc, e_iKw, e_jK, e_jKc, e_rN, e_iL, e_jL, e_rL, e_iadd, e_isub, e_imul, e_iand, e_ior, e_ishl, e_ishr, e_iushr, e_idiv, e_irem, e_jadd, e_jsub, e_jmul, e_jand, e_jor, e_jxor, e_jdiv, e_jrem, e_jshl, e_jushr, e_i2j, e_j2i, e_i2b, e_i2s, e_iF, e_jF, e_rF, e_iA, e_jA, e_zA, e_rA, e_ilen, e_iU, e_ccmp, e_cif0, e_ccml, e_cnul, e_cand, e_cor, e_cnot, e_iq, e_jq, e_rq, e_icV, e_icS, e_jcV, e_jcS, e_rcV, e_rcS, e_vI, e_vJ, e_vR, o_iK, o_iKc, o_iKw, o_jK, o_jKc, o_rN, o_iL, o_jL, o_rL, o_iadd, o_isub, o_imul, o_iand, o_ior, o_ishl, o_ishr, o_iushr, o_idiv, o_irem, o_jadd, o_jsub, o_jmul, o_jand, o_jor, o_jxor, o_jdiv, o_jrem, o_jshl, o_jushr, o_i2j, o_j2i, o_i2b, o_i2s, o_iF, o_jF, o_rF, o_iA, o_jA, o_zA, o_rA, o_ilen, o_iU, o_ccmp, o_cif0, o_ccml, o_cnul, o_cand, o_cor, o_cnot, o_iq, o_jq, o_rq, o_icV, o_icS, o_jcV, o_jcS, o_rcV, o_rcS, o_vI, o_vJ, o_vR, mzwV, mzwS, mzwas, w_do, mzini, a_nil, a_int, a_long, a_ref, a_null, st_int, st_ref, st_null, st_long, kl_0, kl_s, rf_some, rf_none, List.length_cons, List.length_nil, Nat.reduceAdd, Nat.reduceSub, Nat.reduceLeDiff, List.replicate_succ, List.replicate_zero, List.cons_append, List.nil_append, List.append_nil, mzgi, mzgio, mzgj, mzgjo, mzgr, mzgro, List.getElem?_cons_succ, List.getElem?_cons_zero, List.set_cons_succ, List.set_cons_zero, true_and, and_true, Nat.le_refl, Nat.sub_self, implies_true, Bool.and_eq_true, Bool.or_eq_true, decide_eq_true_eq, Bool.not_eq_true, Bool.not_eq_false, Bool.not_eq_eq_eq_not, Bool.not_true, Bool.not_false, decide_eq_false_iff_not, Bool.and_eq_false_iff, Bool.or_eq_false_iff, in_0_2, in_1_2, mzevs, mzoks, mzrc, e_pfi_I, e_pfj_I, e_pfr_I, e_po_I, e_pfi_II, e_pfj_II, e_pfr_II, e_po_II, e_pfi_III, e_pfj_III, e_pfr_III, e_po_III, e_pfi_IIII, e_pfj_IIII, e_pfr_IIII, e_po_IIII, e_pfi_IIIII, e_pfj_IIIII, e_pfr_IIIII, e_po_IIIII, e_pfi_R, e_pfj_R, e_pfr_R, e_po_R, e_pfi_RI, e_pfj_RI, e_pfr_RI, e_po_RI, e_pfi_RII, e_pfj_RII, e_pfr_RII, e_po_RII, e_pfi_RIII, e_pfj_RIII, e_pfr_RIII, e_po_RIII, e_pfi_RIIII, e_pfj_RIIII, e_pfr_RIIII, e_po_RIIII, e_pfi_RIIIII, e_pfj_RIIIII, e_pfr_RIIIII, e_po_RIIIII, e_pfi_JI, e_pfj_JI, e_pfr_JI, e_po_JI, e_pfi_JJ, e_pfj_JJ, e_pfr_JJ, e_po_JJ, e_pfi_RJ, e_pfj_RJ, e_pfr_RJ, e_po_RJ, e_pfi_RJI, e_pfj_RJI, e_pfr_RJI, e_po_RJI, e_pfi_RJJJ, e_pfj_RJJJ, e_pfr_RJJJ, e_po_RJJJ, e_pfi_RJIJ, e_pfj_RJIJ, e_pfr_RJIJ, e_po_RJIJ, e_pfi_RIIIJ, e_pfj_RIIIJ, e_pfr_RIIIJ, e_po_RIIIJ, e_pfi_J, e_pfj_J, e_pfr_J, e_po_J, e_pfi_RR, e_pfj_RR, e_pfr_RR, e_po_RR, e_pfi_RRI, e_pfj_RRI, e_pfr_RRI, e_po_RRI, e_pfi_RRII, e_pfj_RRII, e_pfr_RRII, e_po_RRII, e_pfi_RRIII, e_pfj_RRIII, e_pfr_RRIII, e_po_RRIII, e_pfi_RIJ, e_pfj_RIJ, e_pfr_RIJ, e_po_RIJ, e_X8_in, o_X8_in, e_X8_isIn, o_X8_isIn, e_X8_isText, o_X8_isText, e_X8_isStep, o_X8_isStep, e_X8_isSheet, o_X8_isSheet, e_X8_kindOf, o_X8_kindOf, e_X8_headOf, o_X8_headOf, e_X8_handOf, o_X8_handOf, e_X8_ones, o_X8_ones, e_X8_tries, o_X8_tries, e_X8_no, o_X8_no, e_X8_byteAt, o_X8_byteAt, e_X8_isPlace, o_X8_isPlace, e_X8_beside, o_X8_beside, e_X8_isAnywhere, o_X8_isAnywhere, e_X8_ofRow, o_X8_ofRow, e_X8_lacks, o_X8_lacks, shR_0, shR_1, shR_2, shR_3, shR_4, shR_5, shR_6, shR_7, shR_8, shR_9, shR_10, shR_11, shR_12, shR_13, shR_14, shR_15, shR_16, shR_17, shR_18, shR_19, shR_20, shR_21, shR_22, shR_23, rrR_0_0, rrR_0_1, rrR_0_5, rrR_0_7, rrR_0_8, rrR_0_9, rrR_0_10, rrR_0_11, rrR_0_12, rrR_0_13, rrR_0_14, rrR_0_15, rrR_0_16, rrR_0_18, rrR_0_19, rrR_0_20, rrR_0_21, rrR_0_22, rrR_0_23, rrR_0_24, rrR_0_25, rrR_0_26, rrR_0_27, mR_1, mR_2, mR_3, mR_4, mR_p0, mR_p1, mR_a0, mR_a1, mR_a2, mR_g0, mR_g1, mR_d0, mR_d1, gd_some, is_some, la_some]; try simp only [mzcmp, mzcml, mzz01, it_ne0, it_eq0, it_eq1, eq_10, eq_20, eq_21, eq_01, eq_self, Classical.not_not, if_true, if_false, not_true_eq_false, not_false_eq_true, ite_true, ite_false, reduceIte, decide_eq_true_eq, Bool.and_eq_true, Bool.or_eq_true, Bool.not_eq_true, decide_eq_false_iff_not, true_and, and_true, implies_true]
  refine r_isWalker I L _ w hb (fun I1 e1 w1 => ?_)
  dsimp only
  rw [w1.1, it_ne0, it_eq0]
  have h8 := nWk_8 (T := fun p => I 2 (41 + p)) hb.2.2.2
  have e1' := fW_base e1
  have hk := hK I1 e1'
  have kT : I1 2 = I 2 := rT_k e1'
  unfold ansOn at hk hK
  refine ⟨fun hw => ⟨fun hs => ⟨fun hx => ?_, fun hx => ?_⟩, fun hs => ?_⟩, fun hw => ?_⟩
  · obtain ⟨j, hj, rfl, jx⟩ := ix_in (by omega) (hi_sub _ (by omega)) hw
    obtain ⟨k, hk', rfl, kx⟩ := ix_in (by omega) hi_99 hs
    obtain ⟨x, hx', ex, xx⟩ := ix_in (by omega) hi_1 hx
    refine ⟨rfl, r_onOf I1 L K (rbT_k hb e1') j k what (by rw [kT]; exact hj) (by omega) (fun I2 e2 _ _ _ => ?_)⟩
    have := hK I2 (eqx_DD e1' e2)
    rw [jx, kx, xx] at this
    rw [opX_k e1', kT]
    exact this
  · rw [ix_out (by omega) hi_1 hx, a3_3] at hk
    exact hk
  · rw [ix_out (by omega) hi_99 hs, a3_2] at hk
    exact hk
  · rw [ix_out (by omega) (hi_sub _ (by omega)) hw, a3_1] at hk
    exact hk
