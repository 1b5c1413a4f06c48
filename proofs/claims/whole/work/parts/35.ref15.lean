/-! the reference: open, fault, walker, child, trod -/
def Lt1_X8_openOf : mzT1 :=
  (sret (gI (iA (rF lkF_8_40 (by decide) (rL 0)) (iadd (imul (iK 36) (iL 1)) (iL 2)))))
def B_X8_openOf : mzT1 :=
  (sseq (scV M_X8_lays lkV_8_157 ym_X8_lays [(gR (rL 0))])
  Lt1_X8_openOf)
theorem ok_X8_openOf : mzok1 yX8_openOf cX8_openOf 8 3 (some .int) 5 117 1 B_X8_openOf := ⟨by decide +kernel, mzT_at 980 (by decide +kernel) rfl, by decide, rfl, rfl, rfl⟩
def M_X8_openOf : mzMt := mzmk yX8_openOf cX8_openOf 8 3 (some .int) 5 117 1 B_X8_openOf ok_X8_openOf
theorem ym_X8_openOf : M_X8_openOf.1.1 = yX8_openOf := rfl

def B_X8_open : mzT1 :=
  (sret (gq 15 24 (band 7 (gB (cif0 .ne (icS P_X8_isStep lkS_8_134 yp_X8_isStep [(vI (iL 1))]))) (bif0 .ne (gcV M_X8_isDay lkV_8_160 ym_X8_isDay (by decide) [(gR (rL 0)), (gI (iL 2))]))) (gcV M_X8_openOf lkV_8_163 ym_X8_openOf (by decide) [(gR (rL 0)), (gI (iL 1)), (gI (iL 2))]) (gI (iK (-2)))))
theorem ok_X8_open : mzok1 yX8_open cX8_open 8 3 (some .int) 6 139 1 B_X8_open := ⟨by decide +kernel, mzT_at 972 (by decide +kernel) rfl, by decide, rfl, rfl, rfl⟩
def M_X8_open : mzMt := mzmk yX8_open cX8_open 8 3 (some .int) 6 139 1 B_X8_open ok_X8_open
theorem ym_X8_open : M_X8_open.1.1 = yX8_open := rfl

/-- the ways that are open, as a number -/
def owN (op : Nat → Nat → Nat → Bool) (s d : Nat) : Int32 := ob (op s d 0) (op s d 1) (op s d 2) (op s d 3)
theorem owR_owN {I I1 : Nat → Nat → Int32} {kd : Nat → Int32} {W rows : Nat} (he : eqx fD I I1) (h3 : ∀ d, d < rows * W → I1 3 d = kd d) (s d : Nat) (hd : d < rows * W) : owR I1 W rows s d = owN (opN I kd W rows) s d := by
  unfold owR obg owN opN
  have b1 : (decide (W ≤ d) && (decide (d - W < rows * W) && opDD I1 W rows s (d - W))) = (decide (W ≤ d) && (decide (d - W < rows * W) && opKD I kd W rows s (d - W))) := by
    unfold opDD opKD
    rw [opR_opK he s (d - W) 1 (h3 _ (by omega))]
  have b2 : opRR I1 W s d = opKR I kd W s d := by
    unfold opRR opKR
    rw [opR_opK he s d 0 (h3 _ hd)]
  have b3 : opDD I1 W rows s d = opKD I kd W rows s d := by
    unfold opDD opKD
    rw [opR_opK he s d 1 (h3 _ hd)]
  have b4 : opRR I1 W s (d - 1) = opKR I kd W s (d - 1) := by
    unfold opRR opKR
    rw [opR_opK he s (d - 1) 0 (h3 _ (by omega))]
  rw [b1, b2, b3, b4]
  rfl
/-- lays: the numbers themselves too -/
theorem r_laysN (I : Nat → Nat → Int32) (L : Nat → Nat → Int64) (K : Value → mzM → Prop) {n0 n1 : Nat} (hb : rbT I n0 n1) (hK : ∀ I', eqx fD I I' → rdM (I 2) n0 I' → rdW (fun p => I 2 (41 + p)) n1 I' → rdP (opX I n0) (mzq (I 2) n0).1 (mzq (I 2) n0).2.2.1 I' → (∀ s d, s < 100 → d < (mzq (I 2) n0).2.2.1 → I' 11 (36 * s + d) = owN (opX I n0) s d) → K .null (mR I' L)) : mzdo M_X8_lays [.ref 0] (mR I L) K := by
  refine r_lays I L K hb (fun I1 I' e m1 e1 m w o => ?_)
  obtain ⟨q1, q2, q3, -⟩ := mzq_ok (I 2) n0
  have key : ∀ s d, s < 100 → d < (mzq (I 2) n0).2.2.1 → I' 11 (36 * s + d) = owN (opX I n0) s d := by
    intro s d hs hd
    rw [o s hs d hd]
    rw [q1] at hd
    exact owR_owN e1 (fun d hd => m1.2.2.2 d (by rw [q1]; exact hd)) s d hd
  refine hK I' e m w ⟨m.2.2.1, mzq_36 _ _, q2, ?_, fun s d way hs hd hw => ?_⟩ key
  · rw [q1]
    exact opN_ok _ _ _ _ (fun h => by
      rcases Nat.eq_zero_or_pos (mzq (I 2) n0).1 with e | e
      · rw [e, Nat.mul_zero] at h; omega
      · exact e)
  · rw [key s d hs hd]
    unfold owN
    have := ob_way (opX I n0 s d 0) (opX I n0 s d 1) (opX I n0 s d 2) (opX I n0 s d 3) hw
    refine Eq.trans this ?_
    match way, hw with
    | 0, _ => rfl
    | 1, _ => rfl
    | 2, _ => rfl
    | 3, _ => rfl
def ansOp (I : Nat → Nat → Int32) (n0 : Nat) (s d : Int32) : Int32 := a2 (ix 100 s) (ix (mzq (I 2) n0).2.2.1 d) (fun j k => owN (opX I n0) j k)
set_option maxRecDepth 10000 in
theorem r_open (I : Nat → Nat → Int32) (L : Nat → Nat → Int64) (K : Value → mzM → Prop) {n0 n1 : Nat} (hb : rbT I n0 n1) (s d : Int32) (hK : ∀ I', eqx fD I I' → K (.int (ansOp I n0 s d)) (mR I' L)) : mzdo M_X8_open [.ref 0, .int s, .int d] (mR I L) K := by
  simp only [M_X8_open, w_mk, B_X8_open, w_gI, w_gJ, w_gR, w_gB, w_gV, w_gcV, w_gcS, w_g1, w_g2, w_gq, w_bcmp, w_bif0, w_band, w_bor, w_bnot, w_sskip, w_sseq, w_sset, w_sinc, w_sret, w_sretZ, w_sretv, w_sbrk, w_scnt, w_sif, w_sif1, w_sloop, w_sput, w_sputop, w_sast, w_sastop, w_sastI, w_sastJ, w_sputI, w_sputJ, w_scV, w_scS, w_spop, w_ssw, mzfi, mzfl, mzfs, mzf1il, mzf1li, mzf1ii, e_iK, e_iKc, e_iKw, e_jK, e_jKc, e_rN, e_iL, e_jL, e_rL, e_iadd, e_isub, e_imul, e_iand, e_ior, e_ishl, e_ishr, e_iushr, e_idiv, e_irem, e_jadd, e_jsub, e_jmul, e_jand, e_jor, e_jxor, e_jdiv, e_jrem, e_jshl, e_jushr, e_i2j, e_j2i, e_i2b, e_i2s, e_iF, e_jF, e_rF, e_iA, e_jA, e_zA, e_rA, e_ilen, e_iU, e_ccmp, e_cif0, e_ccml, e_cnul, e_cand, e_cor, e_cnot, e_iq, e_jq, e_rq, e_icV, e_icS, e_jcV, e_jcS, e_rcV, e_rcS, e_vI, e_vJ, e_vR, o_iK, o_iKc, o_iKw, o_jK, o_jKc, o_rN, o_iL, o_jL, o_rL, o_iadd, o_isub, o_imul, o_iand, o_ior, o_ishl, o_ishr, o_iushr, o_idiv, o_irem, o_jadd, o_jsub, o_jmul, o_jand, o_jor, o_jxor, o_jdiv, o_jrem, o_jshl, o_jushr, o_i2j, o_j2i, o_i2b, o_i2s, o_iF, o_jF, o_rF, o_iA, o_jA, o_zA, o_rA, o_ilen, o_iU, o_ccmp, o_cif0, o_ccml, o_cnul, o_cand, o_cor, o_cnot, o_iq, o_jq, o_rq, o_icV, o_icS, o_jcV, o_jcS, o_rcV, o_rcS, o_vI, o_vJ, o_vR, mzwV, mzwS, mzwas, w_do, mzini, a_nil, a_int, a_long, a_ref, a_null, st_int, st_ref, st_null, st_long, kl_0, kl_s, rf_some, rf_none, List.length_cons, List.length_nil, Nat.reduceAdd, Nat.reduceSub, Nat.reduceLeDiff, List.replicate_succ, List.replicate_zero, List.cons_append, List.nil_append, List.append_nil, mzgi, mzgio, mzgj, mzgjo, mzgr, mzgro, List.getElem?_cons_succ, List.getElem?_cons_zero, List.set_cons_succ, List.set_cons_zero, true_and, and_true, Nat.le_refl, Nat.sub_self, implies_true, Bool.and_eq_true, Bool.or_eq_true, decide_eq_true_eq, Bool.not_eq_true, Bool.not_eq_false, Bool.not_eq_eq_eq_not, Bool.not_true, Bool.not_false, decide_eq_false_iff_not, Bool.and_eq_false_iff, Bool.or_eq_false_iff, in_0_2, in_1_2, mzevs, mzoks, mzrc, e_pfi_I, e_pfj_I, e_pfr_I, e_po_I, e_pfi_II, e_pfj_II, e_pfr_II, e_po_II, e_pfi_III, e_pfj_III, e_pfr_III, e_po_III, e_pfi_IIII, e_pfj_IIII, e_pfr_IIII, e_po_IIII, e_pfi_IIIII, e_pfj_IIIII, e_pfr_IIIII, e_po_IIIII, e_pfi_R, e_pfj_R, e_pfr_R, e_po_R, e_pfi_RI, e_pfj_RI, e_pfr_RI, e_po_RI, e_pfi_RII, e_pfj_RII, e_pfr_RII, e_po_RII, e_pfi_RIII, e_pfj_RIII, e_pfr_RIII, e_po_RIII, e_pfi_RIIII, e_pfj_RIIII, e_pfr_RIIII, e_po_RIIII, e_pfi_RIIIII, e_pfj_RIIIII, e_pfr_RIIIII, e_po_RIIIII, e_pfi_JI, e_pfj_JI, e_pfr_JI, e_po_JI, e_pfi_JJ, e_pfj_JJ, e_pfr_JJ, e_po_JJ, e_pfi_RJ, e_pfj_RJ, e_pfr_RJ, e_po_RJ, e_pfi_RJI, e_pfj_RJI, e_pfr_RJI, e_po_RJI, e_pfi_RJJJ, e_pfj_RJJJ, e_pfr_RJJJ, e_po_RJJJ, e_pfi_RJIJ, e_pfj_RJIJ, e_pfr_RJIJ, e_po_RJIJ, e_pfi_RIIIJ, e_pfj_RIIIJ, e_pfr_RIIIJ, e_po_RIIIJ, e_pfi_J, e_pfj_J, e_pfr_J, e_po_J, e_pfi_RR, e_pfj_RR, e_pfr_RR, e_po_RR, e_pfi_RRI, e_pfj_RRI, e_pfr_RRI, e_po_RRI, e_pfi_RRII, e_pfj_RRII, e_pfr_RRII, e_po_RRII, e_pfi_RRIII, e_pfj_RRIII, e_pfr_RRIII, e_po_RRIII, e_pfi_RIJ, e_pfj_RIJ, e_pfr_RIJ, e_po_RIJ, e_X8_in, o_X8_in, e_X8_isIn, o_X8_isIn, e_X8_isText, o_X8_isText, e_X8_isStep, o_X8_isStep, e_X8_isSheet, o_X8_isSheet, e_X8_kindOf, o_X8_kindOf, e_X8_headOf, o_X8_headOf, e_X8_handOf, o_X8_handOf, e_X8_ones, o_X8_ones, e_X8_tries, o_X8_tries, e_X8_no, o_X8_no, e_X8_byteAt, o_X8_byteAt, e_X8_isPlace, o_X8_isPlace, e_X8_beside, o_X8_beside, e_X8_isAnywhere, o_X8_isAnywhere, e_X8_ofRow, o_X8_ofRow, e_X8_lacks, o_X8_lacks, shR_0, shR_1, shR_2, shR_3, shR_4, shR_5, shR_6, shR_7, shR_8, shR_9, shR_10, shR_11, shR_12, shR_13, shR_14, shR_15, shR_16, shR_17, shR_18, shR_19, shR_20, shR_21, shR_22, shR_23, rrR_0_0, rrR_0_1, rrR_0_5, rrR_0_7, rrR_0_8, rrR_0_9, rrR_0_10, rrR_0_11, rrR_0_12, rrR_0_13, rrR_0_14, rrR_0_15, rrR_0_16, rrR_0_18, rrR_0_19, rrR_0_20, rrR_0_21, rrR_0_22, rrR_0_23, rrR_0_24, rrR_0_25, rrR_0_26, rrR_0_27, mR_1, mR_2, mR_3, mR_4, mR_p0, mR_p1, mR_a0, mR_a1, mR_a2, mR_g0, mR_g1, mR_d0, mR_d1, gd_some, is_some, la_some]; try simp only [mzcmp, mzcml, mzz01, it_ne0, it_eq0, it_eq1, eq_10, eq_20, eq_21, eq_01, eq_self, Classical.not_not, if_true, if_false, not_true_eq_false, not_false_eq_true, ite_true, ite_false, reduceIte, decide_eq_true_eq, Bool.and_eq_true, Bool.or_eq_true, Bool.not_eq_true, decide_eq_false_iff_not, true_and, and_true, implies_true]
  have h36 := mzq_36 (I 2) n0
  unfold ansOp at hK
  refine ⟨fun hs => ?_, fun hs => ?_⟩
  · obtain ⟨j, hj, rfl, jx⟩ := ix_in (by omega) hi_99 hs
    refine r_isDay I L _ d hb (fun I1 e1 m1 => ?_)
    have e1' := fM_base e1
    have kT : I1 2 = I 2 := rT_k e1'
    dsimp only
    rw [m1.2.1, it_ne0, it_eq0]
    refine ⟨fun hd => ⟨rfl, ?_⟩, fun hd => ?_⟩
    · obtain ⟨k, hk, rfl, kx⟩ := ix_in (by omega) (hi_sub _ (by omega)) hd
      simp only [M_X8_openOf, w_mk, B_X8_openOf, w_gI, w_gJ, w_gR, w_gB, w_gV, w_gcV, w_gcS, w_g1, w_g2, w_gq, w_bcmp, w_bif0, w_band, w_bor, w_bnot, w_sskip, w_sseq, w_sset, w_sinc, w_sret, w_sretZ, w_sretv, w_sbrk, w_scnt, w_sif, w_sif1, w_sloop, w_sput, w_sputop, w_sast, w_sastop, w_sastI, w_sastJ, w_sputI, w_sputJ, w_scV, w_scS, w_spop, w_ssw, mzfi, mzfl, mzfs, mzf1il, mzf1li, mzf1ii, e_iK, e_iKc, e_iKw, e_jK, e_jKc, e_rN, e_iL, e_jL, e_rL, e_iadd, e_isub, e_imul, e_iand, e_ior, e_ishl, e_ishr, e_iushr, e_idiv, e_irem, e_jadd, e_jsub, e_jmul, e_jand, e_jor, e_jxor, e_jdiv, e_jrem, e_jshl, e_jushr, e_i2j, e_j2i, e_i2b, e_i2s, e_iF, e_jF, e_rF, e_iA, e_jA, e_zA, e_rA, e_ilen, e_iU, e_ccmp, e_cif0, e_ccml, e_cnul, e_cand, e_cor, e_cnot, e_iq, e_jq, e_rq, e_icV, e_icS, e_jcV, e_jcS, e_rcV, e_rcS, e_vI, e_vJ, e_vR, o_iK, o_iKc, o_iKw, o_jK, o_jKc, o_rN, o_iL, o_jL, o_rL, o_iadd, o_isub, o_imul, o_iand, o_ior, o_ishl, o_ishr, o_iushr, o_idiv, o_irem, o_jadd, o_jsub, o_jmul, o_jand, o_jor, o_jxor, o_jdiv, o_jrem, o_jshl, o_jushr, o_i2j, o_j2i, o_i2b, o_i2s, o_iF, o_jF, o_rF, o_iA, o_jA, o_zA, o_rA, o_ilen, o_iU, o_ccmp, o_cif0, o_ccml, o_cnul, o_cand, o_cor, o_cnot, o_iq, o_jq, o_rq, o_icV, o_icS, o_jcV, o_jcS, o_rcV, o_rcS, o_vI, o_vJ, o_vR, mzwV, mzwS, mzwas, w_do, mzini, a_nil, a_int, a_long, a_ref, a_null, st_int, st_ref, st_null, st_long, kl_0, kl_s, rf_some, rf_none, List.length_cons, List.length_nil, Nat.reduceAdd, Nat.reduceSub, Nat.reduceLeDiff, List.replicate_succ, List.replicate_zero, List.cons_append, List.nil_append, List.append_nil, mzgi, mzgio, mzgj, mzgjo, mzgr, mzgro, List.getElem?_cons_succ, List.getElem?_cons_zero, List.set_cons_succ, List.set_cons_zero, true_and, and_true, Nat.le_refl, Nat.sub_self, implies_true, Bool.and_eq_true, Bool.or_eq_true, decide_eq_true_eq, Bool.not_eq_true, Bool.not_eq_false, Bool.not_eq_eq_eq_not, Bool.not_true, Bool.not_false, decide_eq_false_iff_not, Bool.and_eq_false_iff, Bool.or_eq_false_iff, in_0_2, in_1_2, mzevs, mzoks, mzrc, e_pfi_I, e_pfj_I, e_pfr_I, e_po_I, e_pfi_II, e_pfj_II, e_pfr_II, e_po_II, e_pfi_III, e_pfj_III, e_pfr_III, e_po_III, e_pfi_IIII, e_pfj_IIII, e_pfr_IIII, e_po_IIII, e_pfi_IIIII, e_pfj_IIIII, e_pfr_IIIII, e_po_IIIII, e_pfi_R, e_pfj_R, e_pfr_R, e_po_R, e_pfi_RI, e_pfj_RI, e_pfr_RI, e_po_RI, e_pfi_RII, e_pfj_RII, e_pfr_RII, e_po_RII, e_pfi_RIII, e_pfj_RIII, e_pfr_RIII, e_po_RIII, e_pfi_RIIII, e_pfj_RIIII, e_pfr_RIIII, e_po_RIIII, e_pfi_RIIIII, e_pfj_RIIIII, e_pfr_RIIIII, e_po_RIIIII, e_pfi_JI, e_pfj_JI, e_pfr_JI, e_po_JI, e_pfi_JJ, e_pfj_JJ, e_pfr_JJ, e_po_JJ, e_pfi_RJ, e_pfj_RJ, e_pfr_RJ, e_po_RJ, e_pfi_RJI, e_pfj_RJI, e_pfr_RJI, e_po_RJI, e_pfi_RJJJ, e_pfj_RJJJ, e_pfr_RJJJ, e_po_RJJJ, e_pfi_RJIJ, e_pfj_RJIJ, e_pfr_RJIJ, e_po_RJIJ, e_pfi_RIIIJ, e_pfj_RIIIJ, e_pfr_RIIIJ, e_po_RIIIJ, e_pfi_J, e_pfj_J, e_pfr_J, e_po_J, e_pfi_RR, e_pfj_RR, e_pfr_RR, e_po_RR, e_pfi_RRI, e_pfj_RRI, e_pfr_RRI, e_po_RRI, e_pfi_RRII, e_pfj_RRII, e_pfr_RRII, e_po_RRII, e_pfi_RRIII, e_pfj_RRIII, e_pfr_RRIII, e_po_RRIII, e_pfi_RIJ, e_pfj_RIJ, e_pfr_RIJ, e_po_RIJ, e_X8_in, o_X8_in, e_X8_isIn, o_X8_isIn, e_X8_isText, o_X8_isText, e_X8_isStep, o_X8_isStep, e_X8_isSheet, o_X8_isSheet, e_X8_kindOf, o_X8_kindOf, e_X8_headOf, o_X8_headOf, e_X8_handOf, o_X8_handOf, e_X8_ones, o_X8_ones, e_X8_tries, o_X8_tries, e_X8_no, o_X8_no, e_X8_byteAt, o_X8_byteAt, e_X8_isPlace, o_X8_isPlace, e_X8_beside, o_X8_beside, e_X8_isAnywhere, o_X8_isAnywhere, e_X8_ofRow, o_X8_ofRow, e_X8_lacks, o_X8_lacks, shR_0, shR_1, shR_2, shR_3, shR_4, shR_5, shR_6, shR_7, shR_8, shR_9, shR_10, shR_11, shR_12, shR_13, shR_14, shR_15, shR_16, shR_17, shR_18, shR_19, shR_20, shR_21, shR_22, shR_23, rrR_0_0, rrR_0_1, rrR_0_5, rrR_0_7, rrR_0_8, rrR_0_9, rrR_0_10, rrR_0_11, rrR_0_12, rrR_0_13, rrR_0_14, rrR_0_15, rrR_0_16, rrR_0_18, rrR_0_19, rrR_0_20, rrR_0_21, rrR_0_22, rrR_0_23, rrR_0_24, rrR_0_25, rrR_0_26, rrR_0_27, mR_1, mR_2, mR_3, mR_4, mR_p0, mR_p1, mR_a0, mR_a1, mR_a2, mR_g0, mR_g1, mR_d0, mR_d1, gd_some, is_some, la_some]; try simp only [mzcmp, mzcml, mzz01, it_ne0, it_eq0, it_eq1, eq_10, eq_20, eq_21, eq_01, eq_self, Classical.not_not, if_true, if_false, not_true_eq_false, not_false_eq_true, ite_true, ite_false, reduceIte, decide_eq_true_eq, Bool.and_eq_true, Bool.or_eq_true, Bool.not_eq_true, decide_eq_false_iff_not, true_and, and_true, implies_true]
      refine r_laysN I1 L _ (rbT_k hb e1') (fun I2 e2 m2 w2 p2 o2 => ?_)
      simp only [Lt1_X8_openOf, w_gI, w_gJ, w_gR, w_gB, w_gV, w_gcV, w_gcS, w_g1, w_g2, w_gq, w_bcmp, w_bif0, w_band, w_bor, w_bnot, w_sskip, w_sseq, w_sset, w_sinc, w_sret, w_sretZ, w_sretv, w_sbrk, w_scnt, w_sif, w_sif1, w_sloop, w_sput, w_sputop, w_sast, w_sastop, w_sastI, w_sastJ, w_sputI, w_sputJ, w_scV, w_scS, w_spop, w_ssw, mzfi, mzfl, mzfs, mzf1il, mzf1li, mzf1ii, e_iK, e_iKc, e_iKw, e_jK, e_jKc, e_rN, e_iL, e_jL, e_rL, e_iadd, e_isub, e_imul, e_iand, e_ior, e_ishl, e_ishr, e_iushr, e_idiv, e_irem, e_jadd, e_jsub, e_jmul, e_jand, e_jor, e_jxor, e_jdiv, e_jrem, e_jshl, e_jushr, e_i2j, e_j2i, e_i2b, e_i2s, e_iF, e_jF, e_rF, e_iA, e_jA, e_zA, e_rA, e_ilen, e_iU, e_ccmp, e_cif0, e_ccml, e_cnul, e_cand, e_cor, e_cnot, e_iq, e_jq, e_rq, e_icV, e_icS, e_jcV, e_jcS, e_rcV, e_rcS, e_vI, e_vJ, e_vR, o_iK, o_iKc, o_iKw, o_jK, o_jKc, o_rN, o_iL, o_jL, o_rL, o_iadd, o_isub, o_imul, o_iand, o_ior, o_ishl, o_ishr, o_iushr, o_idiv, o_irem, o_jadd, o_jsub, o_jmul, o_jand, o_jor, o_jxor, o_jdiv, o_jrem, o_jshl, o_jushr, o_i2j, o_j2i, o_i2b, o_i2s, o_iF, o_jF, o_rF, o_iA, o_jA, o_zA, o_rA, o_ilen, o_iU, o_ccmp, o_cif0, o_ccml, o_cnul, o_cand, o_cor, o_cnot, o_iq, o_jq, o_rq, o_icV, o_icS, o_jcV, o_jcS, o_rcV, o_rcS, o_vI, o_vJ, o_vR, mzwV, mzwS, mzwas, w_do, mzini, a_nil, a_int, a_long, a_ref, a_null, st_int, st_ref, st_null, st_long, kl_0, kl_s, rf_some, rf_none, List.length_cons, List.length_nil, Nat.reduceAdd, Nat.reduceSub, Nat.reduceLeDiff, List.replicate_succ, List.replicate_zero, List.cons_append, List.nil_append, List.append_nil, mzgi, mzgio, mzgj, mzgjo, mzgr, mzgro, List.getElem?_cons_succ, List.getElem?_cons_zero, List.set_cons_succ, List.set_cons_zero, true_and, and_true, Nat.le_refl, Nat.sub_self, implies_true, Bool.and_eq_true, Bool.or_eq_true, decide_eq_true_eq, Bool.not_eq_true, Bool.not_eq_false, Bool.not_eq_eq_eq_not, Bool.not_true, Bool.not_false, decide_eq_false_iff_not, Bool.and_eq_false_iff, Bool.or_eq_false_iff, in_0_2, in_1_2, mzevs, mzoks, mzrc, e_pfi_I, e_pfj_I, e_pfr_I, e_po_I, e_pfi_II, e_pfj_II, e_pfr_II, e_po_II, e_pfi_III, e_pfj_III, e_pfr_III, e_po_III, e_pfi_IIII, e_pfj_IIII, e_pfr_IIII, e_po_IIII, e_pfi_IIIII, e_pfj_IIIII, e_pfr_IIIII, e_po_IIIII, e_pfi_R, e_pfj_R, e_pfr_R, e_po_R, e_pfi_RI, e_pfj_RI, e_pfr_RI, e_po_RI, e_pfi_RII, e_pfj_RII, e_pfr_RII, e_po_RII, e_pfi_RIII, e_pfj_RIII, e_pfr_RIII, e_po_RIII, e_pfi_RIIII, e_pfj_RIIII, e_pfr_RIIII, e_po_RIIII, e_pfi_RIIIII, e_pfj_RIIIII, e_pfr_RIIIII, e_po_RIIIII, e_pfi_JI, e_pfj_JI, e_pfr_JI, e_po_JI, e_pfi_JJ, e_pfj_JJ, e_pfr_JJ, e_po_JJ, e_pfi_RJ, e_pfj_RJ, e_pfr_RJ, e_po_RJ, e_pfi_RJI, e_pfj_RJI, e_pfr_RJI, e_po_RJI, e_pfi_RJJJ, e_pfj_RJJJ, e_pfr_RJJJ, e_po_RJJJ, e_pfi_RJIJ, e_pfj_RJIJ, e_pfr_RJIJ, e_po_RJIJ, e_pfi_RIIIJ, e_pfj_RIIIJ, e_pfr_RIIIJ, e_po_RIIIJ, e_pfi_J, e_pfj_J, e_pfr_J, e_po_J, e_pfi_RR, e_pfj_RR, e_pfr_RR, e_po_RR, e_pfi_RRI, e_pfj_RRI, e_pfr_RRI, e_po_RRI, e_pfi_RRII, e_pfj_RRII, e_pfr_RRII, e_po_RRII, e_pfi_RRIII, e_pfj_RRIII, e_pfr_RRIII, e_po_RRIII, e_pfi_RIJ, e_pfj_RIJ, e_pfr_RIJ, e_po_RIJ, e_X8_in, o_X8_in, e_X8_isIn, o_X8_isIn, e_X8_isText, o_X8_isText, e_X8_isStep, o_X8_isStep, e_X8_isSheet, o_X8_isSheet, e_X8_kindOf, o_X8_kindOf, e_X8_headOf, o_X8_headOf, e_X8_handOf, o_X8_handOf, e_X8_ones, o_X8_ones, e_X8_tries, o_X8_tries, e_X8_no, o_X8_no, e_X8_byteAt, o_X8_byteAt, e_X8_isPlace, o_X8_isPlace, e_X8_beside, o_X8_beside, e_X8_isAnywhere, o_X8_isAnywhere, e_X8_ofRow, o_X8_ofRow, e_X8_lacks, o_X8_lacks, shR_0, shR_1, shR_2, shR_3, shR_4, shR_5, shR_6, shR_7, shR_8, shR_9, shR_10, shR_11, shR_12, shR_13, shR_14, shR_15, shR_16, shR_17, shR_18, shR_19, shR_20, shR_21, shR_22, shR_23, rrR_0_0, rrR_0_1, rrR_0_5, rrR_0_7, rrR_0_8, rrR_0_9, rrR_0_10, rrR_0_11, rrR_0_12, rrR_0_13, rrR_0_14, rrR_0_15, rrR_0_16, rrR_0_18, rrR_0_19, rrR_0_20, rrR_0_21, rrR_0_22, rrR_0_23, rrR_0_24, rrR_0_25, rrR_0_26, rrR_0_27, mR_1, mR_2, mR_3, mR_4, mR_p0, mR_p1, mR_a0, mR_a1, mR_a2, mR_g0, mR_g1, mR_d0, mR_d1, gd_some, is_some, la_some]; try simp only [mzcmp, mzcml, mzz01, it_ne0, it_eq0, it_eq1, eq_10, eq_20, eq_21, eq_01, eq_self, Classical.not_not, if_true, if_false, not_true_eq_false, not_false_eq_true, ite_true, ite_false, reduceIte, decide_eq_true_eq, Bool.and_eq_true, Bool.or_eq_true, Bool.not_eq_true, decide_eq_false_iff_not, true_and, and_true, implies_true]
      simp (disch := omega) only [it_n0, it_n1, not_false_eq_true, not_true_eq_false, Classical.not_not, Nat.reduceEqDiff, Nat.reduceLeDiff, false_and, and_false, true_and, and_true, if_false, if_true, reduceIte, eq_self, li_0, li_1, li_2, li_3, li_4, li_5, li_6, li_7, li_8, li_9, li_10, li_12, li_16, li_18, li_35, li_36, li_39, li_41, li_60, li_99, li_100, li_143, li_144, li_150, li_255, li_1000, li_1800, li_far, in_nI, nu_lt, nu_le, nu_eq, nu_cl, nu_sub, nu_div, nu_rem, nu_add, nu_mul, ng1, nu_mM, nu_Mm, nu_ltM, nu_Mlt, nu_leM, nu_Mle, nu_m1, nu_oi1, nu_oi2, nu_oi4, nu_oi3, nu_m1']
      rw [o2 j k hj (by rw [kT]; exact hk), opX_k e1']
      have := hK I2 (eqx_DD e1' e2)
      rw [jx, kx] at this
      exact ⟨by omega, this⟩
    · have := hK I1 e1'
      rw [ix_out (by omega) (hi_sub _ (by omega)) hd, a2_2] at this
      exact this
  · have := hK I eqx_rf
    rw [ix_out (by omega) hi_99 hs, a2_1] at this
    exact this
def B_X8_fault : mzT1 :=
  (sret (gq 7 15 (gB (cif0 .ne (icS P_X8_isText lkS_8_87 yp_X8_isText [(vI (iL 1))]))) (gcV M_X8_faultOf lkV_8_128 ym_X8_faultOf (by decide) [(gR (rL 0)), (gI (iL 1))]) (gI (iK (-2)))))
theorem ok_X8_fault : mzok1 yX8_fault cX8_fault 8 2 (some .int) 4 94 1 B_X8_fault := ⟨by decide +kernel, mzT_at 901 (by decide +kernel) rfl, by decide, rfl, rfl, rfl⟩
def M_X8_fault : mzMt := mzmk yX8_fault cX8_fault 8 2 (some .int) 4 94 1 B_X8_fault ok_X8_fault
theorem ym_X8_fault : M_X8_fault.1.1 = yX8_fault := rfl

def ansFt (I : Nat → Nat → Int32) (n0 n1 : Nat) (t : Int32) : Int32 := a1 (ix 2 t) (fun k => if k = 0 then mzfv0 (I 2) n0 else mzfv1 (fun p => I 2 (41 + p)) n1)
set_option maxRecDepth 10000 in
theorem r_fault (I : Nat → Nat → Int32) (L : Nat → Nat → Int64) (K : Value → mzM → Prop) {n0 n1 : Nat} (hb : rbT I n0 n1) (t : Int32) (hK : ∀ I', eqx fD I I' → K (.int (ansFt I n0 n1 t)) (mR I' L)) : mzdo M_X8_fault [.ref 0, .int t] (mR I L) K := by
  simp only [M_X8_fault, w_mk, B_X8_fault, w_gI, w_gJ, w_gR, w_gB, w_gV, w_gcV, w_gcS, w_g1, w_g2, w_gq, w_bcmp, w_bif0, w_band, w_bor, w_bnot, w_sskip, w_sseq, w_sset, w_sinc, w_sret, w_sretZ, w_sretv, w_sbrk, w_scnt, w_sif, w_sif1, w_sloop, w_sput, w_sputop, w_sast, w_sastop, w_sastI, w_sastJ, w_sputI, w_sputJ, w_scV, w_scS, w_spop, w_ssw, mzfi, mzfl, mzfs, mzf1il, mzf1li, mzf1ii, e_iK, e_iKc, e_iKw, e_jK, e_jKc, e_rN, e_iL, e_jL, e_rL, e_iadd, e_isub, e_imul, e_iand, e_ior, e_ishl, e_ishr, e_iushr, e_idiv, e_irem, e_jadd, e_jsub, e_jmul, e_jand, e_jor, e_jxor, e_jdiv, e_jrem, e_jshl, e_jushr, e_i2j, e_j2i, e_i2b, e_i2s, e_iF, e_jF, e_rF, e_iA, e_jA, e_zA, e_rA, e_ilen, e_iU, e_ccmp, e_cif0, e_ccml, e_cnul, e_cand, e_cor, e_cnot, e_iq, e_jq, e_rq, e_icV, e_icS, e_jcV, e_jcS, e_rcV, e_rcS, e_vI, e_vJ, e_vR, o_iK, o_iKc, o_iKw, o_jK, o_jKc, o_rN, o_iL, o_jL, o_rL, o_iadd, o_isub, o_imul, o_iand, o_ior, o_ishl, o_ishr, o_iushr, o_idiv, o_irem, o_jadd, o_jsub, o_jmul, o_jand, o_jor, o_jxor, o_jdiv, o_jrem, o_jshl, o_jushr, o_i2j, o_j2i, o_i2b, o_i2s, o_iF, o_jF, o_rF, o_iA, o_jA, o_zA, o_rA, o_ilen, o_iU, o_ccmp, o_cif0, o_ccml, o_cnul, o_cand, o_cor, o_cnot, o_iq, o_jq, o_rq, o_icV, o_icS, o_jcV, o_jcS, o_rcV, o_rcS, o_vI, o_vJ, o_vR, mzwV, mzwS, mzwas, w_do, mzini, a_nil, a_int, a_long, a_ref, a_null, st_int, st_ref, st_null, st_long, kl_0, kl_s, rf_some, rf_none, List.length_cons, List.length_nil, Nat.reduceAdd, Nat.reduceSub, Nat.reduceLeDiff, List.replicate_succ, List.replicate_zero, List.cons_append, List.nil_append, List.append_nil, mzgi, mzgio, mzgj, mzgjo, mzgr, mzgro, List.getElem?_cons_succ, List.getElem?_cons_zero, List.set_cons_succ, List.set_cons_zero, true_and, and_true, Nat.le_refl, Nat.sub_self, implies_true, Bool.and_eq_true, Bool.or_eq_true, decide_eq_true_eq, Bool.not_eq_true, Bool.not_eq_false, Bool.not_eq_eq_eq_not, Bool.not_true, Bool.not_false, decide_eq_false_iff_not, Bool.and_eq_false_iff, Bool.or_eq_false_iff, in_0_2, in_1_2, mzevs, mzoks, mzrc, e_pfi_I, e_pfj_I, e_pfr_I, e_po_I, e_pfi_II, e_pfj_II, e_pfr_II, e_po_II, e_pfi_III, e_pfj_III, e_pfr_III, e_po_III, e_pfi_IIII, e_pfj_IIII, e_pfr_IIII, e_po_IIII, e_pfi_IIIII, e_pfj_IIIII, e_pfr_IIIII, e_po_IIIII, e_pfi_R, e_pfj_R, e_pfr_R, e_po_R, e_pfi_RI, e_pfj_RI, e_pfr_RI, e_po_RI, e_pfi_RII, e_pfj_RII, e_pfr_RII, e_po_RII, e_pfi_RIII, e_pfj_RIII, e_pfr_RIII, e_po_RIII, e_pfi_RIIII, e_pfj_RIIII, e_pfr_RIIII, e_po_RIIII, e_pfi_RIIIII, e_pfj_RIIIII, e_pfr_RIIIII, e_po_RIIIII, e_pfi_JI, e_pfj_JI, e_pfr_JI, e_po_JI, e_pfi_JJ, e_pfj_JJ, e_pfr_JJ, e_po_JJ, e_pfi_RJ, e_pfj_RJ, e_pfr_RJ, e_po_RJ, e_pfi_RJI, e_pfj_RJI, e_pfr_RJI, e_po_RJI, e_pfi_RJJJ, e_pfj_RJJJ, e_pfr_RJJJ, e_po_RJJJ, e_pfi_RJIJ, e_pfj_RJIJ, e_pfr_RJIJ, e_po_RJIJ, e_pfi_RIIIJ, e_pfj_RIIIJ, e_pfr_RIIIJ, e_po_RIIIJ, e_pfi_J, e_pfj_J, e_pfr_J, e_po_J, e_pfi_RR, e_pfj_RR, e_pfr_RR, e_po_RR, e_pfi_RRI, e_pfj_RRI, e_pfr_RRI, e_po_RRI, e_pfi_RRII, e_pfj_RRII, e_pfr_RRII, e_po_RRII, e_pfi_RRIII, e_pfj_RRIII, e_pfr_RRIII, e_po_RRIII, e_pfi_RIJ, e_pfj_RIJ, e_pfr_RIJ, e_po_RIJ, e_X8_in, o_X8_in, e_X8_isIn, o_X8_isIn, e_X8_isText, o_X8_isText, e_X8_isStep, o_X8_isStep, e_X8_isSheet, o_X8_isSheet, e_X8_kindOf, o_X8_kindOf, e_X8_headOf, o_X8_headOf, e_X8_handOf, o_X8_handOf, e_X8_ones, o_X8_ones, e_X8_tries, o_X8_tries, e_X8_no, o_X8_no, e_X8_byteAt, o_X8_byteAt, e_X8_isPlace, o_X8_isPlace, e_X8_beside, o_X8_beside, e_X8_isAnywhere, o_X8_isAnywhere, e_X8_ofRow, o_X8_ofRow, e_X8_lacks, o_X8_lacks, shR_0, shR_1, shR_2, shR_3, shR_4, shR_5, shR_6, shR_7, shR_8, shR_9, shR_10, shR_11, shR_12, shR_13, shR_14, shR_15, shR_16, shR_17, shR_18, shR_19, shR_20, shR_21, shR_22, shR_23, rrR_0_0, rrR_0_1, rrR_0_5, rrR_0_7, rrR_0_8, rrR_0_9, rrR_0_10, rrR_0_11, rrR_0_12, rrR_0_13, rrR_0_14, rrR_0_15, rrR_0_16, rrR_0_18, rrR_0_19, rrR_0_20, rrR_0_21, rrR_0_22, rrR_0_23, rrR_0_24, rrR_0_25, rrR_0_26, rrR_0_27, mR_1, mR_2, mR_3, mR_4, mR_p0, mR_p1, mR_a0, mR_a1, mR_a2, mR_g0, mR_g1, mR_d0, mR_d1, gd_some, is_some, la_some]; try simp only [mzcmp, mzcml, mzz01, it_ne0, it_eq0, it_eq1, eq_10, eq_20, eq_21, eq_01, eq_self, Classical.not_not, if_true, if_false, not_true_eq_false, not_false_eq_true, ite_true, ite_false, reduceIte, decide_eq_true_eq, Bool.and_eq_true, Bool.or_eq_true, Bool.not_eq_true, decide_eq_false_iff_not, true_and, and_true, implies_true]
  unfold ansFt at hK
  refine ⟨fun hs => ?_, fun hs => ?_⟩
  · obtain ⟨j, hj, rfl, jx⟩ := ix_in (by omega) hi_1 hs
    refine r_faultOf I L K _ hb (fun I1 e1 m1 w1 => ?_)
    have := hK I1 e1
    rw [jx, a1_s] at this
    simp (disch := omega) only [it_n0, it_n1, not_false_eq_true, not_true_eq_false, Classical.not_not, Nat.reduceEqDiff, Nat.reduceLeDiff, false_and, and_false, true_and, and_true, if_false, if_true, reduceIte, eq_self, li_0, li_1, li_2, li_3, li_4, li_5, li_6, li_7, li_8, li_9, li_10, li_12, li_16, li_18, li_35, li_36, li_39, li_41, li_60, li_99, li_100, li_143, li_144, li_150, li_255, li_1000, li_1800, li_far, in_nI, nu_lt, nu_le, nu_eq, nu_cl, nu_sub, nu_div, nu_rem, nu_add, nu_mul, ng1, nu_mM, nu_Mm, nu_ltM, nu_Mlt, nu_leM, nu_Mle, nu_m1, nu_oi1, nu_oi2, nu_oi4, nu_oi3, nu_m1']
    exact this
  · have := hK I eqx_rf
    rw [ix_out (by omega) hi_1 hs] at this
    exact this
def B_X8_walker : mzT1 :=
  (sret (gq 17 53 (band 8 (bif0 .ne (gcV M_X8_isWalker lkV_8_131 ym_X8_isWalker (by decide) [(gR (rL 0)), (gI (iL 1))])) (gB (cif0 .ne (icS P_X8_in lkS_8_83 yp_X8_in [(vI (iL 2)), (vI (iK 0)), (vI (iK 2))])))) (gI (iq 21 30 (cif0 .eq (iL 2)) (iA (rF lkF_8_19 (by decide) (rL 0)) (iL 1)) (iq 35 44 (ccmp .eq (iL 2) (iK 1)) (iA (rF lkF_8_22 (by decide) (rL 0)) (iL 1)) (iA (rF lkF_8_25 (by decide) (rL 0)) (iL 1))))) (gI (iK (-2)))))
theorem ok_X8_walker : mzok1 yX8_walker cX8_walker 8 3 (some .int) 4 93 1 B_X8_walker := ⟨by decide +kernel, mzT_at 934 (by decide +kernel) rfl, by decide, rfl, rfl, rfl⟩
def M_X8_walker : mzMt := mzmk yX8_walker cX8_walker 8 3 (some .int) 4 93 1 B_X8_walker ok_X8_walker
theorem ym_X8_walker : M_X8_walker.1.1 = yX8_walker := rfl

def ansWk (I : Nat → Nat → Int32) (n1 : Nat) (w what : Int32) : Int32 := a2 (ix (nWk (fun p => I 2 (41 + p)) n1) w) (ix 3 what) (fun j k => if k = 0 then nI (wDn (fun p => I 2 (41 + p)) j) else if k = 1 then nI (wHn (fun p => I 2 (41 + p)) j) else nI (wAn (fun p => I 2 (41 + p)) j))
set_option maxRecDepth 10000 in
theorem r_walker (I : Nat → Nat → Int32) (L : Nat → Nat → Int64) (K : Value → mzM → Prop) {n0 n1 : Nat} (hb : rbT I n0 n1) (w what : Int32) (hK : ∀ I', eqx fD I I' → K (.int (ansWk I n1 w what)) (mR I' L)) : mzdo M_X8_walker [.ref 0, .int w, .int what] (mR I L) K := by
  simp only [M_X8_walker, w_mk, B_X8_walker, w_gI, w_gJ, w_gR, w_gB, w_gV, w_gcV, w_gcS, w_g1, w_g2, w_gq, w_bcmp, w_bif0, w_band, w_bor, w_bnot, w_sskip, w_sseq, w_sset, w_sinc, w_sret, w_sretZ, w_sretv, w_sbrk, w_scnt, w_sif, w_sif1, w_sloop, w_sput, w_sputop, w_sast, w_sastop, w_sastI, w_sastJ, w_sputI, w_sputJ, w_scV, w_scS, w_spop, w_ssw, mzfi, mzfl, mzfs, mzf1il, mzf1li, mzf1ii, e_iK, e_iKc, e_iKw, e_jK, e_jKc, e_rN, e_iL, e_jL, e_rL, e_iadd, e_isub, e_imul, e_iand, e_ior, e_ishl, e_ishr, e_iushr, e_idiv, e_irem, e_jadd, e_jsub, e_jmul, e_jand, e_jor, e_jxor, e_jdiv, e_jrem, e_jshl, e_jushr, e_i2j, e_j2i, e_i2b, e_i2s, e_iF, e_jF, e_rF, e_iA, e_jA, e_zA, e_rA, e_ilen, e_iU, e_ccmp, e_cif0, e_ccml, e_cnul, e_cand, e_cor, e_cnot, e_iq, e_jq, e_rq, e_icV, e_icS, e_jcV, e_jcS, e_rcV, e_rcS, e_vI, e_vJ, e_vR, o_iK, o_iKc, o_iKw, o_jK, o_jKc, o_rN, o_iL, o_jL, o_rL, o_iadd, o_isub, o_imul, o_iand, o_ior, o_ishl, o_ishr, o_iushr, o_idiv, o_irem, o_jadd, o_jsub, o_jmul, o_jand, o_jor, o_jxor, o_jdiv, o_jrem, o_jshl, o_jushr, o_i2j, o_j2i, o_i2b, o_i2s, o_iF, o_jF, o_rF, o_iA, o_jA, o_zA, o_rA, o_ilen, o_iU, o_ccmp, o_cif0, o_ccml, o_cnul, o_cand, o_cor, o_cnot, o_iq, o_jq, o_rq, o_icV, o_icS, o_jcV, o_jcS, o_rcV, o_rcS, o_vI, o_vJ, o_vR, mzwV, mzwS, mzwas, w_do, mzini, a_nil, a_int, a_long, a_ref, a_null, st_int, st_ref, st_null, st_long, kl_0, kl_s, rf_some, rf_none, List.length_cons, List.length_nil, Nat.reduceAdd, Nat.reduceSub, Nat.reduceLeDiff, List.replicate_succ, List.replicate_zero, List.cons_append, List.nil_append, List.append_nil, mzgi, mzgio, mzgj, mzgjo, mzgr, mzgro, List.getElem?_cons_succ, List.getElem?_cons_zero, List.set_cons_succ, List.set_cons_zero, true_and, and_true, Nat.le_refl, Nat.sub_self, implies_true, Bool.and_eq_true, Bool.or_eq_true, decide_eq_true_eq, Bool.not_eq_true, Bool.not_eq_false, Bool.not_eq_eq_eq_not, Bool.not_true, Bool.not_false, decide_eq_false_iff_not, Bool.and_eq_false_iff, Bool.or_eq_false_iff, in_0_2, in_1_2, mzevs, mzoks, mzrc, e_pfi_I, e_pfj_I, e_pfr_I, e_po_I, e_pfi_II, e_pfj_II, e_pfr_II, e_po_II, e_pfi_III, e_pfj_III, e_pfr_III, e_po_III, e_pfi_IIII, e_pfj_IIII, e_pfr_IIII, e_po_IIII, e_pfi_IIIII, e_pfj_IIIII, e_pfr_IIIII, e_po_IIIII, e_pfi_R, e_pfj_R, e_pfr_R, e_po_R, e_pfi_RI, e_pfj_RI, e_pfr_RI, e_po_RI, e_pfi_RII, e_pfj_RII, e_pfr_RII, e_po_RII, e_pfi_RIII, e_pfj_RIII, e_pfr_RIII, e_po_RIII, e_pfi_RIIII, e_pfj_RIIII, e_pfr_RIIII, e_po_RIIII, e_pfi_RIIIII, e_pfj_RIIIII, e_pfr_RIIIII, e_po_RIIIII, e_pfi_JI, e_pfj_JI, e_pfr_JI, e_po_JI, e_pfi_JJ, e_pfj_JJ, e_pfr_JJ, e_po_JJ, e_pfi_RJ, e_pfj_RJ, e_pfr_RJ, e_po_RJ, e_pfi_RJI, e_pfj_RJI, e_pfr_RJI, e_po_RJI, e_pfi_RJJJ, e_pfj_RJJJ, e_pfr_RJJJ, e_po_RJJJ, e_pfi_RJIJ, e_pfj_RJIJ, e_pfr_RJIJ, e_po_RJIJ, e_pfi_RIIIJ, e_pfj_RIIIJ, e_pfr_RIIIJ, e_po_RIIIJ, e_pfi_J, e_pfj_J, e_pfr_J, e_po_J, e_pfi_RR, e_pfj_RR, e_pfr_RR, e_po_RR, e_pfi_RRI, e_pfj_RRI, e_pfr_RRI, e_po_RRI, e_pfi_RRII, e_pfj_RRII, e_pfr_RRII, e_po_RRII, e_pfi_RRIII, e_pfj_RRIII, e_pfr_RRIII, e_po_RRIII, e_pfi_RIJ, e_pfj_RIJ, e_pfr_RIJ, e_po_RIJ, e_X8_in, o_X8_in, e_X8_isIn, o_X8_isIn, e_X8_isText, o_X8_isText, e_X8_isStep, o_X8_isStep, e_X8_isSheet, o_X8_isSheet, e_X8_kindOf, o_X8_kindOf, e_X8_headOf, o_X8_headOf, e_X8_handOf, o_X8_handOf, e_X8_ones, o_X8_ones, e_X8_tries, o_X8_tries, e_X8_no, o_X8_no, e_X8_byteAt, o_X8_byteAt, e_X8_isPlace, o_X8_isPlace, e_X8_beside, o_X8_beside, e_X8_isAnywhere, o_X8_isAnywhere, e_X8_ofRow, o_X8_ofRow, e_X8_lacks, o_X8_lacks, shR_0, shR_1, shR_2, shR_3, shR_4, shR_5, shR_6, shR_7, shR_8, shR_9, shR_10, shR_11, shR_12, shR_13, shR_14, shR_15, shR_16, shR_17, shR_18, shR_19, shR_20, shR_21, shR_22, shR_23, rrR_0_0, rrR_0_1, rrR_0_5, rrR_0_7, rrR_0_8, rrR_0_9, rrR_0_10, rrR_0_11, rrR_0_12, rrR_0_13, rrR_0_14, rrR_0_15, rrR_0_16, rrR_0_18, rrR_0_19, rrR_0_20, rrR_0_21, rrR_0_22, rrR_0_23, rrR_0_24, rrR_0_25, rrR_0_26, rrR_0_27, mR_1, mR_2, mR_3, mR_4, mR_p0, mR_p1, mR_a0, mR_a1, mR_a2, mR_g0, mR_g1, mR_d0, mR_d1, gd_some, is_some, la_some]; try simp only [mzcmp, mzcml, mzz01, it_ne0, it_eq0, it_eq1, eq_10, eq_20, eq_21, eq_01, eq_self, Classical.not_not, if_true, if_false, not_true_eq_false, not_false_eq_true, ite_true, ite_false, reduceIte, decide_eq_true_eq, Bool.and_eq_true, Bool.or_eq_true, Bool.not_eq_true, decide_eq_false_iff_not, true_and, and_true, implies_true]
  refine r_isWalker I L _ w hb (fun I1 e1 w1 => ?_)
  dsimp only
  rw [w1.1, it_ne0, it_eq0]
  have h8 := nWk_8 (T := fun p => I 2 (41 + p)) hb.2.2.2
  have e1' := fW_base e1
  have hk := hK I1 e1'
  unfold ansWk at hk
  refine ⟨fun hw => ?_, fun hw => ?_⟩
  · obtain ⟨j, hj, rfl, jx⟩ := ix_in (by omega) (hi_sub _ (by omega)) hw
    obtain ⟨w4, w5, w6⟩ := w1.2 j hj
    obtain ⟨⟨c1, c2⟩, ⟨c3, c4⟩, ⟨c5, c6⟩⟩ := wk_n hj
    rw [c2] at w4
    rw [c4] at w5
    rw [c6] at w6
    rw [jx] at hk
    simp only [shR_0, shR_1, shR_2, shR_3, shR_4, shR_5, shR_6, shR_7, shR_8, shR_9, shR_10, shR_11, shR_12, shR_13, shR_14, shR_15, shR_16, shR_17, shR_18, shR_19, shR_20, shR_21, shR_22, shR_23, rrR_0_0, rrR_0_1, rrR_0_5, rrR_0_7, rrR_0_8, rrR_0_9, rrR_0_10, rrR_0_11, rrR_0_12, rrR_0_13, rrR_0_14, rrR_0_15, rrR_0_16, rrR_0_18, rrR_0_19, rrR_0_20, rrR_0_21, rrR_0_22, rrR_0_23, rrR_0_24, rrR_0_25, rrR_0_26, rrR_0_27, mR_1, mR_2, mR_3, mR_4, mR_p0, mR_p1, mR_a0, mR_a1, mR_a2, mR_g0, mR_g1, mR_d0, mR_d1, gd_some, is_some, la_some, true_and]
    refine ⟨fun hx => ?_, fun hx => ?_⟩
    · obtain ⟨k, hk', rfl, kx⟩ := ix_in (by omega) hi_2 hx
      rw [kx] at hk
      unfold a2 at hk
      rw [a1_s, a1_s] at hk
      simp (disch := omega) only [it_n0, it_n1, not_false_eq_true, not_true_eq_false, Classical.not_not, Nat.reduceEqDiff, Nat.reduceLeDiff, false_and, and_false, true_and, and_true, if_false, if_true, reduceIte, eq_self, li_0, li_1, li_2, li_3, li_4, li_5, li_6, li_7, li_8, li_9, li_10, li_12, li_16, li_18, li_35, li_36, li_39, li_41, li_60, li_99, li_100, li_143, li_144, li_150, li_255, li_1000, li_1800, li_far, in_nI, nu_lt, nu_le, nu_eq, nu_cl, nu_sub, nu_div, nu_rem, nu_add, nu_mul, ng1, nu_mM, nu_Mm, nu_ltM, nu_Mlt, nu_leM, nu_Mle, nu_m1, nu_oi1, nu_oi2, nu_oi4, nu_oi3, nu_m1', w4, w5, w6]
      refine ⟨⟨fun _ => by omega, fun _ => ⟨fun _ => by omega, fun _ => by omega⟩⟩, hk⟩
    · rw [ix_out (by omega) hi_2 hx, a2_2] at hk
      exact hk
  · rw [ix_out (by omega) (hi_sub _ (by omega)) hw, a2_1] at hk
    exact hk
def Lt1_X8_sumOf : mzT1 :=
  (sret (gI (iq 10 17 (cif0 .eq (iL 1)) (iF lkF_8_91 (by decide) (rL 0)) (iq 22 29 (ccmp .eq (iL 1) (iK 1)) (iF lkF_8_95 (by decide) (rL 0)) (iF lkF_8_114 (by decide) (rL 0))))))
def B_X8_sumOf : mzT1 :=
  (sseq (sset 2 (gcV M_X8_faultOf lkV_8_128 ym_X8_faultOf (by decide) [(gR (rL 0)), (gI (iK 0))]))
  Lt1_X8_sumOf)
theorem ok_X8_sumOf : mzok1 yX8_sumOf cX8_sumOf 8 3 (some .int) 4 94 1 B_X8_sumOf := ⟨by decide +kernel, mzT_at 1224 (by decide +kernel) rfl, by decide, rfl, rfl, rfl⟩
def M_X8_sumOf : mzMt := mzmk yX8_sumOf cX8_sumOf 8 3 (some .int) 4 94 1 B_X8_sumOf ok_X8_sumOf
theorem ym_X8_sumOf : M_X8_sumOf.1.1 = yX8_sumOf := rfl

def B_X8_count : mzT1 :=
  (ssw (gI (iL 1)) [(0, 52, (sret (gcV M_X8_sumOf lkV_8_280 ym_X8_sumOf (by decide) [(gR (rL 0)), (gI (iL 1))]))),
    (1, 52, (sret (gcV M_X8_sumOf lkV_8_280 ym_X8_sumOf (by decide) [(gR (rL 0)), (gI (iL 1))]))),
    (2, 52, (sret (gcV M_X8_sumOf lkV_8_280 ym_X8_sumOf (by decide) [(gR (rL 0)), (gI (iL 1))]))),
    (3, 58, (sret (gI (iA (rF lkF_8_7 (by decide) (rL 0)) (isub (iL 1) (iK 3)))))),
    (4, 58, (sret (gI (iA (rF lkF_8_7 (by decide) (rL 0)) (isub (iL 1) (iK 3)))))),
    (5, 67, (sret (gI (iA (rF lkF_8_28 (by decide) (rL 0)) (isub (iL 1) (iK 5)))))),
    (6, 67, (sret (gI (iA (rF lkF_8_28 (by decide) (rL 0)) (isub (iL 1) (iK 5)))))),
    (7, 76, (sret (gI (iF lkF_8_236 (by decide) (rL 0))))),
    (8, 81, (sret (gI (iF lkF_8_269 (by decide) (rL 0)))))] 86 (sret (gI (iK (-2)))) 89)
theorem ok_X8_count : mzok1 yX8_count cX8_count 8 2 (some .int) 5 116 1 B_X8_count := ⟨by decide +kernel, mzT_at 1220 (by decide +kernel) rfl, by decide, rfl, rfl, rfl⟩
def M_X8_count : mzMt := mzmk yX8_count cX8_count 8 2 (some .int) 5 116 1 B_X8_count ok_X8_count
theorem ym_X8_count : M_X8_count.1.1 = yX8_count := rfl

/-- count 0 to 2 -/
def ansCt (I : Nat → Nat → Int32) (n0 n1 : Nat) (what : Int32) : Int32 := if what = 0 then nI (mzq (I 2) n0).2.2.1 else if what = 1 then nI (mzq (I 2) n0).2.1 else if what = 2 then nI (nWk (fun p => I 2 (41 + p)) n1) else if what = 3 then I 1 0 else if what = 4 then I 1 1 else if what = 5 then I 7 0 else if what = 6 then I 7 1 else if what = 7 then I 0 17 else if what = 8 then I 0 28 else -2
set_option maxRecDepth 10000 in
theorem r_sumOf (I : Nat → Nat → Int32) (L : Nat → Nat → Int64) (K : Value → mzM → Prop) {n0 n1 : Nat} (hb : rbT I n0 n1) (what : Int32) (hK : ∀ I', eqx fD I I' → K (.int (if what = 0 then nI (mzq (I 2) n0).2.2.1 else if what = 1 then nI (mzq (I 2) n0).2.1 else nI (nWk (fun p => I 2 (41 + p)) n1))) (mR I' L)) : mzdo M_X8_sumOf [.ref 0, .int what] (mR I L) K := by
  simp only [M_X8_sumOf, w_mk, B_X8_sumOf, w_gI, w_gJ, w_gR, w_gB, w_gV, w_gcV, w_gcS, w_g1, w_g2, w_gq, w_bcmp, w_bif0, w_band, w_bor, w_bnot, w_sskip, w_sseq, w_sset, w_sinc, w_sret, w_sretZ, w_sretv, w_sbrk, w_scnt, w_sif, w_sif1, w_sloop, w_sput, w_sputop, w_sast, w_sastop, w_sastI, w_sastJ, w_sputI, w_sputJ, w_scV, w_scS, w_spop, w_ssw, mzfi, mzfl, mzfs, mzf1il, mzf1li, mzf1ii, e_iK, e_iKc, e_iKw, e_jK, e_jKc, e_rN, e_iL, e_jL, e_rL, e_iadd, e_isub, e_imul, e_iand, e_ior, e_ishl, e_ishr, e_iushr, e_idiv, e_irem, e_jadd, e_jsub, e_jmul, e_jand, e_jor, e_jxor, e_jdiv, e_jrem, e_jshl, e_jushr, e_i2j, e_j2i, e_i2b, e_i2s, e_iF, e_jF, e_rF, e_iA, e_jA, e_zA, e_rA, e_ilen, e_iU, e_ccmp, e_cif0, e_ccml, e_cnul, e_cand, e_cor, e_cnot, e_iq, e_jq, e_rq, e_icV, e_icS, e_jcV, e_jcS, e_rcV, e_rcS, e_vI, e_vJ, e_vR, o_iK, o_iKc, o_iKw, o_jK, o_jKc, o_rN, o_iL, o_jL, o_rL, o_iadd, o_isub, o_imul, o_iand, o_ior, o_ishl, o_ishr, o_iushr, o_idiv, o_irem, o_jadd, o_jsub, o_jmul, o_jand, o_jor, o_jxor, o_jdiv, o_jrem, o_jshl, o_jushr, o_i2j, o_j2i, o_i2b, o_i2s, o_iF, o_jF, o_rF, o_iA, o_jA, o_zA, o_rA, o_ilen, o_iU, o_ccmp, o_cif0, o_ccml, o_cnul, o_cand, o_cor, o_cnot, o_iq, o_jq, o_rq, o_icV, o_icS, o_jcV, o_jcS, o_rcV, o_rcS, o_vI, o_vJ, o_vR, mzwV, mzwS, mzwas, w_do, mzini, a_nil, a_int, a_long, a_ref, a_null, st_int, st_ref, st_null, st_long, kl_0, kl_s, rf_some, rf_none, List.length_cons, List.length_nil, Nat.reduceAdd, Nat.reduceSub, Nat.reduceLeDiff, List.replicate_succ, List.replicate_zero, List.cons_append, List.nil_append, List.append_nil, mzgi, mzgio, mzgj, mzgjo, mzgr, mzgro, List.getElem?_cons_succ, List.getElem?_cons_zero, List.set_cons_succ, List.set_cons_zero, true_and, and_true, Nat.le_refl, Nat.sub_self, implies_true, Bool.and_eq_true, Bool.or_eq_true, decide_eq_true_eq, Bool.not_eq_true, Bool.not_eq_false, Bool.not_eq_eq_eq_not, Bool.not_true, Bool.not_false, decide_eq_false_iff_not, Bool.and_eq_false_iff, Bool.or_eq_false_iff, in_0_2, in_1_2, mzevs, mzoks, mzrc, e_pfi_I, e_pfj_I, e_pfr_I, e_po_I, e_pfi_II, e_pfj_II, e_pfr_II, e_po_II, e_pfi_III, e_pfj_III, e_pfr_III, e_po_III, e_pfi_IIII, e_pfj_IIII, e_pfr_IIII, e_po_IIII, e_pfi_IIIII, e_pfj_IIIII, e_pfr_IIIII, e_po_IIIII, e_pfi_R, e_pfj_R, e_pfr_R, e_po_R, e_pfi_RI, e_pfj_RI, e_pfr_RI, e_po_RI, e_pfi_RII, e_pfj_RII, e_pfr_RII, e_po_RII, e_pfi_RIII, e_pfj_RIII, e_pfr_RIII, e_po_RIII, e_pfi_RIIII, e_pfj_RIIII, e_pfr_RIIII, e_po_RIIII, e_pfi_RIIIII, e_pfj_RIIIII, e_pfr_RIIIII, e_po_RIIIII, e_pfi_JI, e_pfj_JI, e_pfr_JI, e_po_JI, e_pfi_JJ, e_pfj_JJ, e_pfr_JJ, e_po_JJ, e_pfi_RJ, e_pfj_RJ, e_pfr_RJ, e_po_RJ, e_pfi_RJI, e_pfj_RJI, e_pfr_RJI, e_po_RJI, e_pfi_RJJJ, e_pfj_RJJJ, e_pfr_RJJJ, e_po_RJJJ, e_pfi_RJIJ, e_pfj_RJIJ, e_pfr_RJIJ, e_po_RJIJ, e_pfi_RIIIJ, e_pfj_RIIIJ, e_pfr_RIIIJ, e_po_RIIIJ, e_pfi_J, e_pfj_J, e_pfr_J, e_po_J, e_pfi_RR, e_pfj_RR, e_pfr_RR, e_po_RR, e_pfi_RRI, e_pfj_RRI, e_pfr_RRI, e_po_RRI, e_pfi_RRII, e_pfj_RRII, e_pfr_RRII, e_po_RRII, e_pfi_RRIII, e_pfj_RRIII, e_pfr_RRIII, e_po_RRIII, e_pfi_RIJ, e_pfj_RIJ, e_pfr_RIJ, e_po_RIJ, e_X8_in, o_X8_in, e_X8_isIn, o_X8_isIn, e_X8_isText, o_X8_isText, e_X8_isStep, o_X8_isStep, e_X8_isSheet, o_X8_isSheet, e_X8_kindOf, o_X8_kindOf, e_X8_headOf, o_X8_headOf, e_X8_handOf, o_X8_handOf, e_X8_ones, o_X8_ones, e_X8_tries, o_X8_tries, e_X8_no, o_X8_no, e_X8_byteAt, o_X8_byteAt, e_X8_isPlace, o_X8_isPlace, e_X8_beside, o_X8_beside, e_X8_isAnywhere, o_X8_isAnywhere, e_X8_ofRow, o_X8_ofRow, e_X8_lacks, o_X8_lacks, shR_0, shR_1, shR_2, shR_3, shR_4, shR_5, shR_6, shR_7, shR_8, shR_9, shR_10, shR_11, shR_12, shR_13, shR_14, shR_15, shR_16, shR_17, shR_18, shR_19, shR_20, shR_21, shR_22, shR_23, rrR_0_0, rrR_0_1, rrR_0_5, rrR_0_7, rrR_0_8, rrR_0_9, rrR_0_10, rrR_0_11, rrR_0_12, rrR_0_13, rrR_0_14, rrR_0_15, rrR_0_16, rrR_0_18, rrR_0_19, rrR_0_20, rrR_0_21, rrR_0_22, rrR_0_23, rrR_0_24, rrR_0_25, rrR_0_26, rrR_0_27, mR_1, mR_2, mR_3, mR_4, mR_p0, mR_p1, mR_a0, mR_a1, mR_a2, mR_g0, mR_g1, mR_d0, mR_d1, gd_some, is_some, la_some]; try simp only [mzcmp, mzcml, mzz01, it_ne0, it_eq0, it_eq1, eq_10, eq_20, eq_21, eq_01, eq_self, Classical.not_not, if_true, if_false, not_true_eq_false, not_false_eq_true, ite_true, ite_false, reduceIte, decide_eq_true_eq, Bool.and_eq_true, Bool.or_eq_true, Bool.not_eq_true, decide_eq_false_iff_not, true_and, and_true, implies_true]
  refine r_faultOf I L _ 0 hb (fun I1 e1 m1 w1 => ?_)
  simp only [Lt1_X8_sumOf, w_gI, w_gJ, w_gR, w_gB, w_gV, w_gcV, w_gcS, w_g1, w_g2, w_gq, w_bcmp, w_bif0, w_band, w_bor, w_bnot, w_sskip, w_sseq, w_sset, w_sinc, w_sret, w_sretZ, w_sretv, w_sbrk, w_scnt, w_sif, w_sif1, w_sloop, w_sput, w_sputop, w_sast, w_sastop, w_sastI, w_sastJ, w_sputI, w_sputJ, w_scV, w_scS, w_spop, w_ssw, mzfi, mzfl, mzfs, mzf1il, mzf1li, mzf1ii, e_iK, e_iKc, e_iKw, e_jK, e_jKc, e_rN, e_iL, e_jL, e_rL, e_iadd, e_isub, e_imul, e_iand, e_ior, e_ishl, e_ishr, e_iushr, e_idiv, e_irem, e_jadd, e_jsub, e_jmul, e_jand, e_jor, e_jxor, e_jdiv, e_jrem, e_jshl, e_jushr, e_i2j, e_j2i, e_i2b, e_i2s, e_iF, e_jF, e_rF, e_iA, e_jA, e_zA, e_rA, e_ilen, e_iU, e_ccmp, e_cif0, e_ccml, e_cnul, e_cand, e_cor, e_cnot, e_iq, e_jq, e_rq, e_icV, e_icS, e_jcV, e_jcS, e_rcV, e_rcS, e_vI, e_vJ, e_vR, o_iK, o_iKc, o_iKw, o_jK, o_jKc, o_rN, o_iL, o_jL, o_rL, o_iadd, o_isub, o_imul, o_iand, o_ior, o_ishl, o_ishr, o_iushr, o_idiv, o_irem, o_jadd, o_jsub, o_jmul, o_jand, o_jor, o_jxor, o_jdiv, o_jrem, o_jshl, o_jushr, o_i2j, o_j2i, o_i2b, o_i2s, o_iF, o_jF, o_rF, o_iA, o_jA, o_zA, o_rA, o_ilen, o_iU, o_ccmp, o_cif0, o_ccml, o_cnul, o_cand, o_cor, o_cnot, o_iq, o_jq, o_rq, o_icV, o_icS, o_jcV, o_jcS, o_rcV, o_rcS, o_vI, o_vJ, o_vR, mzwV, mzwS, mzwas, w_do, mzini, a_nil, a_int, a_long, a_ref, a_null, st_int, st_ref, st_null, st_long, kl_0, kl_s, rf_some, rf_none, List.length_cons, List.length_nil, Nat.reduceAdd, Nat.reduceSub, Nat.reduceLeDiff, List.replicate_succ, List.replicate_zero, List.cons_append, List.nil_append, List.append_nil, mzgi, mzgio, mzgj, mzgjo, mzgr, mzgro, List.getElem?_cons_succ, List.getElem?_cons_zero, List.set_cons_succ, List.set_cons_zero, true_and, and_true, Nat.le_refl, Nat.sub_self, implies_true, Bool.and_eq_true, Bool.or_eq_true, decide_eq_true_eq, Bool.not_eq_true, Bool.not_eq_false, Bool.not_eq_eq_eq_not, Bool.not_true, Bool.not_false, decide_eq_false_iff_not, Bool.and_eq_false_iff, Bool.or_eq_false_iff, in_0_2, in_1_2, mzevs, mzoks, mzrc, e_pfi_I, e_pfj_I, e_pfr_I, e_po_I, e_pfi_II, e_pfj_II, e_pfr_II, e_po_II, e_pfi_III, e_pfj_III, e_pfr_III, e_po_III, e_pfi_IIII, e_pfj_IIII, e_pfr_IIII, e_po_IIII, e_pfi_IIIII, e_pfj_IIIII, e_pfr_IIIII, e_po_IIIII, e_pfi_R, e_pfj_R, e_pfr_R, e_po_R, e_pfi_RI, e_pfj_RI, e_pfr_RI, e_po_RI, e_pfi_RII, e_pfj_RII, e_pfr_RII, e_po_RII, e_pfi_RIII, e_pfj_RIII, e_pfr_RIII, e_po_RIII, e_pfi_RIIII, e_pfj_RIIII, e_pfr_RIIII, e_po_RIIII, e_pfi_RIIIII, e_pfj_RIIIII, e_pfr_RIIIII, e_po_RIIIII, e_pfi_JI, e_pfj_JI, e_pfr_JI, e_po_JI, e_pfi_JJ, e_pfj_JJ, e_pfr_JJ, e_po_JJ, e_pfi_RJ, e_pfj_RJ, e_pfr_RJ, e_po_RJ, e_pfi_RJI, e_pfj_RJI, e_pfr_RJI, e_po_RJI, e_pfi_RJJJ, e_pfj_RJJJ, e_pfr_RJJJ, e_po_RJJJ, e_pfi_RJIJ, e_pfj_RJIJ, e_pfr_RJIJ, e_po_RJIJ, e_pfi_RIIIJ, e_pfj_RIIIJ, e_pfr_RIIIJ, e_po_RIIIJ, e_pfi_J, e_pfj_J, e_pfr_J, e_po_J, e_pfi_RR, e_pfj_RR, e_pfr_RR, e_po_RR, e_pfi_RRI, e_pfj_RRI, e_pfr_RRI, e_po_RRI, e_pfi_RRII, e_pfj_RRII, e_pfr_RRII, e_po_RRII, e_pfi_RRIII, e_pfj_RRIII, e_pfr_RRIII, e_po_RRIII, e_pfi_RIJ, e_pfj_RIJ, e_pfr_RIJ, e_po_RIJ, e_X8_in, o_X8_in, e_X8_isIn, o_X8_isIn, e_X8_isText, o_X8_isText, e_X8_isStep, o_X8_isStep, e_X8_isSheet, o_X8_isSheet, e_X8_kindOf, o_X8_kindOf, e_X8_headOf, o_X8_headOf, e_X8_handOf, o_X8_handOf, e_X8_ones, o_X8_ones, e_X8_tries, o_X8_tries, e_X8_no, o_X8_no, e_X8_byteAt, o_X8_byteAt, e_X8_isPlace, o_X8_isPlace, e_X8_beside, o_X8_beside, e_X8_isAnywhere, o_X8_isAnywhere, e_X8_ofRow, o_X8_ofRow, e_X8_lacks, o_X8_lacks, shR_0, shR_1, shR_2, shR_3, shR_4, shR_5, shR_6, shR_7, shR_8, shR_9, shR_10, shR_11, shR_12, shR_13, shR_14, shR_15, shR_16, shR_17, shR_18, shR_19, shR_20, shR_21, shR_22, shR_23, rrR_0_0, rrR_0_1, rrR_0_5, rrR_0_7, rrR_0_8, rrR_0_9, rrR_0_10, rrR_0_11, rrR_0_12, rrR_0_13, rrR_0_14, rrR_0_15, rrR_0_16, rrR_0_18, rrR_0_19, rrR_0_20, rrR_0_21, rrR_0_22, rrR_0_23, rrR_0_24, rrR_0_25, rrR_0_26, rrR_0_27, mR_1, mR_2, mR_3, mR_4, mR_p0, mR_p1, mR_a0, mR_a1, mR_a2, mR_g0, mR_g1, mR_d0, mR_d1, gd_some, is_some, la_some]; try simp only [mzcmp, mzcml, mzz01, it_ne0, it_eq0, it_eq1, eq_10, eq_20, eq_21, eq_01, eq_self, Classical.not_not, if_true, if_false, not_true_eq_false, not_false_eq_true, ite_true, ite_false, reduceIte, decide_eq_true_eq, Bool.and_eq_true, Bool.or_eq_true, Bool.not_eq_true, decide_eq_false_iff_not, true_and, and_true, implies_true]
  rw [m1.2.1, m1.1, w1.1]
  exact hK I1 e1
set_option maxRecDepth 10000 in
theorem r_count (I : Nat → Nat → Int32) (L : Nat → Nat → Int64) (K : Value → mzM → Prop) {n0 n1 : Nat} (hb : rbT I n0 n1) (what : Int32) (hK : ∀ I', eqx fD I I' → K (.int (ansCt I n0 n1 what)) (mR I' L)) : mzdo M_X8_count [.ref 0, .int what] (mR I L) K := by
  simp only [M_X8_count, w_mk, B_X8_count, w_gI, w_gJ, w_gR, w_gB, w_gV, w_gcV, w_gcS, w_g1, w_g2, w_gq, w_bcmp, w_bif0, w_band, w_bor, w_bnot, w_sskip, w_sseq, w_sset, w_sinc, w_sret, w_sretZ, w_sretv, w_sbrk, w_scnt, w_sif, w_sif1, w_sloop, w_sput, w_sputop, w_sast, w_sastop, w_sastI, w_sastJ, w_sputI, w_sputJ, w_scV, w_scS, w_spop, w_ssw, mzfi, mzfl, mzfs, mzf1il, mzf1li, mzf1ii, e_iK, e_iKc, e_iKw, e_jK, e_jKc, e_rN, e_iL, e_jL, e_rL, e_iadd, e_isub, e_imul, e_iand, e_ior, e_ishl, e_ishr, e_iushr, e_idiv, e_irem, e_jadd, e_jsub, e_jmul, e_jand, e_jor, e_jxor, e_jdiv, e_jrem, e_jshl, e_jushr, e_i2j, e_j2i, e_i2b, e_i2s, e_iF, e_jF, e_rF, e_iA, e_jA, e_zA, e_rA, e_ilen, e_iU, e_ccmp, e_cif0, e_ccml, e_cnul, e_cand, e_cor, e_cnot, e_iq, e_jq, e_rq, e_icV, e_icS, e_jcV, e_jcS, e_rcV, e_rcS, e_vI, e_vJ, e_vR, o_iK, o_iKc, o_iKw, o_jK, o_jKc, o_rN, o_iL, o_jL, o_rL, o_iadd, o_isub, o_imul, o_iand, o_ior, o_ishl, o_ishr, o_iushr, o_idiv, o_irem, o_jadd, o_jsub, o_jmul, o_jand, o_jor, o_jxor, o_jdiv, o_jrem, o_jshl, o_jushr, o_i2j, o_j2i, o_i2b, o_i2s, o_iF, o_jF, o_rF, o_iA, o_jA, o_zA, o_rA, o_ilen, o_iU, o_ccmp, o_cif0, o_ccml, o_cnul, o_cand, o_cor, o_cnot, o_iq, o_jq, o_rq, o_icV, o_icS, o_jcV, o_jcS, o_rcV, o_rcS, o_vI, o_vJ, o_vR, mzwV, mzwS, mzwas, w_do, mzini, a_nil, a_int, a_long, a_ref, a_null, st_int, st_ref, st_null, st_long, kl_0, kl_s, rf_some, rf_none, List.length_cons, List.length_nil, Nat.reduceAdd, Nat.reduceSub, Nat.reduceLeDiff, List.replicate_succ, List.replicate_zero, List.cons_append, List.nil_append, List.append_nil, mzgi, mzgio, mzgj, mzgjo, mzgr, mzgro, List.getElem?_cons_succ, List.getElem?_cons_zero, List.set_cons_succ, List.set_cons_zero, true_and, and_true, Nat.le_refl, Nat.sub_self, implies_true, Bool.and_eq_true, Bool.or_eq_true, decide_eq_true_eq, Bool.not_eq_true, Bool.not_eq_false, Bool.not_eq_eq_eq_not, Bool.not_true, Bool.not_false, decide_eq_false_iff_not, Bool.and_eq_false_iff, Bool.or_eq_false_iff, in_0_2, in_1_2, mzevs, mzoks, mzrc, e_pfi_I, e_pfj_I, e_pfr_I, e_po_I, e_pfi_II, e_pfj_II, e_pfr_II, e_po_II, e_pfi_III, e_pfj_III, e_pfr_III, e_po_III, e_pfi_IIII, e_pfj_IIII, e_pfr_IIII, e_po_IIII, e_pfi_IIIII, e_pfj_IIIII, e_pfr_IIIII, e_po_IIIII, e_pfi_R, e_pfj_R, e_pfr_R, e_po_R, e_pfi_RI, e_pfj_RI, e_pfr_RI, e_po_RI, e_pfi_RII, e_pfj_RII, e_pfr_RII, e_po_RII, e_pfi_RIII, e_pfj_RIII, e_pfr_RIII, e_po_RIII, e_pfi_RIIII, e_pfj_RIIII, e_pfr_RIIII, e_po_RIIII, e_pfi_RIIIII, e_pfj_RIIIII, e_pfr_RIIIII, e_po_RIIIII, e_pfi_JI, e_pfj_JI, e_pfr_JI, e_po_JI, e_pfi_JJ, e_pfj_JJ, e_pfr_JJ, e_po_JJ, e_pfi_RJ, e_pfj_RJ, e_pfr_RJ, e_po_RJ, e_pfi_RJI, e_pfj_RJI, e_pfr_RJI, e_po_RJI, e_pfi_RJJJ, e_pfj_RJJJ, e_pfr_RJJJ, e_po_RJJJ, e_pfi_RJIJ, e_pfj_RJIJ, e_pfr_RJIJ, e_po_RJIJ, e_pfi_RIIIJ, e_pfj_RIIIJ, e_pfr_RIIIJ, e_po_RIIIJ, e_pfi_J, e_pfj_J, e_pfr_J, e_po_J, e_pfi_RR, e_pfj_RR, e_pfr_RR, e_po_RR, e_pfi_RRI, e_pfj_RRI, e_pfr_RRI, e_po_RRI, e_pfi_RRII, e_pfj_RRII, e_pfr_RRII, e_po_RRII, e_pfi_RRIII, e_pfj_RRIII, e_pfr_RRIII, e_po_RRIII, e_pfi_RIJ, e_pfj_RIJ, e_pfr_RIJ, e_po_RIJ, e_X8_in, o_X8_in, e_X8_isIn, o_X8_isIn, e_X8_isText, o_X8_isText, e_X8_isStep, o_X8_isStep, e_X8_isSheet, o_X8_isSheet, e_X8_kindOf, o_X8_kindOf, e_X8_headOf, o_X8_headOf, e_X8_handOf, o_X8_handOf, e_X8_ones, o_X8_ones, e_X8_tries, o_X8_tries, e_X8_no, o_X8_no, e_X8_byteAt, o_X8_byteAt, e_X8_isPlace, o_X8_isPlace, e_X8_beside, o_X8_beside, e_X8_isAnywhere, o_X8_isAnywhere, e_X8_ofRow, o_X8_ofRow, e_X8_lacks, o_X8_lacks, shR_0, shR_1, shR_2, shR_3, shR_4, shR_5, shR_6, shR_7, shR_8, shR_9, shR_10, shR_11, shR_12, shR_13, shR_14, shR_15, shR_16, shR_17, shR_18, shR_19, shR_20, shR_21, shR_22, shR_23, rrR_0_0, rrR_0_1, rrR_0_5, rrR_0_7, rrR_0_8, rrR_0_9, rrR_0_10, rrR_0_11, rrR_0_12, rrR_0_13, rrR_0_14, rrR_0_15, rrR_0_16, rrR_0_18, rrR_0_19, rrR_0_20, rrR_0_21, rrR_0_22, rrR_0_23, rrR_0_24, rrR_0_25, rrR_0_26, rrR_0_27, mR_1, mR_2, mR_3, mR_4, mR_p0, mR_p1, mR_a0, mR_a1, mR_a2, mR_g0, mR_g1, mR_d0, mR_d1, gd_some, is_some, la_some]; try simp only [mzcmp, mzcml, mzz01, it_ne0, it_eq0, it_eq1, eq_10, eq_20, eq_21, eq_01, eq_self, Classical.not_not, if_true, if_false, not_true_eq_false, not_false_eq_true, ite_true, ite_false, reduceIte, decide_eq_true_eq, Bool.and_eq_true, Bool.or_eq_true, Bool.not_eq_true, decide_eq_false_iff_not, true_and, and_true, implies_true]
  simp only [mzwsw, w_gI, w_gJ, w_gR, w_gB, w_gV, w_gcV, w_gcS, w_g1, w_g2, w_gq, w_bcmp, w_bif0, w_band, w_bor, w_bnot, w_sskip, w_sseq, w_sset, w_sinc, w_sret, w_sretZ, w_sretv, w_sbrk, w_scnt, w_sif, w_sif1, w_sloop, w_sput, w_sputop, w_sast, w_sastop, w_sastI, w_sastJ, w_sputI, w_sputJ, w_scV, w_scS, w_spop, w_ssw, mzfi, mzfl, mzfs, mzf1il, mzf1li, mzf1ii, e_iK, e_iKc, e_iKw, e_jK, e_jKc, e_rN, e_iL, e_jL, e_rL, e_iadd, e_isub, e_imul, e_iand, e_ior, e_ishl, e_ishr, e_iushr, e_idiv, e_irem, e_jadd, e_jsub, e_jmul, e_jand, e_jor, e_jxor, e_jdiv, e_jrem, e_jshl, e_jushr, e_i2j, e_j2i, e_i2b, e_i2s, e_iF, e_jF, e_rF, e_iA, e_jA, e_zA, e_rA, e_ilen, e_iU, e_ccmp, e_cif0, e_ccml, e_cnul, e_cand, e_cor, e_cnot, e_iq, e_jq, e_rq, e_icV, e_icS, e_jcV, e_jcS, e_rcV, e_rcS, e_vI, e_vJ, e_vR, o_iK, o_iKc, o_iKw, o_jK, o_jKc, o_rN, o_iL, o_jL, o_rL, o_iadd, o_isub, o_imul, o_iand, o_ior, o_ishl, o_ishr, o_iushr, o_idiv, o_irem, o_jadd, o_jsub, o_jmul, o_jand, o_jor, o_jxor, o_jdiv, o_jrem, o_jshl, o_jushr, o_i2j, o_j2i, o_i2b, o_i2s, o_iF, o_jF, o_rF, o_iA, o_jA, o_zA, o_rA, o_ilen, o_iU, o_ccmp, o_cif0, o_ccml, o_cnul, o_cand, o_cor, o_cnot, o_iq, o_jq, o_rq, o_icV, o_icS, o_jcV, o_jcS, o_rcV, o_rcS, o_vI, o_vJ, o_vR, mzwV, mzwS, mzwas, w_do, mzini, a_nil, a_int, a_long, a_ref, a_null, st_int, st_ref, st_null, st_long, kl_0, kl_s, rf_some, rf_none, List.length_cons, List.length_nil, Nat.reduceAdd, Nat.reduceSub, Nat.reduceLeDiff, List.replicate_succ, List.replicate_zero, List.cons_append, List.nil_append, List.append_nil, mzgi, mzgio, mzgj, mzgjo, mzgr, mzgro, List.getElem?_cons_succ, List.getElem?_cons_zero, List.set_cons_succ, List.set_cons_zero, true_and, and_true, Nat.le_refl, Nat.sub_self, implies_true, Bool.and_eq_true, Bool.or_eq_true, decide_eq_true_eq, Bool.not_eq_true, Bool.not_eq_false, Bool.not_eq_eq_eq_not, Bool.not_true, Bool.not_false, decide_eq_false_iff_not, Bool.and_eq_false_iff, Bool.or_eq_false_iff, in_0_2, in_1_2, mzevs, mzoks, mzrc, e_pfi_I, e_pfj_I, e_pfr_I, e_po_I, e_pfi_II, e_pfj_II, e_pfr_II, e_po_II, e_pfi_III, e_pfj_III, e_pfr_III, e_po_III, e_pfi_IIII, e_pfj_IIII, e_pfr_IIII, e_po_IIII, e_pfi_IIIII, e_pfj_IIIII, e_pfr_IIIII, e_po_IIIII, e_pfi_R, e_pfj_R, e_pfr_R, e_po_R, e_pfi_RI, e_pfj_RI, e_pfr_RI, e_po_RI, e_pfi_RII, e_pfj_RII, e_pfr_RII, e_po_RII, e_pfi_RIII, e_pfj_RIII, e_pfr_RIII, e_po_RIII, e_pfi_RIIII, e_pfj_RIIII, e_pfr_RIIII, e_po_RIIII, e_pfi_RIIIII, e_pfj_RIIIII, e_pfr_RIIIII, e_po_RIIIII, e_pfi_JI, e_pfj_JI, e_pfr_JI, e_po_JI, e_pfi_JJ, e_pfj_JJ, e_pfr_JJ, e_po_JJ, e_pfi_RJ, e_pfj_RJ, e_pfr_RJ, e_po_RJ, e_pfi_RJI, e_pfj_RJI, e_pfr_RJI, e_po_RJI, e_pfi_RJJJ, e_pfj_RJJJ, e_pfr_RJJJ, e_po_RJJJ, e_pfi_RJIJ, e_pfj_RJIJ, e_pfr_RJIJ, e_po_RJIJ, e_pfi_RIIIJ, e_pfj_RIIIJ, e_pfr_RIIIJ, e_po_RIIIJ, e_pfi_J, e_pfj_J, e_pfr_J, e_po_J, e_pfi_RR, e_pfj_RR, e_pfr_RR, e_po_RR, e_pfi_RRI, e_pfj_RRI, e_pfr_RRI, e_po_RRI, e_pfi_RRII, e_pfj_RRII, e_pfr_RRII, e_po_RRII, e_pfi_RRIII, e_pfj_RRIII, e_pfr_RRIII, e_po_RRIII, e_pfi_RIJ, e_pfj_RIJ, e_pfr_RIJ, e_po_RIJ, e_X8_in, o_X8_in, e_X8_isIn, o_X8_isIn, e_X8_isText, o_X8_isText, e_X8_isStep, o_X8_isStep, e_X8_isSheet, o_X8_isSheet, e_X8_kindOf, o_X8_kindOf, e_X8_headOf, o_X8_headOf, e_X8_handOf, o_X8_handOf, e_X8_ones, o_X8_ones, e_X8_tries, o_X8_tries, e_X8_no, o_X8_no, e_X8_byteAt, o_X8_byteAt, e_X8_isPlace, o_X8_isPlace, e_X8_beside, o_X8_beside, e_X8_isAnywhere, o_X8_isAnywhere, e_X8_ofRow, o_X8_ofRow, e_X8_lacks, o_X8_lacks, shR_0, shR_1, shR_2, shR_3, shR_4, shR_5, shR_6, shR_7, shR_8, shR_9, shR_10, shR_11, shR_12, shR_13, shR_14, shR_15, shR_16, shR_17, shR_18, shR_19, shR_20, shR_21, shR_22, shR_23, rrR_0_0, rrR_0_1, rrR_0_5, rrR_0_7, rrR_0_8, rrR_0_9, rrR_0_10, rrR_0_11, rrR_0_12, rrR_0_13, rrR_0_14, rrR_0_15, rrR_0_16, rrR_0_18, rrR_0_19, rrR_0_20, rrR_0_21, rrR_0_22, rrR_0_23, rrR_0_24, rrR_0_25, rrR_0_26, rrR_0_27, mR_1, mR_2, mR_3, mR_4, mR_p0, mR_p1, mR_a0, mR_a1, mR_a2, mR_g0, mR_g1, mR_d0, mR_d1, gd_some, is_some, la_some]; try simp only [mzcmp, mzcml, mzz01, it_ne0, it_eq0, it_eq1, eq_10, eq_20, eq_21, eq_01, eq_self, Classical.not_not, if_true, if_false, not_true_eq_false, not_false_eq_true, ite_true, ite_false, reduceIte, decide_eq_true_eq, Bool.and_eq_true, Bool.or_eq_true, Bool.not_eq_true, decide_eq_false_iff_not, true_and, and_true, implies_true]
  have hk := hK I eqx_rf
  unfold ansCt at hK hk
  refine ⟨fun h => ?_, fun n0' => ⟨fun h => ?_, fun n1' => ⟨fun h => ?_, fun n2' => ⟨fun h => ?_, fun n3' => ⟨fun h => ?_, fun n4' => ⟨fun h => ?_, fun n5' => ⟨fun h => ?_, fun n6' => ⟨fun h => ?_, fun n7' => ⟨fun h => ?_, fun n8' => ?_⟩⟩⟩⟩⟩⟩⟩⟩⟩
  · subst h
    exact r_sumOf I L K hb _ (fun I1 e1 => hK I1 e1)
  · subst h
    exact r_sumOf I L K hb _ (fun I1 e1 => hK I1 e1)
  · subst h
    exact r_sumOf I L K hb _ (fun I1 e1 => hK I1 e1)
  · subst h
    exact ⟨by unfold vp_in; decide, hk⟩
  · subst h
    exact ⟨by unfold vp_in; decide, hk⟩
  · subst h
    exact ⟨by unfold vp_in; decide, hk⟩
  · subst h
    exact ⟨by unfold vp_in; decide, hk⟩
  · subst h
    exact hk
  · subst h
    exact hk
  · rw [if_neg n0', if_neg n1', if_neg n2', if_neg n3', if_neg n4', if_neg n5', if_neg n6', if_neg n7', if_neg n8'] at hk
    exact hk
def Lc1_X8_childOf : mzB1 :=
  (gB (ccmp .lt (iL 8) (iL 3)))
def Lb1_X8_childOf : mzT1 :=
  (sseq (sset 5 (gI (iadd (imul (iKw kc_8_265) (iL 5)) (iK 12345))))
  (sseq (sset 9 (gI (irem (iushr (iL 5) (iK 16)) (iK 4))))
  (sif1 (gB (cif0 .ne (icS P_X8_isIn lkS_8_147 yp_X8_isIn [(vI (iA (rF lkF_8_40 (by decide) (rL 0)) (iadd (imul (iK 36) (iL 8)) (iL 6)))), (vI (iL 9))]))) 64
  (sseq (sset 6 (gI (icV P_X8_beside lkV_8_170 yp_X8_beside [(vR (rL 0)), (vI (iL 6)), (vI (iL 9))])))
  (sinc 7 1)))))
def Ls1_X8_childOf : mzT1 :=
  (sinc 8 1)
def Lt1_X8_childOf : mzT1 :=
  (sret (gI (iq 88 93 (cif0 .eq (iL 4)) (iL 6) (iL 7))))
def Lt2_X8_childOf : mzT1 :=
  (sseq (sset 5 (gI (iL 1)))
  (sseq (sset 6 (gI (iL 2)))
  (sseq (sset 7 (gI (iK 0)))
  (sseq (sset 8 (gI (iK 0)))
  (sseq (sloop Lc1_X8_childOf 22 Lb1_X8_childOf 77 Ls1_X8_childOf 83)
  Lt1_X8_childOf)))))
def B_X8_childOf : mzT1 :=
  (sseq (scV M_X8_lays lkV_8_157 ym_X8_lays [(gR (rL 0))])
  Lt2_X8_childOf)
theorem ok_X8_childOf : mzok1 yX8_childOf cX8_childOf 8 10 (some .int) 5 117 1 B_X8_childOf := ⟨by decide +kernel, mzT_at 1182 (by decide +kernel) rfl, by decide, rfl, rfl, rfl⟩
def M_X8_childOf : mzMt := mzmk yX8_childOf cX8_childOf 8 10 (some .int) 5 117 1 B_X8_childOf ok_X8_childOf
theorem ym_X8_childOf : M_X8_childOf.1.1 = yX8_childOf := rfl

def B_X8_child : mzT1 :=
  (sret (gq 28 40 (band 18 (band 8 (bif0 .ne (gcV M_X8_isDay lkV_8_160 ym_X8_isDay (by decide) [(gR (rL 0)), (gI (iL 2))])) (gB (cif0 .ne (icS P_X8_in lkS_8_83 yp_X8_in [(vI (iL 3)), (vI (iK 1)), (vI (iK 99))])))) (gB (cif0 .ne (icS P_X8_in lkS_8_83 yp_X8_in [(vI (iL 4)), (vI (iK 0)), (vI (iK 1))])))) (gcV M_X8_childOf lkV_8_266 ym_X8_childOf (by decide) [(gR (rL 0)), (gI (iL 1)), (gI (iL 2)), (gI (iL 3)), (gI (iL 4))]) (gI (iK (-2)))))
theorem ok_X8_child : mzok1 yX8_child cX8_child 8 5 (some .int) 6 146 1 B_X8_child := ⟨by decide +kernel, mzT_at 1178 (by decide +kernel) rfl, by decide, rfl, rfl, rfl⟩
def M_X8_child : mzMt := mzmk yX8_child cX8_child 8 5 (some .int) 6 146 1 B_X8_child ok_X8_child
theorem ym_X8_child : M_X8_child.1.1 = yX8_child := rfl

def Lc1_X8_trodOf : mzB1 :=
  (gB (cand 36 (ccmp .le (iL 6) (iL 1)) (ccmp .ne (iL 5) (iK (-1)))))
def Lb1_X8_trodOf : mzT1 :=
  (sseq (sset 3 (gI (ior (iL 3) (iq 54 66 (ccmp .eq (idiv (idiv (iL 5) (iK 4)) (iK 18)) (iL 2)) (ishl (iK 1) (irem (idiv (iL 5) (iK 4)) (iK 18))) (iK 0)))))
  (sset 5 (gcV M_X8_goes lkV_8_173 ym_X8_goes (by decide) [(gR (rL 0)), (gI (iL 5)), (gI (iA (rF lkF_8_25 (by decide) (rL 0)) (iL 4))), (gI (iL 6))])))
def Ls1_X8_trodOf : mzT1 :=
  (sinc 6 1)
def Lt1_X8_trodOf : mzT1 :=
  (sseq (sset 6 (gI (iK 0)))
  (sloop Lc1_X8_trodOf 42 Lb1_X8_trodOf 86 Ls1_X8_trodOf 92))
def Lc2_X8_trodOf : mzB1 :=
  (gB (ccmp .lt (iL 4) (iF lkF_8_114 (by decide) (rL 0))))
def Lb2_X8_trodOf : mzT1 :=
  (sseq (sset 5 (gcV M_X8_state lkV_8_182 ym_X8_state (by decide) [(gR (rL 0)), (gI (iL 4)), (gI (iK 0))]))
  Lt1_X8_trodOf)
def Ls2_X8_trodOf : mzT1 :=
  (sinc 4 1)
def Lt2_X8_trodOf : mzT1 :=
  (sret (gI (iL 3)))
def Lt3_X8_trodOf : mzT1 :=
  (sseq (sset 3 (gI (iK 0)))
  (sseq (sset 4 (gI (iK 0)))
  (sseq (sloop Lc2_X8_trodOf 18 Lb2_X8_trodOf 92 Ls2_X8_trodOf 98)
  Lt2_X8_trodOf)))
def B_X8_trodOf : mzT1 :=
  (sseq (scV M_X8_lays lkV_8_157 ym_X8_lays [(gR (rL 0))])
  Lt3_X8_trodOf)
theorem ok_X8_trodOf : mzok1 yX8_trodOf cX8_trodOf 8 7 (some .int) 5 117 1 B_X8_trodOf := ⟨by decide +kernel, mzT_at 1058 (by decide +kernel) rfl, by decide, rfl, rfl, rfl⟩
def M_X8_trodOf : mzMt := mzmk yX8_trodOf cX8_trodOf 8 7 (some .int) 5 117 1 B_X8_trodOf ok_X8_trodOf
theorem ym_X8_trodOf : M_X8_trodOf.1.1 = yX8_trodOf := rfl

def B_X8_trod : mzT1 :=
  (sret (gq 16 25 (gB (cand 7 (cif0 .ne (icS P_X8_isStep lkS_8_134 yp_X8_isStep [(vI (iL 1))])) (cif0 .ne (icS P_X8_in lkS_8_83 yp_X8_in [(vI (iL 2)), (vI (iK 0)), (vI (iK 1))])))) (gcV M_X8_trodOf lkV_8_197 ym_X8_trodOf (by decide) [(gR (rL 0)), (gI (iL 1)), (gI (iL 2))]) (gI (iK (-2)))))
theorem ok_X8_trod : mzok1 yX8_trod cX8_trod 8 3 (some .int) 6 143 1 B_X8_trod := ⟨by decide +kernel, mzT_at 1054 (by decide +kernel) rfl, by decide, rfl, rfl, rfl⟩
def M_X8_trod : mzMt := mzmk yX8_trod cX8_trod 8 3 (some .int) 6 143 1 B_X8_trod ok_X8_trod
theorem ym_X8_trod : M_X8_trod.1.1 = yX8_trod := rfl

def Lc1_X8_roundOf : mzB1 :=
  (gB (ccmp .lt (iL 3) (iK 150)))
def Lb1_X8_roundOf : mzT1 :=
  (sset 2 (gcV M_X8_goes lkV_8_173 ym_X8_goes (by decide) [(gR (rL 0)), (gI (iL 2)), (gI (iA (rF lkF_8_25 (by decide) (rL 0)) (iL 1))), (gI (iK 99))]))
def Ls1_X8_roundOf : mzT1 :=
  (sinc 3 1)
def Lt1_X8_roundOf : mzT1 :=
  (sinc 3 1)
def Lc2_X8_roundOf : mzB1 :=
  (gB (cand 71 (ccmp .ne (iL 4) (iL 2)) (ccmp .lt (iL 3) (iK 1000))))
def Lb2_X8_roundOf : mzT1 :=
  (sseq (sset 4 (gcV M_X8_goes lkV_8_173 ym_X8_goes (by decide) [(gR (rL 0)), (gI (iL 4)), (gI (iA (rF lkF_8_25 (by decide) (rL 0)) (iL 1))), (gI (iK 99))]))
  Lt1_X8_roundOf)
def Ls2_X8_roundOf : mzT1 :=
  sskip
def Lt2_X8_roundOf : mzT1 :=
  (sret (gI (iL 3)))
def Lt3_X8_roundOf : mzT1 :=
  (sseq (sloop Lc2_X8_roundOf 78 Lb2_X8_roundOf 65 Ls2_X8_roundOf 100)
  Lt2_X8_roundOf)
def Lt4_X8_roundOf : mzT1 :=
  (sseq (sset 3 (gI (iK 1)))
  (sseq (sset 4 (gcV M_X8_goes lkV_8_173 ym_X8_goes (by decide) [(gR (rL 0)), (gI (iL 2)), (gI (iA (rF lkF_8_25 (by decide) (rL 0)) (iL 1))), (gI (iK 99))]))
  Lt3_X8_roundOf))
def Lt5_X8_roundOf : mzT1 :=
  (sseq (sif1 (gB (ccmp .eq (iL 2) (iK (-1)))) 17
  (sret (gI (iK (-1)))))
  (sseq (sset 3 (gI (iK 0)))
  (sseq (sloop Lc1_X8_roundOf 28 Lb1_X8_roundOf 42 Ls1_X8_roundOf 48)
  Lt4_X8_roundOf)))
def Lt6_X8_roundOf : mzT1 :=
  (sseq (sset 2 (gcV M_X8_state lkV_8_182 ym_X8_state (by decide) [(gR (rL 0)), (gI (iL 1)), (gI (iK 99))]))
  Lt5_X8_roundOf)
def B_X8_roundOf : mzT1 :=
  (sseq (scV M_X8_lays lkV_8_157 ym_X8_lays [(gR (rL 0))])
  Lt6_X8_roundOf)
theorem ok_X8_roundOf : mzok1 yX8_roundOf cX8_roundOf 8 5 (some .int) 5 117 1 B_X8_roundOf := ⟨by decide +kernel, mzT_at 1050 (by decide +kernel) rfl, by decide, rfl, rfl, rfl⟩
def M_X8_roundOf : mzMt := mzmk yX8_roundOf cX8_roundOf 8 5 (some .int) 5 117 1 B_X8_roundOf ok_X8_roundOf
theorem ym_X8_roundOf : M_X8_roundOf.1.1 = yX8_roundOf := rfl

def B_X8_round : mzT1 :=
  (sret (gq 8 16 (bif0 .ne (gcV M_X8_isWalker lkV_8_131 ym_X8_isWalker (by decide) [(gR (rL 0)), (gI (iL 1))])) (gcV M_X8_roundOf lkV_8_194 ym_X8_roundOf (by decide) [(gR (rL 0)), (gI (iL 1))]) (gI (iK (-2)))))
theorem ok_X8_round : mzok1 yX8_round cX8_round 8 2 (some .int) 6 141 1 B_X8_round := ⟨by decide +kernel, mzT_at 1046 (by decide +kernel) rfl, by decide, rfl, rfl, rfl⟩
def M_X8_round : mzMt := mzmk yX8_round cX8_round 8 2 (some .int) 6 141 1 B_X8_round ok_X8_round
theorem ym_X8_round : M_X8_round.1.1 = yX8_round := rfl

