/-! the reference: hear, its answer -/
def ansHr (I : Nat → Nat → Int32) (n0 : Nat) (s a b : Int32) : Int32 := a3 (ix 100 s) (ix (mzq (I 2) n0).2.2.1 a) (ix (mzq (I 2) n0).2.2.1 b) (fun s a b => hrV (opX I n0) (mzq (I 2) n0).1 (mzq (I 2) n0).2.1 s (if a < b then a else b) (if a < b then b else a))
set_option maxRecDepth 10000 in
theorem r_hear (I : Nat → Nat → Int32) (L : Nat → Nat → Int64) (K : Value → mzM → Prop) {n0 n1 : Nat} (hb : rbT I n0 n1) (s a b : Int32) (hK : ∀ I', eqx fD I I' → K (.int (ansHr I n0 s a b)) (mR I' L)) : mzdo M_X8_hear [.ref 0, .int s, .int a, .int b] (mR I L) K := by
  simp only [M_X8_hear, w_mk, B_X8_hear, w_gI, w_gJ, w_gR, w_gB, w_gV, w_gcV, w_gcS, w_g1, w_g2, w_gq, w_bcmp, w_bif0, w_band, w_bor, w_bnot, w_sskip, w_sseq, w_sset, w_sinc, w_sret, w_sretZ, w_sretv, w_sbrk, w_scnt, w_sif, w_sif1, w_sloop, w_sput, w_sputop, w_sast, w_sastop, w_sastI, w_sastJ, w_sputI, w_sputJ, w_scV, w_scS, w_spop, w_ssw, mzfi, mzfl, mzfs, mzf1il, mzf1li, mzf1ii, e_iK, e_iKc, e_iKw, e_jK, e_jKc, e_rN, e_iL, e_jL, e_rL, e_iadd, e_isub, e_imul, e_iand, e_ior, e_ishl, e_ishr, e_iushr, e_idiv, e_irem, e_jadd, e_jsub, e_jmul, e_jand, e_jor, e_jxor, e_jdiv, e_jrem, e_jshl, e_jushr, e_i2j, e_j2i, e_i2b, e_i2s, e_iF, e_jF, e_rF, e_iA, e_jA, e_zA, e_rA, e_ilen, e_iU, e_ccmp, e_cif0, e_ccml, e_cnul, e_cand, e_cor, e_cnot, e_iq, e_jq, e_rq, e_icV, e_icS, e_jcV, e_jcS, e_rcV, e_rcS, e_vI, e_vJ, e_vR, o_iK, o_iKc, o_iKw, o_jK, o_jKc, o_rN, o_iL, o_jL, o_rL, o_iadd, o_isub, o_imul, o_iand, o_ior, o_ishl, o_ishr, o_iushr, o_idiv, o_irem, o_jadd, o_jsub, o_jmul, o_jand, o_jor, o_jxor, o_jdiv, o_jrem, o_jshl, o_jushr, o_i2j, o_j2i, o_i2b, o_i2s, o_iF, o_jF, o_rF, o_iA, o_jA, o_zA, o_rA, o_ilen, o_iU, o_ccmp, o_cif0, o_ccml, o_cnul, o_cand, o_cor, o_cnot, o_iq, o_jq, o_rq, o_icV, o_icS, o_jcV, o_jcS, o_rcV, o_rcS, o_vI, o_vJ, o_vR, mzwV, mzwS, mzwas, w_do, mzini, a_nil, a_int, a_long, a_ref, a_null, st_int, st_ref, st_null, st_long, kl_0, kl_s, rf_some, rf_none, List.length_cons, List.length_nil, Nat.reduceAdd, Nat.reduceSub, Nat.reduceLeDiff, List.replicate_succ, List.replicate_zero, List.cons_append, List.nil_append, List.append_nil, mzgi, mzgio, mzgj, mzgjo, mzgr, mzgro, List.getElem?_cons_succ, List.getElem?_cons_zero, List.set_cons_succ, List.set_cons_zero, true_and, and_true, Nat.le_refl, Nat.sub_self, implies_true, Bool.and_eq_true, Bool.or_eq_true, decide_eq_true_eq, Bool.not_eq_true, Bool.not_eq_false, Bool.not_eq_eq_eq_not, Bool.not_true, Bool.not_false, decide_eq_false_iff_not, Bool.and_eq_false_iff, Bool.or_eq_false_iff, in_0_2, in_1_2, mzevs, mzoks, mzrc, e_pfi_I, e_pfj_I, e_pfr_I, e_po_I, e_pfi_II, e_pfj_II, e_pfr_II, e_po_II, e_pfi_III, e_pfj_III, e_pfr_III, e_po_III, e_pfi_IIII, e_pfj_IIII, e_pfr_IIII, e_po_IIII, e_pfi_IIIII, e_pfj_IIIII, e_pfr_IIIII, e_po_IIIII, e_pfi_R, e_pfj_R, e_pfr_R, e_po_R, e_pfi_RI, e_pfj_RI, e_pfr_RI, e_po_RI, e_pfi_RII, e_pfj_RII, e_pfr_RII, e_po_RII, e_pfi_RIII, e_pfj_RIII, e_pfr_RIII, e_po_RIII, e_pfi_RIIII, e_pfj_RIIII, e_pfr_RIIII, e_po_RIIII, e_pfi_RIIIII, e_pfj_RIIIII, e_pfr_RIIIII, e_po_RIIIII, e_pfi_JI, e_pfj_JI, e_pfr_JI, e_po_JI, e_pfi_JJ, e_pfj_JJ, e_pfr_JJ, e_po_JJ, e_pfi_RJ, e_pfj_RJ, e_pfr_RJ, e_po_RJ, e_pfi_RJI, e_pfj_RJI, e_pfr_RJI, e_po_RJI, e_pfi_RJJJ, e_pfj_RJJJ, e_pfr_RJJJ, e_po_RJJJ, e_pfi_RJIJ, e_pfj_RJIJ, e_pfr_RJIJ, e_po_RJIJ, e_pfi_RIIIJ, e_pfj_RIIIJ, e_pfr_RIIIJ, e_po_RIIIJ, e_pfi_J, e_pfj_J, e_pfr_J, e_po_J, e_pfi_RR, e_pfj_RR, e_pfr_RR, e_po_RR, e_pfi_RRI, e_pfj_RRI, e_pfr_RRI, e_po_RRI, e_pfi_RRII, e_pfj_RRII, e_pfr_RRII, e_po_RRII, e_pfi_RRIII, e_pfj_RRIII, e_pfr_RRIII, e_po_RRIII, e_pfi_RIJ, e_pfj_RIJ, e_pfr_RIJ, e_po_RIJ, e_X8_in, o_X8_in, e_X8_isIn, o_X8_isIn, e_X8_isText, o_X8_isText, e_X8_isStep, o_X8_isStep, e_X8_isSheet, o_X8_isSheet, e_X8_kindOf, o_X8_kindOf, e_X8_headOf, o_X8_headOf, e_X8_handOf, o_X8_handOf, e_X8_ones, o_X8_ones, e_X8_tries, o_X8_tries, e_X8_no, o_X8_no, e_X8_byteAt, o_X8_byteAt, e_X8_isPlace, o_X8_isPlace, e_X8_beside, o_X8_beside, e_X8_isAnywhere, o_X8_isAnywhere, e_X8_ofRow, o_X8_ofRow, e_X8_lacks, o_X8_lacks, shR_0, shR_1, shR_2, shR_3, shR_4, shR_5, shR_6, shR_7, shR_8, shR_9, shR_10, shR_11, shR_12, shR_13, shR_14, shR_15, shR_16, shR_17, shR_18, shR_19, shR_20, shR_21, shR_22, shR_23, rrR_0_0, rrR_0_1, rrR_0_5, rrR_0_7, rrR_0_8, rrR_0_9, rrR_0_10, rrR_0_11, rrR_0_12, rrR_0_13, rrR_0_14, rrR_0_15, rrR_0_16, rrR_0_18, rrR_0_19, rrR_0_20, rrR_0_21, rrR_0_22, rrR_0_23, rrR_0_24, rrR_0_25, rrR_0_26, rrR_0_27, mR_1, mR_2, mR_3, mR_4, mR_p0, mR_p1, mR_a0, mR_a1, mR_a2, mR_g0, mR_g1, mR_d0, mR_d1, gd_some, is_some, la_some]; try simp only [mzcmp, mzcml, mzz01, it_ne0, it_eq0, it_eq1, eq_10, eq_20, eq_21, eq_01, eq_self, Classical.not_not, if_true, if_false, not_true_eq_false, not_false_eq_true, ite_true, ite_false, reduceIte, decide_eq_true_eq, Bool.and_eq_true, Bool.or_eq_true, Bool.not_eq_true, decide_eq_false_iff_not, true_and, and_true, implies_true]
  have h36 := mzq_36 (I 2) n0
  unfold ansHr at hK
  refine ⟨fun hs => ?_, fun hs => ?_⟩
  · obtain ⟨j, hj, rfl, jx⟩ := ix_in (by omega) hi_99 hs
    refine r_isDay I L _ a hb (fun I1 e1 m1 => ?_)
    have e1' := fM_base e1
    have kT : I1 2 = I 2 := rT_k e1'
    dsimp only
    rw [m1.2.1, it_ne0, it_eq0]
    refine ⟨fun hd => ⟨rfl, ?_⟩, fun hd => ?_⟩
    · obtain ⟨k, hk, rfl, kx⟩ := ix_in (by omega) (hi_sub _ (by omega)) hd
      refine r_isDay I1 L _ b (rbT_k hb e1') (fun I2 e2 m2 => ?_)
      have e2' := eqx_DD e1' (fM_base e2)
      have kT2 : I2 2 = I 2 := rT_k e2'
      dsimp only
      rw [m2.2.1, kT, it_ne0, it_eq0]
      refine ⟨fun hd2 => ⟨rfl, ?_⟩, fun hd2 => ?_⟩
      · obtain ⟨m, hm, rfl, mx⟩ := ix_in (by omega) (hi_sub _ (by omega)) hd2
        refine rx_hearOf I2 L K (rbT_k hb e2') j k m (if k < m then k else m) (if k < m then m else k) hj (by rw [kT2]; split <;> omega) (by rw [kT2]; split <;> omega) (by split <;> rfl) (by split <;> rfl) (by omega) (by omega) (fun I3 e3 => ?_)
        have := hK I3 (eqx_DD e2' e3)
        rw [jx, kx, mx] at this
        rw [opX_k e2', kT2]
        exact this
      · have := hK I2 e2'
        rw [ix_out (w := b) (by omega) (hi_sub _ (by omega)) hd2, a3_3] at this
        exact this
    · have := hK I1 e1'
      rw [ix_out (w := a) (by omega) (hi_sub _ (by omega)) hd, a3_2] at this
      exact this
  · have := hK I eqx_rf
    rw [ix_out (by omega) hi_99 hs, a3_1] at this
    exact this
