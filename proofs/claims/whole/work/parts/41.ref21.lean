/-! the reference: sheets, put and get -/
/-- the sizes of the sheets -/
def rbS (I : Nat → Nat → Int32) : Prop := ∀ s, s < 4 → ∃ n, n ≤ 60 ∧ I 21 s = nI n
def lkv (I : Nat → Nat → Int32) (k : Nat) (form i : Int32) : Int32 := if I 19 k = 0 then 1 else if ¬ I 20 k = form then 3 else if 0 ≤ i ∧ i ≤ I 21 k - 1 then 0 else 2
theorem lkv_0 {I : Nat → Nat → Int32} {k : Nat} {form i : Int32} (h : ¬ 0 < lkv I k form i) : lkv I k form i = 0 ∧ ¬ I 19 k = 0 ∧ I 20 k = form ∧ 0 ≤ i ∧ i ≤ I 21 k - 1 := by
  unfold lkv at h ⊢
  by_cases a : I 19 k = 0
  · rw [if_pos a] at h
    exact absurd (by decide) h
  · rw [if_neg a] at h ⊢
    by_cases b : ¬ I 20 k = form
    · rw [if_pos b] at h
      exact absurd (by decide) h
    · rw [if_neg b] at h ⊢
      by_cases c : 0 ≤ i ∧ i ≤ I 21 k - 1
      · rw [if_pos c] at h ⊢
        exact ⟨rfl, a, Decidable.not_not.mp b, c⟩
      · rw [if_neg c] at h
        exact absurd (by decide) h
theorem lkv_i {I : Nat → Nat → Int32} {k : Nat} {form i : Int32} (hs : rbS I) (hk : k < 4) (h : ¬ 0 < lkv I k form i) : ∃ j, j < 60 ∧ i = nI j ∧ ∃ n, n ≤ 60 ∧ j < n ∧ I 21 k = nI n := by
  obtain ⟨n, hn, e⟩ := hs k hk
  have g := (lkv_0 h).2.2.2
  rw [e] at g
  obtain ⟨j, hj, e1, _⟩ := ix_in (m := n) (by omega) (hi_sub n (by omega)) g
  exact ⟨j, by omega, e1, n, hn, hj, e⟩
set_option maxRecDepth 10000 in
theorem r_put (I : Nat → Nat → Int32) (L : Nat → Nat → Int64) (K : Value → mzM → Prop) (s form i v : Int32) (hs : rbS I)
    (hbad : ¬ ((0 ≤ s ∧ s ≤ 3) ∧ 0 ≤ form ∧ form ≤ 2) → K (.int (-2)) (mR I L))
    (hlack : ∀ k, k < 4 → s = nI k → (0 ≤ form ∧ form ≤ 2) → 0 < lkv I k form i → K (.int (-10 - lkv I k form i)) (mR (mzset I 0 28 (lkv I k form i)) L))
    (hok : ∀ k, k < 4 → s = nI k → (0 ≤ form ∧ form ≤ 2) → ¬ 0 < lkv I k form i → ∀ j, j < 60 → i = nI j → K (.int 1) (mR (mzset I 22 (60 * k + j) (kpv (I 20 k) v)) L)) : mzdo M_X8_put [.ref 0, .int s, .int form, .int i, .int v] (mR I L) K := by
  simp only [M_X8_put, w_mk, B_X8_put, w_gI, w_gJ, w_gR, w_gB, w_gV, w_gcV, w_gcS, w_g1, w_g2, w_gq, w_bcmp, w_bif0, w_band, w_bor, w_bnot, w_sskip, w_sseq, w_sset, w_sinc, w_sret, w_sretZ, w_sretv, w_sbrk, w_scnt, w_sif, w_sif1, w_sloop, w_sput, w_sputop, w_sast, w_sastop, w_sastI, w_sastJ, w_sputI, w_sputJ, w_scV, w_scS, w_spop, w_ssw, mzfi, mzfl, mzfs, mzf1il, mzf1li, mzf1ii, e_iK, e_iKc, e_iKw, e_jK, e_jKc, e_rN, e_iL, e_jL, e_rL, e_iadd, e_isub, e_imul, e_iand, e_ior, e_ishl, e_ishr, e_iushr, e_idiv, e_irem, e_jadd, e_jsub, e_jmul, e_jand, e_jor, e_jxor, e_jdiv, e_jrem, e_jshl, e_jushr, e_i2j, e_j2i, e_i2b, e_i2s, e_iF, e_jF, e_rF, e_iA, e_jA, e_zA, e_rA, e_ilen, e_iU, e_ccmp, e_cif0, e_ccml, e_cnul, e_cand, e_cor, e_cnot, e_iq, e_jq, e_rq, e_icV, e_icS, e_jcV, e_jcS, e_rcV, e_rcS, e_vI, e_vJ, e_vR, o_iK, o_iKc, o_iKw, o_jK, o_jKc, o_rN, o_iL, o_jL, o_rL, o_iadd, o_isub, o_imul, o_iand, o_ior, o_ishl, o_ishr, o_iushr, o_idiv, o_irem, o_jadd, o_jsub, o_jmul, o_jand, o_jor, o_jxor, o_jdiv, o_jrem, o_jshl, o_jushr, o_i2j, o_j2i, o_i2b, o_i2s, o_iF, o_jF, o_rF, o_iA, o_jA, o_zA, o_rA, o_ilen, o_iU, o_ccmp, o_cif0, o_ccml, o_cnul, o_cand, o_cor, o_cnot, o_iq, o_jq, o_rq, o_icV, o_icS, o_jcV, o_jcS, o_rcV, o_rcS, o_vI, o_vJ, o_vR, mzwV, mzwS, mzwas, w_do, mzini, a_nil, a_int, a_long, a_ref, a_null, st_int, st_ref, st_null, st_long, kl_0, kl_s, rf_some, rf_none, List.length_cons, List.length_nil, Nat.reduceAdd, Nat.reduceSub, Nat.reduceLeDiff, List.replicate_succ, List.replicate_zero, List.cons_append, List.nil_append, List.append_nil, mzgi, mzgio, mzgj, mzgjo, mzgr, mzgro, List.getElem?_cons_succ, List.getElem?_cons_zero, List.set_cons_succ, List.set_cons_zero, true_and, and_true, Nat.le_refl, Nat.sub_self, implies_true, Bool.and_eq_true, Bool.or_eq_true, decide_eq_true_eq, Bool.not_eq_true, Bool.not_eq_false, Bool.not_eq_eq_eq_not, Bool.not_true, Bool.not_false, decide_eq_false_iff_not, Bool.and_eq_false_iff, Bool.or_eq_false_iff, in_0_2, in_1_2, mzevs, mzoks, mzrc, e_pfi_I, e_pfj_I, e_pfr_I, e_po_I, e_pfi_II, e_pfj_II, e_pfr_II, e_po_II, e_pfi_III, e_pfj_III, e_pfr_III, e_po_III, e_pfi_IIII, e_pfj_IIII, e_pfr_IIII, e_po_IIII, e_pfi_IIIII, e_pfj_IIIII, e_pfr_IIIII, e_po_IIIII, e_pfi_R, e_pfj_R, e_pfr_R, e_po_R, e_pfi_RI, e_pfj_RI, e_pfr_RI, e_po_RI, e_pfi_RII, e_pfj_RII, e_pfr_RII, e_po_RII, e_pfi_RIII, e_pfj_RIII, e_pfr_RIII, e_po_RIII, e_pfi_RIIII, e_pfj_RIIII, e_pfr_RIIII, e_po_RIIII, e_pfi_RIIIII, e_pfj_RIIIII, e_pfr_RIIIII, e_po_RIIIII, e_pfi_JI, e_pfj_JI, e_pfr_JI, e_po_JI, e_pfi_JJ, e_pfj_JJ, e_pfr_JJ, e_po_JJ, e_pfi_RJ, e_pfj_RJ, e_pfr_RJ, e_po_RJ, e_pfi_RJI, e_pfj_RJI, e_pfr_RJI, e_po_RJI, e_pfi_RJJJ, e_pfj_RJJJ, e_pfr_RJJJ, e_po_RJJJ, e_pfi_RJIJ, e_pfj_RJIJ, e_pfr_RJIJ, e_po_RJIJ, e_pfi_RIIIJ, e_pfj_RIIIJ, e_pfr_RIIIJ, e_po_RIIIJ, e_pfi_J, e_pfj_J, e_pfr_J, e_po_J, e_pfi_RR, e_pfj_RR, e_pfr_RR, e_po_RR, e_pfi_RRI, e_pfj_RRI, e_pfr_RRI, e_po_RRI, e_pfi_RRII, e_pfj_RRII, e_pfr_RRII, e_po_RRII, e_pfi_RRIII, e_pfj_RRIII, e_pfr_RRIII, e_po_RRIII, e_pfi_RIJ, e_pfj_RIJ, e_pfr_RIJ, e_po_RIJ, e_X8_in, o_X8_in, e_X8_isIn, o_X8_isIn, e_X8_isText, o_X8_isText, e_X8_isStep, o_X8_isStep, e_X8_isSheet, o_X8_isSheet, e_X8_kindOf, o_X8_kindOf, e_X8_headOf, o_X8_headOf, e_X8_handOf, o_X8_handOf, e_X8_ones, o_X8_ones, e_X8_tries, o_X8_tries, e_X8_no, o_X8_no, e_X8_byteAt, o_X8_byteAt, e_X8_isPlace, o_X8_isPlace, e_X8_beside, o_X8_beside, e_X8_isAnywhere, o_X8_isAnywhere, e_X8_ofRow, o_X8_ofRow, e_X8_lacks, o_X8_lacks, shR_0, shR_1, shR_2, shR_3, shR_4, shR_5, shR_6, shR_7, shR_8, shR_9, shR_10, shR_11, shR_12, shR_13, shR_14, shR_15, shR_16, shR_17, shR_18, shR_19, shR_20, shR_21, shR_22, shR_23, rrR_0_0, rrR_0_1, rrR_0_5, rrR_0_7, rrR_0_8, rrR_0_9, rrR_0_10, rrR_0_11, rrR_0_12, rrR_0_13, rrR_0_14, rrR_0_15, rrR_0_16, rrR_0_18, rrR_0_19, rrR_0_20, rrR_0_21, rrR_0_22, rrR_0_23, rrR_0_24, rrR_0_25, rrR_0_26, rrR_0_27, mR_1, mR_2, mR_3, mR_4, mR_p0, mR_p1, mR_a0, mR_a1, mR_a2, mR_g0, mR_g1, mR_d0, mR_d1, gd_some, is_some, la_some]; try simp only [mzcmp, mzcml, mzz01, it_ne0, it_eq0, it_eq1, eq_10, eq_20, eq_21, eq_01, eq_self, Classical.not_not, if_true, if_false, not_true_eq_false, not_false_eq_true, ite_true, ite_false, reduceIte, decide_eq_true_eq, Bool.and_eq_true, Bool.or_eq_true, Bool.not_eq_true, decide_eq_false_iff_not, true_and, and_true, implies_true]
  refine ⟨fun h => hbad (fun q => ?_), fun h => ?_⟩
  · rcases h with h | h
    · exact h q.1
    · exact h q.2
  · obtain ⟨k, hk, rfl, kx⟩ := ix_in (by omega) hi_3 h.1
    rw [nu_cl (by omega)]
    refine ⟨by rw [in_nI (by omega)]; exact hk, fun g => r_meets I L K _ (hlack k hk rfl h.2 g), fun g => ?_⟩
    obtain ⟨j, hj, e, _⟩ := lkv_i hs hk g
    have hk1 := hok k hk rfl h.2 g j hj e
    subst e
    simp only [Lt2_X8_put, w_gI, w_gJ, w_gR, w_gB, w_gV, w_gcV, w_gcS, w_g1, w_g2, w_gq, w_bcmp, w_bif0, w_band, w_bor, w_bnot, w_sskip, w_sseq, w_sset, w_sinc, w_sret, w_sretZ, w_sretv, w_sbrk, w_scnt, w_sif, w_sif1, w_sloop, w_sput, w_sputop, w_sast, w_sastop, w_sastI, w_sastJ, w_sputI, w_sputJ, w_scV, w_scS, w_spop, w_ssw, mzfi, mzfl, mzfs, mzf1il, mzf1li, mzf1ii, e_iK, e_iKc, e_iKw, e_jK, e_jKc, e_rN, e_iL, e_jL, e_rL, e_iadd, e_isub, e_imul, e_iand, e_ior, e_ishl, e_ishr, e_iushr, e_idiv, e_irem, e_jadd, e_jsub, e_jmul, e_jand, e_jor, e_jxor, e_jdiv, e_jrem, e_jshl, e_jushr, e_i2j, e_j2i, e_i2b, e_i2s, e_iF, e_jF, e_rF, e_iA, e_jA, e_zA, e_rA, e_ilen, e_iU, e_ccmp, e_cif0, e_ccml, e_cnul, e_cand, e_cor, e_cnot, e_iq, e_jq, e_rq, e_icV, e_icS, e_jcV, e_jcS, e_rcV, e_rcS, e_vI, e_vJ, e_vR, o_iK, o_iKc, o_iKw, o_jK, o_jKc, o_rN, o_iL, o_jL, o_rL, o_iadd, o_isub, o_imul, o_iand, o_ior, o_ishl, o_ishr, o_iushr, o_idiv, o_irem, o_jadd, o_jsub, o_jmul, o_jand, o_jor, o_jxor, o_jdiv, o_jrem, o_jshl, o_jushr, o_i2j, o_j2i, o_i2b, o_i2s, o_iF, o_jF, o_rF, o_iA, o_jA, o_zA, o_rA, o_ilen, o_iU, o_ccmp, o_cif0, o_ccml, o_cnul, o_cand, o_cor, o_cnot, o_iq, o_jq, o_rq, o_icV, o_icS, o_jcV, o_jcS, o_rcV, o_rcS, o_vI, o_vJ, o_vR, mzwV, mzwS, mzwas, w_do, mzini, a_nil, a_int, a_long, a_ref, a_null, st_int, st_ref, st_null, st_long, kl_0, kl_s, rf_some, rf_none, List.length_cons, List.length_nil, Nat.reduceAdd, Nat.reduceSub, Nat.reduceLeDiff, List.replicate_succ, List.replicate_zero, List.cons_append, List.nil_append, List.append_nil, mzgi, mzgio, mzgj, mzgjo, mzgr, mzgro, List.getElem?_cons_succ, List.getElem?_cons_zero, List.set_cons_succ, List.set_cons_zero, true_and, and_true, Nat.le_refl, Nat.sub_self, implies_true, Bool.and_eq_true, Bool.or_eq_true, decide_eq_true_eq, Bool.not_eq_true, Bool.not_eq_false, Bool.not_eq_eq_eq_not, Bool.not_true, Bool.not_false, decide_eq_false_iff_not, Bool.and_eq_false_iff, Bool.or_eq_false_iff, in_0_2, in_1_2, mzevs, mzoks, mzrc, e_pfi_I, e_pfj_I, e_pfr_I, e_po_I, e_pfi_II, e_pfj_II, e_pfr_II, e_po_II, e_pfi_III, e_pfj_III, e_pfr_III, e_po_III, e_pfi_IIII, e_pfj_IIII, e_pfr_IIII, e_po_IIII, e_pfi_IIIII, e_pfj_IIIII, e_pfr_IIIII, e_po_IIIII, e_pfi_R, e_pfj_R, e_pfr_R, e_po_R, e_pfi_RI, e_pfj_RI, e_pfr_RI, e_po_RI, e_pfi_RII, e_pfj_RII, e_pfr_RII, e_po_RII, e_pfi_RIII, e_pfj_RIII, e_pfr_RIII, e_po_RIII, e_pfi_RIIII, e_pfj_RIIII, e_pfr_RIIII, e_po_RIIII, e_pfi_RIIIII, e_pfj_RIIIII, e_pfr_RIIIII, e_po_RIIIII, e_pfi_JI, e_pfj_JI, e_pfr_JI, e_po_JI, e_pfi_JJ, e_pfj_JJ, e_pfr_JJ, e_po_JJ, e_pfi_RJ, e_pfj_RJ, e_pfr_RJ, e_po_RJ, e_pfi_RJI, e_pfj_RJI, e_pfr_RJI, e_po_RJI, e_pfi_RJJJ, e_pfj_RJJJ, e_pfr_RJJJ, e_po_RJJJ, e_pfi_RJIJ, e_pfj_RJIJ, e_pfr_RJIJ, e_po_RJIJ, e_pfi_RIIIJ, e_pfj_RIIIJ, e_pfr_RIIIJ, e_po_RIIIJ, e_pfi_J, e_pfj_J, e_pfr_J, e_po_J, e_pfi_RR, e_pfj_RR, e_pfr_RR, e_po_RR, e_pfi_RRI, e_pfj_RRI, e_pfr_RRI, e_po_RRI, e_pfi_RRII, e_pfj_RRII, e_pfr_RRII, e_po_RRII, e_pfi_RRIII, e_pfj_RRIII, e_pfr_RRIII, e_po_RRIII, e_pfi_RIJ, e_pfj_RIJ, e_pfr_RIJ, e_po_RIJ, e_X8_in, o_X8_in, e_X8_isIn, o_X8_isIn, e_X8_isText, o_X8_isText, e_X8_isStep, o_X8_isStep, e_X8_isSheet, o_X8_isSheet, e_X8_kindOf, o_X8_kindOf, e_X8_headOf, o_X8_headOf, e_X8_handOf, o_X8_handOf, e_X8_ones, o_X8_ones, e_X8_tries, o_X8_tries, e_X8_no, o_X8_no, e_X8_byteAt, o_X8_byteAt, e_X8_isPlace, o_X8_isPlace, e_X8_beside, o_X8_beside, e_X8_isAnywhere, o_X8_isAnywhere, e_X8_ofRow, o_X8_ofRow, e_X8_lacks, o_X8_lacks, shR_0, shR_1, shR_2, shR_3, shR_4, shR_5, shR_6, shR_7, shR_8, shR_9, shR_10, shR_11, shR_12, shR_13, shR_14, shR_15, shR_16, shR_17, shR_18, shR_19, shR_20, shR_21, shR_22, shR_23, rrR_0_0, rrR_0_1, rrR_0_5, rrR_0_7, rrR_0_8, rrR_0_9, rrR_0_10, rrR_0_11, rrR_0_12, rrR_0_13, rrR_0_14, rrR_0_15, rrR_0_16, rrR_0_18, rrR_0_19, rrR_0_20, rrR_0_21, rrR_0_22, rrR_0_23, rrR_0_24, rrR_0_25, rrR_0_26, rrR_0_27, mR_1, mR_2, mR_3, mR_4, mR_p0, mR_p1, mR_a0, mR_a1, mR_a2, mR_g0, mR_g1, mR_d0, mR_d1, gd_some, is_some, la_some]; try simp only [mzcmp, mzcml, mzz01, it_ne0, it_eq0, it_eq1, eq_10, eq_20, eq_21, eq_01, eq_self, Classical.not_not, if_true, if_false, not_true_eq_false, not_false_eq_true, ite_true, ite_false, reduceIte, decide_eq_true_eq, Bool.and_eq_true, Bool.or_eq_true, Bool.not_eq_true, decide_eq_false_iff_not, true_and, and_true, implies_true]
    refine r_keep I L _ k j hk hj v ?_
    simp only [Lt1_X8_put, w_gI, w_gJ, w_gR, w_gB, w_gV, w_gcV, w_gcS, w_g1, w_g2, w_gq, w_bcmp, w_bif0, w_band, w_bor, w_bnot, w_sskip, w_sseq, w_sset, w_sinc, w_sret, w_sretZ, w_sretv, w_sbrk, w_scnt, w_sif, w_sif1, w_sloop, w_sput, w_sputop, w_sast, w_sastop, w_sastI, w_sastJ, w_sputI, w_sputJ, w_scV, w_scS, w_spop, w_ssw, mzfi, mzfl, mzfs, mzf1il, mzf1li, mzf1ii, e_iK, e_iKc, e_iKw, e_jK, e_jKc, e_rN, e_iL, e_jL, e_rL, e_iadd, e_isub, e_imul, e_iand, e_ior, e_ishl, e_ishr, e_iushr, e_idiv, e_irem, e_jadd, e_jsub, e_jmul, e_jand, e_jor, e_jxor, e_jdiv, e_jrem, e_jshl, e_jushr, e_i2j, e_j2i, e_i2b, e_i2s, e_iF, e_jF, e_rF, e_iA, e_jA, e_zA, e_rA, e_ilen, e_iU, e_ccmp, e_cif0, e_ccml, e_cnul, e_cand, e_cor, e_cnot, e_iq, e_jq, e_rq, e_icV, e_icS, e_jcV, e_jcS, e_rcV, e_rcS, e_vI, e_vJ, e_vR, o_iK, o_iKc, o_iKw, o_jK, o_jKc, o_rN, o_iL, o_jL, o_rL, o_iadd, o_isub, o_imul, o_iand, o_ior, o_ishl, o_ishr, o_iushr, o_idiv, o_irem, o_jadd, o_jsub, o_jmul, o_jand, o_jor, o_jxor, o_jdiv, o_jrem, o_jshl, o_jushr, o_i2j, o_j2i, o_i2b, o_i2s, o_iF, o_jF, o_rF, o_iA, o_jA, o_zA, o_rA, o_ilen, o_iU, o_ccmp, o_cif0, o_ccml, o_cnul, o_cand, o_cor, o_cnot, o_iq, o_jq, o_rq, o_icV, o_icS, o_jcV, o_jcS, o_rcV, o_rcS, o_vI, o_vJ, o_vR, mzwV, mzwS, mzwas, w_do, mzini, a_nil, a_int, a_long, a_ref, a_null, st_int, st_ref, st_null, st_long, kl_0, kl_s, rf_some, rf_none, List.length_cons, List.length_nil, Nat.reduceAdd, Nat.reduceSub, Nat.reduceLeDiff, List.replicate_succ, List.replicate_zero, List.cons_append, List.nil_append, List.append_nil, mzgi, mzgio, mzgj, mzgjo, mzgr, mzgro, List.getElem?_cons_succ, List.getElem?_cons_zero, List.set_cons_succ, List.set_cons_zero, true_and, and_true, Nat.le_refl, Nat.sub_self, implies_true, Bool.and_eq_true, Bool.or_eq_true, decide_eq_true_eq, Bool.not_eq_true, Bool.not_eq_false, Bool.not_eq_eq_eq_not, Bool.not_true, Bool.not_false, decide_eq_false_iff_not, Bool.and_eq_false_iff, Bool.or_eq_false_iff, in_0_2, in_1_2, mzevs, mzoks, mzrc, e_pfi_I, e_pfj_I, e_pfr_I, e_po_I, e_pfi_II, e_pfj_II, e_pfr_II, e_po_II, e_pfi_III, e_pfj_III, e_pfr_III, e_po_III, e_pfi_IIII, e_pfj_IIII, e_pfr_IIII, e_po_IIII, e_pfi_IIIII, e_pfj_IIIII, e_pfr_IIIII, e_po_IIIII, e_pfi_R, e_pfj_R, e_pfr_R, e_po_R, e_pfi_RI, e_pfj_RI, e_pfr_RI, e_po_RI, e_pfi_RII, e_pfj_RII, e_pfr_RII, e_po_RII, e_pfi_RIII, e_pfj_RIII, e_pfr_RIII, e_po_RIII, e_pfi_RIIII, e_pfj_RIIII, e_pfr_RIIII, e_po_RIIII, e_pfi_RIIIII, e_pfj_RIIIII, e_pfr_RIIIII, e_po_RIIIII, e_pfi_JI, e_pfj_JI, e_pfr_JI, e_po_JI, e_pfi_JJ, e_pfj_JJ, e_pfr_JJ, e_po_JJ, e_pfi_RJ, e_pfj_RJ, e_pfr_RJ, e_po_RJ, e_pfi_RJI, e_pfj_RJI, e_pfr_RJI, e_po_RJI, e_pfi_RJJJ, e_pfj_RJJJ, e_pfr_RJJJ, e_po_RJJJ, e_pfi_RJIJ, e_pfj_RJIJ, e_pfr_RJIJ, e_po_RJIJ, e_pfi_RIIIJ, e_pfj_RIIIJ, e_pfr_RIIIJ, e_po_RIIIJ, e_pfi_J, e_pfj_J, e_pfr_J, e_po_J, e_pfi_RR, e_pfj_RR, e_pfr_RR, e_po_RR, e_pfi_RRI, e_pfj_RRI, e_pfr_RRI, e_po_RRI, e_pfi_RRII, e_pfj_RRII, e_pfr_RRII, e_po_RRII, e_pfi_RRIII, e_pfj_RRIII, e_pfr_RRIII, e_po_RRIII, e_pfi_RIJ, e_pfj_RIJ, e_pfr_RIJ, e_po_RIJ, e_X8_in, o_X8_in, e_X8_isIn, o_X8_isIn, e_X8_isText, o_X8_isText, e_X8_isStep, o_X8_isStep, e_X8_isSheet, o_X8_isSheet, e_X8_kindOf, o_X8_kindOf, e_X8_headOf, o_X8_headOf, e_X8_handOf, o_X8_handOf, e_X8_ones, o_X8_ones, e_X8_tries, o_X8_tries, e_X8_no, o_X8_no, e_X8_byteAt, o_X8_byteAt, e_X8_isPlace, o_X8_isPlace, e_X8_beside, o_X8_beside, e_X8_isAnywhere, o_X8_isAnywhere, e_X8_ofRow, o_X8_ofRow, e_X8_lacks, o_X8_lacks, shR_0, shR_1, shR_2, shR_3, shR_4, shR_5, shR_6, shR_7, shR_8, shR_9, shR_10, shR_11, shR_12, shR_13, shR_14, shR_15, shR_16, shR_17, shR_18, shR_19, shR_20, shR_21, shR_22, shR_23, rrR_0_0, rrR_0_1, rrR_0_5, rrR_0_7, rrR_0_8, rrR_0_9, rrR_0_10, rrR_0_11, rrR_0_12, rrR_0_13, rrR_0_14, rrR_0_15, rrR_0_16, rrR_0_18, rrR_0_19, rrR_0_20, rrR_0_21, rrR_0_22, rrR_0_23, rrR_0_24, rrR_0_25, rrR_0_26, rrR_0_27, mR_1, mR_2, mR_3, mR_4, mR_p0, mR_p1, mR_a0, mR_a1, mR_a2, mR_g0, mR_g1, mR_d0, mR_d1, gd_some, is_some, la_some]; try simp only [mzcmp, mzcml, mzz01, it_ne0, it_eq0, it_eq1, eq_10, eq_20, eq_21, eq_01, eq_self, Classical.not_not, if_true, if_false, not_true_eq_false, not_false_eq_true, ite_true, ite_false, reduceIte, decide_eq_true_eq, Bool.and_eq_true, Bool.or_eq_true, Bool.not_eq_true, decide_eq_false_iff_not, true_and, and_true, implies_true]
    exact hk1
set_option maxRecDepth 10000 in
theorem r_get (I : Nat → Nat → Int32) (L : Nat → Nat → Int64) (K : Value → mzM → Prop) (s form i : Int32) (hs : rbS I)
    (hbad : ¬ ((0 ≤ s ∧ s ≤ 3) ∧ 0 ≤ form ∧ form ≤ 2) → K (.int (-2147483648)) (mR I L))
    (hlack : ∀ k, k < 4 → s = nI k → (0 ≤ form ∧ form ≤ 2) → 0 < lkv I k form i → K (.int (-2147483648)) (mR (mzset I 0 28 (lkv I k form i)) L))
    (hok : ∀ k, k < 4 → s = nI k → (0 ≤ form ∧ form ≤ 2) → ¬ 0 < lkv I k form i → ∀ j, j < 60 → i = nI j → K (.int (I 22 (60 * k + j))) (mR I L)) : mzdo M_X8_get [.ref 0, .int s, .int form, .int i] (mR I L) K := by
  simp only [M_X8_get, w_mk, B_X8_get, w_gI, w_gJ, w_gR, w_gB, w_gV, w_gcV, w_gcS, w_g1, w_g2, w_gq, w_bcmp, w_bif0, w_band, w_bor, w_bnot, w_sskip, w_sseq, w_sset, w_sinc, w_sret, w_sretZ, w_sretv, w_sbrk, w_scnt, w_sif, w_sif1, w_sloop, w_sput, w_sputop, w_sast, w_sastop, w_sastI, w_sastJ, w_sputI, w_sputJ, w_scV, w_scS, w_spop, w_ssw, mzfi, mzfl, mzfs, mzf1il, mzf1li, mzf1ii, e_iK, e_iKc, e_iKw, e_jK, e_jKc, e_rN, e_iL, e_jL, e_rL, e_iadd, e_isub, e_imul, e_iand, e_ior, e_ishl, e_ishr, e_iushr, e_idiv, e_irem, e_jadd, e_jsub, e_jmul, e_jand, e_jor, e_jxor, e_jdiv, e_jrem, e_jshl, e_jushr, e_i2j, e_j2i, e_i2b, e_i2s, e_iF, e_jF, e_rF, e_iA, e_jA, e_zA, e_rA, e_ilen, e_iU, e_ccmp, e_cif0, e_ccml, e_cnul, e_cand, e_cor, e_cnot, e_iq, e_jq, e_rq, e_icV, e_icS, e_jcV, e_jcS, e_rcV, e_rcS, e_vI, e_vJ, e_vR, o_iK, o_iKc, o_iKw, o_jK, o_jKc, o_rN, o_iL, o_jL, o_rL, o_iadd, o_isub, o_imul, o_iand, o_ior, o_ishl, o_ishr, o_iushr, o_idiv, o_irem, o_jadd, o_jsub, o_jmul, o_jand, o_jor, o_jxor, o_jdiv, o_jrem, o_jshl, o_jushr, o_i2j, o_j2i, o_i2b, o_i2s, o_iF, o_jF, o_rF, o_iA, o_jA, o_zA, o_rA, o_ilen, o_iU, o_ccmp, o_cif0, o_ccml, o_cnul, o_cand, o_cor, o_cnot, o_iq, o_jq, o_rq, o_icV, o_icS, o_jcV, o_jcS, o_rcV, o_rcS, o_vI, o_vJ, o_vR, mzwV, mzwS, mzwas, w_do, mzini, a_nil, a_int, a_long, a_ref, a_null, st_int, st_ref, st_null, st_long, kl_0, kl_s, rf_some, rf_none, List.length_cons, List.length_nil, Nat.reduceAdd, Nat.reduceSub, Nat.reduceLeDiff, List.replicate_succ, List.replicate_zero, List.cons_append, List.nil_append, List.append_nil, mzgi, mzgio, mzgj, mzgjo, mzgr, mzgro, List.getElem?_cons_succ, List.getElem?_cons_zero, List.set_cons_succ, List.set_cons_zero, true_and, and_true, Nat.le_refl, Nat.sub_self, implies_true, Bool.and_eq_true, Bool.or_eq_true, decide_eq_true_eq, Bool.not_eq_true, Bool.not_eq_false, Bool.not_eq_eq_eq_not, Bool.not_true, Bool.not_false, decide_eq_false_iff_not, Bool.and_eq_false_iff, Bool.or_eq_false_iff, in_0_2, in_1_2, mzevs, mzoks, mzrc, e_pfi_I, e_pfj_I, e_pfr_I, e_po_I, e_pfi_II, e_pfj_II, e_pfr_II, e_po_II, e_pfi_III, e_pfj_III, e_pfr_III, e_po_III, e_pfi_IIII, e_pfj_IIII, e_pfr_IIII, e_po_IIII, e_pfi_IIIII, e_pfj_IIIII, e_pfr_IIIII, e_po_IIIII, e_pfi_R, e_pfj_R, e_pfr_R, e_po_R, e_pfi_RI, e_pfj_RI, e_pfr_RI, e_po_RI, e_pfi_RII, e_pfj_RII, e_pfr_RII, e_po_RII, e_pfi_RIII, e_pfj_RIII, e_pfr_RIII, e_po_RIII, e_pfi_RIIII, e_pfj_RIIII, e_pfr_RIIII, e_po_RIIII, e_pfi_RIIIII, e_pfj_RIIIII, e_pfr_RIIIII, e_po_RIIIII, e_pfi_JI, e_pfj_JI, e_pfr_JI, e_po_JI, e_pfi_JJ, e_pfj_JJ, e_pfr_JJ, e_po_JJ, e_pfi_RJ, e_pfj_RJ, e_pfr_RJ, e_po_RJ, e_pfi_RJI, e_pfj_RJI, e_pfr_RJI, e_po_RJI, e_pfi_RJJJ, e_pfj_RJJJ, e_pfr_RJJJ, e_po_RJJJ, e_pfi_RJIJ, e_pfj_RJIJ, e_pfr_RJIJ, e_po_RJIJ, e_pfi_RIIIJ, e_pfj_RIIIJ, e_pfr_RIIIJ, e_po_RIIIJ, e_pfi_J, e_pfj_J, e_pfr_J, e_po_J, e_pfi_RR, e_pfj_RR, e_pfr_RR, e_po_RR, e_pfi_RRI, e_pfj_RRI, e_pfr_RRI, e_po_RRI, e_pfi_RRII, e_pfj_RRII, e_pfr_RRII, e_po_RRII, e_pfi_RRIII, e_pfj_RRIII, e_pfr_RRIII, e_po_RRIII, e_pfi_RIJ, e_pfj_RIJ, e_pfr_RIJ, e_po_RIJ, e_X8_in, o_X8_in, e_X8_isIn, o_X8_isIn, e_X8_isText, o_X8_isText, e_X8_isStep, o_X8_isStep, e_X8_isSheet, o_X8_isSheet, e_X8_kindOf, o_X8_kindOf, e_X8_headOf, o_X8_headOf, e_X8_handOf, o_X8_handOf, e_X8_ones, o_X8_ones, e_X8_tries, o_X8_tries, e_X8_no, o_X8_no, e_X8_byteAt, o_X8_byteAt, e_X8_isPlace, o_X8_isPlace, e_X8_beside, o_X8_beside, e_X8_isAnywhere, o_X8_isAnywhere, e_X8_ofRow, o_X8_ofRow, e_X8_lacks, o_X8_lacks, shR_0, shR_1, shR_2, shR_3, shR_4, shR_5, shR_6, shR_7, shR_8, shR_9, shR_10, shR_11, shR_12, shR_13, shR_14, shR_15, shR_16, shR_17, shR_18, shR_19, shR_20, shR_21, shR_22, shR_23, rrR_0_0, rrR_0_1, rrR_0_5, rrR_0_7, rrR_0_8, rrR_0_9, rrR_0_10, rrR_0_11, rrR_0_12, rrR_0_13, rrR_0_14, rrR_0_15, rrR_0_16, rrR_0_18, rrR_0_19, rrR_0_20, rrR_0_21, rrR_0_22, rrR_0_23, rrR_0_24, rrR_0_25, rrR_0_26, rrR_0_27, mR_1, mR_2, mR_3, mR_4, mR_p0, mR_p1, mR_a0, mR_a1, mR_a2, mR_g0, mR_g1, mR_d0, mR_d1, gd_some, is_some, la_some]; try simp only [mzcmp, mzcml, mzz01, it_ne0, it_eq0, it_eq1, eq_10, eq_20, eq_21, eq_01, eq_self, Classical.not_not, if_true, if_false, not_true_eq_false, not_false_eq_true, ite_true, ite_false, reduceIte, decide_eq_true_eq, Bool.and_eq_true, Bool.or_eq_true, Bool.not_eq_true, decide_eq_false_iff_not, true_and, and_true, implies_true]
  refine ⟨fun h => hbad (fun q => ?_), fun h => ?_⟩
  · rcases h with h | h
    · exact h q.1
    · exact h q.2
  · obtain ⟨k, hk, rfl, kx⟩ := ix_in (by omega) hi_3 h.1
    rw [nu_cl (by omega)]
    refine ⟨by rw [in_nI (by omega)]; exact hk, fun g => hlack k hk rfl h.2 g, fun g => ?_⟩
    obtain ⟨j, hj, e, _⟩ := lkv_i hs hk g
    have hk1 := hok k hk rfl h.2 g j hj e
    subst e
    simp (disch := omega) only [it_n0, it_n1, not_false_eq_true, not_true_eq_false, Classical.not_not, Nat.reduceEqDiff, Nat.reduceLeDiff, false_and, and_false, true_and, and_true, if_false, if_true, reduceIte, eq_self, li_0, li_1, li_2, li_3, li_4, li_5, li_6, li_7, li_8, li_9, li_10, li_12, li_16, li_18, li_35, li_36, li_39, li_41, li_60, li_99, li_100, li_143, li_144, li_150, li_255, li_1000, li_1800, li_far, in_nI, nu_lt, nu_le, nu_eq, nu_cl, nu_sub, nu_div, nu_rem, nu_add, nu_mul, ng1, nu_mM, nu_Mm, nu_ltM, nu_Mlt, nu_leM, nu_Mle, nu_m1, nu_oi1, nu_oi2, nu_oi4, nu_oi3, nu_m1']
    exact ⟨by omega, hk1⟩
def Lc1_X8_copy : mzB1 :=
  (gB (ccmp .lt (iL 6) (iL 5)))
def Lb1_X8_copy : mzT1 :=
  (sast 0 (gR (rF lkF_8_78 (by decide) (rL 0))) (gI (iL 6)) (gI (iA (rF lkF_8_75 (by decide) (rL 0)) (iadd (iadd (imul (iK 60) (iL 1)) (iL 2)) (iL 6)))))
def Ls1_X8_copy : mzT1 :=
  (sinc 6 1)
def Lc2_X8_copy : mzB1 :=
  (gB (ccmp .lt (iL 6) (iL 5)))
def Lb2_X8_copy : mzT1 :=
  (sast 0 (gR (rF lkF_8_75 (by decide) (rL 0))) (gI (iadd (iadd (imul (iK 60) (iL 3)) (iL 4)) (iL 6))) (gI (iA (rF lkF_8_78 (by decide) (rL 0)) (iL 6))))
def Ls2_X8_copy : mzT1 :=
  (sinc 6 1)
def Lt1_X8_copy : mzT1 :=
  (sret (gI (iK 1)))
def Lt2_X8_copy : mzT1 :=
  (sseq (sset 6 (gI (iK 0)))
  (sseq (sloop Lc2_X8_copy 164 Lb2_X8_copy 186 Ls2_X8_copy 192)
  Lt1_X8_copy))
def Lt3_X8_copy : mzT1 :=
  (sseq (sset 6 (gI (iK 0)))
  (sseq (sloop Lc1_X8_copy 127 Lb1_X8_copy 148 Ls1_X8_copy 154)
  Lt2_X8_copy))
def Lt4_X8_copy : mzT1 :=
  (sseq (sif1 (gB (cor 93 (cor 76 (cor 71 (cor 66 (cif0 .lt (iL 2)) (cif0 .lt (iL 4))) (cif0 .lt (iL 5))) (ccml .gt (jadd (i2j (iL 2)) (i2j (iL 5))) (i2j (iA (rF lkF_8_72 (by decide) (rL 0)) (iL 1))))) (ccml .gt (jadd (i2j (iL 4)) (i2j (iL 5))) (i2j (iA (rF lkF_8_72 (by decide) (rL 0)) (iL 3)))))) 111
  (sret (gcV M_X8_meets lkV_8_144 ym_X8_meets (by decide) [(gR (rL 0)), (gI (iK 2))])))
  Lt3_X8_copy)
def Lt5_X8_copy : mzT1 :=
  (sseq (sif1 (gB (ccmp .ne (iA (rF lkF_8_69 (by decide) (rL 0)) (iL 1)) (iA (rF lkF_8_69 (by decide) (rL 0)) (iL 3)))) 56
  (sret (gcV M_X8_meets lkV_8_144 ym_X8_meets (by decide) [(gR (rL 0)), (gI (iK 4))])))
  Lt4_X8_copy)
def B_X8_copy : mzT1 :=
  (sseq (sif1 (gB (cor 7 (cnot (cif0 .ne (icS P_X8_isSheet lkS_8_141 yp_X8_isSheet [(vI (iL 1))]))) (cnot (cif0 .ne (icS P_X8_isSheet lkS_8_141 yp_X8_isSheet [(vI (iL 3))]))))) 14
  (sret (gI (iK (-2)))))
  (sseq (sif1 (gB (cor 26 (cnot (cif0 .ne (zA (rF lkF_8_65 (by decide) (rL 0)) (iL 1)))) (cnot (cif0 .ne (zA (rF lkF_8_65 (by decide) (rL 0)) (iL 3)))))) 35
  (sret (gcV M_X8_meets lkV_8_144 ym_X8_meets (by decide) [(gR (rL 0)), (gI (iK 1))])))
  Lt5_X8_copy))
theorem ok_X8_copy : mzok1 yX8_copy cX8_copy 8 7 (some .int) 2 42 1 B_X8_copy := ⟨by decide +kernel, mzT_at 1212 (by decide +kernel) rfl, by decide, rfl, rfl, rfl⟩
def M_X8_copy : mzMt := mzmk yX8_copy cX8_copy 8 7 (some .int) 2 42 1 B_X8_copy ok_X8_copy
theorem ym_X8_copy : M_X8_copy.1.1 = yX8_copy := rfl

def Lt1_X8_write : mzT1 :=
  (sret (gI (iK (-2))))
def Lt2_X8_write : mzT1 :=
  (sinc 3 1)
def Lc1_X8_write : mzB1 :=
  (gB (ccmp .lt (iL 3) (iA (rF lkF_8_72 (by decide) (rL 0)) (iL 2))))
def Lb1_X8_write : mzT1 :=
  (sseq (scV M_X8_keep lkV_8_275 ym_X8_keep [(gR (rL 0)), (gI (iL 2)), (gI (iL 3)), (gcV M_X8_onOf lkV_8_185 ym_X8_onOf (by decide) [(gR (rL 0)), (gI (iL 1)), (gI (iL 3)), (gI (iK 0))])])
  Lt2_X8_write)
def Ls1_X8_write : mzT1 :=
  sskip
def Lt3_X8_write : mzT1 :=
  (sret (gI (iL 3)))
def Lt4_X8_write : mzT1 :=
  (sseq (sset 3 (gI (iK 0)))
  (sseq (sloop Lc1_X8_write 45 Lb1_X8_write 35 Ls1_X8_write 64)
  Lt3_X8_write))
def Lt5_X8_write : mzT1 :=
  (sseq (sif1 (gB (cnot (cif0 .ne (zA (rF lkF_8_65 (by decide) (rL 0)) (iL 2))))) 27
  (sret (gcV M_X8_meets lkV_8_144 ym_X8_meets (by decide) [(gR (rL 0)), (gI (iK 1))])))
  Lt4_X8_write)
def B_X8_write : mzT1 :=
  (sseq (sif1 (bor 8 (bnot (bif0 .ne (gcV M_X8_isWalker lkV_8_131 ym_X8_isWalker (by decide) [(gR (rL 0)), (gI (iL 1))]))) (gB (cnot (cif0 .ne (icS P_X8_isSheet lkS_8_141 yp_X8_isSheet [(vI (iL 2))]))))) 15
  Lt1_X8_write)
  Lt5_X8_write)
theorem ok_X8_write : mzok1 yX8_write cX8_write 8 4 (some .int) 6 141 1 B_X8_write := ⟨by decide +kernel, mzT_at 1216 (by decide +kernel) rfl, by decide, rfl, rfl, rfl⟩
def M_X8_write : mzMt := mzmk yX8_write cX8_write 8 4 (some .int) 6 141 1 B_X8_write ok_X8_write
theorem ym_X8_write : M_X8_write.1.1 = yX8_write := rfl

def Lc1_X8_read : mzB1 :=
  (band 41 (gB (ccmp .lt (iadd (imul (iK 3) (iL 2)) (iK 2)) (iA (rF lkF_8_72 (by decide) (rL 0)) (iL 1)))) (bif0 .gt (gcV M_X8_more lkV_8_137 ym_X8_more (by decide) [(gR (rL 0)), (gI (iK 1)), (gI (iA (rF lkF_8_75 (by decide) (rL 0)) (iadd (imul (iK 60) (iL 1)) (imul (iK 3) (iL 2))))), (gI (iA (rF lkF_8_75 (by decide) (rL 0)) (iadd (iadd (imul (iK 60) (iL 1)) (imul (iK 3) (iL 2))) (iK 1)))), (gI (iA (rF lkF_8_75 (by decide) (rL 0)) (iadd (iadd (imul (iK 60) (iL 1)) (imul (iK 3) (iL 2))) (iK 2))))])))
def Lb1_X8_read : mzT1 :=
  (sinc 2 1)
def Ls1_X8_read : mzT1 :=
  sskip
def Lt1_X8_read : mzT1 :=
  (sret (gI (iL 2)))
def Lt2_X8_read : mzT1 :=
  (sseq (sset 2 (gI (iK 0)))
  (sseq (sloop Lc1_X8_read 92 Lb1_X8_read 27 Ls1_X8_read 98)
  Lt1_X8_read))
def B_X8_read : mzT1 :=
  (sseq (sif1 (gB (cnot (cif0 .ne (icS P_X8_isSheet lkS_8_141 yp_X8_isSheet [(vI (iL 1))])))) 7
  (sret (gI (iK (-2)))))
  (sseq (sif1 (gB (cnot (cif0 .ne (zA (rF lkF_8_65 (by decide) (rL 0)) (iL 1))))) 19
  (sret (gcV M_X8_meets lkV_8_144 ym_X8_meets (by decide) [(gR (rL 0)), (gI (iK 1))])))
  Lt2_X8_read))
theorem ok_X8_read : mzok1 yX8_read cX8_read 8 3 (some .int) 3 67 1 B_X8_read := ⟨by decide +kernel, mzT_at 961 (by decide +kernel) rfl, by decide, rfl, rfl, rfl⟩
def M_X8_read : mzMt := mzmk yX8_read cX8_read 8 3 (some .int) 3 67 1 B_X8_read ok_X8_read
theorem ym_X8_read : M_X8_read.1.1 = yX8_read := rfl

