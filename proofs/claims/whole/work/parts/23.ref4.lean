/-! the reference: the walkers' text -/
def B_X8_readsWalker : mzT1 :=
  (sseq (sset 3 (gI (isub (icV P_X8_byteAt lkV_8_105 yp_X8_byteAt [(vR (rL 0)), (vI (iL 2))]) (iK 48))))
  (sseq (sset 4 (gI (isub (icV P_X8_byteAt lkV_8_105 yp_X8_byteAt [(vR (rL 0)), (vI (iadd (iL 2) (iK 1)))]) (iK 48))))
  (sseq (sset 5 (gI (icS P_X8_headOf lkS_8_108 yp_X8_headOf [(vI (icV P_X8_byteAt lkV_8_105 yp_X8_byteAt [(vR (rL 0)), (vI (iadd (iL 2) (iK 2)))]))])))
  (sseq (sset 6 (gI (icS P_X8_handOf lkS_8_111 yp_X8_handOf [(vI (icV P_X8_byteAt lkV_8_105 yp_X8_byteAt [(vR (rL 0)), (vI (iadd (iL 2) (iK 3)))]))])))
  (sseq (sif1 (gB (cnot (cif0 .ne (icS P_X8_in lkS_8_83 yp_X8_in [(vI (iL 3)), (vI (iK 0)), (vI (iK 3))])))) 54
  (sret (gI (iK 0))))
  (sseq (sif1 (gB (cnot (cif0 .ne (icS P_X8_in lkS_8_83 yp_X8_in [(vI (iL 4)), (vI (iK 0)), (vI (iK 9))])))) 67
  (sret (gI (iK 1))))
  (sseq (sif1 (gB (ccmp .eq (iL 5) (iK (-1)))) 75
  (sret (gI (iK 2))))
  (sseq (sif1 (gB (ccmp .eq (iL 6) (iK (-1)))) 83
  (sret (gI (iK 3))))
  (sseq (sast 0 (gR (rF lkF_8_19 (by decide) (rL 0))) (gI (iL 1)) (gI (iadd (imul (iK 10) (iL 3)) (iL 4))))
  (sseq (sast 0 (gR (rF lkF_8_22 (by decide) (rL 0))) (gI (iL 1)) (gI (iL 5)))
  (sseq (sast 0 (gR (rF lkF_8_25 (by decide) (rL 0))) (gI (iL 1)) (gI (iL 6)))
  (sret (gI (iK 4))))))))))))))
theorem ok_X8_readsWalker : mzok1 yX8_readsWalker cX8_readsWalker 8 7 (some .int) 1 22 1 B_X8_readsWalker := ⟨by decide +kernel, mzT_at 920 (by decide +kernel) rfl, by decide, rfl, rfl, rfl⟩
def M_X8_readsWalker : mzMt := mzmk yX8_readsWalker cX8_readsWalker 8 7 (some .int) 1 22 1 B_X8_readsWalker ok_X8_readsWalker
theorem ym_X8_readsWalker : M_X8_readsWalker.1.1 = yX8_readsWalker := rfl

set_option maxRecDepth 10000 in
theorem t_readsWalker (I : Nat → Nat → Int32) (L : Nat → Nat → Int64) (K : Value → mzM → Prop) (n n1 : Nat) (hn : n < 8) (hn1 : n1 ≤ 39) (ht : I 1 1 = nI n1) (B : Nat → Int32) (hB : B = wkB (fun p => I 2 (41 + p)) n1)
    (hbad : ∀ g, g < 4 → (∀ q, q < g → wkS q (B (5 * n + q))) → ¬ wkS g (B (5 * n + g)) → K (.int (nI g)) (mR I L))
    (hgood : (∀ q, q < 4 → wkS q (B (5 * n + q))) → K (.int (nI 4)) (mR (mzset (mzset (mzset I 4 n (wkDay B n)) 5 n (hdOf (B (5 * n + 2)))) 6 n (haOf (B (5 * n + 3)))) L)) : mzdo M_X8_readsWalker [.ref 0, .int (nI n), .int (nI (5 * n))] (mR I L) K := by
  have hB' : ∀ p, (if p < n1 then I 2 (41 + p) else nM) = B p := fun p => by rw [hB]; rfl
  simp only [M_X8_readsWalker, w_mk, B_X8_readsWalker, w_gI, w_gJ, w_gR, w_gB, w_gV, w_gcV, w_gcS, w_g1, w_g2, w_gq, w_bcmp, w_bif0, w_band, w_bor, w_bnot, w_sskip, w_sseq, w_sset, w_sinc, w_sret, w_sretZ, w_sretv, w_sbrk, w_scnt, w_sif, w_sif1, w_sloop, w_sput, w_sputop, w_sast, w_sastop, w_sastI, w_sastJ, w_sputI, w_sputJ, w_scV, w_scS, w_spop, w_ssw, mzfi, mzfl, mzfs, mzf1il, mzf1li, mzf1ii, e_iK, e_iKc, e_iKw, e_jK, e_jKc, e_rN, e_iL, e_jL, e_rL, e_iadd, e_isub, e_imul, e_iand, e_ior, e_ishl, e_ishr, e_iushr, e_idiv, e_irem, e_jadd, e_jsub, e_jmul, e_jand, e_jor, e_jxor, e_jdiv, e_jrem, e_jshl, e_jushr, e_i2j, e_j2i, e_i2b, e_i2s, e_iF, e_jF, e_rF, e_iA, e_jA, e_zA, e_rA, e_ilen, e_iU, e_ccmp, e_cif0, e_ccml, e_cnul, e_cand, e_cor, e_cnot, e_iq, e_jq, e_rq, e_icV, e_icS, e_jcV, e_jcS, e_rcV, e_rcS, e_vI, e_vJ, e_vR, o_iK, o_iKc, o_iKw, o_jK, o_jKc, o_rN, o_iL, o_jL, o_rL, o_iadd, o_isub, o_imul, o_iand, o_ior, o_ishl, o_ishr, o_iushr, o_idiv, o_irem, o_jadd, o_jsub, o_jmul, o_jand, o_jor, o_jxor, o_jdiv, o_jrem, o_jshl, o_jushr, o_i2j, o_j2i, o_i2b, o_i2s, o_iF, o_jF, o_rF, o_iA, o_jA, o_zA, o_rA, o_ilen, o_iU, o_ccmp, o_cif0, o_ccml, o_cnul, o_cand, o_cor, o_cnot, o_iq, o_jq, o_rq, o_icV, o_icS, o_jcV, o_jcS, o_rcV, o_rcS, o_vI, o_vJ, o_vR, mzwV, mzwS, mzwas, w_do, mzini, a_nil, a_int, a_long, a_ref, a_null, st_int, st_ref, st_null, st_long, kl_0, kl_s, rf_some, rf_none, List.length_cons, List.length_nil, Nat.reduceAdd, Nat.reduceSub, Nat.reduceLeDiff, List.replicate_succ, List.replicate_zero, List.cons_append, List.nil_append, List.append_nil, mzgi, mzgio, mzgj, mzgjo, mzgr, mzgro, List.getElem?_cons_succ, List.getElem?_cons_zero, List.set_cons_succ, List.set_cons_zero, true_and, and_true, Nat.le_refl, Nat.sub_self, implies_true, Bool.and_eq_true, Bool.or_eq_true, decide_eq_true_eq, Bool.not_eq_true, Bool.not_eq_false, Bool.not_eq_eq_eq_not, Bool.not_true, Bool.not_false, decide_eq_false_iff_not, Bool.and_eq_false_iff, Bool.or_eq_false_iff, in_0_2, in_1_2, mzevs, mzoks, mzrc, e_pfi_I, e_pfj_I, e_pfr_I, e_po_I, e_pfi_II, e_pfj_II, e_pfr_II, e_po_II, e_pfi_III, e_pfj_III, e_pfr_III, e_po_III, e_pfi_IIII, e_pfj_IIII, e_pfr_IIII, e_po_IIII, e_pfi_IIIII, e_pfj_IIIII, e_pfr_IIIII, e_po_IIIII, e_pfi_R, e_pfj_R, e_pfr_R, e_po_R, e_pfi_RI, e_pfj_RI, e_pfr_RI, e_po_RI, e_pfi_RII, e_pfj_RII, e_pfr_RII, e_po_RII, e_pfi_RIII, e_pfj_RIII, e_pfr_RIII, e_po_RIII, e_pfi_RIIII, e_pfj_RIIII, e_pfr_RIIII, e_po_RIIII, e_pfi_RIIIII, e_pfj_RIIIII, e_pfr_RIIIII, e_po_RIIIII, e_pfi_JI, e_pfj_JI, e_pfr_JI, e_po_JI, e_pfi_JJ, e_pfj_JJ, e_pfr_JJ, e_po_JJ, e_pfi_RJ, e_pfj_RJ, e_pfr_RJ, e_po_RJ, e_pfi_RJI, e_pfj_RJI, e_pfr_RJI, e_po_RJI, e_pfi_RJJJ, e_pfj_RJJJ, e_pfr_RJJJ, e_po_RJJJ, e_pfi_RJIJ, e_pfj_RJIJ, e_pfr_RJIJ, e_po_RJIJ, e_pfi_RIIIJ, e_pfj_RIIIJ, e_pfr_RIIIJ, e_po_RIIIJ, e_pfi_J, e_pfj_J, e_pfr_J, e_po_J, e_pfi_RR, e_pfj_RR, e_pfr_RR, e_po_RR, e_pfi_RRI, e_pfj_RRI, e_pfr_RRI, e_po_RRI, e_pfi_RRII, e_pfj_RRII, e_pfr_RRII, e_po_RRII, e_pfi_RRIII, e_pfj_RRIII, e_pfr_RRIII, e_po_RRIII, e_pfi_RIJ, e_pfj_RIJ, e_pfr_RIJ, e_po_RIJ, e_X8_in, o_X8_in, e_X8_isIn, o_X8_isIn, e_X8_isText, o_X8_isText, e_X8_isStep, o_X8_isStep, e_X8_isSheet, o_X8_isSheet, e_X8_kindOf, o_X8_kindOf, e_X8_headOf, o_X8_headOf, e_X8_handOf, o_X8_handOf, e_X8_ones, o_X8_ones, e_X8_tries, o_X8_tries, e_X8_no, o_X8_no, e_X8_byteAt, o_X8_byteAt, e_X8_isPlace, o_X8_isPlace, e_X8_beside, o_X8_beside, e_X8_isAnywhere, o_X8_isAnywhere, e_X8_ofRow, o_X8_ofRow, e_X8_lacks, o_X8_lacks, shR_0, shR_1, shR_2, shR_3, shR_4, shR_5, shR_6, shR_7, shR_8, shR_9, shR_10, shR_11, shR_12, shR_13, shR_14, shR_15, shR_16, shR_17, shR_18, shR_19, shR_20, shR_21, shR_22, shR_23, rrR_0_0, rrR_0_1, rrR_0_5, rrR_0_7, rrR_0_8, rrR_0_9, rrR_0_10, rrR_0_11, rrR_0_12, rrR_0_13, rrR_0_14, rrR_0_15, rrR_0_16, rrR_0_18, rrR_0_19, rrR_0_20, rrR_0_21, rrR_0_22, rrR_0_23, rrR_0_24, rrR_0_25, rrR_0_26, rrR_0_27, mR_1, mR_2, mR_3, mR_4, mR_p0, mR_p1, mR_a0, mR_a1, mR_a2, mR_g0, mR_g1, mR_d0, mR_d1, gd_some, is_some, la_some]; try simp only [mzcmp, mzcml, mzz01, it_ne0, it_eq0, it_eq1, eq_10, eq_20, eq_21, eq_01, eq_self, Classical.not_not, if_true, if_false, not_true_eq_false, not_false_eq_true, ite_true, ite_false, reduceIte, decide_eq_true_eq, Bool.and_eq_true, Bool.or_eq_true, Bool.not_eq_true, decide_eq_false_iff_not, true_and, and_true, implies_true]
  simp (disch := omega) only [it_n0, it_n1, not_false_eq_true, not_true_eq_false, Classical.not_not, Nat.reduceEqDiff, Nat.reduceLeDiff, false_and, and_false, true_and, and_true, if_false, if_true, reduceIte, eq_self, li_0, li_1, li_2, li_3, li_4, li_5, li_6, li_7, li_8, li_9, li_10, li_12, li_16, li_18, li_35, li_36, li_39, li_41, li_60, li_99, li_100, li_143, li_144, li_150, li_255, li_1000, li_1800, li_far, in_nI, nu_lt, nu_le, nu_eq, nu_cl, nu_sub, nu_div, nu_rem, nu_add, nu_mul, ng1, nu_mM, nu_Mm, nu_ltM, nu_Mlt, nu_leM, nu_Mle, nu_m1, nu_oi1, nu_oi2, nu_oi4, nu_oi3, nu_m1', ht, hB']
  refine ⟨by omega, by omega, by omega, by omega, fun h0 => hbad 0 (by omega) (fun q hq => by omega) h0, fun h0 => ?_⟩
  refine ⟨fun h1 => hbad 1 (by omega) (fun q hq => ?_) h1, fun h1 => ⟨fun h2 => hbad 2 (by omega) (fun q hq => ?_) (fun q => q h2), fun h2 => ⟨fun h3 => hbad 3 (by omega) (fun q hq => ?_) (fun q => q h3), fun h3 => ⟨by omega, by omega, by omega, hgood (fun q hq => ?_)⟩⟩⟩⟩
  · match q, hq with
    | 0, _ => exact h0
  · match q, hq with
    | 0, _ => exact h0
    | 1, _ => exact h1
  · match q, hq with
    | 0, _ => exact h0
    | 1, _ => exact h1
    | 2, _ => exact h2
  · match q, hq with
    | 0, _ => exact h0
    | 1, _ => exact h1
    | 2, _ => exact h2
    | 3, _ => exact h3
def Lt1_X8_readsWalkers : mzT1 :=
  (sseq (sif1 (gB (ccmp .lt (iL 3) (iK 4))) 45
  (sret (gI (iadd (iL 2) (iL 3)))))
  (sseq (sinc 1 1)
  (sseq (sinc 2 4)
  (sseq (sif1 (gB (ccmp .eq (iL 2) (iA (rF lkF_8_7 (by decide) (rL 0)) (iK 1)))) 65
  (sseq (sput lkP_8_114 (gR (rL 0)) (gI (iL 1)))
  (sret (gI (iK (-1))))))
  (sseq (sif1 (gB (ccmp .ne (icV P_X8_byteAt lkV_8_105 yp_X8_byteAt [(vR (rL 0)), (vI (iL 2))]) (iK 59))) 82
  (sret (gI (iL 2))))
  (sinc 2 1))))))
def Lc1_X8_readsWalkers : mzB1 :=
  (gB (cor 19 (ccmp .lt (iL 2) (iA (rF lkF_8_7 (by decide) (rL 0)) (iK 1))) (cif0 .gt (iL 2))))
def Lb1_X8_readsWalkers : mzT1 :=
  (sseq (sset 3 (gq 29 33 (gB (ccmp .eq (iL 1) (iK 8))) (gI (iK 0)) (gcV M_X8_readsWalker lkV_8_117 ym_X8_readsWalker (by decide) [(gR (rL 0)), (gI (iL 1)), (gI (iL 2))])))
  Lt1_X8_readsWalkers)
def Ls1_X8_readsWalkers : mzT1 :=
  sskip
def Lt2_X8_readsWalkers : mzT1 :=
  (sret (gI (iK (-1))))
def B_X8_readsWalkers : mzT1 :=
  (sseq (sset 1 (gI (iK 0)))
  (sseq (sset 2 (gI (iK 0)))
  (sseq (sput lkP_8_114 (gR (rL 0)) (gI (iK 0)))
  (sseq (sloop Lc1_X8_readsWalkers 23 Lb1_X8_readsWalkers 9 Ls1_X8_readsWalkers 90)
  Lt2_X8_readsWalkers))))
theorem ok_X8_readsWalkers : mzok1 yX8_readsWalkers cX8_readsWalkers 8 4 (some .int) 2 48 1 B_X8_readsWalkers := ⟨by decide +kernel, mzT_at 916 (by decide +kernel) rfl, by decide, rfl, rfl, rfl⟩
def M_X8_readsWalkers : mzMt := mzmk yX8_readsWalkers cX8_readsWalkers 8 4 (some .int) 2 48 1 B_X8_readsWalkers ok_X8_readsWalkers
theorem ym_X8_readsWalkers : M_X8_readsWalkers.1.1 = yX8_readsWalkers := rfl

/-- what readsWalkers leaves -/
def rwP (I : Nat → Nat → Int32) (n1 : Nat) (v : Int32) (I' : Nat → Nat → Int32) : Prop :=
  (∀ i j, ¬ (i = 0 ∧ j = 6) → i ≠ 4 → i ≠ 5 → i ≠ 6 → I' i j = I i j) ∧ (n1 = 0 → v = -1 ∧ I' 0 6 = 0) ∧ (0 < n1 → ∃ f, wkF (fun p => I 2 (41 + p)) n1 f ∧
    ((f = n1 ∧ n1 % 5 = 4 ∧ v = -1 ∧ I' 0 6 = nI ((n1 + 1) / 5) ∧ ∀ w, w < (n1 + 1) / 5 → I' 4 w = wkDay (fun p => I 2 (41 + p)) w ∧ I' 5 w = hdOf (I 2 (41 + (5 * w + 2))) ∧ I' 6 w = haOf (I 2 (41 + (5 * w + 3)))) ∨ (¬ (f = n1 ∧ n1 % 5 = 4) ∧ v = nI f ∧ I' 0 6 = 0)))
set_option maxRecDepth 10000 in
theorem t_readsWalkers_loop (I0 : Nat → Nat → Int32) (L : Nat → Nat → Int64) (K : Value → mzM → Prop) (n1 : Nat) (hn1 : n1 ≤ 39) (T : Nat → Int32) (hT0 : T = fun p => I0 2 (41 + p)) (hK : ∀ v I', rwP I0 n1 v I' → K (.int v) (mR I' L)) :
    ∀ (f n : Nat) (I : Nat → Nat → Int32) (x3 : Option Value), n + f = 8 → I 1 1 = nI n1 → (∀ i j, ¬ (i = 0 ∧ j = 6) → i ≠ 4 → i ≠ 5 → i ≠ 6 → I i j = I0 i j) → I 0 6 = 0 → (∀ p, p < 5 * n → p < n1 ∧ wkS (p % 5) (T p)) → (∀ w, w < n → I 4 w = wkDay T w ∧ I 5 w = hdOf (T (5 * w + 2)) ∧ I 6 w = haOf (T (5 * w + 3))) →
    mzit Lc1_X8_readsWalkers.val.snd Lb1_X8_readsWalkers.val.snd Ls1_X8_readsWalkers.val.snd
      (fun ls1 M1 => Lt2_X8_readsWalkers.val.snd ls1 M1 (fun x x_1 => False) K (fun x x_1 => False) fun x x_1 => False)
      K (f + 1) [some (Value.ref 0), some (Value.int (nI n)), some (Value.int (nI (5 * n))), x3] (mR I L) := by
  intro f
  induction f with
  | zero =>
    intro n I x3 hf ht hfr h06 hp hw
    have := (hp 39 (by omega)).1
    omega
  | succ f ih =>
    intro n I x3 hf ht hfr h06 hp hw
    refine mzit_s (fun J hJ => ?_)
    simp only [Lc1_X8_readsWalkers, Lb1_X8_readsWalkers, Ls1_X8_readsWalkers, w_gI, w_gJ, w_gR, w_gB, w_gV, w_gcV, w_gcS, w_g1, w_g2, w_gq, w_bcmp, w_bif0, w_band, w_bor, w_bnot, w_sskip, w_sseq, w_sset, w_sinc, w_sret, w_sretZ, w_sretv, w_sbrk, w_scnt, w_sif, w_sif1, w_sloop, w_sput, w_sputop, w_sast, w_sastop, w_sastI, w_sastJ, w_sputI, w_sputJ, w_scV, w_scS, w_spop, w_ssw, mzfi, mzfl, mzfs, mzf1il, mzf1li, mzf1ii, e_iK, e_iKc, e_iKw, e_jK, e_jKc, e_rN, e_iL, e_jL, e_rL, e_iadd, e_isub, e_imul, e_iand, e_ior, e_ishl, e_ishr, e_iushr, e_idiv, e_irem, e_jadd, e_jsub, e_jmul, e_jand, e_jor, e_jxor, e_jdiv, e_jrem, e_jshl, e_jushr, e_i2j, e_j2i, e_i2b, e_i2s, e_iF, e_jF, e_rF, e_iA, e_jA, e_zA, e_rA, e_ilen, e_iU, e_ccmp, e_cif0, e_ccml, e_cnul, e_cand, e_cor, e_cnot, e_iq, e_jq, e_rq, e_icV, e_icS, e_jcV, e_jcS, e_rcV, e_rcS, e_vI, e_vJ, e_vR, o_iK, o_iKc, o_iKw, o_jK, o_jKc, o_rN, o_iL, o_jL, o_rL, o_iadd, o_isub, o_imul, o_iand, o_ior, o_ishl, o_ishr, o_iushr, o_idiv, o_irem, o_jadd, o_jsub, o_jmul, o_jand, o_jor, o_jxor, o_jdiv, o_jrem, o_jshl, o_jushr, o_i2j, o_j2i, o_i2b, o_i2s, o_iF, o_jF, o_rF, o_iA, o_jA, o_zA, o_rA, o_ilen, o_iU, o_ccmp, o_cif0, o_ccml, o_cnul, o_cand, o_cor, o_cnot, o_iq, o_jq, o_rq, o_icV, o_icS, o_jcV, o_jcS, o_rcV, o_rcS, o_vI, o_vJ, o_vR, mzwV, mzwS, mzwas, w_do, mzini, a_nil, a_int, a_long, a_ref, a_null, st_int, st_ref, st_null, st_long, kl_0, kl_s, rf_some, rf_none, List.length_cons, List.length_nil, Nat.reduceAdd, Nat.reduceSub, Nat.reduceLeDiff, List.replicate_succ, List.replicate_zero, List.cons_append, List.nil_append, List.append_nil, mzgi, mzgio, mzgj, mzgjo, mzgr, mzgro, List.getElem?_cons_succ, List.getElem?_cons_zero, List.set_cons_succ, List.set_cons_zero, true_and, and_true, Nat.le_refl, Nat.sub_self, implies_true, Bool.and_eq_true, Bool.or_eq_true, decide_eq_true_eq, Bool.not_eq_true, Bool.not_eq_false, Bool.not_eq_eq_eq_not, Bool.not_true, Bool.not_false, decide_eq_false_iff_not, Bool.and_eq_false_iff, Bool.or_eq_false_iff, in_0_2, in_1_2, mzevs, mzoks, mzrc, e_pfi_I, e_pfj_I, e_pfr_I, e_po_I, e_pfi_II, e_pfj_II, e_pfr_II, e_po_II, e_pfi_III, e_pfj_III, e_pfr_III, e_po_III, e_pfi_IIII, e_pfj_IIII, e_pfr_IIII, e_po_IIII, e_pfi_IIIII, e_pfj_IIIII, e_pfr_IIIII, e_po_IIIII, e_pfi_R, e_pfj_R, e_pfr_R, e_po_R, e_pfi_RI, e_pfj_RI, e_pfr_RI, e_po_RI, e_pfi_RII, e_pfj_RII, e_pfr_RII, e_po_RII, e_pfi_RIII, e_pfj_RIII, e_pfr_RIII, e_po_RIII, e_pfi_RIIII, e_pfj_RIIII, e_pfr_RIIII, e_po_RIIII, e_pfi_RIIIII, e_pfj_RIIIII, e_pfr_RIIIII, e_po_RIIIII, e_pfi_JI, e_pfj_JI, e_pfr_JI, e_po_JI, e_pfi_JJ, e_pfj_JJ, e_pfr_JJ, e_po_JJ, e_pfi_RJ, e_pfj_RJ, e_pfr_RJ, e_po_RJ, e_pfi_RJI, e_pfj_RJI, e_pfr_RJI, e_po_RJI, e_pfi_RJJJ, e_pfj_RJJJ, e_pfr_RJJJ, e_po_RJJJ, e_pfi_RJIJ, e_pfj_RJIJ, e_pfr_RJIJ, e_po_RJIJ, e_pfi_RIIIJ, e_pfj_RIIIJ, e_pfr_RIIIJ, e_po_RIIIJ, e_pfi_J, e_pfj_J, e_pfr_J, e_po_J, e_pfi_RR, e_pfj_RR, e_pfr_RR, e_po_RR, e_pfi_RRI, e_pfj_RRI, e_pfr_RRI, e_po_RRI, e_pfi_RRII, e_pfj_RRII, e_pfr_RRII, e_po_RRII, e_pfi_RRIII, e_pfj_RRIII, e_pfr_RRIII, e_po_RRIII, e_pfi_RIJ, e_pfj_RIJ, e_pfr_RIJ, e_po_RIJ, e_X8_in, o_X8_in, e_X8_isIn, o_X8_isIn, e_X8_isText, o_X8_isText, e_X8_isStep, o_X8_isStep, e_X8_isSheet, o_X8_isSheet, e_X8_kindOf, o_X8_kindOf, e_X8_headOf, o_X8_headOf, e_X8_handOf, o_X8_handOf, e_X8_ones, o_X8_ones, e_X8_tries, o_X8_tries, e_X8_no, o_X8_no, e_X8_byteAt, o_X8_byteAt, e_X8_isPlace, o_X8_isPlace, e_X8_beside, o_X8_beside, e_X8_isAnywhere, o_X8_isAnywhere, e_X8_ofRow, o_X8_ofRow, e_X8_lacks, o_X8_lacks, shR_0, shR_1, shR_2, shR_3, shR_4, shR_5, shR_6, shR_7, shR_8, shR_9, shR_10, shR_11, shR_12, shR_13, shR_14, shR_15, shR_16, shR_17, shR_18, shR_19, shR_20, shR_21, shR_22, shR_23, rrR_0_0, rrR_0_1, rrR_0_5, rrR_0_7, rrR_0_8, rrR_0_9, rrR_0_10, rrR_0_11, rrR_0_12, rrR_0_13, rrR_0_14, rrR_0_15, rrR_0_16, rrR_0_18, rrR_0_19, rrR_0_20, rrR_0_21, rrR_0_22, rrR_0_23, rrR_0_24, rrR_0_25, rrR_0_26, rrR_0_27, mR_1, mR_2, mR_3, mR_4, mR_p0, mR_p1, mR_a0, mR_a1, mR_a2, mR_g0, mR_g1, mR_d0, mR_d1, gd_some, is_some, la_some]; try simp only [mzcmp, mzcml, mzz01, it_ne0, it_eq0, it_eq1, eq_10, eq_20, eq_21, eq_01, eq_self, Classical.not_not, if_true, if_false, not_true_eq_false, not_false_eq_true, ite_true, ite_false, reduceIte, decide_eq_true_eq, Bool.and_eq_true, Bool.or_eq_true, Bool.not_eq_true, decide_eq_false_iff_not, true_and, and_true, implies_true]
    simp (disch := omega) only [it_n0, it_n1, not_false_eq_true, not_true_eq_false, Classical.not_not, Nat.reduceEqDiff, Nat.reduceLeDiff, false_and, and_false, true_and, and_true, if_false, if_true, reduceIte, eq_self, li_0, li_1, li_2, li_3, li_4, li_5, li_6, li_7, li_8, li_9, li_10, li_12, li_16, li_18, li_35, li_36, li_39, li_41, li_60, li_99, li_100, li_143, li_144, li_150, li_255, li_1000, li_1800, li_far, in_nI, nu_lt, nu_le, nu_eq, nu_cl, nu_sub, nu_div, nu_rem, nu_add, nu_mul, ng1, nu_mM, nu_Mm, nu_ltM, nu_Mlt, nu_leM, nu_Mle, nu_m1, nu_oi1, nu_oi2, nu_oi4, nu_oi3, nu_m1', ht]
    have hT : (fun p => I 2 (41 + p)) = T := by
      rw [hT0]; funext p; exact hfr 2 _ (by omega) (by omega) (by omega) (by omega)
    have at5 : 0 < n → 5 * n ≤ n1 := fun h0 => by have := (hp (5 * n - 1) (by omega)).1; omega
    have wf : ∀ g, g ≤ 4 → (∀ q, q < g → wkS q (wkB T n1 (5 * n + q))) → ∀ p, p < 5 * n + g → p < n1 ∧ wkS (p % 5) (T p) := by
      intro g hg hq p hpp
      by_cases h5 : p < 5 * n
      · exact hp p h5
      · have := wkB_in (hq (p - 5 * n) (by omega))
        rw [show 5 * n + (p - 5 * n) = p by omega] at this
        rw [show p % 5 = p - 5 * n by omega]
        exact this
    refine ⟨fun hc => ⟨fun h8 => by omega, fun h8 => ?_⟩, fun hc => ?_⟩
    · refine t_readsWalker I L _ n n1 (by omega) hn1 ht (wkB T n1) (by rw [hT]) (fun g hg hq hb => ?_) (fun hq => ?_)
      · simp only [Lt1_X8_readsWalkers, w_gI, w_gJ, w_gR, w_gB, w_gV, w_gcV, w_gcS, w_g1, w_g2, w_gq, w_bcmp, w_bif0, w_band, w_bor, w_bnot, w_sskip, w_sseq, w_sset, w_sinc, w_sret, w_sretZ, w_sretv, w_sbrk, w_scnt, w_sif, w_sif1, w_sloop, w_sput, w_sputop, w_sast, w_sastop, w_sastI, w_sastJ, w_sputI, w_sputJ, w_scV, w_scS, w_spop, w_ssw, mzfi, mzfl, mzfs, mzf1il, mzf1li, mzf1ii, e_iK, e_iKc, e_iKw, e_jK, e_jKc, e_rN, e_iL, e_jL, e_rL, e_iadd, e_isub, e_imul, e_iand, e_ior, e_ishl, e_ishr, e_iushr, e_idiv, e_irem, e_jadd, e_jsub, e_jmul, e_jand, e_jor, e_jxor, e_jdiv, e_jrem, e_jshl, e_jushr, e_i2j, e_j2i, e_i2b, e_i2s, e_iF, e_jF, e_rF, e_iA, e_jA, e_zA, e_rA, e_ilen, e_iU, e_ccmp, e_cif0, e_ccml, e_cnul, e_cand, e_cor, e_cnot, e_iq, e_jq, e_rq, e_icV, e_icS, e_jcV, e_jcS, e_rcV, e_rcS, e_vI, e_vJ, e_vR, o_iK, o_iKc, o_iKw, o_jK, o_jKc, o_rN, o_iL, o_jL, o_rL, o_iadd, o_isub, o_imul, o_iand, o_ior, o_ishl, o_ishr, o_iushr, o_idiv, o_irem, o_jadd, o_jsub, o_jmul, o_jand, o_jor, o_jxor, o_jdiv, o_jrem, o_jshl, o_jushr, o_i2j, o_j2i, o_i2b, o_i2s, o_iF, o_jF, o_rF, o_iA, o_jA, o_zA, o_rA, o_ilen, o_iU, o_ccmp, o_cif0, o_ccml, o_cnul, o_cand, o_cor, o_cnot, o_iq, o_jq, o_rq, o_icV, o_icS, o_jcV, o_jcS, o_rcV, o_rcS, o_vI, o_vJ, o_vR, mzwV, mzwS, mzwas, w_do, mzini, a_nil, a_int, a_long, a_ref, a_null, st_int, st_ref, st_null, st_long, kl_0, kl_s, rf_some, rf_none, List.length_cons, List.length_nil, Nat.reduceAdd, Nat.reduceSub, Nat.reduceLeDiff, List.replicate_succ, List.replicate_zero, List.cons_append, List.nil_append, List.append_nil, mzgi, mzgio, mzgj, mzgjo, mzgr, mzgro, List.getElem?_cons_succ, List.getElem?_cons_zero, List.set_cons_succ, List.set_cons_zero, true_and, and_true, Nat.le_refl, Nat.sub_self, implies_true, Bool.and_eq_true, Bool.or_eq_true, decide_eq_true_eq, Bool.not_eq_true, Bool.not_eq_false, Bool.not_eq_eq_eq_not, Bool.not_true, Bool.not_false, decide_eq_false_iff_not, Bool.and_eq_false_iff, Bool.or_eq_false_iff, in_0_2, in_1_2, mzevs, mzoks, mzrc, e_pfi_I, e_pfj_I, e_pfr_I, e_po_I, e_pfi_II, e_pfj_II, e_pfr_II, e_po_II, e_pfi_III, e_pfj_III, e_pfr_III, e_po_III, e_pfi_IIII, e_pfj_IIII, e_pfr_IIII, e_po_IIII, e_pfi_IIIII, e_pfj_IIIII, e_pfr_IIIII, e_po_IIIII, e_pfi_R, e_pfj_R, e_pfr_R, e_po_R, e_pfi_RI, e_pfj_RI, e_pfr_RI, e_po_RI, e_pfi_RII, e_pfj_RII, e_pfr_RII, e_po_RII, e_pfi_RIII, e_pfj_RIII, e_pfr_RIII, e_po_RIII, e_pfi_RIIII, e_pfj_RIIII, e_pfr_RIIII, e_po_RIIII, e_pfi_RIIIII, e_pfj_RIIIII, e_pfr_RIIIII, e_po_RIIIII, e_pfi_JI, e_pfj_JI, e_pfr_JI, e_po_JI, e_pfi_JJ, e_pfj_JJ, e_pfr_JJ, e_po_JJ, e_pfi_RJ, e_pfj_RJ, e_pfr_RJ, e_po_RJ, e_pfi_RJI, e_pfj_RJI, e_pfr_RJI, e_po_RJI, e_pfi_RJJJ, e_pfj_RJJJ, e_pfr_RJJJ, e_po_RJJJ, e_pfi_RJIJ, e_pfj_RJIJ, e_pfr_RJIJ, e_po_RJIJ, e_pfi_RIIIJ, e_pfj_RIIIJ, e_pfr_RIIIJ, e_po_RIIIJ, e_pfi_J, e_pfj_J, e_pfr_J, e_po_J, e_pfi_RR, e_pfj_RR, e_pfr_RR, e_po_RR, e_pfi_RRI, e_pfj_RRI, e_pfr_RRI, e_po_RRI, e_pfi_RRII, e_pfj_RRII, e_pfr_RRII, e_po_RRII, e_pfi_RRIII, e_pfj_RRIII, e_pfr_RRIII, e_po_RRIII, e_pfi_RIJ, e_pfj_RIJ, e_pfr_RIJ, e_po_RIJ, e_X8_in, o_X8_in, e_X8_isIn, o_X8_isIn, e_X8_isText, o_X8_isText, e_X8_isStep, o_X8_isStep, e_X8_isSheet, o_X8_isSheet, e_X8_kindOf, o_X8_kindOf, e_X8_headOf, o_X8_headOf, e_X8_handOf, o_X8_handOf, e_X8_ones, o_X8_ones, e_X8_tries, o_X8_tries, e_X8_no, o_X8_no, e_X8_byteAt, o_X8_byteAt, e_X8_isPlace, o_X8_isPlace, e_X8_beside, o_X8_beside, e_X8_isAnywhere, o_X8_isAnywhere, e_X8_ofRow, o_X8_ofRow, e_X8_lacks, o_X8_lacks, shR_0, shR_1, shR_2, shR_3, shR_4, shR_5, shR_6, shR_7, shR_8, shR_9, shR_10, shR_11, shR_12, shR_13, shR_14, shR_15, shR_16, shR_17, shR_18, shR_19, shR_20, shR_21, shR_22, shR_23, rrR_0_0, rrR_0_1, rrR_0_5, rrR_0_7, rrR_0_8, rrR_0_9, rrR_0_10, rrR_0_11, rrR_0_12, rrR_0_13, rrR_0_14, rrR_0_15, rrR_0_16, rrR_0_18, rrR_0_19, rrR_0_20, rrR_0_21, rrR_0_22, rrR_0_23, rrR_0_24, rrR_0_25, rrR_0_26, rrR_0_27, mR_1, mR_2, mR_3, mR_4, mR_p0, mR_p1, mR_a0, mR_a1, mR_a2, mR_g0, mR_g1, mR_d0, mR_d1, gd_some, is_some, la_some]; try simp only [mzcmp, mzcml, mzz01, it_ne0, it_eq0, it_eq1, eq_10, eq_20, eq_21, eq_01, eq_self, Classical.not_not, if_true, if_false, not_true_eq_false, not_false_eq_true, ite_true, ite_false, reduceIte, decide_eq_true_eq, Bool.and_eq_true, Bool.or_eq_true, Bool.not_eq_true, decide_eq_false_iff_not, true_and, and_true, implies_true]
        simp (disch := omega) only [it_n0, it_n1, not_false_eq_true, not_true_eq_false, Classical.not_not, Nat.reduceEqDiff, Nat.reduceLeDiff, false_and, and_false, true_and, and_true, if_false, if_true, reduceIte, eq_self, li_0, li_1, li_2, li_3, li_4, li_5, li_6, li_7, li_8, li_9, li_10, li_12, li_16, li_18, li_35, li_36, li_39, li_41, li_60, li_99, li_100, li_143, li_144, li_150, li_255, li_1000, li_1800, li_far, in_nI, nu_lt, nu_le, nu_eq, nu_cl, nu_sub, nu_div, nu_rem, nu_add, nu_mul, ng1, nu_mM, nu_Mm, nu_ltM, nu_Mlt, nu_leM, nu_Mle, nu_m1, nu_oi1, nu_oi2, nu_oi4, nu_oi3, nu_m1']
        refine ⟨fun _ => hK _ I ⟨hfr, fun h0 => ?_, fun h0 => ⟨5 * n + g, ⟨?_, fun p hpp => ?_, fun hlt => ?_⟩, Or.inr ⟨fun q => ?_, rfl, h06⟩⟩⟩, fun h => absurd hg h⟩
        · omega
        · rcases Nat.eq_zero_or_pos (5 * n + g) with e | e
          · omega
          · have := (wf g (by omega) hq (5 * n + g - 1) (by omega)).1
            omega
        · rw [← hT0]; exact (wf g (by omega) hq p hpp).2
        · rw [← hT0]
          rw [show (5 * n + g) % 5 = g by omega]
          unfold wkB at hb
          rw [if_pos hlt] at hb
          exact hb
        · omega
      · have hin : ∀ q, q < 4 → wkB T n1 (5 * n + q) = T (5 * n + q) := fun q hq4 => if_pos (wkB_in (hq q hq4)).1
        have hday : wkDay (wkB T n1) n = wkDay T n := by
          unfold wkDay
          rw [hin 1 (by omega), show wkB T n1 (5 * n) = T (5 * n) from hin 0 (by omega)]
        rw [hin 2 (by omega), hin 3 (by omega), hday]
        have hp4 := wf 4 (by omega) hq
        have h4 : 5 * n + 4 ≤ n1 := by have := (hp4 (5 * n + 3) (by omega)).1; omega
        obtain ⟨I2, hI2⟩ : ∃ I2, I2 = mzset (mzset (mzset I 4 n (wkDay T n)) 5 n (hdOf (T (5 * n + 2)))) 6 n (haOf (T (5 * n + 3))) := ⟨_, rfl⟩
        rw [← hI2]
        have ht2 : I2 1 1 = nI n1 := by rw [hI2, ms_cell _ _ (by decide), ms_cell _ _ (by decide), ms_cell _ _ (by decide)]; exact ht
        have h062 : I2 0 6 = 0 := by rw [hI2, ms_cell _ _ (by decide), ms_cell _ _ (by decide), ms_cell _ _ (by decide)]; exact h06
        have hfr2 : ∀ i j, ¬ (i = 0 ∧ j = 6) → i ≠ 4 → i ≠ 5 → i ≠ 6 → I2 i j = I0 i j := fun i j a1 a2 a3 a4 => by rw [hI2, ms_cell _ _ a4, ms_cell _ _ a3, ms_cell _ _ a2]; exact hfr i j a1 a2 a3 a4
        have hT2 : ∀ p, I2 2 (41 + p) = T p := fun p => by rw [hfr2 2 _ (by omega) (by omega) (by omega) (by omega), hT0]
        have hw2 : ∀ w, w < n + 1 → I2 4 w = wkDay T w ∧ I2 5 w = hdOf (T (5 * w + 2)) ∧ I2 6 w = haOf (T (5 * w + 3)) := by
          intro w hwn
          rw [hI2]
          by_cases e : w = n
          · subst e
            simp [ms_at]
          · simp only [ms_at, e, and_false, if_false]
            exact hw w (by omega)
        simp only [Lt1_X8_readsWalkers, w_gI, w_gJ, w_gR, w_gB, w_gV, w_gcV, w_gcS, w_g1, w_g2, w_gq, w_bcmp, w_bif0, w_band, w_bor, w_bnot, w_sskip, w_sseq, w_sset, w_sinc, w_sret, w_sretZ, w_sretv, w_sbrk, w_scnt, w_sif, w_sif1, w_sloop, w_sput, w_sputop, w_sast, w_sastop, w_sastI, w_sastJ, w_sputI, w_sputJ, w_scV, w_scS, w_spop, w_ssw, mzfi, mzfl, mzfs, mzf1il, mzf1li, mzf1ii, e_iK, e_iKc, e_iKw, e_jK, e_jKc, e_rN, e_iL, e_jL, e_rL, e_iadd, e_isub, e_imul, e_iand, e_ior, e_ishl, e_ishr, e_iushr, e_idiv, e_irem, e_jadd, e_jsub, e_jmul, e_jand, e_jor, e_jxor, e_jdiv, e_jrem, e_jshl, e_jushr, e_i2j, e_j2i, e_i2b, e_i2s, e_iF, e_jF, e_rF, e_iA, e_jA, e_zA, e_rA, e_ilen, e_iU, e_ccmp, e_cif0, e_ccml, e_cnul, e_cand, e_cor, e_cnot, e_iq, e_jq, e_rq, e_icV, e_icS, e_jcV, e_jcS, e_rcV, e_rcS, e_vI, e_vJ, e_vR, o_iK, o_iKc, o_iKw, o_jK, o_jKc, o_rN, o_iL, o_jL, o_rL, o_iadd, o_isub, o_imul, o_iand, o_ior, o_ishl, o_ishr, o_iushr, o_idiv, o_irem, o_jadd, o_jsub, o_jmul, o_jand, o_jor, o_jxor, o_jdiv, o_jrem, o_jshl, o_jushr, o_i2j, o_j2i, o_i2b, o_i2s, o_iF, o_jF, o_rF, o_iA, o_jA, o_zA, o_rA, o_ilen, o_iU, o_ccmp, o_cif0, o_ccml, o_cnul, o_cand, o_cor, o_cnot, o_iq, o_jq, o_rq, o_icV, o_icS, o_jcV, o_jcS, o_rcV, o_rcS, o_vI, o_vJ, o_vR, mzwV, mzwS, mzwas, w_do, mzini, a_nil, a_int, a_long, a_ref, a_null, st_int, st_ref, st_null, st_long, kl_0, kl_s, rf_some, rf_none, List.length_cons, List.length_nil, Nat.reduceAdd, Nat.reduceSub, Nat.reduceLeDiff, List.replicate_succ, List.replicate_zero, List.cons_append, List.nil_append, List.append_nil, mzgi, mzgio, mzgj, mzgjo, mzgr, mzgro, List.getElem?_cons_succ, List.getElem?_cons_zero, List.set_cons_succ, List.set_cons_zero, true_and, and_true, Nat.le_refl, Nat.sub_self, implies_true, Bool.and_eq_true, Bool.or_eq_true, decide_eq_true_eq, Bool.not_eq_true, Bool.not_eq_false, Bool.not_eq_eq_eq_not, Bool.not_true, Bool.not_false, decide_eq_false_iff_not, Bool.and_eq_false_iff, Bool.or_eq_false_iff, in_0_2, in_1_2, mzevs, mzoks, mzrc, e_pfi_I, e_pfj_I, e_pfr_I, e_po_I, e_pfi_II, e_pfj_II, e_pfr_II, e_po_II, e_pfi_III, e_pfj_III, e_pfr_III, e_po_III, e_pfi_IIII, e_pfj_IIII, e_pfr_IIII, e_po_IIII, e_pfi_IIIII, e_pfj_IIIII, e_pfr_IIIII, e_po_IIIII, e_pfi_R, e_pfj_R, e_pfr_R, e_po_R, e_pfi_RI, e_pfj_RI, e_pfr_RI, e_po_RI, e_pfi_RII, e_pfj_RII, e_pfr_RII, e_po_RII, e_pfi_RIII, e_pfj_RIII, e_pfr_RIII, e_po_RIII, e_pfi_RIIII, e_pfj_RIIII, e_pfr_RIIII, e_po_RIIII, e_pfi_RIIIII, e_pfj_RIIIII, e_pfr_RIIIII, e_po_RIIIII, e_pfi_JI, e_pfj_JI, e_pfr_JI, e_po_JI, e_pfi_JJ, e_pfj_JJ, e_pfr_JJ, e_po_JJ, e_pfi_RJ, e_pfj_RJ, e_pfr_RJ, e_po_RJ, e_pfi_RJI, e_pfj_RJI, e_pfr_RJI, e_po_RJI, e_pfi_RJJJ, e_pfj_RJJJ, e_pfr_RJJJ, e_po_RJJJ, e_pfi_RJIJ, e_pfj_RJIJ, e_pfr_RJIJ, e_po_RJIJ, e_pfi_RIIIJ, e_pfj_RIIIJ, e_pfr_RIIIJ, e_po_RIIIJ, e_pfi_J, e_pfj_J, e_pfr_J, e_po_J, e_pfi_RR, e_pfj_RR, e_pfr_RR, e_po_RR, e_pfi_RRI, e_pfj_RRI, e_pfr_RRI, e_po_RRI, e_pfi_RRII, e_pfj_RRII, e_pfr_RRII, e_po_RRII, e_pfi_RRIII, e_pfj_RRIII, e_pfr_RRIII, e_po_RRIII, e_pfi_RIJ, e_pfj_RIJ, e_pfr_RIJ, e_po_RIJ, e_X8_in, o_X8_in, e_X8_isIn, o_X8_isIn, e_X8_isText, o_X8_isText, e_X8_isStep, o_X8_isStep, e_X8_isSheet, o_X8_isSheet, e_X8_kindOf, o_X8_kindOf, e_X8_headOf, o_X8_headOf, e_X8_handOf, o_X8_handOf, e_X8_ones, o_X8_ones, e_X8_tries, o_X8_tries, e_X8_no, o_X8_no, e_X8_byteAt, o_X8_byteAt, e_X8_isPlace, o_X8_isPlace, e_X8_beside, o_X8_beside, e_X8_isAnywhere, o_X8_isAnywhere, e_X8_ofRow, o_X8_ofRow, e_X8_lacks, o_X8_lacks, shR_0, shR_1, shR_2, shR_3, shR_4, shR_5, shR_6, shR_7, shR_8, shR_9, shR_10, shR_11, shR_12, shR_13, shR_14, shR_15, shR_16, shR_17, shR_18, shR_19, shR_20, shR_21, shR_22, shR_23, rrR_0_0, rrR_0_1, rrR_0_5, rrR_0_7, rrR_0_8, rrR_0_9, rrR_0_10, rrR_0_11, rrR_0_12, rrR_0_13, rrR_0_14, rrR_0_15, rrR_0_16, rrR_0_18, rrR_0_19, rrR_0_20, rrR_0_21, rrR_0_22, rrR_0_23, rrR_0_24, rrR_0_25, rrR_0_26, rrR_0_27, mR_1, mR_2, mR_3, mR_4, mR_p0, mR_p1, mR_a0, mR_a1, mR_a2, mR_g0, mR_g1, mR_d0, mR_d1, gd_some, is_some, la_some]; try simp only [mzcmp, mzcml, mzz01, it_ne0, it_eq0, it_eq1, eq_10, eq_20, eq_21, eq_01, eq_self, Classical.not_not, if_true, if_false, not_true_eq_false, not_false_eq_true, ite_true, ite_false, reduceIte, decide_eq_true_eq, Bool.and_eq_true, Bool.or_eq_true, Bool.not_eq_true, decide_eq_false_iff_not, true_and, and_true, implies_true]
        simp (disch := omega) only [it_n0, it_n1, not_false_eq_true, not_true_eq_false, Classical.not_not, Nat.reduceEqDiff, Nat.reduceLeDiff, false_and, and_false, true_and, and_true, if_false, if_true, reduceIte, eq_self, li_0, li_1, li_2, li_3, li_4, li_5, li_6, li_7, li_8, li_9, li_10, li_12, li_16, li_18, li_35, li_36, li_39, li_41, li_60, li_99, li_100, li_143, li_144, li_150, li_255, li_1000, li_1800, li_far, in_nI, nu_lt, nu_le, nu_eq, nu_cl, nu_sub, nu_div, nu_rem, nu_add, nu_mul, ng1, nu_mM, nu_Mm, nu_ltM, nu_Mlt, nu_leM, nu_Mle, nu_m1, nu_oi1, nu_oi2, nu_oi4, nu_oi3, nu_m1', ht2, hT2]
        have hTT : (fun p => I0 2 (41 + p)) = T := hT0.symm
        refine ⟨fun h => absurd h (by omega), fun _ => ⟨fun he => hK _ _ ⟨fun i j a1 a2 a3 a4 => ?_, fun h0 => by omega, fun _ => ⟨n1, ⟨Nat.le_refl _, fun p hpp => ?_, fun h => absurd h (by omega)⟩, Or.inl ⟨rfl, by omega, rfl, ?_, fun w hwn => ?_⟩⟩⟩, fun he => ⟨fun _ => by omega, fun hne => hK _ I2 ⟨hfr2, fun h0 => by omega, fun _ => ⟨5 * n + 4, ⟨h4, fun p hpp => ?_, fun hlt => ?_⟩, Or.inr ⟨fun q => ?_, rfl, h062⟩⟩⟩, fun heq => hJ _ _ ?_⟩⟩⟩
        · rw [ms_at, if_neg a1]; exact hfr2 i j a1 a2 a3 a4
        · rw [hTT]; exact (hp4 p (by omega)).2
        · rw [ms_same, show (n1 + 1) / 5 = n + 1 by omega]
        · rw [ms_cell _ _ (by decide), ms_cell _ _ (by decide), ms_cell _ _ (by decide), hTT]
          have := hw2 w (by omega)
          rw [hT0] at this ⊢
          exact this
        · rw [hTT]; exact (hp4 p hpp).2
        · rw [hTT, show (5 * n + 4) % 5 = 4 by omega]
          rw [if_pos hlt] at hne
          exact hne
        · omega
        · have hlt : 5 * n + 4 < n1 := by omega
          rw [if_pos hlt] at heq
          have := ih (n + 1) I2 (some (.int (nI 4))) (by omega) ht2 hfr2 h062 (fun p hpp => by
            by_cases e : p < 5 * n + 4
            · exact hp4 p e
            · have e : p = 5 * n + 4 := by omega
              subst e
              exact ⟨hlt, by rw [show (5 * n + 4) % 5 = 4 by omega]; exact heq⟩) hw2
          rw [show 5 * (n + 1) = 5 * n + 4 + 1 by omega] at this
          exact this
    · simp only [Lt2_X8_readsWalkers, w_gI, w_gJ, w_gR, w_gB, w_gV, w_gcV, w_gcS, w_g1, w_g2, w_gq, w_bcmp, w_bif0, w_band, w_bor, w_bnot, w_sskip, w_sseq, w_sset, w_sinc, w_sret, w_sretZ, w_sretv, w_sbrk, w_scnt, w_sif, w_sif1, w_sloop, w_sput, w_sputop, w_sast, w_sastop, w_sastI, w_sastJ, w_sputI, w_sputJ, w_scV, w_scS, w_spop, w_ssw, mzfi, mzfl, mzfs, mzf1il, mzf1li, mzf1ii, e_iK, e_iKc, e_iKw, e_jK, e_jKc, e_rN, e_iL, e_jL, e_rL, e_iadd, e_isub, e_imul, e_iand, e_ior, e_ishl, e_ishr, e_iushr, e_idiv, e_irem, e_jadd, e_jsub, e_jmul, e_jand, e_jor, e_jxor, e_jdiv, e_jrem, e_jshl, e_jushr, e_i2j, e_j2i, e_i2b, e_i2s, e_iF, e_jF, e_rF, e_iA, e_jA, e_zA, e_rA, e_ilen, e_iU, e_ccmp, e_cif0, e_ccml, e_cnul, e_cand, e_cor, e_cnot, e_iq, e_jq, e_rq, e_icV, e_icS, e_jcV, e_jcS, e_rcV, e_rcS, e_vI, e_vJ, e_vR, o_iK, o_iKc, o_iKw, o_jK, o_jKc, o_rN, o_iL, o_jL, o_rL, o_iadd, o_isub, o_imul, o_iand, o_ior, o_ishl, o_ishr, o_iushr, o_idiv, o_irem, o_jadd, o_jsub, o_jmul, o_jand, o_jor, o_jxor, o_jdiv, o_jrem, o_jshl, o_jushr, o_i2j, o_j2i, o_i2b, o_i2s, o_iF, o_jF, o_rF, o_iA, o_jA, o_zA, o_rA, o_ilen, o_iU, o_ccmp, o_cif0, o_ccml, o_cnul, o_cand, o_cor, o_cnot, o_iq, o_jq, o_rq, o_icV, o_icS, o_jcV, o_jcS, o_rcV, o_rcS, o_vI, o_vJ, o_vR, mzwV, mzwS, mzwas, w_do, mzini, a_nil, a_int, a_long, a_ref, a_null, st_int, st_ref, st_null, st_long, kl_0, kl_s, rf_some, rf_none, List.length_cons, List.length_nil, Nat.reduceAdd, Nat.reduceSub, Nat.reduceLeDiff, List.replicate_succ, List.replicate_zero, List.cons_append, List.nil_append, List.append_nil, mzgi, mzgio, mzgj, mzgjo, mzgr, mzgro, List.getElem?_cons_succ, List.getElem?_cons_zero, List.set_cons_succ, List.set_cons_zero, true_and, and_true, Nat.le_refl, Nat.sub_self, implies_true, Bool.and_eq_true, Bool.or_eq_true, decide_eq_true_eq, Bool.not_eq_true, Bool.not_eq_false, Bool.not_eq_eq_eq_not, Bool.not_true, Bool.not_false, decide_eq_false_iff_not, Bool.and_eq_false_iff, Bool.or_eq_false_iff, in_0_2, in_1_2, mzevs, mzoks, mzrc, e_pfi_I, e_pfj_I, e_pfr_I, e_po_I, e_pfi_II, e_pfj_II, e_pfr_II, e_po_II, e_pfi_III, e_pfj_III, e_pfr_III, e_po_III, e_pfi_IIII, e_pfj_IIII, e_pfr_IIII, e_po_IIII, e_pfi_IIIII, e_pfj_IIIII, e_pfr_IIIII, e_po_IIIII, e_pfi_R, e_pfj_R, e_pfr_R, e_po_R, e_pfi_RI, e_pfj_RI, e_pfr_RI, e_po_RI, e_pfi_RII, e_pfj_RII, e_pfr_RII, e_po_RII, e_pfi_RIII, e_pfj_RIII, e_pfr_RIII, e_po_RIII, e_pfi_RIIII, e_pfj_RIIII, e_pfr_RIIII, e_po_RIIII, e_pfi_RIIIII, e_pfj_RIIIII, e_pfr_RIIIII, e_po_RIIIII, e_pfi_JI, e_pfj_JI, e_pfr_JI, e_po_JI, e_pfi_JJ, e_pfj_JJ, e_pfr_JJ, e_po_JJ, e_pfi_RJ, e_pfj_RJ, e_pfr_RJ, e_po_RJ, e_pfi_RJI, e_pfj_RJI, e_pfr_RJI, e_po_RJI, e_pfi_RJJJ, e_pfj_RJJJ, e_pfr_RJJJ, e_po_RJJJ, e_pfi_RJIJ, e_pfj_RJIJ, e_pfr_RJIJ, e_po_RJIJ, e_pfi_RIIIJ, e_pfj_RIIIJ, e_pfr_RIIIJ, e_po_RIIIJ, e_pfi_J, e_pfj_J, e_pfr_J, e_po_J, e_pfi_RR, e_pfj_RR, e_pfr_RR, e_po_RR, e_pfi_RRI, e_pfj_RRI, e_pfr_RRI, e_po_RRI, e_pfi_RRII, e_pfj_RRII, e_pfr_RRII, e_po_RRII, e_pfi_RRIII, e_pfj_RRIII, e_pfr_RRIII, e_po_RRIII, e_pfi_RIJ, e_pfj_RIJ, e_pfr_RIJ, e_po_RIJ, e_X8_in, o_X8_in, e_X8_isIn, o_X8_isIn, e_X8_isText, o_X8_isText, e_X8_isStep, o_X8_isStep, e_X8_isSheet, o_X8_isSheet, e_X8_kindOf, o_X8_kindOf, e_X8_headOf, o_X8_headOf, e_X8_handOf, o_X8_handOf, e_X8_ones, o_X8_ones, e_X8_tries, o_X8_tries, e_X8_no, o_X8_no, e_X8_byteAt, o_X8_byteAt, e_X8_isPlace, o_X8_isPlace, e_X8_beside, o_X8_beside, e_X8_isAnywhere, o_X8_isAnywhere, e_X8_ofRow, o_X8_ofRow, e_X8_lacks, o_X8_lacks, shR_0, shR_1, shR_2, shR_3, shR_4, shR_5, shR_6, shR_7, shR_8, shR_9, shR_10, shR_11, shR_12, shR_13, shR_14, shR_15, shR_16, shR_17, shR_18, shR_19, shR_20, shR_21, shR_22, shR_23, rrR_0_0, rrR_0_1, rrR_0_5, rrR_0_7, rrR_0_8, rrR_0_9, rrR_0_10, rrR_0_11, rrR_0_12, rrR_0_13, rrR_0_14, rrR_0_15, rrR_0_16, rrR_0_18, rrR_0_19, rrR_0_20, rrR_0_21, rrR_0_22, rrR_0_23, rrR_0_24, rrR_0_25, rrR_0_26, rrR_0_27, mR_1, mR_2, mR_3, mR_4, mR_p0, mR_p1, mR_a0, mR_a1, mR_a2, mR_g0, mR_g1, mR_d0, mR_d1, gd_some, is_some, la_some]; try simp only [mzcmp, mzcml, mzz01, it_ne0, it_eq0, it_eq1, eq_10, eq_20, eq_21, eq_01, eq_self, Classical.not_not, if_true, if_false, not_true_eq_false, not_false_eq_true, ite_true, ite_false, reduceIte, decide_eq_true_eq, Bool.and_eq_true, Bool.or_eq_true, Bool.not_eq_true, decide_eq_false_iff_not, true_and, and_true, implies_true]
      refine hK _ I ⟨hfr, fun _ => ⟨rfl, h06⟩, fun h0 => ?_⟩
      exfalso
      rcases Nat.eq_zero_or_pos n with e | e
      · omega
      · omega
set_option maxRecDepth 10000 in
/-- readsWalkers: what the text says -/
theorem t_readsWalkers (I : Nat → Nat → Int32) (L : Nat → Nat → Int64) (K : Value → mzM → Prop) (n1 : Nat) (hn1 : n1 ≤ 39) (ht : I 1 1 = nI n1) (hK : ∀ v I', rwP I n1 v I' → K (.int v) (mR I' L)) : mzdo M_X8_readsWalkers [.ref 0] (mR I L) K := by
  simp only [M_X8_readsWalkers, w_mk, B_X8_readsWalkers, w_gI, w_gJ, w_gR, w_gB, w_gV, w_gcV, w_gcS, w_g1, w_g2, w_gq, w_bcmp, w_bif0, w_band, w_bor, w_bnot, w_sskip, w_sseq, w_sset, w_sinc, w_sret, w_sretZ, w_sretv, w_sbrk, w_scnt, w_sif, w_sif1, w_sloop, w_sput, w_sputop, w_sast, w_sastop, w_sastI, w_sastJ, w_sputI, w_sputJ, w_scV, w_scS, w_spop, w_ssw, mzfi, mzfl, mzfs, mzf1il, mzf1li, mzf1ii, e_iK, e_iKc, e_iKw, e_jK, e_jKc, e_rN, e_iL, e_jL, e_rL, e_iadd, e_isub, e_imul, e_iand, e_ior, e_ishl, e_ishr, e_iushr, e_idiv, e_irem, e_jadd, e_jsub, e_jmul, e_jand, e_jor, e_jxor, e_jdiv, e_jrem, e_jshl, e_jushr, e_i2j, e_j2i, e_i2b, e_i2s, e_iF, e_jF, e_rF, e_iA, e_jA, e_zA, e_rA, e_ilen, e_iU, e_ccmp, e_cif0, e_ccml, e_cnul, e_cand, e_cor, e_cnot, e_iq, e_jq, e_rq, e_icV, e_icS, e_jcV, e_jcS, e_rcV, e_rcS, e_vI, e_vJ, e_vR, o_iK, o_iKc, o_iKw, o_jK, o_jKc, o_rN, o_iL, o_jL, o_rL, o_iadd, o_isub, o_imul, o_iand, o_ior, o_ishl, o_ishr, o_iushr, o_idiv, o_irem, o_jadd, o_jsub, o_jmul, o_jand, o_jor, o_jxor, o_jdiv, o_jrem, o_jshl, o_jushr, o_i2j, o_j2i, o_i2b, o_i2s, o_iF, o_jF, o_rF, o_iA, o_jA, o_zA, o_rA, o_ilen, o_iU, o_ccmp, o_cif0, o_ccml, o_cnul, o_cand, o_cor, o_cnot, o_iq, o_jq, o_rq, o_icV, o_icS, o_jcV, o_jcS, o_rcV, o_rcS, o_vI, o_vJ, o_vR, mzwV, mzwS, mzwas, w_do, mzini, a_nil, a_int, a_long, a_ref, a_null, st_int, st_ref, st_null, st_long, kl_0, kl_s, rf_some, rf_none, List.length_cons, List.length_nil, Nat.reduceAdd, Nat.reduceSub, Nat.reduceLeDiff, List.replicate_succ, List.replicate_zero, List.cons_append, List.nil_append, List.append_nil, mzgi, mzgio, mzgj, mzgjo, mzgr, mzgro, List.getElem?_cons_succ, List.getElem?_cons_zero, List.set_cons_succ, List.set_cons_zero, true_and, and_true, Nat.le_refl, Nat.sub_self, implies_true, Bool.and_eq_true, Bool.or_eq_true, decide_eq_true_eq, Bool.not_eq_true, Bool.not_eq_false, Bool.not_eq_eq_eq_not, Bool.not_true, Bool.not_false, decide_eq_false_iff_not, Bool.and_eq_false_iff, Bool.or_eq_false_iff, in_0_2, in_1_2, mzevs, mzoks, mzrc, e_pfi_I, e_pfj_I, e_pfr_I, e_po_I, e_pfi_II, e_pfj_II, e_pfr_II, e_po_II, e_pfi_III, e_pfj_III, e_pfr_III, e_po_III, e_pfi_IIII, e_pfj_IIII, e_pfr_IIII, e_po_IIII, e_pfi_IIIII, e_pfj_IIIII, e_pfr_IIIII, e_po_IIIII, e_pfi_R, e_pfj_R, e_pfr_R, e_po_R, e_pfi_RI, e_pfj_RI, e_pfr_RI, e_po_RI, e_pfi_RII, e_pfj_RII, e_pfr_RII, e_po_RII, e_pfi_RIII, e_pfj_RIII, e_pfr_RIII, e_po_RIII, e_pfi_RIIII, e_pfj_RIIII, e_pfr_RIIII, e_po_RIIII, e_pfi_RIIIII, e_pfj_RIIIII, e_pfr_RIIIII, e_po_RIIIII, e_pfi_JI, e_pfj_JI, e_pfr_JI, e_po_JI, e_pfi_JJ, e_pfj_JJ, e_pfr_JJ, e_po_JJ, e_pfi_RJ, e_pfj_RJ, e_pfr_RJ, e_po_RJ, e_pfi_RJI, e_pfj_RJI, e_pfr_RJI, e_po_RJI, e_pfi_RJJJ, e_pfj_RJJJ, e_pfr_RJJJ, e_po_RJJJ, e_pfi_RJIJ, e_pfj_RJIJ, e_pfr_RJIJ, e_po_RJIJ, e_pfi_RIIIJ, e_pfj_RIIIJ, e_pfr_RIIIJ, e_po_RIIIJ, e_pfi_J, e_pfj_J, e_pfr_J, e_po_J, e_pfi_RR, e_pfj_RR, e_pfr_RR, e_po_RR, e_pfi_RRI, e_pfj_RRI, e_pfr_RRI, e_po_RRI, e_pfi_RRII, e_pfj_RRII, e_pfr_RRII, e_po_RRII, e_pfi_RRIII, e_pfj_RRIII, e_pfr_RRIII, e_po_RRIII, e_pfi_RIJ, e_pfj_RIJ, e_pfr_RIJ, e_po_RIJ, e_X8_in, o_X8_in, e_X8_isIn, o_X8_isIn, e_X8_isText, o_X8_isText, e_X8_isStep, o_X8_isStep, e_X8_isSheet, o_X8_isSheet, e_X8_kindOf, o_X8_kindOf, e_X8_headOf, o_X8_headOf, e_X8_handOf, o_X8_handOf, e_X8_ones, o_X8_ones, e_X8_tries, o_X8_tries, e_X8_no, o_X8_no, e_X8_byteAt, o_X8_byteAt, e_X8_isPlace, o_X8_isPlace, e_X8_beside, o_X8_beside, e_X8_isAnywhere, o_X8_isAnywhere, e_X8_ofRow, o_X8_ofRow, e_X8_lacks, o_X8_lacks, shR_0, shR_1, shR_2, shR_3, shR_4, shR_5, shR_6, shR_7, shR_8, shR_9, shR_10, shR_11, shR_12, shR_13, shR_14, shR_15, shR_16, shR_17, shR_18, shR_19, shR_20, shR_21, shR_22, shR_23, rrR_0_0, rrR_0_1, rrR_0_5, rrR_0_7, rrR_0_8, rrR_0_9, rrR_0_10, rrR_0_11, rrR_0_12, rrR_0_13, rrR_0_14, rrR_0_15, rrR_0_16, rrR_0_18, rrR_0_19, rrR_0_20, rrR_0_21, rrR_0_22, rrR_0_23, rrR_0_24, rrR_0_25, rrR_0_26, rrR_0_27, mR_1, mR_2, mR_3, mR_4, mR_p0, mR_p1, mR_a0, mR_a1, mR_a2, mR_g0, mR_g1, mR_d0, mR_d1, gd_some, is_some, la_some]; try simp only [mzcmp, mzcml, mzz01, it_ne0, it_eq0, it_eq1, eq_10, eq_20, eq_21, eq_01, eq_self, Classical.not_not, if_true, if_false, not_true_eq_false, not_false_eq_true, ite_true, ite_false, reduceIte, decide_eq_true_eq, Bool.and_eq_true, Bool.or_eq_true, Bool.not_eq_true, decide_eq_false_iff_not, true_and, and_true, implies_true]
  refine ⟨8 + 1, ?_⟩
  refine t_readsWalkers_loop I L K n1 hn1 _ rfl hK 8 0 _ none (by omega) ?_ (fun i j a1 a2 a3 a4 => ?_) (ms_same _ _ _ _) (fun p hp => by omega) (fun w hw => by omega)
  · rw [ms_cell _ _ (by decide)]; exact ht
  · rw [ms_at, if_neg a1]
def Lt1_X8_faultOf : mzT1 :=
  (sret (gI (iq 14 18 (cif0 .eq (iL 1)) (iL 2) (iL 3))))
def Lt2_X8_faultOf : mzT1 :=
  (sseq (sset 3 (gcV M_X8_readsWalkers lkV_8_125 ym_X8_readsWalkers (by decide) [(gR (rL 0))]))
  Lt1_X8_faultOf)
def B_X8_faultOf : mzT1 :=
  (sseq (sset 2 (gcV M_X8_readsMaze lkV_8_121 ym_X8_readsMaze (by decide) [(gR (rL 0))]))
  Lt2_X8_faultOf)
theorem ok_X8_faultOf : mzok1 yX8_faultOf cX8_faultOf 8 4 (some .int) 3 71 1 B_X8_faultOf := ⟨by decide +kernel, mzT_at 905 (by decide +kernel) rfl, by decide, rfl, rfl, rfl⟩
def M_X8_faultOf : mzMt := mzmk yX8_faultOf cX8_faultOf 8 4 (some .int) 3 71 1 B_X8_faultOf ok_X8_faultOf
theorem ym_X8_faultOf : M_X8_faultOf.1.1 = yX8_faultOf := rfl

def Lt1_X8_isDay : mzT1 :=
  (sretZ (gI (icS P_X8_in lkS_8_83 yp_X8_in [(vI (iL 1)), (vI (iK 0)), (vI (isub (iF lkF_8_91 (by decide) (rL 0)) (iK 1)))])))
def B_X8_isDay : mzT1 :=
  (sseq (sset 2 (gcV M_X8_readsMaze lkV_8_121 ym_X8_readsMaze (by decide) [(gR (rL 0))]))
  Lt1_X8_isDay)
theorem ok_X8_isDay : mzok1 yX8_isDay cX8_isDay 8 3 (some .boolean) 2 45 4 B_X8_isDay := ⟨by decide +kernel, mzT_at 976 (by decide +kernel) rfl, by decide, rfl, rfl, rfl⟩
def M_X8_isDay : mzMt := mzmk yX8_isDay cX8_isDay 8 3 (some .boolean) 2 45 4 B_X8_isDay ok_X8_isDay
theorem ym_X8_isDay : M_X8_isDay.1.1 = yX8_isDay := rfl

def Lt1_X8_isWalker : mzT1 :=
  (sretZ (gI (icS P_X8_in lkS_8_83 yp_X8_in [(vI (iL 1)), (vI (iK 0)), (vI (isub (iF lkF_8_114 (by decide) (rL 0)) (iK 1)))])))
def B_X8_isWalker : mzT1 :=
  (sseq (sset 2 (gcV M_X8_readsWalkers lkV_8_125 ym_X8_readsWalkers (by decide) [(gR (rL 0))]))
  Lt1_X8_isWalker)
theorem ok_X8_isWalker : mzok1 yX8_isWalker cX8_isWalker 8 3 (some .boolean) 3 71 4 B_X8_isWalker := ⟨by decide +kernel, mzT_at 938 (by decide +kernel) rfl, by decide, rfl, rfl, rfl⟩
def M_X8_isWalker : mzMt := mzmk yX8_isWalker cX8_isWalker 8 3 (some .boolean) 3 71 4 B_X8_isWalker ok_X8_isWalker
theorem ym_X8_isWalker : M_X8_isWalker.1.1 = yX8_isWalker := rfl

