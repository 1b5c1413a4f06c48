/-! the reference: lays -/
/-- four ways, as bits -/
def ob (n e s w : Bool) : Int32 := (if n = true then 1 else 0) ||| (if e = true then 2 else 0) ||| (if s = true then 4 else 0) ||| (if w = true then 8 else 0)
theorem ob_n (n e s w : Bool) : ob n e s w ||| 1 = ob true e s w := by cases n <;> cases e <;> cases s <;> cases w <;> decide
theorem ob_e (n e s w : Bool) : ob n e s w ||| 2 = ob n true s w := by cases n <;> cases e <;> cases s <;> cases w <;> decide
theorem ob_s (n e s w : Bool) : ob n e s w ||| 4 = ob n e true w := by cases n <;> cases e <;> cases s <;> cases w <;> decide
theorem ob_w (n e s w : Bool) : ob n e s w ||| 8 = ob n e s true := by cases n <;> cases e <;> cases s <;> cases w <;> decide
theorem ob_0 : ob false false false false = 0 := by decide
/-- open places below dR to the right, below dD downwards -/
def obg (wide : Nat) (R D : Nat → Bool) (dR dD e : Nat) : Int32 := ob (decide (wide ≤ e) && (decide (e - wide < dD) && D (e - wide))) (decide (e < dR) && R e) (decide (e < dD) && D e) (decide (1 ≤ e) && (decide (e - 1 < dR) && R (e - 1)))
theorem obg_0 (wide : Nat) (R D : Nat → Bool) (e : Nat) : obg wide R D 0 0 e = 0 := by
  unfold obg
  simp only [Nat.not_lt_zero, decide_false, Bool.false_and, Bool.and_false, ob_0]
theorem obg_Rn (wide : Nat) (R D : Nat → Bool) (d dD e : Nat) (h : R d = false) : obg wide R D (d + 1) dD e = obg wide R D d dD e := by
  unfold obg
  have a1 : (decide (e < d + 1) && R e) = (decide (e < d) && R e) := by
    by_cases q : e = d
    · subst q; simp [h]
    · have : (e < d + 1) = (e < d) := propext (by omega)
      simp only [this]
  have a2 : (decide (1 ≤ e) && (decide (e - 1 < d + 1) && R (e - 1))) = (decide (1 ≤ e) && (decide (e - 1 < d) && R (e - 1))) := by
    by_cases q : e - 1 = d
    · rw [q, h]; simp
    · have : (e - 1 < d + 1) = (e - 1 < d) := propext (by omega)
      simp only [this]
  rw [a1, a2]
theorem obg_Dn (wide : Nat) (R D : Nat → Bool) (dR d e : Nat) (h : D d = false) : obg wide R D dR (d + 1) e = obg wide R D dR d e := by
  unfold obg
  have a1 : (decide (e < d + 1) && D e) = (decide (e < d) && D e) := by
    by_cases q : e = d
    · subst q; simp [h]
    · have : (e < d + 1) = (e < d) := propext (by omega)
      simp only [this]
  have a2 : (decide (wide ≤ e) && (decide (e - wide < d + 1) && D (e - wide))) = (decide (wide ≤ e) && (decide (e - wide < d) && D (e - wide))) := by
    by_cases q : e - wide = d
    · rw [q, h]; simp
    · have : (e - wide < d + 1) = (e - wide < d) := propext (by omega)
      simp only [this]
  rw [a1, a2]
theorem obg_Ry (wide : Nat) (R D : Nat → Bool) (d dD e : Nat) (h : R d = true) : obg wide R D (d + 1) dD e = (if e = d then obg wide R D d dD e ||| 2 else if e = d + 1 then obg wide R D d dD e ||| 8 else obg wide R D d dD e) := by
  unfold obg
  by_cases q : e = d
  · subst q
    rw [if_pos rfl, ob_e]
    have a2 : (e - 1 < e + 1) = (1 ≤ e ∧ e - 1 < e ∨ e = 0) := propext (by omega)
    have a3 : (decide (1 ≤ e) && (decide (e - 1 < e + 1) && R (e - 1))) = (decide (1 ≤ e) && (decide (e - 1 < e) && R (e - 1))) := by
      by_cases q1 : 1 ≤ e
      · have : (e - 1 < e + 1) = (e - 1 < e) := propext (by omega)
        simp only [this]
      · simp [q1]
    rw [a3]
    simp [h]
  · rw [if_neg q]
    by_cases q1 : e = d + 1
    · subst q1
      rw [if_pos rfl, ob_w]
      have b1 : (d + 1 < d + 1) = (d + 1 < d) := propext (by omega)
      simp only [b1]
      simp [h]
    · rw [if_neg q1]
      have b1 : (e < d + 1) = (e < d) := propext (by omega)
      by_cases q2 : 1 ≤ e
      · have b2 : (e - 1 < d + 1) = (e - 1 < d) := propext (by omega)
        simp only [b1, b2]
      · simp only [b1, q2, decide_false, Bool.false_and]
theorem obg_Dy (wide : Nat) (hw : 0 < wide) (R D : Nat → Bool) (dR d e : Nat) (h : D d = true) : obg wide R D dR (d + 1) e = (if e = d then obg wide R D dR d e ||| 4 else if e = d + wide then obg wide R D dR d e ||| 1 else obg wide R D dR d e) := by
  unfold obg
  by_cases q : e = d
  · subst q
    rw [if_pos rfl, ob_s]
    have a3 : (decide (wide ≤ e) && (decide (e - wide < e + 1) && D (e - wide))) = (decide (wide ≤ e) && (decide (e - wide < e) && D (e - wide))) := by
      by_cases q1 : wide ≤ e
      · have : (e - wide < e + 1) = (e - wide < e) := propext (by omega)
        simp only [this]
      · simp [q1]
    rw [a3]
    simp [h]
  · rw [if_neg q]
    by_cases q1 : e = d + wide
    · subst q1
      rw [if_pos rfl, ob_n]
      have b1 : (d + wide < d + 1) = (d + wide < d) := propext (by omega)
      simp only [b1]
      simp [h]
    · rw [if_neg q1]
      have b1 : (e < d + 1) = (e < d) := propext (by omega)
      by_cases q2 : wide ≤ e
      · have b2 : (e - wide < d + 1) = (e - wide < d) := propext (by omega)
        simp only [b1, b2]
      · simp only [b1, q2, decide_false, Bool.false_and]
def Lc1_X8_lays : mzB1 :=
  (gB (ccmp .lt (iL 3) (iF lkF_8_91 (by decide) (rL 0))))
def Lb1_X8_lays : mzT1 :=
  (sast 0 (gR (rF lkF_8_40 (by decide) (rL 0))) (gI (iadd (imul (iK 36) (iL 2)) (iL 3))) (gI (iK 0)))
def Ls1_X8_lays : mzT1 :=
  (sinc 3 1)
def Lt1_X8_lays : mzT1 :=
  (sseq (sastI mzr_ior (gR (rF lkF_8_40 (by decide) (rL 0))) (gI (iadd (imul (iK 36) (iL 2)) (iL 3))) (gI (iK 2)))
  (sastI mzr_ior (gR (rF lkF_8_40 (by decide) (rL 0))) (gI (iadd (iadd (imul (iK 36) (iL 2)) (iL 3)) (iK 1))) (gI (iK 8))))
def Lt2_X8_lays : mzT1 :=
  (sseq (sastI mzr_ior (gR (rF lkF_8_40 (by decide) (rL 0))) (gI (iadd (imul (iK 36) (iL 2)) (iL 3))) (gI (iK 4)))
  (sastI mzr_ior (gR (rF lkF_8_40 (by decide) (rL 0))) (gI (iadd (iadd (imul (iK 36) (iL 2)) (iL 3)) (iF lkF_8_98 (by decide) (rL 0)))) (gI (iK 1))))
def Lt3_X8_lays : mzT1 :=
  (sif1 (band 113 (gB (cif0 .ne (icV P_X8_isPlace lkV_8_151 yp_X8_isPlace [(vR (rL 0)), (vI (iL 3)), (vI (iK 1))]))) (bif0 .ne (gcV M_X8_isOpenAt lkV_8_154 ym_X8_isOpenAt (by decide) [(gR (rL 0)), (gI (iL 2)), (gI (iL 3)), (gI (iK 1))]))) 123
  Lt2_X8_lays)
def Lc2_X8_lays : mzB1 :=
  (gB (ccmp .lt (iL 3) (iF lkF_8_91 (by decide) (rL 0))))
def Lb2_X8_lays : mzT1 :=
  (sseq (sif1 (band 61 (gB (cif0 .ne (icV P_X8_isPlace lkV_8_151 yp_X8_isPlace [(vR (rL 0)), (vI (iL 3)), (vI (iK 0))]))) (bif0 .ne (gcV M_X8_isOpenAt lkV_8_154 ym_X8_isOpenAt (by decide) [(gR (rL 0)), (gI (iL 2)), (gI (iL 3)), (gI (iK 0))]))) 71
  Lt1_X8_lays)
  Lt3_X8_lays)
def Ls2_X8_lays : mzT1 :=
  (sinc 3 1)
def Lt4_X8_lays : mzT1 :=
  (sseq (sset 3 (gI (iK 0)))
  (sloop Lc2_X8_lays 52 Lb2_X8_lays 158 Ls2_X8_lays 164))
def Lc3_X8_lays : mzB1 :=
  (gB (ccmp .lt (iL 2) (iK 100)))
def Lb3_X8_lays : mzT1 :=
  (sseq (sset 3 (gI (iK 0)))
  (sseq (sloop Lc1_X8_lays 24 Lb1_X8_lays 36 Ls1_X8_lays 42)
  Lt4_X8_lays))
def Ls3_X8_lays : mzT1 :=
  (sinc 2 1)
def Lt5_X8_lays : mzT1 :=
  sretv
def Lt6_X8_lays : mzT1 :=
  (sseq (sset 2 (gI (iK 0)))
  (sseq (sloop Lc3_X8_lays 14 Lb3_X8_lays 164 Ls3_X8_lays 170)
  Lt5_X8_lays))
def B_X8_lays : mzT1 :=
  (sseq (sset 1 (gcV M_X8_faultOf lkV_8_128 ym_X8_faultOf (by decide) [(gR (rL 0)), (gI (iK 0))]))
  Lt6_X8_lays)
theorem ok_X8_lays : mzok1 yX8_lays cX8_lays 8 4 none 4 94 0 B_X8_lays := ⟨by decide +kernel, mzT_at 984 (by decide +kernel) rfl, by decide, rfl, rfl, rfl⟩
def M_X8_lays : mzMt := mzmk yX8_lays cX8_lays 8 4 none 4 94 0 B_X8_lays ok_X8_lays
theorem ym_X8_lays : M_X8_lays.1.1 = yX8_lays := rfl

/-- only the cell 11 has changed, there only places from a on, n of them -/
def eq11 (I I' : Nat → Nat → Int32) (a n : Nat) : Prop := (∀ i j, i ≠ 11 → I' i j = I i j) ∧ ∀ j, (j < a ∨ a + n ≤ j) → I' 11 j = I 11 j
set_option maxRecDepth 10000 in
theorem rx_lays1 (L : Nat → Nat → Int64) (Kn : mzL → mzM → Prop) (Kr : Value → mzM → Prop) (v1 : Int32) (s D : Nat) (hs : s < 100) (hD : D ≤ 36) (I0 : Nat → Nat → Int32) (h4 : I0 0 4 = nI D) (hK : ∀ I', eq11 I0 I' (36 * s) D → (∀ e, e < D → I' 11 (36 * s + e) = 0) → Kn [some (.ref 0), some (.int v1), some (.int (nI s)), some (.int (nI D))] (mR I' L)) :
    ∀ (f d : Nat) (I : Nat → Nat → Int32), d + f = D → eq11 I0 I (36 * s) D → (∀ e, e < d → I 11 (36 * s + e) = 0) → mzit Lc1_X8_lays.val.snd Lb1_X8_lays.val.snd Ls1_X8_lays.val.snd Kn Kr (f + 1) [some (.ref 0), some (.int v1), some (.int (nI s)), some (.int (nI d))] (mR I L) := by
  intro f
  induction f with
  | zero =>
    intro d I hf he h0
    have e4 : I 0 4 = nI D := (he.1 0 4 (by decide)).trans h4
    have ed : d = D := by omega
    subst ed
    refine mzit_s (fun J hJ => ?_)
    simp only [Lc1_X8_lays, w_gI, w_gJ, w_gR, w_gB, w_gV, w_gcV, w_gcS, w_g1, w_g2, w_gq, w_bcmp, w_bif0, w_band, w_bor, w_bnot, w_sskip, w_sseq, w_sset, w_sinc, w_sret, w_sretZ, w_sretv, w_sbrk, w_scnt, w_sif, w_sif1, w_sloop, w_sput, w_sputop, w_sast, w_sastop, w_sastI, w_sastJ, w_sputI, w_sputJ, w_scV, w_scS, w_spop, w_ssw, mzfi, mzfl, mzfs, mzf1il, mzf1li, mzf1ii, e_iK, e_iKc, e_iKw, e_jK, e_jKc, e_rN, e_iL, e_jL, e_rL, e_iadd, e_isub, e_imul, e_iand, e_ior, e_ishl, e_ishr, e_iushr, e_idiv, e_irem, e_jadd, e_jsub, e_jmul, e_jand, e_jor, e_jxor, e_jdiv, e_jrem, e_jshl, e_jushr, e_i2j, e_j2i, e_i2b, e_i2s, e_iF, e_jF, e_rF, e_iA, e_jA, e_zA, e_rA, e_ilen, e_iU, e_ccmp, e_cif0, e_ccml, e_cnul, e_cand, e_cor, e_cnot, e_iq, e_jq, e_rq, e_icV, e_icS, e_jcV, e_jcS, e_rcV, e_rcS, e_vI, e_vJ, e_vR, o_iK, o_iKc, o_iKw, o_jK, o_jKc, o_rN, o_iL, o_jL, o_rL, o_iadd, o_isub, o_imul, o_iand, o_ior, o_ishl, o_ishr, o_iushr, o_idiv, o_irem, o_jadd, o_jsub, o_jmul, o_jand, o_jor, o_jxor, o_jdiv, o_jrem, o_jshl, o_jushr, o_i2j, o_j2i, o_i2b, o_i2s, o_iF, o_jF, o_rF, o_iA, o_jA, o_zA, o_rA, o_ilen, o_iU, o_ccmp, o_cif0, o_ccml, o_cnul, o_cand, o_cor, o_cnot, o_iq, o_jq, o_rq, o_icV, o_icS, o_jcV, o_jcS, o_rcV, o_rcS, o_vI, o_vJ, o_vR, mzwV, mzwS, mzwas, w_do, mzini, a_nil, a_int, a_long, a_ref, a_null, st_int, st_ref, st_null, st_long, kl_0, kl_s, rf_some, rf_none, List.length_cons, List.length_nil, Nat.reduceAdd, Nat.reduceSub, Nat.reduceLeDiff, List.replicate_succ, List.replicate_zero, List.cons_append, List.nil_append, List.append_nil, mzgi, mzgio, mzgj, mzgjo, mzgr, mzgro, List.getElem?_cons_succ, List.getElem?_cons_zero, List.set_cons_succ, List.set_cons_zero, true_and, and_true, Nat.le_refl, Nat.sub_self, implies_true, Bool.and_eq_true, Bool.or_eq_true, decide_eq_true_eq, Bool.not_eq_true, Bool.not_eq_false, Bool.not_eq_eq_eq_not, Bool.not_true, Bool.not_false, decide_eq_false_iff_not, Bool.and_eq_false_iff, Bool.or_eq_false_iff, in_0_2, in_1_2, mzevs, mzoks, mzrc, e_pfi_I, e_pfj_I, e_pfr_I, e_po_I, e_pfi_II, e_pfj_II, e_pfr_II, e_po_II, e_pfi_III, e_pfj_III, e_pfr_III, e_po_III, e_pfi_IIII, e_pfj_IIII, e_pfr_IIII, e_po_IIII, e_pfi_IIIII, e_pfj_IIIII, e_pfr_IIIII, e_po_IIIII, e_pfi_R, e_pfj_R, e_pfr_R, e_po_R, e_pfi_RI, e_pfj_RI, e_pfr_RI, e_po_RI, e_pfi_RII, e_pfj_RII, e_pfr_RII, e_po_RII, e_pfi_RIII, e_pfj_RIII, e_pfr_RIII, e_po_RIII, e_pfi_RIIII, e_pfj_RIIII, e_pfr_RIIII, e_po_RIIII, e_pfi_RIIIII, e_pfj_RIIIII, e_pfr_RIIIII, e_po_RIIIII, e_pfi_JI, e_pfj_JI, e_pfr_JI, e_po_JI, e_pfi_JJ, e_pfj_JJ, e_pfr_JJ, e_po_JJ, e_pfi_RJ, e_pfj_RJ, e_pfr_RJ, e_po_RJ, e_pfi_RJI, e_pfj_RJI, e_pfr_RJI, e_po_RJI, e_pfi_RJJJ, e_pfj_RJJJ, e_pfr_RJJJ, e_po_RJJJ, e_pfi_RJIJ, e_pfj_RJIJ, e_pfr_RJIJ, e_po_RJIJ, e_pfi_RIIIJ, e_pfj_RIIIJ, e_pfr_RIIIJ, e_po_RIIIJ, e_pfi_J, e_pfj_J, e_pfr_J, e_po_J, e_pfi_RR, e_pfj_RR, e_pfr_RR, e_po_RR, e_pfi_RRI, e_pfj_RRI, e_pfr_RRI, e_po_RRI, e_pfi_RRII, e_pfj_RRII, e_pfr_RRII, e_po_RRII, e_pfi_RRIII, e_pfj_RRIII, e_pfr_RRIII, e_po_RRIII, e_pfi_RIJ, e_pfj_RIJ, e_pfr_RIJ, e_po_RIJ, e_X8_in, o_X8_in, e_X8_isIn, o_X8_isIn, e_X8_isText, o_X8_isText, e_X8_isStep, o_X8_isStep, e_X8_isSheet, o_X8_isSheet, e_X8_kindOf, o_X8_kindOf, e_X8_headOf, o_X8_headOf, e_X8_handOf, o_X8_handOf, e_X8_ones, o_X8_ones, e_X8_tries, o_X8_tries, e_X8_no, o_X8_no, e_X8_byteAt, o_X8_byteAt, e_X8_isPlace, o_X8_isPlace, e_X8_beside, o_X8_beside, e_X8_isAnywhere, o_X8_isAnywhere, e_X8_ofRow, o_X8_ofRow, e_X8_lacks, o_X8_lacks, shR_0, shR_1, shR_2, shR_3, shR_4, shR_5, shR_6, shR_7, shR_8, shR_9, shR_10, shR_11, shR_12, shR_13, shR_14, shR_15, shR_16, shR_17, shR_18, shR_19, shR_20, shR_21, shR_22, shR_23, rrR_0_0, rrR_0_1, rrR_0_5, rrR_0_7, rrR_0_8, rrR_0_9, rrR_0_10, rrR_0_11, rrR_0_12, rrR_0_13, rrR_0_14, rrR_0_15, rrR_0_16, rrR_0_18, rrR_0_19, rrR_0_20, rrR_0_21, rrR_0_22, rrR_0_23, rrR_0_24, rrR_0_25, rrR_0_26, rrR_0_27, mR_1, mR_2, mR_3, mR_4, mR_p0, mR_p1, mR_a0, mR_a1, mR_a2, mR_g0, mR_g1, mR_d0, mR_d1, gd_some, is_some, la_some]; try simp only [mzcmp, mzcml, mzz01, it_ne0, it_eq0, it_eq1, eq_10, eq_20, eq_21, eq_01, eq_self, Classical.not_not, if_true, if_false, not_true_eq_false, not_false_eq_true, ite_true, ite_false, reduceIte, decide_eq_true_eq, Bool.and_eq_true, Bool.or_eq_true, Bool.not_eq_true, decide_eq_false_iff_not, true_and, and_true, implies_true]
    simp (disch := omega) only [it_n0, it_n1, not_false_eq_true, not_true_eq_false, Classical.not_not, Nat.reduceEqDiff, Nat.reduceLeDiff, false_and, and_false, true_and, and_true, if_false, if_true, reduceIte, eq_self, li_0, li_1, li_2, li_3, li_4, li_5, li_6, li_7, li_8, li_9, li_10, li_12, li_16, li_18, li_35, li_36, li_39, li_41, li_60, li_99, li_100, li_143, li_144, li_150, li_255, li_1000, li_1800, li_far, in_nI, nu_lt, nu_le, nu_eq, nu_cl, nu_sub, nu_div, nu_rem, nu_add, nu_mul, ng1, nu_mM, nu_Mm, nu_ltM, nu_Mlt, nu_leM, nu_Mle, nu_m1, nu_oi1, nu_oi2, nu_oi4, nu_oi3, nu_m1', e4]
    exact ⟨fun h => absurd h (by omega), fun _ => hK I he h0⟩
  | succ f ih =>
    intro d I hf he h0
    have e4 : I 0 4 = nI D := (he.1 0 4 (by decide)).trans h4
    refine mzit_s (fun J hJ => ?_)
    simp only [Lc1_X8_lays, Lb1_X8_lays, Ls1_X8_lays, w_gI, w_gJ, w_gR, w_gB, w_gV, w_gcV, w_gcS, w_g1, w_g2, w_gq, w_bcmp, w_bif0, w_band, w_bor, w_bnot, w_sskip, w_sseq, w_sset, w_sinc, w_sret, w_sretZ, w_sretv, w_sbrk, w_scnt, w_sif, w_sif1, w_sloop, w_sput, w_sputop, w_sast, w_sastop, w_sastI, w_sastJ, w_sputI, w_sputJ, w_scV, w_scS, w_spop, w_ssw, mzfi, mzfl, mzfs, mzf1il, mzf1li, mzf1ii, e_iK, e_iKc, e_iKw, e_jK, e_jKc, e_rN, e_iL, e_jL, e_rL, e_iadd, e_isub, e_imul, e_iand, e_ior, e_ishl, e_ishr, e_iushr, e_idiv, e_irem, e_jadd, e_jsub, e_jmul, e_jand, e_jor, e_jxor, e_jdiv, e_jrem, e_jshl, e_jushr, e_i2j, e_j2i, e_i2b, e_i2s, e_iF, e_jF, e_rF, e_iA, e_jA, e_zA, e_rA, e_ilen, e_iU, e_ccmp, e_cif0, e_ccml, e_cnul, e_cand, e_cor, e_cnot, e_iq, e_jq, e_rq, e_icV, e_icS, e_jcV, e_jcS, e_rcV, e_rcS, e_vI, e_vJ, e_vR, o_iK, o_iKc, o_iKw, o_jK, o_jKc, o_rN, o_iL, o_jL, o_rL, o_iadd, o_isub, o_imul, o_iand, o_ior, o_ishl, o_ishr, o_iushr, o_idiv, o_irem, o_jadd, o_jsub, o_jmul, o_jand, o_jor, o_jxor, o_jdiv, o_jrem, o_jshl, o_jushr, o_i2j, o_j2i, o_i2b, o_i2s, o_iF, o_jF, o_rF, o_iA, o_jA, o_zA, o_rA, o_ilen, o_iU, o_ccmp, o_cif0, o_ccml, o_cnul, o_cand, o_cor, o_cnot, o_iq, o_jq, o_rq, o_icV, o_icS, o_jcV, o_jcS, o_rcV, o_rcS, o_vI, o_vJ, o_vR, mzwV, mzwS, mzwas, w_do, mzini, a_nil, a_int, a_long, a_ref, a_null, st_int, st_ref, st_null, st_long, kl_0, kl_s, rf_some, rf_none, List.length_cons, List.length_nil, Nat.reduceAdd, Nat.reduceSub, Nat.reduceLeDiff, List.replicate_succ, List.replicate_zero, List.cons_append, List.nil_append, List.append_nil, mzgi, mzgio, mzgj, mzgjo, mzgr, mzgro, List.getElem?_cons_succ, List.getElem?_cons_zero, List.set_cons_succ, List.set_cons_zero, true_and, and_true, Nat.le_refl, Nat.sub_self, implies_true, Bool.and_eq_true, Bool.or_eq_true, decide_eq_true_eq, Bool.not_eq_true, Bool.not_eq_false, Bool.not_eq_eq_eq_not, Bool.not_true, Bool.not_false, decide_eq_false_iff_not, Bool.and_eq_false_iff, Bool.or_eq_false_iff, in_0_2, in_1_2, mzevs, mzoks, mzrc, e_pfi_I, e_pfj_I, e_pfr_I, e_po_I, e_pfi_II, e_pfj_II, e_pfr_II, e_po_II, e_pfi_III, e_pfj_III, e_pfr_III, e_po_III, e_pfi_IIII, e_pfj_IIII, e_pfr_IIII, e_po_IIII, e_pfi_IIIII, e_pfj_IIIII, e_pfr_IIIII, e_po_IIIII, e_pfi_R, e_pfj_R, e_pfr_R, e_po_R, e_pfi_RI, e_pfj_RI, e_pfr_RI, e_po_RI, e_pfi_RII, e_pfj_RII, e_pfr_RII, e_po_RII, e_pfi_RIII, e_pfj_RIII, e_pfr_RIII, e_po_RIII, e_pfi_RIIII, e_pfj_RIIII, e_pfr_RIIII, e_po_RIIII, e_pfi_RIIIII, e_pfj_RIIIII, e_pfr_RIIIII, e_po_RIIIII, e_pfi_JI, e_pfj_JI, e_pfr_JI, e_po_JI, e_pfi_JJ, e_pfj_JJ, e_pfr_JJ, e_po_JJ, e_pfi_RJ, e_pfj_RJ, e_pfr_RJ, e_po_RJ, e_pfi_RJI, e_pfj_RJI, e_pfr_RJI, e_po_RJI, e_pfi_RJJJ, e_pfj_RJJJ, e_pfr_RJJJ, e_po_RJJJ, e_pfi_RJIJ, e_pfj_RJIJ, e_pfr_RJIJ, e_po_RJIJ, e_pfi_RIIIJ, e_pfj_RIIIJ, e_pfr_RIIIJ, e_po_RIIIJ, e_pfi_J, e_pfj_J, e_pfr_J, e_po_J, e_pfi_RR, e_pfj_RR, e_pfr_RR, e_po_RR, e_pfi_RRI, e_pfj_RRI, e_pfr_RRI, e_po_RRI, e_pfi_RRII, e_pfj_RRII, e_pfr_RRII, e_po_RRII, e_pfi_RRIII, e_pfj_RRIII, e_pfr_RRIII, e_po_RRIII, e_pfi_RIJ, e_pfj_RIJ, e_pfr_RIJ, e_po_RIJ, e_X8_in, o_X8_in, e_X8_isIn, o_X8_isIn, e_X8_isText, o_X8_isText, e_X8_isStep, o_X8_isStep, e_X8_isSheet, o_X8_isSheet, e_X8_kindOf, o_X8_kindOf, e_X8_headOf, o_X8_headOf, e_X8_handOf, o_X8_handOf, e_X8_ones, o_X8_ones, e_X8_tries, o_X8_tries, e_X8_no, o_X8_no, e_X8_byteAt, o_X8_byteAt, e_X8_isPlace, o_X8_isPlace, e_X8_beside, o_X8_beside, e_X8_isAnywhere, o_X8_isAnywhere, e_X8_ofRow, o_X8_ofRow, e_X8_lacks, o_X8_lacks, shR_0, shR_1, shR_2, shR_3, shR_4, shR_5, shR_6, shR_7, shR_8, shR_9, shR_10, shR_11, shR_12, shR_13, shR_14, shR_15, shR_16, shR_17, shR_18, shR_19, shR_20, shR_21, shR_22, shR_23, rrR_0_0, rrR_0_1, rrR_0_5, rrR_0_7, rrR_0_8, rrR_0_9, rrR_0_10, rrR_0_11, rrR_0_12, rrR_0_13, rrR_0_14, rrR_0_15, rrR_0_16, rrR_0_18, rrR_0_19, rrR_0_20, rrR_0_21, rrR_0_22, rrR_0_23, rrR_0_24, rrR_0_25, rrR_0_26, rrR_0_27, mR_1, mR_2, mR_3, mR_4, mR_p0, mR_p1, mR_a0, mR_a1, mR_a2, mR_g0, mR_g1, mR_d0, mR_d1, gd_some, is_some, la_some]; try simp only [mzcmp, mzcml, mzz01, it_ne0, it_eq0, it_eq1, eq_10, eq_20, eq_21, eq_01, eq_self, Classical.not_not, if_true, if_false, not_true_eq_false, not_false_eq_true, ite_true, ite_false, reduceIte, decide_eq_true_eq, Bool.and_eq_true, Bool.or_eq_true, Bool.not_eq_true, decide_eq_false_iff_not, true_and, and_true, implies_true]
    simp (disch := omega) only [it_n0, it_n1, not_false_eq_true, not_true_eq_false, Classical.not_not, Nat.reduceEqDiff, Nat.reduceLeDiff, false_and, and_false, true_and, and_true, if_false, if_true, reduceIte, eq_self, li_0, li_1, li_2, li_3, li_4, li_5, li_6, li_7, li_8, li_9, li_10, li_12, li_16, li_18, li_35, li_36, li_39, li_41, li_60, li_99, li_100, li_143, li_144, li_150, li_255, li_1000, li_1800, li_far, in_nI, nu_lt, nu_le, nu_eq, nu_cl, nu_sub, nu_div, nu_rem, nu_add, nu_mul, ng1, nu_mM, nu_Mm, nu_ltM, nu_Mlt, nu_leM, nu_Mle, nu_m1, nu_oi1, nu_oi2, nu_oi4, nu_oi3, nu_m1', e4]
    refine ⟨fun _ => ⟨by omega, hJ _ _ (ih (d + 1) _ (by omega) ⟨fun i j hi => ?_, fun j hj => ?_⟩ (fun e hed => ?_))⟩, fun h => absurd (by omega) h⟩
    · rw [ms_cell _ _ hi]; exact he.1 i j hi
    · rw [ms_place _ _ (by omega)]; exact he.2 j hj
    · by_cases q : e = d
      · subst q; exact ms_same _ _ _ _
      · rw [ms_place _ _ (by omega)]; exact h0 e (by omega)
