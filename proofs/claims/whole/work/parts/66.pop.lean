/-! how many bits, 2 -/
def mkb (b : Nat) : Nat → Nat
  | 0 => 0
  | k + 1 => b + 256 * mkb b k
def pcB (x : Nat) : Nat := p3 15 (p2 51 (p1 85 x))
def pcs : Nat → Nat → Nat
  | 0, _ => 0
  | k + 1, x => pcB (x % 256) + 256 * pcs k (x / 256)
theorem ps1 (k lo hi : Nat) (hl : lo < 256) : p1 (mkb 85 (k + 1)) (lo + 256 * hi) = p1 85 lo + 256 * p1 (mkb 85 k) hi := by
  unfold p1
  have e1 : (lo + 256 * hi) / 2 = (lo / 2 + 128 * (hi % 2)) + 2 ^ 8 * (hi / 2) := by omega
  rw [e1, show mkb 85 (k + 1) = 85 + 2 ^ 8 * mkb 85 k from rfl, and_dig _ _ (by omega) (by omega), pm1 lo hl _ (by omega)]
  have h1 := (pb1 lo hl).2
  have h2 : hi / 2 &&& mkb 85 k ≤ hi / 2 := Nat.and_le_left
  omega
theorem ps2 (k l h : Nat) (hl : l < 256) : p2 (mkb 51 (k + 1)) (l + 256 * h) = p2 51 l + 256 * p2 (mkb 51 k) h := by
  unfold p2
  have e1 : (l + 256 * h) / 4 = (l / 4 + 64 * (h % 4)) + 2 ^ 8 * (h / 4) := by omega
  rw [e1, show mkb 51 (k + 1) = 51 + 2 ^ 8 * mkb 51 k from rfl, and_dig _ _ (by omega) (by omega), pm2 l hl _ (by omega), show l + 256 * h = l + 2 ^ 8 * h from rfl, and_dig _ _ (by omega) (by omega)]
  omega
theorem ps3 (k l h : Nat) (hl : l < 256) (hu : l % 16 ≤ 4) (hv : l / 16 ≤ 4) (hh : h % 16 ≤ 4) : p3 (mkb 15 (k + 1)) (l + 256 * h) = p3 15 l + 256 * p3 (mkb 15 k) h := by
  unfold p3
  have e1 : l + 256 * h + (l + 256 * h) / 16 = (l % 16 + 16 * (l / 16) + l / 16 + 16 * (h % 16)) + 2 ^ 8 * (h + h / 16) := by omega
  have e2 : l + l / 16 = l % 16 + 16 * (l / 16) + l / 16 := by omega
  rw [e1, e2, show mkb 15 (k + 1) = 15 + 2 ^ 8 * mkb 15 k from rfl, and_dig _ _ (by omega) (by omega), pm3 _ (by omega) _ (by omega) _ (by omega)]
theorem pcs_ok : ∀ k x, x < 256 ^ k → p3 (mkb 15 k) (p2 (mkb 51 k) (p1 (mkb 85 k) x)) = pcs k x ∧ p2 (mkb 51 k) (p1 (mkb 85 k) x) % 16 ≤ 4 := by
  intro k
  induction k with
  | zero =>
    intro x hx
    have : x = 0 := by simpa using hx
    subst this
    decide
  | succ k ih =>
    intro x hx
    have hl : x % 256 < 256 := by omega
    have hh : x / 256 < 256 ^ k := by
      rw [Nat.pow_succ] at hx
      omega
    obtain ⟨i1, i2⟩ := ih _ hh
    have ex : x = x % 256 + 256 * (x / 256) := by omega
    have b1 := (pb1 _ hl).1
    have b2 := pb2 _ hl
    obtain ⟨b3, b4, b5⟩ := pb3 _ hl
    have e1 : p1 (mkb 85 (k + 1)) x = p1 85 (x % 256) + 256 * p1 (mkb 85 k) (x / 256) := by
      rw [← ps1 k _ _ hl, ← ex]
    rw [e1, ps2 k _ _ b1, ps3 k _ _ b2 b4 b5 i2, i1]
    refine ⟨rfl, ?_⟩
    omega
theorem pc8 : ∀ x, x < 256 → pcB x = cnb (fun i => x.testBit i) 8 := by decide +kernel
theorem cnb_eq {P Q : Nat → Bool} : ∀ n, (∀ i, i < n → P i = Q i) → cnb P n = cnb Q n := by
  intro n
  induction n with
  | zero => intro _; rfl
  | succ n ih => intro h; rw [cnb, cnb, ih (fun i hi => h i (by omega)), h n (by omega)]
theorem cnb_add (P : Nat → Bool) (m : Nat) : ∀ n, cnb P (m + n) = cnb P m + cnb (fun i => P (m + i)) n := by
  intro n
  induction n with
  | zero => rfl
  | succ n ih =>
    rw [← Nat.add_assoc, cnb, ih, cnb]
    omega
/-- the bytes' counts -/
def pcN : Nat → Nat → Nat
  | 0, _ => 0
  | k + 1, x => pcB (x % 256) + pcN k (x / 256)
theorem pcN_ok : ∀ k x, pcN k x = cnb (fun i => x.testBit i) (8 * k) := by
  intro k
  induction k with
  | zero => intro x; rfl
  | succ k ih =>
    intro x
    rw [pcN, ih, show 8 * (k + 1) = 8 + 8 * k by omega, cnb_add, pc8 _ (by omega)]
    have e1 : cnb (fun i => (x % 256).testBit i) 8 = cnb (fun i => x.testBit i) 8 := cnb_eq 8 (fun i hi => by
      rw [show (256 : Nat) = 2 ^ 8 from rfl, Nat.testBit_mod_two_pow]
      simp [hi])
    have e2 : (fun i => (x / 256).testBit i) = (fun i => x.testBit (8 + i)) := funext fun i => by
      rw [show (256 : Nat) = 2 ^ 8 from rfl, Nat.testBit_div_two_pow, Nat.add_comm]
    rw [e1, e2]
theorem pcB_8 (x : Nat) : pcB (x % 256) ≤ 8 := (pb3 _ (by omega)).1
theorem dv1 {a q : Nat} (h : a < 256) : (a + 256 * q) / 256 = q := by omega
theorem dv2 {a b q : Nat} (h : a < 256) (hb : b < 256) : (a + 256 * (b + 256 * q)) / 65536 = q := by omega
theorem dv4 {a b c d q : Nat} (h : a < 256) (hb : b < 256) (hc : c < 256) (hd : d < 256) : (a + 256 * (b + 256 * (c + 256 * (d + 256 * q)))) / 4294967296 = q := by omega
theorem dvm {a b q r : Nat} (h : a + b < 128) : (a + 256 * q + (b + 256 * r)) % 128 = a + b := by omega
theorem dvt {a0 a1 a2 a3 a4 a5 a6 a7 : Nat} (h0 : a0 ≤ 8) (h1 : a1 ≤ 8) (h2 : a2 ≤ 8) (h3 : a3 ≤ 8) (h4 : a4 ≤ 8) (h5 : a5 ≤ 8) (h6 : a6 ≤ 8) (h7 : a7 ≤ 8) : a0 + 256 * (a1 + 256 * (a2 + 256 * (a3 + 256 * (a4 + 256 * (a5 + 256 * (a6 + 256 * (a7 + 256 * 0))))))) < 1152921504606846976 := by omega
theorem dvy (a0 a1 a2 a3 a4 a5 a6 a7 : Nat) : a0 + 256 * (a1 + 256 * (a2 + 256 * (a3 + 256 * (a4 + 256 * (a5 + 256 * (a6 + 256 * (a7 + 256 * 0))))))) + (a1 + 256 * (a2 + 256 * (a3 + 256 * (a4 + 256 * (a5 + 256 * (a6 + 256 * (a7 + 256 * 0))))))) = (a0 + a1) + 256 * ((a1 + a2) + 256 * ((a2 + a3) + 256 * ((a3 + a4) + 256 * ((a4 + a5) + 256 * ((a5 + a6) + 256 * ((a6 + a7) + 256 * a7)))))) := by omega
theorem dvz (b0 b1 b2 b3 b4 b5 b6 b7 : Nat) : (b0 + 256 * (b1 + 256 * (b2 + 256 * (b3 + 256 * (b4 + 256 * (b5 + 256 * (b6 + 256 * b7))))))) + (b2 + 256 * (b3 + 256 * (b4 + 256 * (b5 + 256 * (b6 + 256 * b7))))) = (b0 + b2) + 256 * ((b1 + b3) + 256 * ((b2 + b4) + 256 * ((b3 + b5) + 256 * ((b4 + b6) + 256 * ((b5 + b7) + 256 * (b6 + 256 * b7)))))) := by omega
theorem pc_ar (a0 a1 a2 a3 a4 a5 a6 a7 t y z : Nat) (h0 : a0 ≤ 8) (h1 : a1 ≤ 8) (h2 : a2 ≤ 8) (h3 : a3 ≤ 8) (h4 : a4 ≤ 8) (h5 : a5 ≤ 8) (h6 : a6 ≤ 8) (h7 : a7 ≤ 8) (ht : t = a0 + 256 * (a1 + 256 * (a2 + 256 * (a3 + 256 * (a4 + 256 * (a5 + 256 * (a6 + 256 * (a7 + 256 * 0)))))))) (hy : y = t + t / 256) (hz : z = y + y / 65536) : t < 1152921504606846976 ∧ (z + z / 4294967296) % 128 = a0 + (a1 + (a2 + (a3 + (a4 + (a5 + (a6 + (a7 + 0))))))) := by
  refine ⟨by rw [ht]; exact dvt h0 h1 h2 h3 h4 h5 h6 h7, ?_⟩
  rw [ht, dv1 (by omega), dvy] at hy
  rw [hy, dv2 (by omega) (by omega), dvz] at hz
  rw [hz, dv4 (by omega) (by omega) (by omega) (by omega), dvm (by omega)]
  omega
theorem pc_sum (x y z : Nat) (hy : y = pcs 8 x + pcs 8 x / 256) (hz : z = y + y / 65536) : pcs 8 x < 1152921504606846976 ∧ (z + z / 4294967296) % 128 = pcN 8 x := pc_ar _ _ _ _ _ _ _ _ (pcs 8 x) y z (pcB_8 x) (pcB_8 (x / 256)) (pcB_8 (x / 256 / 256)) (pcB_8 (x / 256 / 256 / 256)) (pcB_8 (x / 256 / 256 / 256 / 256)) (pcB_8 (x / 256 / 256 / 256 / 256 / 256)) (pcB_8 (x / 256 / 256 / 256 / 256 / 256 / 256)) (pcB_8 (x / 256 / 256 / 256 / 256 / 256 / 256 / 256)) rfl hy hz
def un (x : Int64) : Nat := x.toBitVec.toNat
theorem un_lt (x : Int64) : un x < 2 ^ 64 := x.toBitVec.isLt
theorem un_add {x y : Int64} (h : un x + un y < 2 ^ 64) : un (x + y) = un x + un y := by
  unfold un at *
  rw [Int64.toBitVec_add, BitVec.toNat_add, Nat.mod_eq_of_lt h]
theorem un_sub {x y : Int64} (h : un y ≤ un x) : un (x - y) = un x - un y := by
  have := un_lt x
  unfold un at *
  rw [Int64.toBitVec_sub, BitVec.toNat_sub]
  omega
theorem un_and (x y : Int64) : un (x &&& y) = un x &&& un y := by
  unfold un
  rw [Int64.toBitVec_and, BitVec.toNat_and]
theorem un_ushr (x : Int64) {k : Nat} (hk : k < 64) : un (mzlushr x (nI k)) = un x / 2 ^ k := by
  unfold un mzlushr
  show ((x.toUInt64 >>> ((nI k).toInt64.toUInt64 &&& Int64.toUInt64 63)).toBitVec).toNat = _
  rw [UInt64.toBitVec_shiftRight, us_amt k hk, BitVec.ushiftRight_eq', BitVec.toNat_ofNat, Nat.mod_eq_of_lt (by omega), BitVec.toNat_ushiftRight, Nat.shiftRight_eq_div_pow]
  rfl
theorem un_i32 (x : Int64) : x.toInt32 &&& 127 = nI (un x % 128) := by
  apply Int32.toBitVec_inj.mp
  apply BitVec.eq_of_toNat_eq
  rw [Int32.toBitVec_and, BitVec.toNat_and, show (127 : Int32).toBitVec.toNat = 2 ^ 7 - 1 by decide, Nat.and_two_pow_sub_one_eq_mod]
  have e : x.toInt32.toBitVec = x.toBitVec.setWidth 32 := by
    rw [Int64.toBitVec_toInt32]
    first | rfl | exact BitVec.signExtend_eq_setWidth_of_le _ (by omega)
  rw [e]
  show (x.toBitVec.setWidth 32).toNat % 2 ^ 7 = (BitVec.ofNat 32 (un x % 128)).toNat
  rw [BitVec.toNat_setWidth, BitVec.toNat_ofNat]
  unfold un
  omega
def j1 (x : Int64) : Int64 := x - (mzlushr x 1 &&& 6148914691236517205)
def j2 (x : Int64) : Int64 := (x &&& 3689348814741910323) + (mzlushr x 2 &&& 3689348814741910323)
def j3 (x : Int64) : Int64 := (x + mzlushr x 4) &&& 1085102592571150095
def j4 (k : Nat) (x : Int64) : Int64 := x + mzlushr x (nI k)
theorem uj1 (x : Int64) : un (j1 x) = p1 (mkb 85 8) (un x) := by
  have e : un (mzlushr x 1 &&& 6148914691236517205) = un x / 2 &&& mkb 85 8 := by
    rw [un_and, show mzlushr x 1 = mzlushr x (nI 1) from rfl, un_ushr x (by omega)]
    rfl
  unfold j1 p1
  rw [un_sub, e]
  rw [e]
  have : un x / 2 &&& mkb 85 8 ≤ un x / 2 := Nat.and_le_left
  omega
theorem p2_b (k : Nat) (x : Nat) : p2 (mkb 51 8) x < 8000000000000000000 := by
  unfold p2
  have h1 : x &&& mkb 51 8 ≤ mkb 51 8 := Nat.and_le_right
  have h2 : x / 4 &&& mkb 51 8 ≤ mkb 51 8 := Nat.and_le_right
  have h3 : mkb 51 8 = 3689348814741910323 := by decide
  omega
theorem uj2 (x : Int64) : un (j2 x) = p2 (mkb 51 8) (un x) := by
  have e1 : un (x &&& 3689348814741910323) = un x &&& mkb 51 8 := by rw [un_and]; rfl
  have e2 : un (mzlushr x 2 &&& 3689348814741910323) = un x / 4 &&& mkb 51 8 := by
    rw [un_and, show mzlushr x 2 = mzlushr x (nI 2) from rfl, un_ushr x (by omega)]
    rfl
  have h := p2_b 0 (un x)
  unfold j2
  unfold p2 at h ⊢
  rw [un_add, e1, e2]
  rw [e1, e2]
  omega
theorem uj3 (x : Int64) (h : un x < 8000000000000000000) : un (j3 x) = p3 (mkb 15 8) (un x) := by
  unfold j3 p3
  have e : un (mzlushr x 4) = un x / 16 := by
    rw [show mzlushr x 4 = mzlushr x (nI 4) from rfl, un_ushr x (by omega)]
  rw [un_and, un_add, e]
  · rfl
  · rw [e]; omega
theorem uj4 (x : Int64) {k p : Nat} (hk : k < 64) (hp : 2 ^ k = p) (h2 : 2 ≤ p) (h : un x < 4000000000000000000) : un (j4 k x) = un x + un x / p := by
  have hd : un x / p ≤ un x / 2 := Nat.div_le_div_left h2 (by omega)
  unfold j4
  rw [un_add, un_ushr x hk, hp]
  rw [un_ushr x hk, hp]
  omega
theorem pop_ok (x : Int64) : (j4 32 (j4 16 (j4 8 (j3 (j2 (j1 x)))))).toInt32 &&& 127 = nI (cnb (jb x) 64) := by
  have hx : un x < 256 ^ 8 := by
    rw [show 256 ^ 8 = 2 ^ 64 by decide]
    exact un_lt x
  have e3 : un (j3 (j2 (j1 x))) = pcs 8 (un x) := by
    rw [uj3 _ (by rw [uj2]; exact p2_b 0 _), uj2, uj1]
    exact (pcs_ok 8 (un x) hx).1
  obtain ⟨hs, hn⟩ := pc_sum (un x) _ _ rfl rfl
  have e4 : un (j4 8 (j3 (j2 (j1 x)))) = pcs 8 (un x) + pcs 8 (un x) / 256 := by
    rw [uj4 (k := 8) (p := 256) _ (by omega) (by decide) (by omega) (by rw [e3]; omega), e3]
  have e5 : un (j4 16 (j4 8 (j3 (j2 (j1 x))))) = pcs 8 (un x) + pcs 8 (un x) / 256 + (pcs 8 (un x) + pcs 8 (un x) / 256) / 65536 := by
    rw [uj4 (k := 16) (p := 65536) _ (by omega) (by decide) (by omega) (by rw [e4]; omega), e4]
  have e6 := uj4 (k := 32) (p := 4294967296) (j4 16 (j4 8 (j3 (j2 (j1 x))))) (by omega) (by decide) (by omega) (by rw [e5]; omega)
  rw [un_i32, e6, e5, hn, pcN_ok]
  rfl
def B_J13_bitCount_95d88 : mzT1 :=
  (sseq (sset 0 (gJ (jsub (jL 0) (jand (jushr (jL 0) (iK 1)) (jKc kc_10_314)))))
  (sseq (sset 0 (gJ (jadd (jand (jL 0) (jKc kc_10_316)) (jand (jushr (jL 0) (iK 2)) (jKc kc_10_316)))))
  (sseq (sset 0 (gJ (jand (jadd (jL 0) (jushr (jL 0) (iK 4))) (jKc kc_10_318))))
  (sseq (sset 0 (gJ (jadd (jL 0) (jushr (jL 0) (iK 8)))))
  (sseq (sset 0 (gJ (jadd (jL 0) (jushr (jL 0) (iK 16)))))
  (sseq (sset 0 (gJ (jadd (jL 0) (jushr (jL 0) (iK 32)))))
  (sret (gI (iand (j2i (jL 0)) (iK 127))))))))))
theorem ok_J13_bitCount_95d88 : mzok1 yJ13_bitCount_95d88 cJ13_bitCount_95d88 10 2 (some .int) 0 0 1 B_J13_bitCount_95d88 := ⟨by decide +kernel, mzT_at 554 (by decide +kernel) rfl, by decide, rfl, rfl, rfl⟩
def M_J13_bitCount_95d88 : mzMt := mzmk yJ13_bitCount_95d88 cJ13_bitCount_95d88 10 2 (some .int) 0 0 1 B_J13_bitCount_95d88 ok_J13_bitCount_95d88
theorem ym_J13_bitCount_95d88 : M_J13_bitCount_95d88.1.1 = yJ13_bitCount_95d88 := rfl

set_option maxRecDepth 10000 in
def P_J13_bitCount_95d88 : mzPI := ⟨(M_J13_bitCount_95d88, pfi_J (fun x M => nI (cnb (jb x) 64)), po_J (fun x M => True)), by decide, rfl, ppi_J (fun x M K _h _k => by
  simp only [M_J13_bitCount_95d88, w_mk, B_J13_bitCount_95d88, w_gI, w_gJ, w_gR, w_gB, w_gV, w_gcV, w_gcS, w_g1, w_g2, w_gq, w_bcmp, w_bif0, w_band, w_bor, w_bnot, w_sskip, w_sseq, w_sset, w_sinc, w_sret, w_sretZ, w_sretv, w_sbrk, w_scnt, w_sif, w_sif1, w_sloop, w_sput, w_sputop, w_sast, w_sastop, w_sastI, w_sastJ, w_sputI, w_sputJ, w_scV, w_scS, w_spop, w_ssw, mzfi, mzfl, mzfs, mzf1il, mzf1li, mzf1ii, e_iK, e_iKc, e_iKw, e_jK, e_jKc, e_rN, e_iL, e_jL, e_rL, e_iadd, e_isub, e_imul, e_iand, e_ior, e_ishl, e_ishr, e_iushr, e_idiv, e_irem, e_jadd, e_jsub, e_jmul, e_jand, e_jor, e_jxor, e_jdiv, e_jrem, e_jshl, e_jushr, e_i2j, e_j2i, e_i2b, e_i2s, e_iF, e_jF, e_rF, e_iA, e_jA, e_zA, e_rA, e_ilen, e_iU, e_ccmp, e_cif0, e_ccml, e_cnul, e_cand, e_cor, e_cnot, e_iq, e_jq, e_rq, e_icV, e_icS, e_jcV, e_jcS, e_rcV, e_rcS, e_vI, e_vJ, e_vR, o_iK, o_iKc, o_iKw, o_jK, o_jKc, o_rN, o_iL, o_jL, o_rL, o_iadd, o_isub, o_imul, o_iand, o_ior, o_ishl, o_ishr, o_iushr, o_idiv, o_irem, o_jadd, o_jsub, o_jmul, o_jand, o_jor, o_jxor, o_jdiv, o_jrem, o_jshl, o_jushr, o_i2j, o_j2i, o_i2b, o_i2s, o_iF, o_jF, o_rF, o_iA, o_jA, o_zA, o_rA, o_ilen, o_iU, o_ccmp, o_cif0, o_ccml, o_cnul, o_cand, o_cor, o_cnot, o_iq, o_jq, o_rq, o_icV, o_icS, o_jcV, o_jcS, o_rcV, o_rcS, o_vI, o_vJ, o_vR, mzwV, mzwS, mzwas, w_do, mzini, a_nil, a_int, a_long, a_ref, a_null, st_int, st_ref, st_null, st_long, kl_0, kl_s, rf_some, rf_none, List.length_cons, List.length_nil, Nat.reduceAdd, Nat.reduceSub, Nat.reduceLeDiff, List.replicate_succ, List.replicate_zero, List.cons_append, List.nil_append, List.append_nil, mzgi, mzgio, mzgj, mzgjo, mzgr, mzgro, List.getElem?_cons_succ, List.getElem?_cons_zero, List.set_cons_succ, List.set_cons_zero, true_and, and_true, Nat.le_refl, Nat.sub_self, implies_true, Bool.and_eq_true, Bool.or_eq_true, decide_eq_true_eq, Bool.not_eq_true, Bool.not_eq_false, Bool.not_eq_eq_eq_not, Bool.not_true, Bool.not_false, decide_eq_false_iff_not, Bool.and_eq_false_iff, Bool.or_eq_false_iff, in_0_2, in_1_2, mzevs, mzoks, mzrc, e_pfi_I, e_pfj_I, e_pfr_I, e_po_I, e_pfi_II, e_pfj_II, e_pfr_II, e_po_II, e_pfi_III, e_pfj_III, e_pfr_III, e_po_III, e_pfi_IIII, e_pfj_IIII, e_pfr_IIII, e_po_IIII, e_pfi_IIIII, e_pfj_IIIII, e_pfr_IIIII, e_po_IIIII, e_pfi_R, e_pfj_R, e_pfr_R, e_po_R, e_pfi_RI, e_pfj_RI, e_pfr_RI, e_po_RI, e_pfi_RII, e_pfj_RII, e_pfr_RII, e_po_RII, e_pfi_RIII, e_pfj_RIII, e_pfr_RIII, e_po_RIII, e_pfi_RIIII, e_pfj_RIIII, e_pfr_RIIII, e_po_RIIII, e_pfi_RIIIII, e_pfj_RIIIII, e_pfr_RIIIII, e_po_RIIIII, e_pfi_JI, e_pfj_JI, e_pfr_JI, e_po_JI, e_pfi_JJ, e_pfj_JJ, e_pfr_JJ, e_po_JJ, e_pfi_RJ, e_pfj_RJ, e_pfr_RJ, e_po_RJ, e_pfi_RJI, e_pfj_RJI, e_pfr_RJI, e_po_RJI, e_pfi_RJJJ, e_pfj_RJJJ, e_pfr_RJJJ, e_po_RJJJ, e_pfi_RJIJ, e_pfj_RJIJ, e_pfr_RJIJ, e_po_RJIJ, e_pfi_RIIIJ, e_pfj_RIIIJ, e_pfr_RIIIJ, e_po_RIIIJ, e_pfi_J, e_pfj_J, e_pfr_J, e_po_J, e_pfi_RR, e_pfj_RR, e_pfr_RR, e_po_RR, e_pfi_RRI, e_pfj_RRI, e_pfr_RRI, e_po_RRI, e_pfi_RRII, e_pfj_RRII, e_pfr_RRII, e_po_RRII, e_pfi_RRIII, e_pfj_RRIII, e_pfr_RRIII, e_po_RRIII, e_pfi_RIJ, e_pfj_RIJ, e_pfr_RIJ, e_po_RIJ, e_X8_in, o_X8_in, e_X8_isIn, o_X8_isIn, e_X8_isText, o_X8_isText, e_X8_isStep, o_X8_isStep, e_X8_isSheet, o_X8_isSheet, e_X8_kindOf, o_X8_kindOf, e_X8_headOf, o_X8_headOf, e_X8_handOf, o_X8_handOf, e_X8_ones, o_X8_ones, e_X8_tries, o_X8_tries, e_X8_no, o_X8_no, e_X8_byteAt, o_X8_byteAt, e_X8_isPlace, o_X8_isPlace, e_X8_beside, o_X8_beside, e_X8_isAnywhere, o_X8_isAnywhere, e_X8_ofRow, o_X8_ofRow, e_X8_lacks, o_X8_lacks, e_X7_has, o_X7_has, e_X7_isText, o_X7_isText, e_X7_isStep, o_X7_isStep, e_X7_isHand, o_X7_isHand, e_X7_isForm, o_X7_isForm, e_X7_mix, o_X7_mix, e_X1_isDaySign, o_X1_isDaySign, e_X5_isFull, o_X5_isFull, e_X5_at, o_X5_at, e_X2_isFull, o_X2_isFull, e_X1_days, o_X1_days, e_X1_hasDay, o_X1_hasDay, e_X1_leastDays, o_X1_leastDays, e_X1_mostDays, o_X1_mostDays, e_X1_beside, o_X1_beside, e_X1_isChanged, o_X1_isChanged, e_X1_across, o_X1_across, e_X6_headingOf, o_X6_headingOf, e_X6_handOf, o_X6_handOf, e_X4_isFull, o_X4_isFull, e_X4_dayAt, o_X4_dayAt, e_X3_isLost, o_X3_isLost, e_X3_holds, o_X3_holds, e_X3_holdsFrom, o_X3_holdsFrom, e_X7_isWalker, o_X7_isWalker, e_X7_textAt, o_X7_textAt, e_X7_sheetAt, o_X7_sheetAt, e_X7_startAt, o_X7_startAt, shC_0, shC_1, shC_2, shC_3, shC_4, shC_5, shC_6, shC_7, shC_8, shC_9, shC_10, shC_11, shC_12, shC_13, shC_14, shC_15, shC_16, shC_17, shC_18, shC_19, shC_20, shC_21, shC_22, shC_23, shC_24, shC_25, shC_26, shC_27, shC_28, shC_29, shC_30, shC_31, shC_32, shC_33, shC_34, shC_35, shC_36, shC_37, shC_38, rrC_0_0, rrC_0_1, rrC_0_2, rrC_0_3, rrC_0_4, rrC_0_5, rrC_0_6, rrC_0_7, rrC_0_9, rrC_0_10, rrC_0_11, rrC_0_12, rrC_0_13, rrC_1_0, rrC_3_0, rrC_5_0, rrC_5_1, rrC_8_0, rrC_8_1, rrC_8_2, rrC_12_0, rrC_12_1, rrC_12_2, rrC_16_0, rrC_16_1, rrC_16_2, rrC_20_0, rrC_22_0, rrC_22_1, rrC_22_2, rrC_22_3, rrC_23_0, rrC_25_0, rrC_27_0, rrC_29_0, rrC_32_0, rrC_32_1, rrC_32_2, mC_1, mC_2, mC_3, mC_4, mC_p0, mC_p1, mC_a0, mC_a1, mC_g0, mC_g1, mC_d0, mC_d1, gd_some, is_some, la_some, e_imax, o_imax, e_imin, o_imin, is_some, la_some]; try simp only [mzcmp, mzcml, mzz01, it_ne0, it_eq0, it_eq1, eq_10, eq_20, eq_21, eq_01, eq_self, Classical.not_not, if_true, if_false, not_true_eq_false, not_false_eq_true, ite_true, ite_false, reduceIte, decide_eq_true_eq, Bool.and_eq_true, Bool.or_eq_true, Bool.not_eq_true, decide_eq_false_iff_not, true_and, and_true, implies_true, is_some, la_some]
  exact mzk _k (pop_ok x))⟩
theorem yp_J13_bitCount_95d88 : P_J13_bitCount_95d88.1.1.1.1 = yJ13_bitCount_95d88 := rfl
theorem e_J13_bitCount_95d88 {as : List Value} {M : mzM} : P_J13_bitCount_95d88.1.2.1 as M = pfi_J (fun x M => nI (cnb (jb x) 64)) as M := mzrf rfl
theorem o_J13_bitCount_95d88 {as : List Value} {M : mzM} : P_J13_bitCount_95d88.1.2.2 as M = po_J (fun x M => True) as M := mzrf rfl
