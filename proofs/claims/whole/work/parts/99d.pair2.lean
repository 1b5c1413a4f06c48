/-! pairs: what changes hedges, gaps, what was seen -/
theorem Rl_X {IR IR' I I' : Nat → Nat → Int32} {L L' : Nat → Nat → Int64} {n0 n1 c c' : Nat} {cc cc' : Nat → Nat} (h : Rl IR I L n0 n1 c cc) (e1 : ∀ j, IR' 1 j = IR 1 j) (e2 : IR' 2 = IR 2) (iI : ∀ i j, i ≤ 11 → ¬ (i = 0 ∧ j = 8) → I' i j = I i j)
    (hm : cmz IR' I' L' cc' (mzq (IR 2) n0).1 (mzq (IR 2) n0).2.1 (mzq (IR 2) n0).2.2.2) (hn : rbN IR' c') (hN : cN IR' c' I') (hs : rbS IR') (hS : cSh IR' I') (hf : I' 0 8 = IR' 0 28) : Rl IR' I' L' n0 n1 c' cc' := by
  obtain ⟨a1, a2, a3, a4, a5, a6, a7, a8, a9, a10, a11⟩ := h
  have k : ∀ i j, i ≤ 11 → 0 < i → I' i j = I i j := fun i j x y => iI i j x (by omega)
  refine ⟨⟨(e1 0).trans a1.1, a1.2.1, (e1 1).trans a1.2.2.1, a1.2.2.2⟩, ⟨(k _ _ (by omega) (by omega)).trans a2.1, (k _ _ (by omega) (by omega)).trans a2.2.1, fun j hj => ?_, fun j hj => ?_⟩, by rw [e2]; exact hm, ?_, by rw [e2]; exact (k _ _ (by omega) (by omega)).trans a5, by rw [e2]; exact (k _ _ (by omega) (by omega)).trans a6, hn, hN, hs, hS, hf⟩
  · rw [e2]; exact (k _ _ (by omega) (by omega)).trans (a2.2.2.1 j hj)
  · rw [e2]; exact (k _ _ (by omega) (by omega)).trans (a2.2.2.2 j hj)
  · rw [e2]; exact ⟨(k _ _ (by omega) (by omega)).trans a4.1, a4.2.1, fun w hw => ⟨(k _ _ (by omega) (by omega)).trans (a4.2.2 w hw).1, (k _ _ (by omega) (by omega)).trans (a4.2.2 w hw).2.1, (k _ _ (by omega) (by omega)).trans (a4.2.2 w hw).2.2⟩⟩
theorem cmz_k {IR IR' I I' : Nat → Nat → Int32} {L : Nat → Nat → Int64} {n0 : Nat} {cc : Nat → Nat} (h : cmz IR I L cc (mzq (IR 2) n0).1 (mzq (IR 2) n0).2.1 (mzq (IR 2) n0).2.2.2) (e2 : IR' 2 = IR 2) (eR : ∀ i j, 7 ≤ i → i ≤ 10 → IR' i j = IR i j) (i5 : ∀ j, I' 5 j = I 5 j) (iI : ∀ i j, 12 ≤ i → i ≤ 19 → I' i j = I i j) : cmz IR' I' L cc (mzq (IR 2) n0).1 (mzq (IR 2) n0).2.1 (mzq (IR 2) n0).2.2.2 := by
  have ho : opX IR' n0 = opX IR n0 := opX_b e2 (funext fun j => eR 7 j (by omega) (by omega)) (funext fun j => eR 8 j (by omega) (by omega)) (funext fun j => eR 9 j (by omega) (by omega)) (funext fun j => eR 10 j (by omega) (by omega)) n0
  refine ⟨plR_R (plR_I h.1 iI) eR, cM_of h.2.1 (i5 2) (i5 3), ?_⟩
  have q : cP (opX IR n0) (mzq (IR 2) n0).1 (mzq (IR 2) n0).2.1 I L := h.2.2
  have q' : cP (opX IR' n0) (mzq (IR 2) n0).1 (mzq (IR 2) n0).2.1 I' L := by rw [ho]; exact ⟨(i5 2).trans q.1, (i5 3).trans q.2.1, q.2.2⟩
  unfold opX at q'
  rw [e2] at q'
  exact q'
theorem cN_k {IR IR' I I' : Nat → Nat → Int32} {c : Nat} (h : cN IR c I) (e14 : IR' 14 = IR 14) (e15 : IR' 15 = IR 15) (k : ∀ i j, 20 ≤ i → i ≤ 21 → I' i j = I i j) : cN IR' c I' := by
  obtain ⟨b1, b2, b3, l, b4, b5, b6⟩ := h
  refine ⟨(k _ _ (by omega) (by omega)).trans b1, b2, fun x st hx hs => ?_, l, b4, (k _ _ (by omega) (by omega)).trans b5, fun x hx hy => (k _ _ (by omega) (by omega)).trans (b6 x hx hy)⟩
  rw [k 21 x (by omega) (by omega), snk_k e14 e15]; exact b3 x st hx hs
theorem cSh_k {IR IR' I I' : Nat → Nat → Int32} (h : cSh IR I) (eR : ∀ i j, 19 ≤ i → i ≤ 22 → IR' i j = IR i j) (k : ∀ i j, 23 ≤ i → i ≤ 30 → I' i j = I i j) : cSh IR' I' := by
  intro s hs
  have := h s hs
  unfold shk at this ⊢
  rw [k (23 + 2 * s) 1 (by omega) (by omega), k (23 + 2 * s) 2 (by omega) (by omega), show I' (24 + 2 * s) = I (24 + 2 * s) from funext fun j => k _ j (by omega) (by omega), show IR' 19 = IR 19 from funext fun j => eR _ j (by omega) (by omega), show IR' 20 = IR 20 from funext fun j => eR _ j (by omega) (by omega), show IR' 21 = IR 21 from funext fun j => eR _ j (by omega) (by omega), show IR' 22 = IR 22 from funext fun j => eR _ j (by omega) (by omega)]
  exact this
theorem rbS_k {IR IR' : Nat → Nat → Int32} (h : rbS IR) (e : ∀ j, IR' 21 j = IR 21 j) : rbS IR' := fun s hs => by
  obtain ⟨n, a, b⟩ := h s hs
  exact ⟨n, a, (e s).trans b⟩
/-- only the maze's places have changed -/
theorem Rl_Z {IR IR' I I' : Nat → Nat → Int32} {L L' : Nat → Nat → Int64} {n0 n1 c : Nat} {cc cc' : Nat → Nat} (h : Rl IR I L n0 n1 c cc) (eR : ∀ i j, (i < 7 ∨ 10 < i) → IR' i j = IR i j) (iI : ∀ i j, (i < 12 ∨ 19 < i) → I' i j = I i j)
    (hm : cmz IR' I' L' cc' (mzq (IR 2) n0).1 (mzq (IR 2) n0).2.1 (mzq (IR 2) n0).2.2.2) : Rl IR' I' L' n0 n1 c cc' := by
  refine Rl_X h (fun j => eR 1 j (by omega)) (funext fun j => eR 2 j (by omega)) (fun i j x y => iI i j (by omega)) hm ⟨(eR 0 17 (by omega)).trans h.2.2.2.2.2.2.1.1, h.2.2.2.2.2.2.1.2⟩ (cN_k h.2.2.2.2.2.2.2.1 (funext fun j => eR 14 j (by omega)) (funext fun j => eR 15 j (by omega)) (fun i j x y => iI i j (by omega))) (rbS_k h.2.2.2.2.2.2.2.2.1 (fun j => eR 21 j (by omega))) (cSh_k h.2.2.2.2.2.2.2.2.2.1 (fun i j x y => eR i j (by omega)) (fun i j x y => iI i j (by omega))) ?_
  rw [eR 0 28 (by omega), iI 0 8 (by omega)]
  exact h.2.2.2.2.2.2.2.2.2.2
theorem pr_hedge (s d x : Int32) {M1 M2 : mzM} (h : rel M1 M2) : mzdo M_X7_hedge [.ref 0, .int s, .int d, .int x] M1 (fun v1 N1 => mzdo M_X8_hedge [.ref 0, .int s, .int d, .int x] M2 (fun v2 N2 => okI v1 v2 N1 N2)) := by
  obtain ⟨IR, LR, I, L, sw, n0, n1, c, cc, rfl, rfl, hr⟩ := h
  have g := (hr.2.2.1.1 0 (by omega)).1
  refine c_hedge sw _ hr.2.2.1 s d x (fun hb => r_hedge IR LR _ (cc 0) g.1 g.2.1 s d x (fun _ => okI_i (rel_i hr)) (fun y => absurd y hb)) (fun ho => ⟨fun h8 => ?_, fun h8 L' _ hc => ?_⟩)
  · exact r_hedge IR LR _ (cc 0) g.1 g.2.1 s d x (fun y => absurd ho y) (fun _ => ⟨fun _ => okI_i (rel_i hr), fun y => by omega⟩)
  · exact r_hedge IR LR _ (cc 0) g.1 g.2.1 s d x (fun y => absurd ho y) (fun _ => ⟨fun y => by omega, fun _ => okI_i (rel_i (Rl_Z hr (fun i j q => mI_ne _ _ _ _ _ _ q) (fun i j q => mC_ne _ _ _ _ _ _ (by omega) q) hc))⟩)
theorem pr_gap (s d x : Int32) {M1 M2 : mzM} (h : rel M1 M2) : mzdo M_X7_gap [.ref 0, .int s, .int d, .int x] M1 (fun v1 N1 => mzdo M_X8_gap [.ref 0, .int s, .int d, .int x] M2 (fun v2 N2 => okI v1 v2 N1 N2)) := by
  obtain ⟨IR, LR, I, L, sw, n0, n1, c, cc, rfl, rfl, hr⟩ := h
  have g := (hr.2.2.1.1 1 (by omega)).1
  refine c_gap sw _ hr.2.2.1 s d x (fun hb => r_gap IR LR _ (cc 1) g.1 g.2.1 s d x (fun _ => okI_i (rel_i hr)) (fun y => absurd y hb)) (fun ho => ⟨fun h8 => ?_, fun h8 L' _ hc => ?_⟩)
  · exact r_gap IR LR _ (cc 1) g.1 g.2.1 s d x (fun y => absurd ho y) (fun _ => ⟨fun _ => okI_i (rel_i hr), fun y => by omega⟩)
  · exact r_gap IR LR _ (cc 1) g.1 g.2.1 s d x (fun y => absurd ho y) (fun _ => ⟨fun y => by omega, fun _ => okI_i (rel_i (Rl_Z hr (fun i j q => mI_ne _ _ _ _ _ _ q) (fun i j q => mC_ne _ _ _ _ _ _ (by omega) q) hc))⟩)
theorem pr_back (t : Int32) {M1 M2 : mzM} (h : rel M1 M2) : mzdo M_X7_back [.ref 0, .int t] M1 (fun v1 N1 => mzdo M_X8_back [.ref 0, .int t] M2 (fun v2 N2 => okI v1 v2 N1 N2)) := by
  obtain ⟨IR, LR, I, L, sw, n0, n1, c, cc, rfl, rfl, hr⟩ := h
  have g0 := (hr.2.2.1.1 0 (by omega)).1
  have g1 := (hr.2.2.1.1 1 (by omega)).1
  refine c_back sw _ hr.2.2.1 t (fun hb => r_back IR LR _ (cc 0) (cc 1) g0.1 g1.1 g0.2.1 g1.2.1 t (fun _ => okI_i (rel_i hr)) (fun y => absurd (e_01.mp (Or.inl y)) hb) (fun y => absurd (e_01.mp (Or.inr y)) hb)) (fun q hq e => ?_)
  match q, hq with
  | 0, _ =>
    have e : t = 0 := e
    subst e
    refine ⟨fun h0 => r_back IR LR _ (cc 0) (cc 1) g0.1 g1.1 g0.2.1 g1.2.1 0 (fun y => absurd (by decide) y) (fun _ => ⟨fun _ => okI_i (rel_i hr), fun y => by omega⟩) (fun y => absurd y (by decide)), fun h0 L' _ hc => r_back IR LR _ (cc 0) (cc 1) g0.1 g1.1 g0.2.1 g1.2.1 0 (fun y => absurd (by decide) y) (fun _ => ⟨fun y => by omega, fun _ => okI_i (rel_i (Rl_Z hr (fun i j q => ms_cell _ _ (by omega)) (fun i j q => ms_cell _ _ (by omega)) hc))⟩) (fun y => absurd y (by decide))⟩
  | 1, _ =>
    have e : t = 1 := e
    subst e
    refine ⟨fun h0 => r_back IR LR _ (cc 0) (cc 1) g0.1 g1.1 g0.2.1 g1.2.1 1 (fun y => absurd (by decide) y) (fun y => absurd y (by decide)) (fun _ => ⟨fun _ => okI_i (rel_i hr), fun y => by omega⟩), fun h0 L' _ hc => r_back IR LR _ (cc 0) (cc 1) g0.1 g1.1 g0.2.1 g1.2.1 1 (fun y => absurd (by decide) y) (fun y => absurd y (by decide)) (fun _ => ⟨fun y => by omega, fun _ => okI_i (rel_i (Rl_Z hr (fun i j q => ms_cell _ _ (by omega)) (fun i j q => ms_cell _ _ (by omega)) hc))⟩)⟩
theorem rdl_fr (k z : Nat) (P : Int32 → Int32 → Int32 → Bool) : ∀ f (I : Nat → Nat → Int32) c n i j, (i < 7 ∨ 10 < i) → (rdl k z P f I c n).2 i j = I i j := by
  intro f
  induction f with
  | zero => intro I c n i j _; rfl
  | succ f ih =>
    intro I c n i j h
    rw [rdl]
    split
    · rw [ih _ _ _ i j h, mI_ne _ _ _ _ _ _ h]
    · rfl
/-- a finding is told -/
theorem Rl_F {IR I : Nat → Nat → Int32} {L : Nat → Nat → Int64} {n0 n1 c : Nat} {cc : Nat → Nat} (h : Rl IR I L n0 n1 c cc) (v : Int32) : Rl (mzset IR 0 28 v) (mzset I 0 8 v) L n0 n1 c cc := by
  have eR : ∀ i j, 0 < i → mzset IR 0 28 v i j = IR i j := fun i j q => ms_cell _ _ (by omega)
  have eI : ∀ i j, 0 < i → mzset I 0 8 v i j = I i j := fun i j q => ms_cell _ _ (by omega)
  refine Rl_X h (fun j => eR 1 j (by omega)) (funext fun j => eR 2 j (by omega)) (fun i j _ y => by rw [ms_at, if_neg y]) (cmz_k h.2.2.1 (funext fun j => eR 2 j (by omega)) (fun i j _ _ => eR i j (by omega)) (fun j => eI 5 j (by omega)) (fun i j _ _ => eI i j (by omega))) ⟨(ms_place _ _ (by decide)).trans h.2.2.2.2.2.2.1.1, h.2.2.2.2.2.2.1.2⟩ (cN_k h.2.2.2.2.2.2.2.1 (funext fun j => eR 14 j (by omega)) (funext fun j => eR 15 j (by omega)) (fun i j x y => eI i j (by omega))) (rbS_k h.2.2.2.2.2.2.2.2.1 (fun j => eR 21 j (by omega))) (cSh_k h.2.2.2.2.2.2.2.2.2.1 (fun i j x y => eR i j (by omega)) (fun i j x y => eI i j (by omega))) ?_
  rw [ms_same, ms_same]
theorem pr_read (s : Int32) {M1 M2 : mzM} (h : rel M1 M2) : mzdo M_X7_read [.ref 0, .int s] M1 (fun v1 N1 => mzdo M_X8_read [.ref 0, .int s] M2 (fun v2 N2 => okI v1 v2 N1 N2)) := by
  obtain ⟨IR, LR, I, L, sw, n0, n1, c, cc, rfl, rfl, hr⟩ := h
  have g := (hr.2.2.1.1 1 (by omega)).1
  have hz := hr.2.2.2.2.2.2.2.2.1
  refine c_read sw _ hr.2.2.1 hr.2.2.2.2.2.2.2.2.2.1 s (fun hb => r_read IR LR _ s hz (cc 1) g.1 g.2.1 (fun _ => okI_i (rel_i hr)) (fun k hk e => absurd (by rw [e, ← e_04]; exact ⟨nI_pos' (by omega), (nI_ltI (a := k) (b := 4) (by omega) (by omega)).mpr hk⟩) hb)) (fun k hk e => ⟨fun h0 => ?_, fun h0 z hz6 ez I' L' cc' a b hc => ?_⟩)
  · subst e
    refine r_read IR LR _ (nI k) hz (cc 1) g.1 g.2.1 (fun y => absurd (by rw [← e_04]; exact ⟨nI_pos' (by omega), (nI_ltI (a := k) (b := 4) (by omega) (by omega)).mpr hk⟩) y) (fun k' hk' e' => ?_)
    rw [nu_eq (by omega) (by omega)] at e'
    subst e'
    exact ⟨fun _ => okI_i (rel_i (Rl_F hr 1)), fun y => absurd h0 y⟩
  · subst e
    refine r_read IR LR _ (nI k) hz (cc 1) g.1 g.2.1 (fun y => absurd (by rw [← e_04]; exact ⟨nI_pos' (by omega), (nI_ltI (a := k) (b := 4) (by omega) (by omega)).mpr hk⟩) y) (fun k' hk' e' => ?_)
    rw [nu_eq (by omega) (by omega)] at e'
    subst e'
    refine ⟨fun y => absurd y h0, fun _ z' hz' ez' => ?_⟩
    have : z' = z := by
      rw [ez, nu_eq (by omega) (by omega)] at ez'
      exact ez'.symm
    subst this
    exact okI_i (rel_i (Rl_Z hr (fun i j q => rdl_fr _ _ _ _ _ _ _ i j q) a hc))
theorem Rl_N {IR IR' I I' : Nat → Nat → Int32} {L : Nat → Nat → Int64} {n0 n1 c c' : Nat} {cc : Nat → Nat} (h : Rl IR I L n0 n1 c cc) (eR : ∀ i j, ¬ (i = 14 ∨ i = 15 ∨ (i = 0 ∧ j = 17)) → IR' i j = IR i j) (eI : eqx fN I I') (hn : rbN IR' c') (hN : cN IR' c' I') : Rl IR' I' L n0 n1 c' cc := by
  have k : ∀ i j, i ≠ 20 → i ≠ 21 → I' i j = I i j := fun i j x y => eI i j (by unfold fN; omega)
  refine Rl_X h (fun j => eR 1 j (by omega)) (funext fun j => eR 2 j (by omega)) (fun i j x y => k i j (by omega) (by omega)) (cmz_k h.2.2.1 (funext fun j => eR 2 j (by omega)) (fun i j _ _ => eR i j (by omega)) (fun j => k 5 j (by omega) (by omega)) (fun i j _ _ => k i j (by omega) (by omega))) hn hN (rbS_k h.2.2.2.2.2.2.2.2.1 (fun j => eR 21 j (by omega))) (cSh_k h.2.2.2.2.2.2.2.2.2.1 (fun i j x y => eR i j (by omega)) (fun i j x y => k i j (by omega) (by omega))) ?_
  rw [eR 0 28 (by omega), k 0 8 (by omega) (by omega)]
  exact h.2.2.2.2.2.2.2.2.2.2
theorem pr_seen (s d : Int32) {M1 M2 : mzM} (h : rel M1 M2) : mzdo M_X7_seen [.ref 0, .int s, .int d] M1 (fun v1 N1 => mzdo M_X8_seen [.ref 0, .int s, .int d] M2 (fun v2 N2 => okI v1 v2 N1 N2)) := by
  obtain ⟨IR, LR, I, L, sw, n0, n1, c, cc, rfl, rfl, hr⟩ := h
  have g := hr.2.2.2.2.2.2.1
  refine c_seen IR I L sw _ c hr.2.2.2.2.2.2.2.1 s d (fun hb => r_seen IR LR _ c g.2 g.1 s d (fun _ => okI_i (rel_i hr)) (fun y => absurd y hb)) (fun ho => ⟨fun h8 => ?_, fun h8 I' e hc => ?_⟩)
  · exact r_seen IR LR _ c g.2 g.1 s d (fun y => absurd ho y) (fun _ => ⟨fun _ => okI_i (rel_i hr), fun y => by omega⟩)
  · refine r_seen IR LR _ c g.2 g.1 s d (fun y => absurd ho y) (fun _ => ⟨fun y => by omega, fun _ => okI_i (rel_i (Rl_N hr (fun i j q => ?_) e ⟨ms_same _ _ _ _, by omega⟩ hc))⟩)
    rw [ms_at, if_neg (fun y => q (by omega)), ms_cell _ _ (by omega), ms_cell _ _ (by omega)]
theorem pr_forget {M1 M2 : mzM} (h : rel M1 M2) : mzdo M_X7_forget [.ref 0] M1 (fun v1 N1 => mzdo M_X8_forget [.ref 0] M2 (fun v2 N2 => okI v1 v2 N1 N2)) := by
  obtain ⟨IR, LR, I, L, sw, n0, n1, c, cc, rfl, rfl, hr⟩ := h
  refine c_forget IR I L sw _ c hr.2.2.2.2.2.2.2.1 (fun I' e hc => r_forget IR LR _ ?_)
  rw [hr.2.2.2.2.2.2.1.1]
  refine okI_i (rel_i (Rl_N hr (fun i j q => ?_) e ⟨ms_same _ _ _ _, Nat.zero_le 8⟩ hc))
  rw [ms_at, if_neg (fun y => q (by omega))]
