/-! pairs: the texts -/
theorem smGo_c {T T' : Nat → Int32} {n : Nat} (h : ∀ j, j < n → T' j = T j) : ∀ f k s, k + f = n → smGo T' n f k s = smGo T n f k s := by
  intro f
  induction f with
  | zero => intro k s _; rfl
  | succ f ih =>
    intro k s hk
    rw [smGo, smGo, h k (by omega)]
    cases smStep (T k) s with
    | none => rfl
    | some s' => exact ih (k + 1) s' (by omega)
theorem mzq_c {T T' : Nat → Int32} {n : Nat} (h : ∀ j, j < n → T' j = T j) : mzq T' n = mzq T n ∧ mzfv0 T' n = mzfv0 T n := by
  unfold mzq mzfv0 smEnd
  rw [smGo_c h n 0 _ (by omega)]
  exact ⟨rfl, rfl⟩
theorem opN_c {IR IR' : Nat → Nat → Int32} (eR : ∀ i j, 7 ≤ i → i ≤ 10 → IR' i j = IR i j) (kd : Nat → Int32) (W R : Nat) : opN IR' kd W R = opN IR kd W R := by
  have k7 : IR' 7 = IR 7 := funext fun j => eR 7 j (by omega) (by omega)
  have k8 : IR' 8 = IR 8 := funext fun j => eR 8 j (by omega) (by omega)
  have k9 : IR' 9 = IR 9 := funext fun j => eR 9 j (by omega) (by omega)
  have k10 : IR' 10 = IR 10 := funext fun j => eR 10 j (by omega) (by omega)
  have hk : ∀ kd s d x, opK IR' kd s d x = opK IR kd s d x := fun kd s d x => by
    unfold opK
    rw [oaH_k k7 k8 k9 k10, oaG_k k7 k8 k9 k10]
  funext s d way
  unfold opN opKD opKR
  simp only [hk]
/-- the maze's text has changed -/
theorem Rl_T0 {IR IR' I I1 I' : Nat → Nat → Int32} {L L' : Nat → Nat → Int64} {n0 n1 c m : Nat} {cc : Nat → Nat} (h : Rl IR I L n0 n1 c cc) (hm : m ≤ 41) (eR : ∀ i j, ¬ (i = 1 ∧ j = 0) → ¬ (i = 2 ∧ j < 41) → IR' i j = IR i j) (e0 : IR' 1 0 = nI m)
    (i1 : ∀ i j, ¬ (i = 1 ∧ j = 1) → i ≠ 2 → I1 i j = I i j) (e1 : I1 1 1 = nI m) (eT : ∀ j, j < m → I1 2 j = IR' 2 j) (hI : ∀ i j, ¬ fX i j → I' i j = I1 i j)
    (hc : cmz IR' I' L' cc (mzq (IR' 2) m).1 (mzq (IR' 2) m).2.1 (mzq (IR' 2) m).2.2.2) (h4 : I' 5 4 = mzfv0 (IR' 2) m) : Rl IR' I' L' m n1 c cc := by
  obtain ⟨a1, a2, a3, a4, a5, a6, a7, a8, a9, a10, a11⟩ := h
  have k : ∀ i j, i ≠ 1 → i ≠ 2 → i ≠ 5 → I' i j = I i j := fun i j x y z => (hI i j (fun q => z q.1)).trans (i1 i j (fun q => x q.1) y)
  have k1 : ∀ j, I' 1 j = I1 1 j := fun j => hI 1 j (fun q => by have := q.1; omega)
  have k2 : ∀ j, I' 2 j = I1 2 j := fun j => hI 2 j (fun q => by have := q.1; omega)
  have r : ∀ i j, i ≠ 1 → i ≠ 2 → IR' i j = IR i j := fun i j x y => eR i j (fun q => x q.1) (fun q => y q.1)
  have rT : (fun p => IR' 2 (41 + p)) = (fun p => IR 2 (41 + p)) := funext fun p => eR 2 (41 + p) (by omega) (by omega)
  refine ⟨⟨e0, hm, (eR 1 1 (by omega) (by omega)).trans a1.2.2.1, a1.2.2.2⟩, ⟨(k1 1).trans e1, (k 3 1 (by omega) (by omega) (by omega)).trans a2.2.1, fun j hj => (k2 j).trans (eT j hj), fun j hj => ?_⟩, hc, ?_, h4, ?_, ⟨(r 0 17 (by omega) (by omega)).trans a7.1, a7.2⟩, cN_k a8 (funext fun j => r 14 j (by omega) (by omega)) (funext fun j => r 15 j (by omega) (by omega)) (fun i j x y => k i j (by omega) (by omega) (by omega)), rbS_k a9 (fun j => r 21 j (by omega) (by omega)), cSh_k a10 (fun i j x y => r i j (by omega) (by omega)) (fun i j x y => k i j (by omega) (by omega) (by omega)), ?_⟩
  · rw [k 4 j (by omega) (by omega) (by omega), a2.2.2.2 j hj]; exact (congrFun rT j).symm
  · rw [rT]
    exact ⟨(k 8 3 (by omega) (by omega) (by omega)).trans a4.1, a4.2.1, fun w hw => ⟨(k 9 w (by omega) (by omega) (by omega)).trans (a4.2.2 w hw).1, (k 10 w (by omega) (by omega) (by omega)).trans (a4.2.2 w hw).2.1, (k 11 w (by omega) (by omega) (by omega)).trans (a4.2.2 w hw).2.2⟩⟩
  · rw [rT, k 8 4 (by omega) (by omega) (by omega)]; exact a6
  · rw [k 0 8 (by omega) (by omega) (by omega), r 0 28 (by omega) (by omega)]; exact a11
/-- the walkers' text has changed -/
theorem Rl_T1 {IR IR' I I1 I' : Nat → Nat → Int32} {L : Nat → Nat → Int64} {n0 n1 c m : Nat} {cc : Nat → Nat} (h : Rl IR I L n0 n1 c cc) (hm : m ≤ 39) (eR : ∀ i j, ¬ (i = 1 ∧ j = 1) → ¬ (i = 2 ∧ 41 ≤ j) → IR' i j = IR i j) (e0 : IR' 1 1 = nI m)
    (i1 : ∀ i j, ¬ (i = 3 ∧ j = 1) → i ≠ 4 → I1 i j = I i j) (e1 : I1 3 1 = nI m) (eT : ∀ j, j < m → I1 4 j = IR' 2 (41 + j)) (hI : ∀ i j, ¬ fZ i j → I' i j = I1 i j)
    (hc : cW (fun p => IR' 2 (41 + p)) m I') (h4 : I' 8 4 = mzfv1 (fun p => IR' 2 (41 + p)) m) : Rl IR' I' L n0 m c cc := by
  obtain ⟨a1, a2, a3, a4, a5, a6, a7, a8, a9, a10, a11⟩ := h
  have k : ∀ i j, i ≠ 3 → i ≠ 4 → (i < 8 ∨ 11 < i) → I' i j = I i j := fun i j x y z => (hI i j (fun q => by unfold fZ at q; omega)).trans (i1 i j (fun q => x q.1) y)
  have k3 : ∀ j, I' 3 j = I1 3 j := fun j => hI 3 j (fun q => by unfold fZ at q; omega)
  have k4 : ∀ j, I' 4 j = I1 4 j := fun j => hI 4 j (fun q => by unfold fZ at q; omega)
  have r : ∀ i j, i ≠ 1 → i ≠ 2 → IR' i j = IR i j := fun i j x y => eR i j (fun q => x q.1) (fun q => y q.1)
  have rT : ∀ j, j < n0 → IR' 2 j = IR 2 j := fun j hj => eR 2 j (by omega) (by have := a1.2.1; omega)
  obtain ⟨q1, q2⟩ := mzq_c (T' := IR' 2) (T := IR 2) rT
  refine ⟨⟨(eR 1 0 (by omega) (by omega)).trans a1.1, a1.2.1, e0, hm⟩, ⟨(k 1 1 (by omega) (by omega) (by omega)).trans a2.1, (k3 1).trans e1, fun j hj => ?_, fun j hj => (k4 j).trans (eT j hj)⟩, ?_, hc, ?_, h4, ⟨(r 0 17 (by omega) (by omega)).trans a7.1, a7.2⟩, cN_k a8 (funext fun j => r 14 j (by omega) (by omega)) (funext fun j => r 15 j (by omega) (by omega)) (fun i j x y => k i j (by omega) (by omega) (by omega)), rbS_k a9 (fun j => r 21 j (by omega) (by omega)), cSh_k a10 (fun i j x y => r i j (by omega) (by omega)) (fun i j x y => k i j (by omega) (by omega) (by omega)), ?_⟩
  · rw [k 2 j (by omega) (by omega) (by omega), rT j hj]; exact a2.2.2.1 j hj
  · rw [q1]
    refine ⟨plR_R (plR_I a3.1 (fun i j x y => k i j (by omega) (by omega) (by omega))) (fun i j x y => r i j (by omega) (by omega)), cM_of a3.2.1 (k 5 2 (by omega) (by omega) (by omega)) (k 5 3 (by omega) (by omega) (by omega)), ?_⟩
    rw [opN_c (fun i j x y => r i j (by omega) (by omega))]
    exact ⟨(k 5 2 (by omega) (by omega) (by omega)).trans a3.2.2.1, (k 5 3 (by omega) (by omega) (by omega)).trans a3.2.2.2.1, a3.2.2.2.2⟩
  · rw [q2, k 5 4 (by omega) (by omega) (by omega)]; exact a5
  · rw [k 0 8 (by omega) (by omega) (by omega), r 0 28 (by omega) (by omega)]; exact a11
theorem pr_type (t b : Int32) {M1 M2 : mzM} (h : rel M1 M2) : mzdo M_X7_type [.ref 0, .int t, .int b] M1 (fun v1 N1 => mzdo M_X8_type [.ref 0, .int t, .int b] M2 (fun v2 N2 => okI v1 v2 N1 N2)) := by
  obtain ⟨IR, LR, I, L, sw, n0, n1, c, cc, rfl, rfl, hr⟩ := h
  obtain ⟨b1, b2, b3, b4⟩ := hr.1
  refine c_type IR I L sw _ b2 b4 hr.2.1 cc hr.2.2.1.1 t b (fun hb => r_type IR LR _ hr.1 t b (fun _ => okI_i (rel_i hr)) (fun e y => absurd ⟨e_01.mp (Or.inl e), y⟩ hb) (fun e y => absurd ⟨e_01.mp (Or.inr e), y⟩ hb)) (fun e hb => ?_) (fun e hb => ?_)
  · subst e
    refine ⟨fun h => r_type IR LR _ hr.1 0 b (fun y => absurd ⟨by decide, hb⟩ y) (fun _ _ => ⟨fun _ => okI_i (rel_i hr), fun y => by omega⟩) (fun y => absurd y (by decide)), fun h I' L' hI hL hc h4 => r_type IR LR _ hr.1 0 b (fun y => absurd ⟨by decide, hb⟩ y) (fun _ _ => ⟨fun y => by omega, fun _ => okI_i (rel_i (Rl_T0 hr (by omega) (fun i j x y => ?_) (ms_same _ _ _ _) (fun i j x y => ?_) (ms_same _ _ _ _) (fun j hj => ?_) hI hc h4))⟩) (fun y => absurd y (by decide))⟩
    · rw [ms_at, if_neg x, ms_at, if_neg (fun q => y (by omega))]
    · rw [ms_at, if_neg x, ms_cell _ _ y]
    · rw [ms_cell _ _ (by decide), ms_at, ms_cell _ _ (by decide), ms_at]
      by_cases q : j = n0
      · rw [if_pos ⟨rfl, q⟩, if_pos ⟨rfl, q⟩]
      · rw [if_neg (fun z => q z.2), if_neg (fun z => q z.2)]; exact hr.2.1.2.2.1 j (by omega)
  · subst e
    refine ⟨fun h => r_type IR LR _ hr.1 1 b (fun y => absurd ⟨by decide, hb⟩ y) (fun y => absurd y (by decide)) (fun _ _ => ⟨fun _ => okI_i (rel_i hr), fun y => by omega⟩), fun h I' hI hc h4 => r_type IR LR _ hr.1 1 b (fun y => absurd ⟨by decide, hb⟩ y) (fun y => absurd y (by decide)) (fun _ _ => ⟨fun y => by omega, fun _ => okI_i (rel_i (Rl_T1 hr (by omega) (fun i j x y => ?_) (ms_same _ _ _ _) (fun i j x y => ?_) (ms_same _ _ _ _) (fun j hj => ?_) hI hc h4))⟩)⟩
    · rw [ms_at, if_neg x, ms_at, if_neg (fun q => y (by omega))]
    · rw [ms_at, if_neg x, ms_cell _ _ y]
    · rw [ms_cell _ _ (by decide), ms_at, ms_cell _ _ (by decide), ms_at]
      by_cases q : j = n1
      · rw [if_pos ⟨rfl, q⟩, if_pos ⟨rfl, by omega⟩]
      · rw [if_neg (fun z => q z.2), if_neg (fun z => q (by omega))]; exact hr.2.1.2.2.2 j (by omega)
theorem pr_wipe (t : Int32) {M1 M2 : mzM} (h : rel M1 M2) : mzdo M_X7_wipe [.ref 0, .int t] M1 (fun v1 N1 => mzdo M_X8_wipe [.ref 0, .int t] M2 (fun v2 N2 => okI v1 v2 N1 N2)) := by
  obtain ⟨IR, LR, I, L, sw, n0, n1, c, cc, rfl, rfl, hr⟩ := h
  obtain ⟨b1, b2, b3, b4⟩ := hr.1
  refine c_wipe IR I L sw _ b2 b4 hr.2.1 cc hr.2.2.1.1 t (fun hb => r_wipe IR LR _ hr.1 t (fun _ => okI_i (rel_i hr)) (fun e => absurd (e_01.mp (Or.inl e)) hb) (fun e => absurd (e_01.mp (Or.inr e)) hb)) (fun e I' L' hI hL hc h4 => ?_) (fun e I' hI hc h4 => ?_)
  · subst e
    refine r_wipe IR LR _ hr.1 0 (fun y => absurd (by decide) y) (fun _ => okI_i (rel_i (Rl_T0 hr (Nat.zero_le 41) (fun i j x y => ?_) (ms_same _ _ _ _) (fun i j x y => ?_) (ms_same _ _ _ _) (fun j hj => absurd hj (Nat.not_lt_zero j)) hI hc h4))) (fun y => absurd y (by decide))
    · rw [ms_at, if_neg x]
    · rw [ms_at, if_neg x]
  · subst e
    refine r_wipe IR LR _ hr.1 1 (fun y => absurd (by decide) y) (fun y => absurd y (by decide)) (fun _ => okI_i (rel_i (Rl_T1 hr (Nat.zero_le 39) (fun i j x y => ?_) (ms_same _ _ _ _) (fun i j x y => ?_) (ms_same _ _ _ _) (fun j hj => absurd hj (Nat.not_lt_zero j)) hI hc h4)))
    · rw [ms_at, if_neg x]
    · rw [ms_at, if_neg x]
theorem pr_undo (t : Int32) {M1 M2 : mzM} (h : rel M1 M2) : mzdo M_X7_undo [.ref 0, .int t] M1 (fun v1 N1 => mzdo M_X8_undo [.ref 0, .int t] M2 (fun v2 N2 => okI v1 v2 N1 N2)) := by
  obtain ⟨IR, LR, I, L, sw, n0, n1, c, cc, rfl, rfl, hr⟩ := h
  obtain ⟨b1, b2, b3, b4⟩ := hr.1
  refine c_undo IR I L sw _ b2 b4 hr.2.1 cc hr.2.2.1.1 t (fun hb => r_undo IR LR _ hr.1 t (fun _ => okI_i (rel_i hr)) (fun e => absurd (e_01.mp (Or.inl e)) hb) (fun e => absurd (e_01.mp (Or.inr e)) hb)) (fun e => ?_) (fun e => ?_)
  · subst e
    refine ⟨fun h => r_undo IR LR _ hr.1 0 (fun y => absurd (by decide) y) (fun _ => ⟨fun _ => okI_i (rel_i hr), fun y => by omega⟩) (fun y => absurd y (by decide)), fun h I' L' hI hL hc h4 => r_undo IR LR _ hr.1 0 (fun y => absurd (by decide) y) (fun _ => ⟨fun y => by omega, fun _ => okI_i (rel_i (Rl_T0 hr (by omega) (fun i j x y => ?_) (ms_same _ _ _ _) (fun i j x y => ?_) (ms_same _ _ _ _) (fun j hj => ?_) hI hc h4))⟩) (fun y => absurd y (by decide))⟩
    · rw [ms_at, if_neg x]
    · rw [ms_at, if_neg x]
    · rw [ms_cell _ _ (by decide), ms_cell _ _ (by decide)]; exact hr.2.1.2.2.1 j (by omega)
  · subst e
    refine ⟨fun h => r_undo IR LR _ hr.1 1 (fun y => absurd (by decide) y) (fun y => absurd y (by decide)) (fun _ => ⟨fun _ => okI_i (rel_i hr), fun y => by omega⟩), fun h I' hI hc h4 => r_undo IR LR _ hr.1 1 (fun y => absurd (by decide) y) (fun y => absurd y (by decide)) (fun _ => ⟨fun y => by omega, fun _ => okI_i (rel_i (Rl_T1 hr (by omega) (fun i j x y => ?_) (ms_same _ _ _ _) (fun i j x y => ?_) (ms_same _ _ _ _) (fun j hj => ?_) hI hc h4))⟩)⟩
    · rw [ms_at, if_neg x]
    · rw [ms_at, if_neg x]
    · rw [ms_cell _ _ (by decide), ms_cell _ _ (by decide)]; exact hr.2.1.2.2.2 j (by omega)
