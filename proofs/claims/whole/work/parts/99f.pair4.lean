/-! pairs: the sheets -/
theorem rn4 {k : Nat} (hk : k < 4) : 0 ≤ nI k ∧ nI k ≤ 3 := by
  rw [← e_04]
  exact ⟨nI_pos' (by omega), (nI_ltI (a := k) (b := 4) (by omega) (by omega)).mpr hk⟩
theorem k4 {k k' : Nat} (hk : k < 4) (hk' : k' < 4) (e : nI k = nI k') : k' = k := by
  rw [nu_eq (by omega) (by omega)] at e
  exact e.symm
theorem Rl_H {IR IR' I I' : Nat → Nat → Int32} {L : Nat → Nat → Int64} {n0 n1 c : Nat} {cc : Nat → Nat} (h : Rl IR I L n0 n1 c cc) (eR : ∀ i j, ¬ fD i j → ¬ (19 ≤ i ∧ i ≤ 22) → IR' i j = IR i j) (eI : ∀ i j, (i < 23 ∨ 30 < i) → I' i j = I i j) (hz : rbS IR') (hS : cSh IR' I') : Rl IR' I' L n0 n1 c cc := by
  refine Rl_X h (fun j => eR 1 j (by unfold fD fM fW; omega) (by omega)) (funext fun j => eR 2 j (by unfold fD fM fW; omega) (by omega)) (fun i j x y => eI i j (by omega)) (cmz_k h.2.2.1 (funext fun j => eR 2 j (by unfold fD fM fW; omega) (by omega)) (fun i j _ _ => eR i j (by unfold fD fM fW; omega) (by omega)) (fun j => eI 5 j (by omega)) (fun i j _ _ => eI i j (by omega))) ⟨(eR 0 17 (by unfold fD fM fW; omega) (by omega)).trans h.2.2.2.2.2.2.1.1, h.2.2.2.2.2.2.1.2⟩ (cN_k h.2.2.2.2.2.2.2.1 (funext fun j => eR 14 j (by unfold fD fM fW; omega) (by omega)) (funext fun j => eR 15 j (by unfold fD fM fW; omega) (by omega)) (fun i j x y => eI i j (by omega))) hz hS ?_
  rw [eR 0 28 (by unfold fD fM fW; omega) (by omega), eI 0 8 (by omega)]
  exact h.2.2.2.2.2.2.2.2.2.2
theorem shk_k {IR IR' I I' : Nat → Nat → Int32} {k : Nat} (h : shk IR I k) (e19 : IR' 19 k = IR 19 k) (e20 : IR' 20 k = IR 20 k) (e21 : IR' 21 k = IR 21 k) (e22 : ∀ i, i < 60 → IR' 22 (60 * k + i) = IR 22 (60 * k + i)) (i1 : I' (23 + 2 * k) 1 = I (23 + 2 * k) 1) (i2 : I' (23 + 2 * k) 2 = I (23 + 2 * k) 2) (i3 : ∀ i, i < 60 → I' (24 + 2 * k) i = I (24 + 2 * k) i) : shk IR' I' k := by
  unfold shk at h ⊢
  rw [e19, e20, e21, i1, i2]
  rcases h with h | ⟨h1, h2, h3, h4, h5, h6⟩
  · exact Or.inl h
  · exact Or.inr ⟨h1, h2, h3, h4, h5, fun i hi => by rw [i3 i hi, e22 i hi]; exact h6 i hi⟩
theorem mn_ne {r k i j : Nat} (h : ¬ r = k) (hi : i < 60) (hj : j < 60) : 60 * r + i ≠ 60 * k + j := by omega
theorem pr_sheet (s form n : Int32) {M1 M2 : mzM} (h : rel M1 M2) : mzdo M_X7_sheet [.ref 0, .int s, .int form, .int n] M1 (fun v1 N1 => mzdo M_X8_sheet [.ref 0, .int s, .int form, .int n] M2 (fun v2 N2 => okI v1 v2 N1 N2)) := by
  obtain ⟨IR, LR, I, L, sw, n0, n1, c, cc, rfl, rfl, hr⟩ := h
  have hz := hr.2.2.2.2.2.2.2.2.1
  have hS := hr.2.2.2.2.2.2.2.2.2.1
  refine c_sheet IR I L sw _ s form n (fun hb => r_sheet IR LR _ s form n (fun _ => okI_i (rel_i hr)) (fun y => absurd y hb) (fun k hk e f g _ => absurd ⟨⟨by rw [e]; exact rn4 hk, f⟩, g⟩ hb)) (fun ho hn => r_sheet IR LR _ s form n (fun y => absurd ho y) (fun _ _ => okI_i (rel_i (Rl_F hr 5))) (fun k hk e f g y => absurd hn y)) (fun k hk e f g hn => ?_)
  subst e
  refine r_sheet IR LR _ (nI k) form n (fun y => absurd ⟨⟨rn4 hk, f⟩, g⟩ y) (fun _ y => absurd y hn) (fun k' hk' e' _ _ _ IR' hp => ?_)
  have e' := k4 hk hk' e'
  subst e'
  obtain ⟨p1, p2, p3, p4, p5⟩ := hp
  obtain ⟨m, hm, em⟩ := nI_of (x := n) hn
  have hm6 : m ≤ 60 := by
    subst em
    rw [show (60 : Int32) = nI 60 from rfl, nu_le (by omega) (by omega)] at g
    exact g
  have q : ∀ i j, ¬ (19 ≤ i ∧ i ≤ 22) → IR' i j = IR i j := fun i j x => p5 i j (by omega) (by omega) (by omega) (by omega)
  refine okI_i (rel_i (Rl_H hr (fun i j _ x => q i j x) (fun i j x => ?_) (fun r hr' => ?_) (fun r hr' => ?_)))
  · rw [ms_cell _ _ (by omega), ms_cell _ _ (by omega), flF_cell _ _ (by omega)]
  · by_cases c : r = k'
    · subst c
      exact ⟨m, hm6, p3.trans em⟩
    · obtain ⟨n', a, b⟩ := hz r hr'
      exact ⟨n', a, (p5 21 r (by omega) (by omega) (by omega) (by omega)).trans b⟩
  · by_cases c : r = k'
    · subst c
      refine Or.inr ⟨by rw [p1]; decide, ?_, by rw [p2]; exact f, ?_, ⟨m, hm6, p3.trans em⟩, fun i hi => ?_⟩
      · rw [ms_place _ _ (by decide), ms_same, p2]
      · rw [ms_same, p3]
      · rw [ms_cell _ _ (by omega), ms_cell _ _ (by omega), flF_in _ _ hi, p4 i hi]
    · refine shk_k (hS r hr') (p5 19 r (by omega) (by omega) (by omega) (by omega)) (p5 20 r (by omega) (by omega) (by omega) (by omega)) (p5 21 r (by omega) (by omega) (by omega) (by omega)) (fun i hi => p5 22 _ (by omega) (by omega) (by omega) (by omega)) ?_ ?_ (fun i hi => ?_)
      · rw [ms_cell _ _ (by omega), ms_cell _ _ (by omega), flF_cell _ _ (by omega)]
      · rw [ms_cell _ _ (by omega), ms_cell _ _ (by omega), flF_cell _ _ (by omega)]
      · rw [ms_cell _ _ (by omega), ms_cell _ _ (by omega), flF_cell _ _ (by omega)]
theorem pr_lose (s : Int32) {M1 M2 : mzM} (h : rel M1 M2) : mzdo M_X7_lose [.ref 0, .int s] M1 (fun v1 N1 => mzdo M_X8_lose [.ref 0, .int s] M2 (fun v2 N2 => okI v1 v2 N1 N2)) := by
  obtain ⟨IR, LR, I, L, sw, n0, n1, c, cc, rfl, rfl, hr⟩ := h
  have hz := hr.2.2.2.2.2.2.2.2.1
  have hS := hr.2.2.2.2.2.2.2.2.2.1
  refine c_lose I L sw _ s (fun hb => r_lose IR LR _ s (fun _ => okI_i (rel_i hr)) (fun k hk e => absurd (by rw [e]; exact rn4 hk) hb)) (fun k hk e => ?_)
  subst e
  have lost : I (23 + 2 * k) 1 = -1 ↔ IR 19 k = 0 := by
    rcases hS k hk with ⟨z1, z2⟩ | ⟨z1, z2, z3, -⟩
    · exact ⟨fun _ => z1, fun _ => z2⟩
    · refine ⟨fun w => ?_, fun w => absurd w z1⟩
      rw [z2] at w
      rw [w] at z3
      exact absurd z3.1 (by decide)
  refine ⟨fun h1 => r_lose IR LR _ (nI k) (fun y => absurd (rn4 hk) y) (fun k' hk' e' => ?_), fun h1 => r_lose IR LR _ (nI k) (fun y => absurd (rn4 hk) y) (fun k' hk' e' => ?_)⟩
  · have e' := k4 hk hk' e'
    subst e'
    exact ⟨fun _ => okI_i (rel_i (Rl_F hr 1)), fun y => absurd (lost.mp h1) y⟩
  · have e' := k4 hk hk' e'
    subst e'
    refine ⟨fun y => absurd (lost.mpr y) h1, fun y => ?_⟩
    have e2 : I (23 + 2 * k') 2 = IR 21 k' := by
      rcases hS k' hk' with ⟨z1, -⟩ | ⟨-, -, -, z4, -⟩
      · exact absurd z1 y
      · exact z4
    rw [e2]
    refine okI_i (rel_i (Rl_H hr (fun i j _ x => ms_cell _ _ (by omega)) (fun i j x => ?_) (rbS_k hz (fun j => ms_cell _ _ (by decide))) (fun r hr' => ?_)))
    · rw [ms_cell _ _ (by omega), ms_cell _ _ (by omega), flF_cell _ _ (by omega)]
    · by_cases c : r = k'
      · subst c
        exact Or.inl ⟨ms_same _ _ _ _, by rw [ms_place _ _ (by decide), ms_same]⟩
      · refine shk_k (hS r hr') (ms_place _ _ c) (ms_cell _ _ (by decide)) (ms_cell _ _ (by decide)) (fun i hi => ms_cell _ _ (by decide)) ?_ ?_ (fun i hi => ?_)
        · rw [ms_cell _ _ (by omega), ms_cell _ _ (by omega), flF_cell _ _ (by omega)]
        · rw [ms_cell _ _ (by omega), ms_cell _ _ (by omega), flF_cell _ _ (by omega)]
        · rw [ms_cell _ _ (by omega), ms_cell _ _ (by omega), flF_cell _ _ (by omega)]
theorem Rl_put {IR I : Nat → Nat → Int32} {L : Nat → Nat → Int64} {n0 n1 c : Nat} {cc : Nat → Nat} (h : Rl IR I L n0 n1 c cc) {k j : Nat} (hk : k < 4) (hj : j < 60) (v : Int32) : Rl (mzset IR 22 (60 * k + j) v) (mzset I (24 + 2 * k) j v) L n0 n1 c cc := by
  have hS := h.2.2.2.2.2.2.2.2.2.1
  refine Rl_H h (fun i j _ x => ms_cell _ _ (by omega)) (fun i j x => ms_cell _ _ (by omega)) (rbS_k h.2.2.2.2.2.2.2.2.1 (fun j => ms_cell _ _ (by decide))) (fun r hr' => ?_)
  by_cases q : r = k
  · subst q
    have := hS r hr'
    unfold shk at this ⊢
    rw [ms_cell _ _ (by omega), ms_cell _ _ (by omega), ms_cell _ _ (by omega), ms_cell _ _ (by omega), ms_cell _ _ (by omega)]
    rcases this with h | ⟨h1, h2, h3, h4, h5, h6⟩
    · exact Or.inl h
    · refine Or.inr ⟨h1, h2, h3, h4, h5, fun i hi => ?_⟩
      rw [ms_at, ms_at]
      by_cases q : i = j
      · rw [if_pos ⟨rfl, q⟩, if_pos ⟨rfl, by omega⟩]
      · rw [if_neg (fun y => q y.2), if_neg (fun y => q (by omega))]; exact h6 i hi
  · exact shk_k (hS r hr') (ms_cell _ _ (by decide)) (ms_cell _ _ (by decide)) (ms_cell _ _ (by decide)) (fun i hi => ms_place _ _ (mn_ne q hi hj)) (ms_cell _ _ (by omega)) (ms_cell _ _ (by omega)) (fun i hi => ms_cell _ _ (by omega))
theorem pr_put (s form i v : Int32) {M1 M2 : mzM} (h : rel M1 M2) : mzdo M_X7_put [.ref 0, .int s, .int form, .int i, .int v] M1 (fun v1 N1 => mzdo M_X8_put [.ref 0, .int s, .int form, .int i, .int v] M2 (fun v2 N2 => okI v1 v2 N1 N2)) := by
  obtain ⟨IR, LR, I, L, sw, n0, n1, c, cc, rfl, rfl, hr⟩ := h
  have hz := hr.2.2.2.2.2.2.2.2.1
  have hS := hr.2.2.2.2.2.2.2.2.2.1
  refine c_put IR I L sw _ s form i v hz hS (fun hb => r_put IR LR _ s form i v hz (fun _ => okI_i (rel_i hr)) (fun k hk e f _ => absurd ⟨by rw [e]; exact rn4 hk, f⟩ hb) (fun k hk e f _ => absurd ⟨by rw [e]; exact rn4 hk, f⟩ hb)) (fun k hk e f hl => ?_) (fun k hk e f hl j hj ei => ?_)
  · subst e
    refine r_put IR LR _ (nI k) form i v hz (fun y => absurd ⟨rn4 hk, f⟩ y) (fun k' hk' e' _ _ => ?_) (fun k' hk' e' _ y => ?_)
    · have e' := k4 hk hk' e'
      subst e'
      exact okI_i (rel_i (Rl_F hr _))
    · have e' := k4 hk hk' e'
      subst e'
      exact absurd hl y
  · subst e
    refine r_put IR LR _ (nI k) form i v hz (fun y => absurd ⟨rn4 hk, f⟩ y) (fun k' hk' e' _ y => ?_) (fun k' hk' e' _ _ j' hj' ej => ?_)
    · have e' := k4 hk hk' e'
      subst e'
      exact absurd y hl
    · have e' := k4 hk hk' e'
      subst e'
      rw [ei, nu_eq (by omega) (by omega)] at ej
      subst ej
      exact okI_i (rel_i (Rl_put hr hk' hj _))
theorem pr_get (s form i : Int32) {M1 M2 : mzM} (h : rel M1 M2) : mzdo M_X7_get [.ref 0, .int s, .int form, .int i] M1 (fun v1 N1 => mzdo M_X8_get [.ref 0, .int s, .int form, .int i] M2 (fun v2 N2 => okI v1 v2 N1 N2)) := by
  obtain ⟨IR, LR, I, L, sw, n0, n1, c, cc, rfl, rfl, hr⟩ := h
  have hz := hr.2.2.2.2.2.2.2.2.1
  have hS := hr.2.2.2.2.2.2.2.2.2.1
  refine c_get IR I L sw _ s form i hz hS (fun hb => r_get IR LR _ s form i hz (fun _ => okI_i (rel_i hr)) (fun k hk e f _ => absurd ⟨by rw [e]; exact rn4 hk, f⟩ hb) (fun k hk e f _ => absurd ⟨by rw [e]; exact rn4 hk, f⟩ hb)) (fun k hk e f hl => ?_) (fun k hk e f hl j hj ei => ?_)
  · subst e
    refine r_get IR LR _ (nI k) form i hz (fun y => absurd ⟨rn4 hk, f⟩ y) (fun k' hk' e' _ _ => ?_) (fun k' hk' e' _ y => ?_)
    · have e' := k4 hk hk' e'
      subst e'
      exact okI_i (rel_i (Rl_F hr _))
    · have e' := k4 hk hk' e'
      subst e'
      exact absurd hl y
  · subst e
    refine r_get IR LR _ (nI k) form i hz (fun y => absurd ⟨rn4 hk, f⟩ y) (fun k' hk' e' _ y => ?_) (fun k' hk' e' _ _ j' hj' ej => ?_)
    · have e' := k4 hk hk' e'
      subst e'
      exact absurd y hl
    · have e' := k4 hk hk' e'
      subst e'
      rw [ei, nu_eq (by omega) (by omega)] at ej
      subst ej
      exact okI_i (rel_i hr)
