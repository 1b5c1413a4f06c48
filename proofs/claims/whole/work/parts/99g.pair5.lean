/-! pairs: copy, write -/
theorem Rl_cpy {IR IR' I : Nat → Nat → Int32} {L : Nat → Nat → Int64} {n0 n1 c : Nat} {cc : Nat → Nat} (h : Rl IR I L n0 n1 c cc) {k m a b n : Nat} (hk : k < 4) (hm : m < 4) (h1 : ¬ IR 19 k = 0) (ha : a + n ≤ 60) (hb : b + n ≤ 60) (hp : cpP IR IR' k m a b n) : Rl IR' (fun x => if x = 24 + 2 * m then va_cpy (I (24 + 2 * k)) (I (24 + 2 * m)) a b n else I x) L n0 n1 c cc := by
  have hS := h.2.2.2.2.2.2.2.2.2.1
  obtain ⟨p1, p2⟩ := hp
  have eI : ∀ x j, x ≠ 24 + 2 * m → (fun x => if x = 24 + 2 * m then va_cpy (I (24 + 2 * k)) (I (24 + 2 * m)) a b n else I x) x j = I x j := fun x j q => by dsimp only; rw [if_neg q]
  refine Rl_H h (fun i j x y => p1 i j (by omega) (fun q => x (by unfold fD; omega))) (fun i j x => eI i j (by omega)) (rbS_k h.2.2.2.2.2.2.2.2.1 (fun j => p1 21 j (by omega) (by omega))) (fun r hr' => ?_)
  by_cases q : r = m
  · subst q
    have := hS r hr'
    have hsk := hS k hk
    unfold shk at this ⊢
    rw [p1 19 r (by omega) (by omega), p1 20 r (by omega) (by omega), p1 21 r (by omega) (by omega), eI (23 + 2 * r) 1 (by omega), eI (23 + 2 * r) 2 (by omega)]
    rcases this with h | ⟨g1, g2, g3, g4, g5, g6⟩
    · exact Or.inl h
    · refine Or.inr ⟨g1, g2, g3, g4, g5, fun i hi => ?_⟩
      dsimp only
      rw [if_pos rfl]
      unfold va_cpy
      by_cases c : b ≤ i ∧ i < b + n
      · rw [if_pos c]
        rcases hsk with ⟨z, -⟩ | ⟨-, -, -, -, -, z⟩
        · exact absurd z h1
        · rw [z _ (by omega)]
          have := p2 (i - b) (by omega)
          rw [show 60 * r + b + (i - b) = 60 * r + i by omega, show 60 * k + a + (i - b) = 60 * k + (a + (i - b)) by omega] at this
          exact this.symm
      · rw [if_neg c, g6 i hi]
        exact (p1 22 _ (by omega) (by omega)).symm
  · exact shk_k (hS r hr') (p1 19 r (by omega) (by omega)) (p1 20 r (by omega) (by omega)) (p1 21 r (by omega) (by omega)) (fun i hi => p1 22 _ (by omega) (by omega)) (eI _ _ (by omega)) (eI _ _ (by omega)) (fun i hi => eI _ _ (by omega))
theorem pr_copy (s i t j n : Int32) {M1 M2 : mzM} (h : rel M1 M2) : mzdo M_X7_copy [.ref 0, .int s, .int i, .int t, .int j, .int n] M1 (fun v1 N1 => mzdo M_X8_copy [.ref 0, .int s, .int i, .int t, .int j, .int n] M2 (fun v2 N2 => okI v1 v2 N1 N2)) := by
  obtain ⟨IR, LR, I, L, sw, n0, n1, c, cc, rfl, rfl, hr⟩ := h
  have hz := hr.2.2.2.2.2.2.2.2.1
  have hS := hr.2.2.2.2.2.2.2.2.2.1
  refine c_copy IR I L sw _ s i t j n hS (fun hb => r_copy IR LR _ s i t j n hz (fun _ => okI_i (rel_i hr)) (fun k m hk hm e e' => absurd ⟨by rw [e]; exact rn4 hk, by rw [e']; exact rn4 hm⟩ hb)) (fun k m hk hm e e' => ?_)
  subst e
  subst e'
  have go : ∀ K : Value → mzM → Prop, (((IR 19 k = 0 ∨ IR 19 m = 0) → K (.int (-11)) (mR (mzset IR 0 28 1) LR)) ∧
      (¬ (IR 19 k = 0 ∨ IR 19 m = 0) → ¬ IR 20 k = IR 20 m → K (.int (-14)) (mR (mzset IR 0 28 4) LR)) ∧
      (¬ (IR 19 k = 0 ∨ IR 19 m = 0) → IR 20 k = IR 20 m → cpX IR k m i j n → K (.int (-12)) (mR (mzset IR 0 28 2) LR)) ∧
      (¬ (IR 19 k = 0 ∨ IR 19 m = 0) → IR 20 k = IR 20 m → ¬ cpX IR k m i j n → ∀ a b c y z, i = nI a → j = nI b → n = nI c → IR 21 k = nI y → IR 21 m = nI z → y ≤ 60 → z ≤ 60 → a + c ≤ y → b + c ≤ z → ∀ I', cpP IR I' k m a b c → K (.int 1) (mR I' LR))) → mzdo M_X8_copy [.ref 0, .int (nI k), .int i, .int (nI m), .int j, .int n] (mR IR LR) K := fun K hh =>
    r_copy IR LR K (nI k) i (nI m) j n hz (fun y => absurd ⟨rn4 hk, rn4 hm⟩ y) (fun k' m' hk' hm' e e' => by
      have e := k4 hk hk' e
      have e' := k4 hm hm' e'
      subst e
      subst e'
      exact hh)
  refine ⟨fun h0 => go _ ⟨fun _ => okI_i (rel_i (Rl_F hr 1)), fun y => absurd h0 y, fun y => absurd h0 y, fun y => absurd h0 y⟩, fun h0 h1 => go _ ⟨fun y => absurd y h0, fun _ _ => okI_i (rel_i (Rl_F hr 4)), fun _ y => absurd y h1, fun _ y => absurd y h1⟩, fun h0 h1 h2 => go _ ⟨fun y => absurd y h0, fun _ y => absurd h1 y, fun _ _ _ => okI_i (rel_i (Rl_F hr 2)), fun _ _ y => absurd h2 y⟩, fun h0 h1 h2 a b d y z ea eb ed ey ez hy hz6 hay hbz => go _ ⟨fun y => absurd y h0, fun _ y => absurd h1 y, fun _ _ y => absurd y h2, fun _ _ _ a' b' d' y' z' ea' eb' ed' ey' ez' hy' hz' hay' hbz' IR' hp => ?_⟩⟩
  have q1 : a = a' := by rw [ea, nu_eq (by omega) (by omega)] at ea'; exact ea'
  have q2 : b = b' := by rw [eb, nu_eq (by omega) (by omega)] at eb'; exact eb'
  have q3 : d = d' := by rw [ed, nu_eq (by omega) (by omega)] at ed'; exact ed'
  subst q1
  subst q2
  subst q3
  exact okI_i (rel_i (Rl_cpy hr hk hm (fun w => h0 (Or.inl w)) (by omega) (by omega) hp))
theorem pr_write (w s : Int32) {M1 M2 : mzM} (h : rel M1 M2) : mzdo M_X7_write [.ref 0, .int w, .int s] M1 (fun v1 N1 => mzdo M_X8_write [.ref 0, .int w, .int s] M2 (fun v2 N2 => okI v1 v2 N1 N2)) := by
  obtain ⟨IR, LR, I, L, sw, n0, n1, c, cc, rfl, rfl, hr⟩ := h
  have hz := hr.2.2.2.2.2.2.2.2.1
  have hS := hr.2.2.2.2.2.2.2.2.2.1
  have eD := (mzq_ok (IR 2) n0).1
  have h8 := nWk_8 (T := fun p => IR 2 (41 + p)) hr.1.2.2.2
  have okw : ∀ j, j < nWk (fun p => IR 2 (41 + p)) n1 → (0 ≤ nI j ∧ nI j ≤ nI (nWk (fun p => IR 2 (41 + p)) n1) - 1) := fun j hj => by
    rw [← le_sz (by omega)]
    exact ⟨nI_pos' (by omega), (nI_ltI (by omega) (by omega)).mpr hj⟩
  refine c_write IR I L sw _ (Rl_P hr) hr.2.2.2.1 hS w s (fun hb => r_write IR LR _ hr.1 w s hz (fun _ IR' e => okI_i (rel_i (Rl_D hr e))) (fun j k hj hk ew es => absurd ⟨by rw [ew]; exact okw j hj, by rw [es]; exact rn4 hk⟩ hb)) (fun j k hj hk ew es => ?_)
  · subst ew
    subst es
    have ok : (0 ≤ nI j ∧ nI j ≤ nI (nWk (fun p => IR 2 (41 + p)) n1) - 1) ∧ 0 ≤ nI k ∧ nI k ≤ 3 := ⟨okw j hj, rn4 hk⟩
    refine ⟨fun h0 => r_write IR LR _ hr.1 (nI j) (nI k) hz (fun y => absurd ok y) (fun j' k' hj' hk' ej ek => ?_), fun h0 z hz6 ez I' a1 a2 a3 => r_write IR LR _ hr.1 (nI j) (nI k) hz (fun y => absurd ok y) (fun j' k' hj' hk' ej ek => ?_)⟩
    · have ek := k4 hk hk' ek
      subst ek
      exact ⟨fun _ IR' e => okI_i (rel_i (Rl_F (Rl_D hr e) 1)), fun y => absurd h0 y⟩
    · have ek := k4 hk hk' ek
      subst ek
      rw [nu_eq (by omega) (by omega)] at ej
      subst ej
      refine ⟨fun y => absurd y h0, fun _ z' hz' ez' IR' e b3 => ?_⟩
      have qz : z = z' := by rw [ez, nu_eq (by omega) (by omega)] at ez'; exact ez'
      subst qz
      have r : ∀ i x, ¬ fD i x → ¬ (i = 22 ∧ 60 * k' ≤ x ∧ x < 60 * k' + z) → IR' i x = IR i x := fun i x y y' => e i x (fun q => q.elim y y')
      refine okI_i (rel_i (Rl_H hr (fun i x y y' => r i x y (by omega)) (fun i x y => a1 i x (by omega)) (rbS_k hz (fun x => r 21 x (by unfold fD fM fW; omega) (by omega))) (fun q hq => ?_)))
      by_cases c : q = k'
      · subst c
        have := hS q hq
        unfold shk at this ⊢
        rw [r 19 q (by unfold fD fM fW; omega) (by omega), r 20 q (by unfold fD fM fW; omega) (by omega), r 21 q (by unfold fD fM fW; omega) (by omega), a1 _ 1 (by omega), a1 _ 2 (by omega)]
        rcases this with h | ⟨g1, g2, g3, g4, g5, g6⟩
        · exact Or.inl h
        · refine Or.inr ⟨g1, g2, g3, g4, g5, fun i hi => ?_⟩
          by_cases d : i < z
          · rw [a3 i d, b3 i d]
            unfold aO
            rw [eD]
          · rw [a2 i (by omega), r 22 _ (by unfold fD fM fW; omega) (by omega)]
            exact g6 i hi
      · exact shk_k (hS q hq) (r 19 q (by unfold fD fM fW; omega) (by omega)) (r 20 q (by unfold fD fM fW; omega) (by omega)) (r 21 q (by unfold fD fM fW; omega) (by omega)) (fun i hi => r 22 _ (by unfold fD fM fW; omega) (by omega)) (a1 _ _ (by omega)) (a1 _ _ (by omega)) (fun i hi => a1 _ _ (by omega))
