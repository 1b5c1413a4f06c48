/-! hedges and gaps, step by step -/
/-- hedges (q = 0) and gaps (1): how many, each as told -/
def rbG (IR : Nat → Nat → Int32) (q c : Nat) : Prop := c ≤ 8 ∧ IR 7 q = nI c ∧ ∀ j, j < c → ∃ s d x, s < 100 ∧ d < 36 ∧ x < 2 ∧ IR 8 (8 * q + j) = nI s ∧ IR 9 (8 * q + j) = nI d ∧ IR 10 (8 * q + j) = nI x
/-- one of the first c of them is of just this step -/
def chd (IR : Nat → Nat → Int32) (q s x d : Nat) : Nat → Bool
  | 0 => false
  | c + 1 => chd IR q s x d c || ((decide (IR 8 (8 * q + c) = nI s) && decide (IR 10 (8 * q + c) = nI x)) && decide (IR 9 (8 * q + c) = nI d))
def oq (IR : Nat → Nat → Int32) (q : Nat) (s d x : Int32) : Nat → Int32
  | 0 => -1
  | j + 1 => if oaCb IR s d x (8 * q + j) = true ∧ oq IR q s d x j < IR 8 (8 * q + j) then IR 8 (8 * q + j) else oq IR q s d x j
theorem oaH_oq (IR : Nat → Nat → Int32) (s d x : Int32) : ∀ j, j ≤ 8 → oaH IR s d x j = oq IR 0 s d x j := by
  intro j
  induction j with
  | zero => intro _; rfl
  | succ j ih =>
    intro hj
    rw [oaH, oq, ih (by omega), show 8 * 0 + j = j by omega]
    have hlt : j < 8 := by omega
    simp only [hlt, and_true]
theorem oaH_more (IR : Nat → Nat → Int32) (s d x : Int32) : ∀ j, oaH IR s d x (8 + j) = oaH IR s d x 8 := by
  intro j
  induction j with
  | zero => rfl
  | succ j ih =>
    rw [← Nat.add_assoc, oaH, if_neg (fun h => by have := h.1.2; omega), ih]
theorem oaH_16 (IR : Nat → Nat → Int32) (s d x : Int32) : oaH IR s d x 16 = oq IR 0 s d x 8 := by
  rw [show 16 = 8 + 8 from rfl, oaH_more, oaH_oq _ _ _ _ 8 (Nat.le_refl 8)]
theorem oaG_none (IR : Nat → Nat → Int32) (s d x : Int32) : ∀ j, j ≤ 8 → oaG IR s d x j = -1 := by
  intro j
  induction j with
  | zero => intro _; rfl
  | succ j ih => intro hj; rw [oaG, if_neg (fun h => by have := h.1.2; omega), ih (by omega)]
theorem oaG_oq (IR : Nat → Nat → Int32) (s d x : Int32) : ∀ j, oaG IR s d x (8 + j) = oq IR 1 s d x j := by
  intro j
  induction j with
  | zero => exact oaG_none IR s d x 8 (Nat.le_refl 8)
  | succ j ih =>
    rw [← Nat.add_assoc, oaG, oq, ih, show 8 * 1 + j = 8 + j by omega]
    have hlt : 7 < 8 + j := by omega
    simp only [hlt, and_true]
theorem oaG_16 (IR : Nat → Nat → Int32) (s d x : Int32) : oaG IR s d x 16 = oq IR 1 s d x 8 := oaG_oq IR s d x 8
/-- the latest of the first m -/
def ltO (IR : Nat → Nat → Int32) (q s x d m : Nat) (v : Int32) : Prop := (v = -1 ∧ ∀ t, t ≤ s → chd IR q t x d m = false) ∨ ∃ t, t ≤ s ∧ v = nI t ∧ chd IR q t x d m = true ∧ ∀ t', t' ≤ s → chd IR q t' x d m = true → t' ≤ t
theorem oq_lt {IR : Nat → Nat → Int32} {q c : Nat} (h : rbG IR q c) (hq : q < 2) {s d x : Nat} (hs : s < 100) (hd : d < 36) (hx : x < 2) : ∀ j, j ≤ 8 → ltO IR q s x d (min j c) (oq IR q (nI s) (nI d) (nI x) j) := by
  obtain ⟨hc8, h7, hin⟩ := h
  intro j
  induction j with
  | zero =>
    intro _
    rw [Nat.zero_min]
    exact Or.inl ⟨rfl, fun _ _ => rfl⟩
  | succ j ih =>
    intro hj
    have ih := ih (by omega)
    rw [oq]
    have hmod : (8 * q + j) % 8 = j := by omega
    have hdiv : (8 * q + j) / 8 = q := by omega
    have hcb : oaCb IR (nI s) (nI d) (nI x) (8 * q + j) = decide (((nI j < nI c ∧ IR 9 (8 * q + j) = nI d) ∧ IR 10 (8 * q + j) = nI x) ∧ IR 8 (8 * q + j) ≤ nI s) := by
      unfold oaCb
      rw [hmod, hdiv, h7]
    by_cases hjc : j < c
    · rw [Nat.min_eq_left (by omega)] at ih
      rw [Nat.min_eq_left (by omega)]
      obtain ⟨s', d', x', z1, z2, z3, e8, e9, e10⟩ := hin j hjc
      have hch : ∀ t, t < 1000 → chd IR q t x d (j + 1) = (chd IR q t x d j || ((decide (s' = t) && decide (x' = x)) && decide (d' = d))) := fun t ht => by
        rw [chd, e8, e9, e10]
        have a1 : (nI s' = nI t) = (s' = t) := nu_eq (by omega) (by omega)
        have a2 : (nI x' = nI x) = (x' = x) := nu_eq (by omega) (by omega)
        have a3 : (nI d' = nI d) = (d' = d) := nu_eq (by omega) (by omega)
        simp only [a1, a2, a3]
      have hcb2 : oaCb IR (nI s) (nI d) (nI x) (8 * q + j) = decide ((d' = d ∧ x' = x) ∧ s' ≤ s) := by
        rw [hcb, e8, e9, e10]
        have a0 : (nI j < nI c) = (j < c) := nu_lt (by omega) (by omega)
        have a1 : (nI s' ≤ nI s) = (s' ≤ s) := nu_le (by omega) (by omega)
        have a2 : (nI x' = nI x) = (x' = x) := nu_eq (by omega) (by omega)
        have a3 : (nI d' = nI d) = (d' = d) := nu_eq (by omega) (by omega)
        simp only [a0, a1, a2, a3, hjc, true_and]
      rw [ite_pq (show (oaCb IR (nI s) (nI d) (nI x) (8 * q + j) = true ∧ oq IR q (nI s) (nI d) (nI x) j < IR 8 (8 * q + j)) = (((d' = d ∧ x' = x) ∧ s' ≤ s) ∧ oq IR q (nI s) (nI d) (nI x) j < nI s') by rw [hcb2, decide_eq_true_eq, e8]), e8]
      by_cases hit : (d' = d ∧ x' = x) ∧ s' ≤ s
      · obtain ⟨⟨rfl, rfl⟩, hss⟩ := hit
        have hch2 : ∀ t, t < 1000 → chd IR q t x' d' (j + 1) = (chd IR q t x' d' j || decide (s' = t)) := fun t ht => by rw [hch t ht]; simp
        rcases ih with ⟨v1, v2⟩ | ⟨t, v1, v2, v3, v4⟩
        · rw [if_pos ⟨⟨⟨rfl, rfl⟩, hss⟩, by rw [v1]; exact of_eq_true (nu_Mlt (by omega))⟩]
          refine Or.inr ⟨s', hss, rfl, by rw [hch2 s' (by omega)]; simp, fun t' ht' hc' => ?_⟩
          rw [hch2 t' (by omega), v2 t' ht'] at hc'
          have : s' = t' := by simpa using hc'
          omega
        · by_cases hlt : t < s'
          · rw [if_pos ⟨⟨⟨rfl, rfl⟩, hss⟩, by rw [v2, nu_lt (by omega) (by omega)]; exact hlt⟩]
            refine Or.inr ⟨s', hss, rfl, by rw [hch2 s' (by omega)]; simp, fun t' ht' hc' => ?_⟩
            rw [hch2 t' (by omega), Bool.or_eq_true, decide_eq_true_eq] at hc'
            rcases hc' with hc' | hc'
            · have := v4 t' ht' hc'; omega
            · omega
          · rw [if_neg (fun y => hlt (by have := y.2; rw [v2, nu_lt (by omega) (by omega)] at this; exact this))]
            refine Or.inr ⟨t, v1, v2, by rw [hch2 t (by omega), v3]; rfl, fun t' ht' hc' => ?_⟩
            rw [hch2 t' (by omega), Bool.or_eq_true, decide_eq_true_eq] at hc'
            rcases hc' with hc' | hc'
            · exact v4 t' ht' hc'
            · omega
      · rw [if_neg (fun y => hit y.1)]
        have hch3 : ∀ t, t ≤ s → chd IR q t x d (j + 1) = chd IR q t x d j := fun t ht => by
          rw [hch t (by omega)]
          have : ((decide (s' = t) && decide (x' = x)) && decide (d' = d)) = false := by
            by_cases a1 : s' = t
            · by_cases a2 : x' = x
              · by_cases a3 : d' = d
                · exact absurd ⟨⟨a3, a2⟩, by omega⟩ hit
                · simp [a3]
              · simp [a2]
            · simp [a1]
          rw [this, Bool.or_false]
        rcases ih with ⟨v1, v2⟩ | ⟨t, v1, v2, v3, v4⟩
        · exact Or.inl ⟨v1, fun t ht => by rw [hch3 t ht]; exact v2 t ht⟩
        · exact Or.inr ⟨t, v1, v2, by rw [hch3 t v1]; exact v3, fun t' ht' hc' => v4 t' ht' (by rw [← hch3 t' ht']; exact hc')⟩
    · have hn : ¬ oaCb IR (nI s) (nI d) (nI x) (8 * q + j) = true := by
        rw [hcb, decide_eq_true_eq]
        intro y
        have := (nu_lt (a := j) (b := c) (by omega) (by omega)) ▸ y.1.1.1
        omega
      rw [if_neg (fun y => hn y.1)]
      rw [Nat.min_eq_right (by omega)] at ih ⊢
      exact ih
theorem oq_8 {IR : Nat → Nat → Int32} {q c : Nat} (h : rbG IR q c) (hq : q < 2) {s d x : Nat} (hs : s < 100) (hd : d < 36) (hx : x < 2) : ltO IR q s x d c (oq IR q (nI s) (nI d) (nI x) 8) := by
  have := oq_lt h hq hs hd hx 8 (Nat.le_refl 8)
  rw [Nat.min_eq_right h.1] at this
  exact this
/-- what is open at a place, step by step -/
def nwS (T0 pl : Bool) (H G : Nat → Bool) : Nat → Bool
  | 0 => (T0 && !H 0) || (G 0 && pl)
  | s + 1 => (nwS T0 pl H G s && !H (s + 1)) || (G (s + 1) && pl)
theorem nwS_pl {T0 pl : Bool} {H G : Nat → Bool} (hp : pl = false) (hT : T0 = false) : ∀ s, nwS T0 pl H G s = false := by
  intro s
  induction s with
  | zero => rw [nwS, hp, hT]; simp
  | succ s ih => rw [nwS, ih, hp]; simp
theorem ltO_one {IR : Nat → Nat → Int32} {q s x d m : Nat} {v w : Int32} (hs : s < 100) (h : ltO IR q s x d m v) (h' : ltO IR q s x d m w) : v = w := by
  rcases h with ⟨a1, a2⟩ | ⟨t, a1, a2, a3, a4⟩
  · rcases h' with ⟨b1, b2⟩ | ⟨u, b1, b2, b3, b4⟩
    · rw [a1, b1]
    · rw [a2 u b1] at b3; cases b3
  · rcases h' with ⟨b1, b2⟩ | ⟨u, b1, b2, b3, b4⟩
    · rw [b2 t a1] at a3; cases a3
    · have := a4 u b1 b3
      have := b4 t a1 a3
      rw [a2, b2, show t = u by omega]
theorem ltO_s {IR : Nat → Nat → Int32} {q s x d m : Nat} {v w : Int32} (hs : s + 1 < 100) (h : ltO IR q s x d m v) (h' : ltO IR q (s + 1) x d m w) : w = if chd IR q (s + 1) x d m = true then nI (s + 1) else v := by
  by_cases c : chd IR q (s + 1) x d m = true
  · rw [if_pos c]
    exact ltO_one hs h' (Or.inr ⟨s + 1, Nat.le_refl _, rfl, c, fun t' ht' _ => ht'⟩)
  · rw [if_neg c]
    have cf : chd IR q (s + 1) x d m = false := by simpa using c
    refine ltO_one hs h' ?_
    rcases h with ⟨a1, a2⟩ | ⟨t, a1, a2, a3, a4⟩
    · refine Or.inl ⟨a1, fun t ht => ?_⟩
      by_cases e : t = s + 1
      · rw [e]; exact cf
      · exact a2 t (by omega)
    · refine Or.inr ⟨t, by omega, a2, a3, fun t' ht' hc' => ?_⟩
      by_cases e : t' = s + 1
      · rw [e, cf] at hc'; cases hc'
      · exact a4 t' (by omega) hc'
/-- the same by the latest -/
theorem nwS_op {IR : Nat → Nat → Int32} {c0 c1 : Nat} (h0 : rbG IR 0 c0) (h1 : rbG IR 1 c1) (kd : Nat → Int32) {d x : Nat} (hd : d < 36) (hx : x < 2) : ∀ s, s < 100 → nwS (decide (mzshr (kd d) (nI x) &&& 1 = 1)) true (fun t => chd IR 0 t x d c0) (fun t => chd IR 1 t x d c1) s = opK IR kd s d x := by
  intro s
  induction s with
  | zero =>
    intro hs
    have g0 := oq_8 h0 (by omega) hs hd hx
    have g1 := oq_8 h1 (by omega) hs hd hx
    unfold opK
    rw [oaH_16, oaG_16, nwS]
    generalize oq IR 0 (nI 0) (nI d) (nI x) 8 = vh at g0
    generalize oq IR 1 (nI 0) (nI d) (nI x) 8 = vg at g1
    rcases g1 with ⟨b1, b2⟩ | ⟨u, b1, b2, b3, b4⟩
    · rw [b2 0 (Nat.le_refl 0), b1]
      rcases g0 with ⟨a1, a2⟩ | ⟨t, a1, a2, a3, a4⟩
      · rw [a2 0 (Nat.le_refl 0), a1, if_pos ⟨rfl, rfl⟩]; simp
      · have : t = 0 := by omega
        subst this
        rw [a3, a2, if_neg (fun y => by rw [nu_m1 (by omega)] at y; exact y.1)]
        simp
        decide
    · have : u = 0 := by omega
      subst this
      rw [b3, b2, if_neg (fun y => by rw [nu_m1 (a := 0) (by omega)] at y; exact y.2)]
      rcases g0 with ⟨a1, a2⟩ | ⟨t, a1, a2, a3, a4⟩
      · rw [a1]; simp; decide
      · have : t = 0 := by omega
        subst this
        rw [a2]; simp
  | succ s ih =>
    intro hs
    have ih := ih (by omega)
    have g0 := oq_8 h0 (by omega) (show s < 100 by omega) hd hx
    have g1 := oq_8 h1 (by omega) (show s < 100 by omega) hd hx
    have k0 := oq_8 h0 (by omega) hs hd hx
    have k1 := oq_8 h1 (by omega) hs hd hx
    have e0 := ltO_s hs g0 k0
    have e1 := ltO_s hs g1 k1
    unfold opK at ih ⊢
    rw [oaH_16, oaG_16] at ih ⊢
    rw [nwS, ih]
    generalize oq IR 0 (nI s) (nI d) (nI x) 8 = vh at g0 e0
    generalize oq IR 1 (nI s) (nI d) (nI x) 8 = vg at g1 e1
    generalize oq IR 0 (nI (s + 1)) (nI d) (nI x) 8 = wh at e0
    generalize oq IR 1 (nI (s + 1)) (nI d) (nI x) 8 = wg at e1
    have bh : vh = -1 ∨ ∃ t, t ≤ s ∧ vh = nI t := g0.elim (fun y => Or.inl y.1) (fun ⟨t, a, b, _⟩ => Or.inr ⟨t, a, b⟩)
    have bg : vg = -1 ∨ ∃ t, t ≤ s ∧ vg = nI t := g1.elim (fun y => Or.inl y.1) (fun ⟨t, a, b, _⟩ => Or.inr ⟨t, a, b⟩)
    have m1 : ¬ nI (s + 1) = -1 := fun y => by rw [nu_m1 (by omega)] at y; exact y
    by_cases cg : chd IR 1 (s + 1) x d c1 = true
    · rw [if_pos cg] at e1
      subst e1
      rw [cg, if_neg (fun y : wh = -1 ∧ nI (s + 1) = -1 => m1 y.2)]
      simp only [Bool.true_and, Bool.or_true]
      symm
      rw [decide_eq_true_eq]
      by_cases ch : chd IR 0 (s + 1) x d c0 = true
      · rw [if_pos ch] at e0
        rw [e0]; exact Int32.le_refl _
      · rw [if_neg ch] at e0
        rw [e0]
        rcases bh with y | ⟨t, y1, y2⟩
        · rw [y]
          exact of_eq_true (nu_Mle (a := s + 1) (by omega))
        · rw [y2, nu_le (by omega) (by omega)]; omega
    · have cg' : chd IR 1 (s + 1) x d c1 = false := by simpa using cg
      rw [if_neg cg] at e1
      subst e1
      rw [cg']
      simp only [Bool.false_and, Bool.or_false]
      by_cases ch : chd IR 0 (s + 1) x d c0 = true
      · rw [if_pos ch] at e0
        subst e0
        rw [ch, if_neg (fun y : nI (s + 1) = -1 ∧ wg = -1 => m1 y.1)]
        simp only [Bool.not_true, Bool.and_false]
        symm
        rw [decide_eq_false_iff_not]
        rcases bg with y | ⟨t, y1, y2⟩
        · rw [y]
          exact of_eq_false (nu_leM (a := s + 1) (by omega))
        · rw [y2, nu_le (by omega) (by omega)]; omega
      · have ch' : chd IR 0 (s + 1) x d c0 = false := by simpa using ch
        rw [if_neg ch] at e0
        subst e0
        rw [ch']
        simp only [Bool.not_false, Bool.and_true]
