/-! the texts, as numbers -/
theorem smGo_ok {T : Nat → Int32} {n : Nat} : ∀ (f k row col cnt wide : Nat) (kd : Nat → Int32), k + f = n → row ≤ 6 → col ≤ wide → wide ≤ 6 → cnt = row * wide + col → (∀ j, j < cnt → kd j = 0 ∨ kd j = 1 ∨ kd j = 2 ∨ kd j = 3) → (k = 0 → cnt = 0 ∧ col = 0) → (row = 6 → col = 0) → ∀ q, smGo T n f k (row, col, cnt, wide, kd) = .inr q → q.2.2.1 = q.2.1 * q.1 ∧ q.1 ≤ 6 ∧ q.2.1 ≤ 6 ∧ (∀ j, j < q.2.2.1 → q.2.2.2 j = 0 ∨ q.2.2.2 j = 1 ∨ q.2.2.2 j = 2 ∨ q.2.2.2 j = 3) ∧ (0 < n → 0 < q.2.2.1) := by
  intro f
  induction f with
  | zero =>
    intro k row col cnt wide kd hk h1 h2 h3 h4 h5 h6 h7 q hq
    have e : smFin n (row, col, cnt, wide, kd) = .inr q := hq
    unfold smFin at e
    dsimp only at e
    by_cases hb : 0 < n ∧ (col = 0 ∨ 0 < row ∧ col < wide)
    · rw [if_pos hb] at e; cases e
    · rw [if_neg hb] at e
      cases e
      dsimp only
      rcases Nat.eq_zero_or_pos n with hn | hn
      · obtain ⟨e1, e2⟩ := h6 (by omega)
        subst e1
        refine ⟨by simp [hn], by split <;> omega, by simp [hn], fun j hj => by omega, fun h => by omega⟩
      · have hc : ¬ (col = 0 ∨ 0 < row ∧ col < wide) := fun q => hb ⟨hn, q⟩
        have hn0 : n ≠ 0 := by omega
        rw [if_neg hn0]
        by_cases hr : row = 0
        · subst hr
          simp only [if_true] at *
          refine ⟨by omega, by omega, by omega, h5, fun _ => by omega⟩
        · rw [if_neg hr]
          have hcw : col = wide := by omega
          refine ⟨by rw [Nat.succ_mul, h4, hcw], h3, by omega, h5, fun _ => by rw [h4]; omega⟩
  | succ f ih =>
    intro k row col cnt wide kd hk h1 h2 h3 h4 h5 h6 h7 q hq
    rw [smGo] at hq
    have hs : smStep (T k) (row, col, cnt, wide, kd) = (if row = 6 then none else if T k = 59 then (if col = 0 ∨ (0 < row ∧ col < wide) then none else some (row + 1, 0, cnt, (if row = 0 then col else wide), kd)) else if kdOf (T k) = -1 ∨ col = wide then none else some (row, col + 1, cnt + 1, wide, fun j => if j = cnt then kdOf (T k) else kd j)) := rfl
    rw [hs] at hq
    by_cases a1 : row = 6
    · rw [if_pos a1] at hq; cases hq
    · rw [if_neg a1] at hq
      by_cases a2 : T k = 59
      · rw [if_pos a2] at hq
        by_cases a3 : col = 0 ∨ (0 < row ∧ col < wide)
        · rw [if_pos a3] at hq; cases hq
        · rw [if_neg a3] at hq
          dsimp only at hq
          by_cases a4 : row = 0
          · subst a4
            rw [if_pos rfl] at hq
            exact ih (k + 1) 1 0 cnt col kd (by omega) (by omega) (by omega) (by omega) (by omega) h5 (fun h => by omega) (fun h => by omega) q hq
          · rw [if_neg a4] at hq
            exact ih (k + 1) (row + 1) 0 cnt wide kd (by omega) (by omega) (by omega) h3 (by rw [Nat.succ_mul]; omega) h5 (fun h => by omega) (fun _ => rfl) q hq
      · rw [if_neg a2] at hq
        by_cases a3 : kdOf (T k) = -1 ∨ col = wide
        · rw [if_pos a3] at hq; cases hq
        · rw [if_neg a3] at hq
          dsimp only at hq
          refine ih (k + 1) row (col + 1) (cnt + 1) wide _ (by omega) h1 (by omega) h3 (by omega) (fun j hj => ?_) (fun h => by omega) (fun h => absurd h a1) q hq
          by_cases e : j = cnt
          · subst e
            simp only [if_true]
            have hk : ¬ kdOf (T k) = -1 := fun h => a3 (Or.inl h)
            unfold kdOf at hk ⊢
            split <;> simp_all
            split <;> simp_all
            split <;> simp_all
          · simp only [e, if_false]
            exact h5 j (by omega)
/-- how wide, rows, days, kinds: of a text with a fault as of an empty one -/
def mzq (T : Nat → Int32) (n : Nat) : Nat × Nat × Nat × (Nat → Int32) := match smEnd T n with
  | .inl _ => (0, 0, 0, fun _ => 0)
  | .inr q => q
def mzfv0 (T : Nat → Int32) (n : Nat) : Int32 := match smEnd T n with
  | .inl f => nI f
  | .inr _ => -1
theorem mzq_ok (T : Nat → Int32) (n : Nat) : (mzq T n).2.2.1 = (mzq T n).2.1 * (mzq T n).1 ∧ (mzq T n).1 ≤ 6 ∧ (mzq T n).2.1 ≤ 6 ∧ (∀ j, j < (mzq T n).2.2.1 → (mzq T n).2.2.2 j = 0 ∨ (mzq T n).2.2.2 j = 1 ∨ (mzq T n).2.2.2 j = 2 ∨ (mzq T n).2.2.2 j = 3) := by
  unfold mzq
  split
  · exact ⟨rfl, Nat.zero_le _, Nat.zero_le _, fun j hj => by simp at hj⟩
  · rename_i q hq
    have := smGo_ok n 0 0 0 0 6 (fun _ => 0) (by omega) (by omega) (by omega) (by omega) (by omega) (fun j hj => by omega) (fun _ => ⟨rfl, rfl⟩) (fun h => by omega) q hq
    exact ⟨this.1, this.2.1, this.2.2.1, this.2.2.2.1⟩
theorem mzq_36 (T : Nat → Int32) (n : Nat) : (mzq T n).2.2.1 ≤ 36 := by
  obtain ⟨h1, h2, h3, -⟩ := mzq_ok T n
  rw [h1]
  exact Nat.mul_le_mul h3 h2
theorem mzq_pos (T : Nat → Int32) (n : Nat) (h : 0 < (mzq T n).2.2.1) : 0 < (mzq T n).1 ∧ 0 < (mzq T n).2.1 := by
  have h1 := (mzq_ok T n).1
  refine ⟨?_, ?_⟩
  · rcases Nat.eq_zero_or_pos (mzq T n).1 with e | e
    · rw [e, Nat.mul_zero] at h1; omega
    · exact e
  · rcases Nat.eq_zero_or_pos (mzq T n).2.1 with e | e
    · rw [e, Nat.zero_mul] at h1; omega
    · exact e
/-- the walkers -/
def wkSb (r : Nat) (b : Int32) : Bool := match r with
  | 0 => decide (0 ≤ b - 48 ∧ b - 48 ≤ 3)
  | 1 => decide (0 ≤ b - 48 ∧ b - 48 ≤ 9)
  | 2 => decide (¬ hdOf b = -1)
  | 3 => decide (¬ haOf b = -1)
  | _ => decide (b = 59)
theorem wkSb_iff (r : Nat) (b : Int32) : wkSb r b = true ↔ wkS r b := by
  match r with
  | 0 => exact decide_eq_true_iff
  | 1 => exact decide_eq_true_iff
  | 2 => exact decide_eq_true_iff
  | 3 => exact decide_eq_true_iff
  | r + 4 => exact decide_eq_true_iff
def wkf (T : Nat → Int32) : Nat → Nat
  | 0 => 0
  | n + 1 => if wkf T n < n then wkf T n else if wkSb (n % 5) (T n) = true then n + 1 else n
theorem wkf_F (T : Nat → Int32) : ∀ n, wkF T n (wkf T n) := by
  intro n
  induction n with
  | zero => exact ⟨Nat.le_refl 0, fun p hp => absurd hp (Nat.not_lt_zero p), fun h => absurd h (Nat.not_lt_zero _)⟩
  | succ n ih =>
    obtain ⟨h1, h2, h3⟩ := ih
    unfold wkf
    by_cases a : wkf T n < n
    · rw [if_pos a]
      exact ⟨by omega, h2, fun _ => h3 a⟩
    · rw [if_neg a]
      have e : wkf T n = n := by omega
      by_cases b : wkSb (n % 5) (T n) = true
      · rw [if_pos b]
        refine ⟨Nat.le_refl _, fun p hp => ?_, fun h => by omega⟩
        by_cases hpn : p = n
        · subst hpn; exact (wkSb_iff _ _).mp b
        · exact h2 p (by omega)
      · rw [if_neg b]
        exact ⟨by omega, fun p hp => h2 p (by omega), fun _ h => b ((wkSb_iff _ _).mpr h)⟩
def nWk (T : Nat → Int32) (n : Nat) : Nat := if wkf T n = n ∧ n % 5 = 4 then (n + 1) / 5 else 0
def mzfv1 (T : Nat → Int32) (n : Nat) : Int32 := if n = 0 then -1 else if wkf T n = n ∧ n % 5 = 4 then -1 else nI (wkf T n)
/-! what the reference's cells hold behind reading; what may have changed -/
def eqx (P : Nat → Nat → Prop) (I I' : Nat → Nat → Int32) : Prop := ∀ i j, ¬ P i j → I' i j = I i j
def fM : Nat → Nat → Prop := fun i j => i = 3 ∨ (i = 0 ∧ (j = 2 ∨ j = 3 ∨ j = 4))
def fW : Nat → Nat → Prop := fun i j => i = 4 ∨ i = 5 ∨ i = 6 ∨ (i = 0 ∧ j = 6)
def fD : Nat → Nat → Prop := fun i j => fM i j ∨ fW i j ∨ i = 11 ∨ i = 12 ∨ i = 13 ∨ i = 16 ∨ i = 23
theorem eqx_rf {P : Nat → Nat → Prop} {I : Nat → Nat → Int32} : eqx P I I := fun _ _ _ => rfl
theorem eqx_tr {P Q : Nat → Nat → Prop} {I I' I'' : Nat → Nat → Int32} (h : eqx P I I') (h' : eqx Q I' I'') (hQ : ∀ i j, Q i j → P i j) : eqx P I I'' := fun i j hp => (h' i j (fun q => hp (hQ i j q))).trans (h i j hp)
theorem eqx_mn {P Q : Nat → Nat → Prop} {I I' : Nat → Nat → Int32} (h : eqx Q I I') (hQ : ∀ i j, Q i j → P i j) : eqx P I I' := fun i j hp => h i j (fun q => hp (hQ i j q))
theorem fM_D : ∀ i j, fM i j → fD i j := fun _ _ h => Or.inl h
theorem fW_D : ∀ i j, fW i j → fD i j := fun _ _ h => Or.inr (Or.inl h)
/-- the maze as read -/
def rdM (T : Nat → Int32) (n : Nat) (I : Nat → Nat → Int32) : Prop := I 0 3 = nI (mzq T n).2.1 ∧ I 0 4 = nI (mzq T n).2.2.1 ∧ (0 < (mzq T n).2.2.1 → I 0 2 = nI (mzq T n).1) ∧ ∀ j, j < (mzq T n).2.2.1 → I 3 j = (mzq T n).2.2.2 j
/-- the walkers as read -/
def rdW (T : Nat → Int32) (n : Nat) (I : Nat → Nat → Int32) : Prop := I 0 6 = nI (nWk T n) ∧ ∀ w, w < nWk T n → I 4 w = wkDay T w ∧ I 5 w = hdOf (T (5 * w + 2)) ∧ I 6 w = haOf (T (5 * w + 3))
theorem rdM_keep {T : Nat → Int32} {n : Nat} {I I' : Nat → Nat → Int32} (h : rdM T n I) (h0 : I' 0 2 = I 0 2 ∧ I' 0 3 = I 0 3 ∧ I' 0 4 = I 0 4) (h3 : ∀ j, I' 3 j = I 3 j) : rdM T n I' := ⟨h0.2.1.trans h.1, h0.2.2.trans h.2.1, fun q => h0.1.trans (h.2.2.1 q), fun j hj => (h3 j).trans (h.2.2.2 j hj)⟩
theorem rdM_W {T : Nat → Int32} {n : Nat} {I I' : Nat → Nat → Int32} (h : rdM T n I) (he : eqx fW I I') : rdM T n I' := rdM_keep h ⟨he 0 2 (by unfold fW; omega), he 0 3 (by unfold fW; omega), he 0 4 (by unfold fW; omega)⟩ (fun j => he 3 j (by unfold fW; omega))
/-- the base: how long the texts are -/
def rbT (I : Nat → Nat → Int32) (n0 n1 : Nat) : Prop := I 1 0 = nI n0 ∧ n0 ≤ 41 ∧ I 1 1 = nI n1 ∧ n1 ≤ 39
theorem r_readsMaze (I : Nat → Nat → Int32) (L : Nat → Nat → Int64) (K : Value → mzM → Prop) {n0 n1 : Nat} (hb : rbT I n0 n1) (hK : ∀ I', eqx fM I I' → rdM (I 2) n0 I' → K (.int (mzfv0 (I 2) n0)) (mR I' L)) : mzdo M_X8_readsMaze [.ref 0] (mR I L) K := by
  refine t_readsMaze I L K n0 hb.2.1 hb.1 (fun v I' h => ?_)
  obtain ⟨hf, h⟩ := h
  have hf' : eqx fM I I' := fun i j hp => hf i j (fun q => hp (Or.inr q)) (fun q => hp (Or.inl q))
  have hk := hK I' hf'
  unfold rdM mzq mzfv0 at hk
  split at h
  · rename_i f hs
    rw [hs] at hk
    dsimp only at hk
    rw [h.1]
    exact hk ⟨h.2.1, h.2.2, fun q => absurd q (by omega), fun j hj => absurd hj (by omega)⟩
  · rename_i q hs
    rw [hs] at hk
    dsimp only at hk
    rw [h.1]
    exact hk ⟨h.2.2.1, h.2.2.2.1, fun _ => h.2.1, h.2.2.2.2⟩
theorem r_readsWalkers (I : Nat → Nat → Int32) (L : Nat → Nat → Int64) (K : Value → mzM → Prop) {n0 n1 : Nat} (hb : rbT I n0 n1) (hK : ∀ I', eqx fW I I' → rdW (fun p => I 2 (41 + p)) n1 I' → K (.int (mzfv1 (fun p => I 2 (41 + p)) n1)) (mR I' L)) : mzdo M_X8_readsWalkers [.ref 0] (mR I L) K := by
  refine t_readsWalkers I L K n1 hb.2.2.2 hb.2.2.1 (fun v I' h => ?_)
  obtain ⟨hf, h0, h1⟩ := h
  have hf' : eqx fW I I' := fun i j hp => hf i j (fun q => hp (Or.inr (Or.inr (Or.inr q)))) (fun q => hp (Or.inl q)) (fun q => hp (Or.inr (Or.inl q))) (fun q => hp (Or.inr (Or.inr (Or.inl q))))
  have hk := hK I' hf'
  rcases Nat.eq_zero_or_pos n1 with e | e
  · obtain ⟨e1, e2⟩ := h0 e
    subst e
    rw [e1]
    exact hk ⟨e2, fun w hw => by simp [nWk] at hw⟩
  · obtain ⟨f, hF, h⟩ := h1 e
    have ef := wkF_one hF (wkf_F _ n1)
    subst ef
    unfold rdW nWk mzfv1 at hk
    rw [if_neg (show ¬ n1 = 0 by omega)] at hk
    rcases h with ⟨a1, a2, a3, a4, a5⟩ | ⟨a1, a2, a3⟩
    · rw [if_pos ⟨a1, a2⟩, if_pos ⟨a1, a2⟩] at hk
      rw [a3]
      exact hk ⟨a4, a5⟩
    · rw [if_neg a1, if_neg a1] at hk
      rw [a2]
      exact hk ⟨a3, fun w hw => by omega⟩
