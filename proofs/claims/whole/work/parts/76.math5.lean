/-! the fewest gaps, hearing: by sets -/
/-- all places, as if it was open -/
def plO (W R : Nat) (d way : Nat) : Bool := match way with
  | 0 => decide (W ≤ d) && decide (d - W < R * W ∧ (d - W) / W < R - 1)
  | 1 => decide (d < R * W ∧ d % W < W - 1)
  | 2 => decide (d < R * W ∧ d / W < R - 1)
  | _ => decide (1 ≤ d) && decide (d - 1 < R * W ∧ (d - 1) % W < W - 1)
theorem plO_sy (W R : Nat) : opSy (fun _ => plO W R) W (R * W) := by
  intro s d
  refine ⟨rfl, rfl, fun h => ?_, fun h => ?_⟩
  · have h : decide (d < R * W ∧ d % W < W - 1) = true := h
    rw [decide_eq_true_eq] at h; exact h.1
  · have h : decide (d < R * W ∧ d / W < R - 1) = true := h
    rw [decide_eq_true_eq] at h; exact h.1
theorem plO_t (W R : Nat) : opT (fun _ => plO W R) W R := by
  intro s d
  refine ⟨fun h => ?_, fun h => ?_⟩
  · have h : decide (d < R * W ∧ d % W < W - 1) = true := h
    rw [decide_eq_true_eq] at h; exact h.2
  · have h : decide (d < R * W ∧ d / W < R - 1) = true := h
    rw [decide_eq_true_eq] at h; exact h.2
theorem plO_ok (W R : Nat) : opOk (fun _ => plO W R) W (R * W) := by
  intro s d way hs hd hw h
  exact thr_lt hd hw (op_thr (s := s) (plO_sy W R) (plO_t W R) hw h)
theorem mod_succ {W d : Nat} (hW : 0 < W) (h : 0 < d % W) : 1 ≤ d ∧ (d - 1) % W < W - 1 := by
  have h1 : 1 ≤ d := by
    rcases Nat.eq_zero_or_pos d with e | e
    · subst e; simp at h
    · exact e
  refine ⟨h1, ?_⟩
  have hlt := Nat.mod_lt (d - 1) hW
  rcases Nat.lt_or_ge ((d - 1) % W) (W - 1) with z | z
  · exact z
  · exfalso
    have e : (d - 1) % W = W - 1 := by omega
    have h2 := Nat.div_add_mod (d - 1) W
    rw [e] at h2
    have h3 : d = W * ((d - 1) / W + 1) := by rw [Nat.mul_add]; omega
    rw [h3, Nat.mul_mod_right] at h
    omega
/-- all places are those -/
theorem thr_pl {W R d way : Nat} (hd : d < R * W) (hw : way < 4) (h : thr W R d way = true) : plO W R d way = true := by
  have hW : 0 < W := by
    rcases Nat.eq_zero_or_pos W with e | e
    · rw [e, Nat.mul_zero] at hd; omega
    · exact e
  match way, hw with
  | 0, _ =>
    have h : W ≤ d := by simpa [thr] using h
    have h2 : (d - W) / W < R - 1 := by
      have e := Nat.div_eq_sub_div hW h
      have : d / W < R := Nat.div_lt_of_lt_mul (by rw [Nat.mul_comm]; exact hd)
      have : 1 ≤ d / W := Nat.div_pos h hW
      omega
    show (decide (W ≤ d) && decide (d - W < R * W ∧ (d - W) / W < R - 1)) = true
    simp [h, h2]
    omega
  | 1, _ =>
    have h : d % W < W - 1 := by simpa [thr] using h
    show decide (d < R * W ∧ d % W < W - 1) = true
    simp [h, hd]
  | 2, _ =>
    have h : d / W < R - 1 := by simpa [thr] using h
    show decide (d < R * W ∧ d / W < R - 1) = true
    simp [h, hd]
  | 3, _ =>
    have h : 0 < d % W := by simpa [thr] using h
    obtain ⟨h1, h2⟩ := mod_succ hW h
    show (decide (1 ≤ d) && decide (d - 1 < R * W ∧ (d - 1) % W < W - 1)) = true
    simp [h1, h2]
    omega
/-- what is reached with at most j gaps -/
def rch (op : Nat → Nat → Nat → Bool) (W R s a : Nat) : Nat → Nat → Bool
  | 0 => itB (acr W (fun d => op s d 1) (fun d => op s d 2)) 36 (fun e => decide (e = a))
  | j + 1 => itB (acr W (fun d => op s d 1) (fun d => op s d 2)) 36 (acr W (fun d => plO W R d 1) (fun d => plO W R d 2) (rch op W R s a j))
theorem acr_it_sup {op : Nat → Nat → Nat → Bool} {W D s : Nat} (ho : opOk op W D) (hs : opSy op W D) (hs1 : s < 100) {A : Nat → Bool} (hA : ∀ e, A e = true → e < D) : ∀ k e, itB (acr W (fun d => op s d 1) (fun d => op s d 2)) k A e = true → e < D := by
  intro k
  induction k with
  | zero => exact hA
  | succ k ih => exact acr_sup ho hs hs1 ih
theorem rch_sup {op : Nat → Nat → Nat → Bool} {W R s : Nat} (hs1 : s < 100) (ho : opOk op W (R * W)) (hs : opSy op W (R * W)) {a : Nat} (ha : a < R * W) : ∀ j e, rch op W R s a j e = true → e < R * W := by
  intro j
  induction j with
  | zero => exact acr_it_sup ho hs hs1 (fun e h => by rw [decide_eq_true_eq] at h; omega) 36
  | succ j ih => exact acr_it_sup ho hs hs1 (acr_sup (s := 0) (plO_ok W R) (plO_sy W R) (by omega) ih) 36
theorem rch_inc {op : Nat → Nat → Nat → Bool} {W R s a : Nat} : ∀ j e, rch op W R s a j e = true → rch op W R s a (j + 1) e = true := by
  intro j e h
  have h1 := acr_inf W (fun d => plO W R d 1) (fun d => plO W R d 2) _ e h
  have := itB_mono (g := acr W (fun d => op s d 1) (fun d => op s d 2)) (fun A e h => acr_inf _ _ _ A e h) (acr W (fun d => plO W R d 1) (fun d => plO W R d 2) (rch op W R s a j)) e 0 36 h1
  rw [Nat.zero_add] at this
  exact this
theorem rch_cl {op : Nat → Nat → Nat → Bool} {W R s : Nat} (hs1 : s < 100) (h36 : R * W ≤ 36) (ho : opOk op W (R * W)) (hs : opSy op W (R * W)) {a : Nat} (ha : a < R * W) : ∀ j, acr W (fun d => op s d 1) (fun d => op s d 2) (rch op W R s a j) = rch op W R s a j := by
  have key : ∀ A : Nat → Bool, (∀ e, A e = true → e < R * W) → acr W (fun d => op s d 1) (fun d => op s d 2) (itB (acr W (fun d => op s d 1) (fun d => op s d 2)) 36 A) = itB (acr W (fun d => op s d 1) (fun d => op s d 2)) 36 A := fun A hA => still_at (fun X e h => acr_inf _ _ _ X e h) (fun X hX => acr_sup ho hs hs1 hX) hA (Nat.zero_le _) (by omega)
  intro j
  match j with
  | 0 => exact key _ (fun e h => by rw [decide_eq_true_eq] at h; omega)
  | j + 1 => exact key _ (acr_sup (s := 0) (plO_ok W R) (plO_sy W R) (by omega) (rch_sup hs1 ho hs ha j))
theorem rch_pt {op : Nat → Nat → Nat → Bool} {W R s : Nat} (hs1 : s < 100) (h36 : R * W ≤ 36) (ho : opOk op W (R * W)) (hs : opSy op W (R * W)) (ht : opT op W R) {a : Nat} (ha : a < R * W) : ∀ j e, rch op W R s a j e = true ↔ e < R * W ∧ ∃ n w, w ≤ j ∧ pt (lE op W R s 1 (brI (-1) (-1))) a n e w := by
  have e0 : ∀ d way, d < R * W → way < 4 → op s d way = true → lE op W R s 1 (brI (-1) (-1)) d (bes W d way) 0 := fun d way hd hw h => ⟨hd, br_no (by omega), way, hw, op_thr hs ht hw h, rfl, by unfold byw; rw [if_pos h]; rfl, by omega⟩
  have itp : ∀ (A : Nat → Bool) j, (∀ e, A e = true → e < R * W ∧ ∃ n w, w ≤ j ∧ pt (lE op W R s 1 (brI (-1) (-1))) a n e w) → ∀ k e, itB (acr W (fun d => op s d 1) (fun d => op s d 2)) k A e = true → e < R * W ∧ ∃ n w, w ≤ j ∧ pt (lE op W R s 1 (brI (-1) (-1))) a n e w := by
    intro A j hA k
    induction k with
    | zero => exact hA
    | succ k ih =>
      intro e h
      rcases (acr_iff hs _ e).mp h with h | ⟨d, way, hw, h1, h2, h3⟩
      · exact ih e h
      · obtain ⟨z1, n, w, z2, z3⟩ := ih d h1
        refine ⟨by rw [h3]; exact (ho s d way hs1 z1 hw h2).1, n + 1, w, z2, d, w, 0, z3, ?_, rfl⟩
        rw [h3]
        exact e0 d way z1 hw h2
  have fwd : ∀ j e, rch op W R s a j e = true → e < R * W ∧ ∃ n w, w ≤ j ∧ pt (lE op W R s 1 (brI (-1) (-1))) a n e w := by
    intro j
    induction j with
    | zero => exact itp _ 0 (fun e h => by rw [decide_eq_true_eq] at h; exact ⟨by omega, 0, 0, by omega, h, rfl⟩) 36
    | succ j ih =>
      refine itp _ (j + 1) (fun e h => ?_) 36
      rcases (acr_iff (op := fun _ => plO W R) (s := 0) (plO_sy W R) _ e).mp h with h | ⟨d, way, hw, h1, h2, h3⟩
      · obtain ⟨z1, n, w, z2, z3⟩ := ih e h
        exact ⟨z1, n, w, by omega, z3⟩
      · obtain ⟨z1, n, w, z2, z3⟩ := ih d h1
        have hth := op_thr (s := 0) (plO_sy W R) (plO_t W R) hw h2
        have hb : byw op s 1 d way ≤ 1 := by unfold byw; split <;> simp
        exact ⟨by rw [h3]; exact (thr_lt z1 hw hth).1, n + 1, w + byw op s 1 d way, by omega, d, w, byw op s 1 d way, z3, ⟨z1, br_no (by omega), way, hw, hth, h3, rfl, by omega⟩, rfl⟩
  have bwd : ∀ n e w, pt (lE op W R s 1 (brI (-1) (-1))) a n e w → ∀ j, w ≤ j → rch op W R s a j e = true := by
    intro n
    induction n with
    | zero =>
      intro e w h j hj
      obtain ⟨rfl, rfl⟩ := h
      have h0 : rch op W R s e 0 e = true := by
        have := itB_mono (g := acr W (fun d => op s d 1) (fun d => op s d 2)) (fun A x h => acr_inf _ _ _ A x h) (fun x => decide (x = e)) e 0 36 (by show decide (e = e) = true; simp)
        rw [Nat.zero_add] at this
        exact this
      clear hj
      induction j with
      | zero => exact h0
      | succ j ih => exact rch_inc j e ih
    | succ n ih =>
      intro e w h j hj
      obtain ⟨d, v, b, h1, ⟨h2, h3, way, h4, h5, h6, h7, h8⟩, h9⟩ := h
      by_cases q : op s d way = true
      · have hd := ih d v h1 j (by omega)
        rw [← rch_cl hs1 h36 ho hs ha j]
        exact (acr_iff hs _ e).mpr (Or.inr ⟨d, way, h4, hd, q, h6⟩)
      · have hb : b = 1 := by rw [h7]; unfold byw; rw [if_neg q]
        match j, hj with
        | 0, hj => omega
        | j + 1, hj =>
          have hd := ih d v h1 j (by omega)
          have hx := (acr_iff (op := fun _ => plO W R) (s := 0) (plO_sy W R) (rch op W R s a j) e).mpr (Or.inr ⟨d, way, h4, hd, thr_pl h2 h4 h5, h6⟩)
          have := itB_mono (g := acr W (fun d => op s d 1) (fun d => op s d 2)) (fun A e h => acr_inf _ _ _ A e h) (acr W (fun d => plO W R d 1) (fun d => plO W R d 2) (rch op W R s a j)) e 0 36 hx
          rw [Nat.zero_add] at this
          exact this
  exact fun j e => ⟨fwd j e, fun ⟨_, n, w, h1, h2⟩ => bwd n e w h2 j h1⟩
/-- the class's cut is the reference's -/
theorem cut_same {op : Nat → Nat → Nat → Bool} {W R s : Nat} (hs1 : s < 100) (h36 : R * W ≤ 36) (ho : opOk op W (R * W)) (hs : opSy op W (R * W)) (ht : opT op W R) {a t : Nat} (ha : a < R * W) (hta : t < R * W) : oI (fnd (fun j => rch op W R s a j t) 4 0) = ctV (lfC (lE op W R s 1 (brI (-1) (-1))) a (R * W) t) := by
  have hp := rch_pt (s := s) hs1 h36 ho hs ht ha
  obtain ⟨f1, f2, f3⟩ := lfC_ok (lE op W R s 1 (brI (-1) (-1))) a (R * W) t hta
  generalize lfC (lE op W R s 1 (brI (-1) (-1))) a (R * W) t = F at f1 f2 f3
  have hno : ∀ j, j < F → rch op W R s a j t = false := by
    intro j hj
    cases q : rch op W R s a j t with
    | false => rfl
    | true =>
      obtain ⟨-, n, w, h1, h2⟩ := (hp j t).mp q
      have := f3 n w h2
      omega
  unfold ctV
  by_cases hF : F < 4
  · rw [if_pos hF]
    obtain ⟨n, hn⟩ := f2 (by omega)
    rw [fnd_some (m := F) ((hp F t).mpr ⟨hta, n, F, by omega, hn⟩) hno 4 0 (by omega) (by omega)]
    rfl
  · rw [if_neg hF, fnd_none 4 0 (fun j _ h => hno j (by omega))]
    rfl
