/-! paths, and sets that spread -/
theorem lfR_ex (E : Nat → Nat → Nat → Prop) (a D : Nat) : ∃ F, lfR E a D F := by
  have h : ∀ d : Nat, ∃ v : Nat, v ≤ 100000 ∧ (v < 100000 → ∃ n, pt E a n d v) ∧ ∀ n w, pt E a n d w → v ≤ w := by
    intro d
    obtain ⟨q, h1, h2, h3⟩ := leastP (P := fun w => w = 100000 ∨ ∃ n, pt E a n d w) 100000 (Or.inl rfl)
    refine ⟨q, h1, fun hq => h2.elim (fun z => by omega) (fun z => z), fun n w hp => ?_⟩
    rcases Nat.lt_or_ge w q with z | z
    · exact absurd (Or.inr ⟨n, hp⟩) (h3 w z)
    · exact z
  obtain ⟨F, hF⟩ := Classical.axiomOfChoice h
  exact ⟨F, fun d _ => hF d⟩
theorem lfC_ok (E : Nat → Nat → Nat → Prop) (a D : Nat) : lfR E a D (lfC E a D) := by
  obtain ⟨F, hF⟩ := lfR_ex E a D
  exact lfC_R hF
/-- what is open lies where there are places -/
def opT (op : Nat → Nat → Nat → Bool) (W R : Nat) : Prop := ∀ s d, (op s d 1 = true → d % W < W - 1) ∧ (op s d 2 = true → d / W < R - 1)
theorem mod_pred {W d : Nat} (h1 : 1 ≤ d) (h : (d - 1) % W < W - 1) : 0 < d % W := by
  have e : d % W = (d - 1) % W + 1 := by
    have h0 : d = (d - 1) + 1 := by omega
    have hW : 2 ≤ W := by omega
    rw [h0, Nat.add_mod, Nat.add_sub_cancel, Nat.mod_eq_of_lt (show 1 < W by omega)]
    exact Nat.mod_eq_of_lt (by omega)
  omega
theorem op_thr {op : Nat → Nat → Nat → Bool} {W R D s d way : Nat} (hs : opSy op W D) (ht : opT op W R) (hw : way < 4) (h : op s d way = true) : thr W R d way = true := by
  match way, hw with
  | 0, _ =>
    rw [(hs s d).1] at h
    simp only [Bool.and_eq_true, decide_eq_true_eq] at h
    simpa [thr] using h.1
  | 1, _ => simpa [thr] using (ht s d).1 h
  | 2, _ => simpa [thr] using (ht s d).2 h
  | 3, _ =>
    rw [(hs s d).2.1] at h
    simp only [Bool.and_eq_true, decide_eq_true_eq] at h
    have := mod_pred h.1 ((ht s (d - 1)).1 h.2)
    simpa [thr] using this
/-- where all that is closed is shut: each edge weighs 1 -/
theorem pt_n {op : Nat → Nat → Nat → Bool} {W R s : Nat} {br : Nat → Prop} {a : Nat} : ∀ n d w, pt (lE op W R s 100000 br) a n d w → w = n := by
  intro n
  induction n with
  | zero => intro d w h; exact h.2
  | succ n ih =>
    intro d w h
    obtain ⟨e, v, b, h1, ⟨h2, h3, way, h4, h5, h6, h7, h8⟩, h9⟩ := h
    have := ih e v h1
    unfold byw at h7
    by_cases q : op s e way = true
    · rw [if_pos q, if_pos rfl] at h7; omega
    · rw [if_neg q] at h7; omega
/-- the sets are the days of paths, of which no day is barred -/
theorem itB_pt {op : Nat → Nat → Nat → Bool} {W R s : Nat} (hs1 : s < 100) (ho : opOk op W (R * W)) (hs : opSy op W (R * W)) (ht : opT op W R) {br : Nat → Prop} {B : Nat → Bool} (hB : ∀ d, d < R * W → (B d = true ↔ br d)) {a : Nat} (ha : a < R * W) : ∀ k e, itB (gB2 W (fun d => op s d 1) (fun d => op s d 2) B) k (fun e => decide (e = a) && !B e) e = true ↔ e < R * W ∧ B e = false ∧ ∃ n, n ≤ k ∧ (B a = false ∧ pt (lE op W R s 100000 br) a n e n) := by
  intro k
  induction k with
  | zero =>
    intro e
    show (decide (e = a) && !B e) = true ↔ _
    rw [Bool.and_eq_true, decide_eq_true_eq]
    constructor
    · rintro ⟨h1, h2⟩
      subst h1
      have h2 : B e = false := by simpa using h2
      exact ⟨ha, h2, 0, by omega, h2, rfl, rfl⟩
    · rintro ⟨h1, h2, n, h3, h4, h5⟩
      have : n = 0 := by omega
      subst this
      exact ⟨h5.1, by rw [h2]; rfl⟩
  | succ k ih =>
    intro e
    show (acr W (fun d => op s d 1) (fun d => op s d 2) (itB (gB2 W (fun d => op s d 1) (fun d => op s d 2) B) k (fun e => decide (e = a) && !B e)) e && !B e) = true ↔ _
    rw [Bool.and_eq_true, acr_iff hs]
    constructor
    · rintro ⟨h1, h2⟩
      have h2 : B e = false := by simpa using h2
      rcases h1 with h1 | ⟨d, way, hw, h3, h4, h5⟩
      · obtain ⟨z1, z2, n, z3, z4⟩ := (ih e).mp h1
        exact ⟨z1, z2, n, by omega, z4⟩
      · obtain ⟨z1, z2, n, z3, z4, z5⟩ := (ih d).mp h3
        refine ⟨by rw [h5]; exact (ho s d way hs1 z1 hw h4).1, h2, n + 1, by omega, z4, d, n, 1, z5, ⟨z1, ?_, way, hw, op_thr hs ht hw h4, h5, ?_, by omega⟩, rfl⟩
        · intro hb
          have := (hB d z1).mpr hb
          rw [z2] at this; cases this
        · unfold byw; rw [if_pos h4, if_pos rfl]
    · rintro ⟨h1, h2, n, h3, h4, h5⟩
      refine ⟨?_, by rw [h2]; rfl⟩
      match n, h5 with
      | 0, h5 => exact Or.inl ((ih e).mpr ⟨h1, h2, 0, by omega, h4, h5⟩)
      | n + 1, h5 =>
        obtain ⟨d, v, b, g1, ⟨g2, g3, way, g4, g5, g6, g7, g8⟩, g9⟩ := h5
        have hv := pt_n n d v g1
        subst hv
        have hop : op s d way = true := by
          unfold byw at g7
          by_cases q : op s d way = true
          · exact q
          · rw [if_neg q] at g7; omega
        have hbd : B d = false := by
          cases q : B d with
          | false => rfl
          | true => exact absurd ((hB d g2).mp q) g3
        exact Or.inr ⟨d, way, g4, (ih d).mpr ⟨g2, hbd, v, by omega, h4, g1⟩, hop, g6⟩
/-- behind as many steps as there are days nothing comes to it any more -/
theorem gB_still {op : Nat → Nat → Nat → Bool} {W R s : Nat} (hs1 : s < 100) (ho : opOk op W (R * W)) (hs : opSy op W (R * W)) {B A : Nat → Bool} (hA : ∀ e, A e = true → e < R * W) (hAB : ∀ e, A e = true → B e = false) {c k : Nat} (hc : c ≤ cnb A (R * W)) (hk : R * W ≤ k + c) : gB2 W (fun d => op s d 1) (fun d => op s d 2) B (itB (gB2 W (fun d => op s d 1) (fun d => op s d 2) B) k A) = itB (gB2 W (fun d => op s d 1) (fun d => op s d 2) B) k A := by
  have hdis : ∀ k e, itB (gB2 W (fun d => op s d 1) (fun d => op s d 2) B) k A e = true → B e = false := by
    intro k
    match k with
    | 0 => exact hAB
    | k + 1 =>
      intro e h
      have h : (acr W (fun d => op s d 1) (fun d => op s d 2) (itB (gB2 W (fun d => op s d 1) (fun d => op s d 2) B) k A) e && !B e) = true := h
      rw [Bool.and_eq_true] at h
      simpa using h.2
  have hone : ∀ X : Nat → Bool, (∀ e, X e = true → B e = false) → (fun e => X e || gB2 W (fun d => op s d 1) (fun d => op s d 2) B X e) = gB2 W (fun d => op s d 1) (fun d => op s d 2) B X := by
    intro X hX
    funext e
    cases q : X e with
    | false => rfl
    | true =>
      unfold gB2
      rw [acr_inf _ _ _ _ _ q, hX e q]
      rfl
  have heq : ∀ k, itB (fun X e => X e || gB2 W (fun d => op s d 1) (fun d => op s d 2) B X e) k A = itB (gB2 W (fun d => op s d 1) (fun d => op s d 2) B) k A := by
    intro k
    induction k with
    | zero => rfl
    | succ k ih =>
      show (fun e => _ || _) = gB2 _ _ _ _ _
      rw [ih]
      exact hone _ (hdis k)
  have := still_at (g := fun X e => X e || gB2 W (fun d => op s d 1) (fun d => op s d 2) B X e) (D := R * W) (fun X e h => by rw [h]; rfl) (fun X hX e h => by
    rw [Bool.or_eq_true] at h
    rcases h with h | h
    · exact hX e h
    · unfold gB2 at h
      rw [Bool.and_eq_true] at h
      exact acr_sup ho hs hs1 hX e h.1) hA hc hk
  rw [heq] at this
  rw [← hone _ (hdis k)]
  exact this
theorem gB2_0 (W : Nat) (r dn : Nat → Bool) : gB2 W r dn (fun _ => false) = acr W r dn := by
  funext A e
  unfold gB2
  simp
theorem fnd_some {P : Nat → Bool} {m : Nat} (h1 : P m = true) (h2 : ∀ j, j < m → P j = false) : ∀ f k, k ≤ m → m < k + f → fnd P f k = some m := by
  intro f
  induction f with
  | zero => intro k h h'; omega
  | succ f ih =>
    intro k h h'
    rw [fnd]
    by_cases e : k = m
    · subst e; rw [if_pos h1]
    · rw [if_neg (by rw [h2 k (by omega)]; decide)]
      exact ih (k + 1) (by omega) (by omega)
theorem fnd_none {P : Nat → Bool} : ∀ f k, (∀ j, k ≤ j → j < k + f → P j = false) → fnd P f k = none := by
  intro f
  induction f with
  | zero => intro k _; rfl
  | succ f ih =>
    intro k h
    rw [fnd, if_neg (by rw [h k (by omega) (by omega)]; decide)]
    exact ih (k + 1) (fun j h1 h2 => h j (by omega) (by omega))
theorem br_no {d : Nat} (hd : d < 2147483648) : ¬ brI (-1) (-1) d := by
  intro h
  rcases h with h | h <;> (rw [nu_m1 hd] at h; exact h)
/-- the class's way is the reference's -/
theorem way_same {op : Nat → Nat → Nat → Bool} {W R s : Nat} (hs1 : s < 100) (h36 : R * W ≤ 36) (ho : opOk op W (R * W)) (hs : opSy op W (R * W)) (ht : opT op W R) {a t : Nat} (ha : a < R * W) (hta : t < R * W) : oI (fnd (fun k => itB (acr W (fun d => op s d 1) (fun d => op s d 2)) k (fun e => decide (e = a)) t) 36 0) = wyV (lfC (lE op W R s 100000 (brI (-1) (-1))) a (R * W) t) := by
  have hp := itB_pt (s := s) hs1 ho hs ht (br := brI (-1) (-1)) (B := fun _ => false) (fun d hd => ⟨fun h => (by cases h), fun h => absurd h (br_no (by omega))⟩) ha
  rw [gB2_0] at hp
  have e0 : (fun e => decide (e = a) && !(fun _ : Nat => false) e) = (fun e => decide (e = a)) := by funext e; simp
  rw [e0] at hp
  obtain ⟨f1, f2, f3⟩ := lfC_ok (lE op W R s 100000 (brI (-1) (-1))) a (R * W) t hta
  generalize lfC (lE op W R s 100000 (brI (-1) (-1))) a (R * W) t = F at f1 f2 f3
  unfold wyV
  by_cases hF : F < 100000
  · rw [if_pos hF]
    obtain ⟨n, hn⟩ := f2 hF
    have e := pt_n n t F hn
    subst e
    have hin : itB (acr W (fun d => op s d 1) (fun d => op s d 2)) F (fun e => decide (e = a)) t = true := (hp F t).mpr ⟨hta, rfl, F, by omega, rfl, hn⟩
    have hmin : ∀ j, j < F → itB (acr W (fun d => op s d 1) (fun d => op s d 2)) j (fun e => decide (e = a)) t = false := by
      intro j hj
      cases q : itB (acr W (fun d => op s d 1) (fun d => op s d 2)) j (fun e => decide (e = a)) t with
      | false => rfl
      | true =>
        obtain ⟨-, -, m, m1, -, m2⟩ := (hp j t).mp q
        have := f3 m m m2
        omega
    have h35 : F < 36 := by
      rcases Nat.lt_or_ge F 36 with z | z
      · exact z
      · have hst := gB_still (s := s) hs1 ho hs (B := fun _ => false) (A := fun e => decide (e = a)) (fun e h => by rw [decide_eq_true_eq] at h; omega) (fun _ _ => rfl) (c := 1) (k := 35) (cnb_one (by simp) _ ha) (by omega)
        rw [gB2_0] at hst
        have : itB (acr W (fun d => op s d 1) (fun d => op s d 2)) F (fun e => decide (e = a)) = itB (acr W (fun d => op s d 1) (fun d => op s d 2)) 35 (fun e => decide (e = a)) := by
          rw [show F = 35 + (F - 35) by omega, itB_add, itB_fix hst]
        rw [this] at hin
        rw [hmin 35 (by omega)] at hin
        cases hin
    rw [fnd_some (m := F) hin hmin 36 0 (by omega) (by omega)]
    rfl
  · rw [if_neg hF, fnd_none 36 0 (fun j _ _ => by
      cases q : itB (acr W (fun d => op s d 1) (fun d => op s d 2)) j (fun e => decide (e = a)) t with
      | false => rfl
      | true =>
        obtain ⟨-, -, m, m1, -, m2⟩ := (hp j t).mp q
        have := f3 m m m2
        omega)]
    rfl
/-- reaching is having a path -/
theorem reach_same {op : Nat → Nat → Nat → Bool} {W R s : Nat} (hs1 : s < 100) (h36 : R * W ≤ 36) (ho : opOk op W (R * W)) (hs : opSy op W (R * W)) (ht : opT op W R) {br : Nat → Prop} {B : Nat → Bool} (hB : ∀ d, d < R * W → (B d = true ↔ br d)) {a t : Nat} (ha : a < R * W) (hta : t < R * W) (hBa : B a = false) (hBt : B t = false) : (itB (gB2 W (fun d => op s d 1) (fun d => op s d 2) B) 36 (fun e => decide (e = a) && !B e) t = true) = (lfC (lE op W R s 100000 br) a (R * W) t < 100000) := by
  have hp := itB_pt (s := s) hs1 ho hs ht hB ha
  obtain ⟨f1, f2, f3⟩ := lfC_ok (lE op W R s 100000 br) a (R * W) t hta
  apply propext
  constructor
  · intro h
    obtain ⟨-, -, m, m1, -, m2⟩ := (hp 36 t).mp h
    have := f3 m m m2
    omega
  · intro h
    obtain ⟨n, hn⟩ := f2 h
    have e := pt_n n t _ hn
    rw [e] at hn
    have hin := (hp n t).mpr ⟨hta, hBt, n, by omega, hBa, hn⟩
    have hst := gB_still (s := s) hs1 ho hs (B := B) (A := fun e => decide (e = a) && !B e) (fun e h => by rw [Bool.and_eq_true, decide_eq_true_eq] at h; omega) (fun e h => by rw [Bool.and_eq_true] at h; simpa using h.2) (c := 0) (k := 36) (Nat.zero_le _) (by omega)
    rcases Nat.lt_or_ge n 36 with z | z
    · exact (hp 36 t).mpr ⟨hta, hBt, n, by omega, hBa, hn⟩
    · rw [show n = 36 + (n - 36) by omega, itB_add, itB_fix hst] at hin
      exact hin
