/-! the start: what the constructors leave is related -/
theorem Rl_0 {IR I : Nat → Nat → Int32} {L : Nat → Nat → Int64} (hR : ∀ i j, IR i j = 0) (hL : ∀ i j, L i j = 0) (h11 : I 1 1 = 0) (h31 : I 3 1 = 0) (h52 : I 5 2 = 0) (h53 : I 5 3 = 0) (h54 : I 5 4 = -1) (h83 : I 8 3 = 0) (h84 : I 8 4 = -1)
    (h12 : ∀ i j, 12 ≤ i → i ≤ 19 → I i j = 0) (h201 : I 20 1 = 0) (h202 : I 20 2 = -1) (h21 : ∀ k, k < 100 → I 21 k = -1) (hS : ∀ k, k < 4 → I (23 + 2 * k) 1 = -1) (h08 : I 0 8 = 0) : Rl IR I L 0 0 0 (fun _ => 0) := by
  have jz : ∀ i j d, jb (L i j) d = false := fun i j d => by rw [hL, jb_0]
  refine ⟨⟨hR 1 0, by omega, hR 1 1, by omega⟩, ⟨h11, h31, fun j hj => absurd hj (Nat.not_lt_zero j), fun j hj => absurd hj (Nat.not_lt_zero j)⟩, ?_, ⟨h83, by omega, fun w hw => absurd hw (Nat.not_lt_zero w)⟩, h54, h84, ⟨hR 0 17, by omega⟩, ?_, fun s hs => ⟨0, by omega, hR 21 s⟩, fun k hk => Or.inl ⟨hR 19 k, hS k hk⟩, by rw [h08, hR]⟩
  · show cmz IR I L (fun _ => 0) 0 0 (fun _ => 0)
    refine ⟨fun r hr => ⟨⟨Nat.zero_le 8, hR 7 r, fun j hj => absurd hj (Nat.not_lt_zero j)⟩, h12 _ _ (by omega) (by omega), fun j hj => ?_⟩, ⟨h52, h53, Nat.zero_le 6, Nat.zero_le 6, fun d hd => absurd hd (by simp), fun d => ?_, fun d => ?_⟩, ⟨h52, h53, Nat.zero_le 6, Nat.zero_le 6, opN_ok IR _ 0 0 (fun y => absurd y (by simp)), opN_sy IR _ 0 0, fun s d hs => ?_, fun d => ?_, fun d => ?_⟩⟩
    · rw [hR, hR, hR, h12 _ _ (by omega) (by omega), h12 _ _ (by omega) (by omega), h12 _ _ (by omega) (by omega)]
      exact ⟨rfl, rfl, rfl⟩
    · rw [jz]; simp
    · rw [jz]; simp
    · rw [jz, jz]
      have o1 : opN IR (fun _ => 0) 0 0 s d 1 = (decide (d < 0 * 0) && opKR IR (fun _ => 0) 0 s d) := rfl
      have o2 : opN IR (fun _ => 0) 0 0 s d 2 = (decide (d < 0 * 0) && opKD IR (fun _ => 0) 0 0 s d) := rfl
      rw [o1, o2, decide_eq_false (show ¬ d < 0 * 0 by simp), Bool.false_and, Bool.false_and]
      exact ⟨rfl, rfl⟩
    · rw [jz]; simp
    · rw [jz]; simp
  · refine ⟨h201, by omega, fun k st hk hst => ?_, 0, by omega, by rw [h202]; rfl, fun k _ hk => h21 k hk⟩
    show true = _
    rw [decide_eq_true (Or.inl (h21 k hk))]
