/-! sets of days: spreading -/
/-- all at most one step away -/
def acr (W : Nat) (r dn A : Nat → Bool) (e : Nat) : Bool := (A e || ((decide (1 ≤ e) && (A (e - 1) && r (e - 1))) || (A (e + 1) && r e))) || ((decide (W ≤ e) && (A (e - W) && dn (e - W))) || (A (e + W) && dn e))
theorem acr_jb (W : Nat) (hW : W < 64) (a r dn : Int64) {e : Nat} (he : e < 64) : jb (a ||| (mzlshl (a &&& r) 1 ||| mzlushr a 1 &&& r) ||| (mzlshl (a &&& dn) (nI W) ||| mzlushr a (nI W) &&& dn)) e = acr W (jb r) (jb dn) (jb a) e := by
  unfold acr
  rw [show (1 : Int32) = nI 1 from rfl]
  simp only [jb_or, jb_and, jb_shl _ (show 1 < 64 by omega), jb_shl _ hW, jb_ushr _ (show 1 < 64 by omega), jb_ushr _ hW, he, decide_true, Bool.true_and]
  rw [Nat.add_comm 1 e, Nat.add_comm W e]
theorem acr_eq {W : Nat} {r dn A B : Nat → Bool} (h : ∀ e, A e = B e) : ∀ e, acr W r dn A e = acr W r dn B e := by
  intro e
  unfold acr
  rw [h e, h (e - 1), h (e + 1), h (e - W), h (e + W)]
/-- n times -/
def itB (g : (Nat → Bool) → Nat → Bool) : Nat → (Nat → Bool) → Nat → Bool
  | 0, A => A
  | n + 1, A => g (itB g n A)
/-- a set that doesn't change any more within as many steps as there are days -/
theorem cnb_lt {A B : Nat → Bool} {D : Nat} (hs : ∀ e, A e = true → B e = true) : ∀ n, cnb A n ≤ cnb B n := by
  intro n
  induction n with
  | zero => exact Nat.le_refl 0
  | succ n ih =>
    rw [cnb, cnb]
    by_cases h : A n = true
    · rw [if_pos h, if_pos (hs n h)]; omega
    · rw [if_neg h]; split <;> omega
theorem cnb_lt2 {A B : Nat → Bool} (hs : ∀ e, A e = true → B e = true) {e : Nat} (h1 : A e = false) (h2 : B e = true) : ∀ n, e < n → cnb A n < cnb B n := by
  intro n
  induction n with
  | zero => intro h; omega
  | succ n ih =>
    intro h
    rw [cnb, cnb]
    by_cases q : e = n
    · subst q
      have := cnb_lt (D := 0) hs e
      rw [h1, h2]
      simp
      omega
    · have := ih (by omega)
      by_cases h3 : A n = true
      · rw [if_pos h3, if_pos (hs n h3)]; omega
      · rw [if_neg h3]; split <;> omega
theorem cnb_full {A : Nat → Bool} : ∀ n, n ≤ cnb A n → ∀ e, e < n → A e = true := by
  intro n
  induction n with
  | zero => intro _ e h; omega
  | succ n ih =>
    intro h e he
    rw [cnb] at h
    have := cnb_le A n
    by_cases q : A n = true
    · rw [if_pos q] at h
      by_cases z : e = n
      · rw [z]; exact q
      · exact ih (by omega) e (by omega)
    · rw [if_neg q] at h
      omega
theorem cnb_one {A : Nat → Bool} {a : Nat} (h : A a = true) : ∀ n, a < n → 1 ≤ cnb A n := by
  intro n
  induction n with
  | zero => intro h; omega
  | succ n ih =>
    intro hn
    rw [cnb]
    by_cases q : a = n
    · subst q; rw [if_pos h]; omega
    · have := ih (by omega); omega
/-- it holds still: from k on, where k steps and the first set are as many as there are days -/
theorem still {g : (Nat → Bool) → Nat → Bool} {D : Nat} (hi : ∀ A e, A e = true → g A e = true) (hs : ∀ A, (∀ e, A e = true → e < D) → ∀ e, g A e = true → e < D) {A : Nat → Bool} (hA : ∀ e, A e = true → e < D) {c : Nat} (hc : c ≤ cnb A D) : ∀ k, (g (itB g k A) = itB g k A ∨ k + c ≤ cnb (itB g k A) D) ∧ ∀ e, itB g k A e = true → e < D := by
  intro k
  induction k with
  | zero => exact ⟨Or.inr (by rw [Nat.zero_add]; exact hc), hA⟩
  | succ k ih =>
    obtain ⟨h1, h2⟩ := ih
    refine ⟨?_, hs _ h2⟩
    rcases h1 with h1 | h1
    · left
      show g (g (itB g k A)) = g (itB g k A)
      rw [h1, h1]
    · by_cases hx : ∃ e, itB g k A e = false ∧ g (itB g k A) e = true
      · right
        obtain ⟨e, q1, q2⟩ := hx
        have := cnb_lt2 (hi (itB g k A)) q1 q2 D (hs _ h2 e q2)
        show k + 1 + c ≤ cnb (g (itB g k A)) D
        omega
      · left
        have e1 : g (itB g k A) = itB g k A := by
          funext e
          cases q : itB g k A e with
          | true => exact hi _ e q
          | false =>
            cases z : g (itB g k A) e with
            | false => rfl
            | true => exact absurd ⟨e, q, z⟩ hx
        show g (g (itB g k A)) = g (itB g k A)
        rw [e1, e1]
theorem still_at {g : (Nat → Bool) → Nat → Bool} {D : Nat} (hi : ∀ A e, A e = true → g A e = true) (hs : ∀ A, (∀ e, A e = true → e < D) → ∀ e, g A e = true → e < D) {A : Nat → Bool} (hA : ∀ e, A e = true → e < D) {c k : Nat} (hc : c ≤ cnb A D) (hk : D ≤ k + c) : g (itB g k A) = itB g k A := by
  obtain ⟨h1, h2⟩ := still hi hs hA hc k
  rcases h1 with h1 | h1
  · exact h1
  · have hf := cnb_full D (by omega : D ≤ cnb (itB g k A) D)
    funext e
    cases q : itB g k A e with
    | true => exact hi _ e q
    | false =>
      cases z : g (itB g k A) e with
      | false => rfl
      | true =>
        have := hf e (hs _ h2 e z)
        rw [q] at this; cases this
theorem itB_add (g : (Nat → Bool) → Nat → Bool) (A : Nat → Bool) : ∀ m n, itB g (m + n) A = itB g n (itB g m A) := by
  intro m n
  induction n with
  | zero => rfl
  | succ n ih => show g (itB g (m + n) A) = g (itB g n (itB g m A)); rw [ih]
theorem itB_fix {g : (Nat → Bool) → Nat → Bool} {A : Nat → Bool} (h : g A = A) : ∀ n, itB g n A = A := by
  intro n
  induction n with
  | zero => rfl
  | succ n ih => show g (itB g n A) = A; rw [ih, h]
theorem itB_mono {g : (Nat → Bool) → Nat → Bool} (hi : ∀ A e, A e = true → g A e = true) (A : Nat → Bool) (e : Nat) : ∀ m n, itB g m A e = true → itB g (m + n) A e = true := by
  intro m n h
  induction n with
  | zero => exact h
  | succ n ih => exact hi _ e ih
