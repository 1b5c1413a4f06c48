/-! walks, as numbers -/
def obw (n e s w : Bool) (way : Nat) : Bool := match way with
  | 0 => n
  | 1 => e
  | 2 => s
  | _ => w
theorem ob_way (n e s w : Bool) {way : Nat} (h : way < 4) : (mzshr (ob n e s w) (nI way) &&& 1 = 1) = (obw n e s w way = true) := by
  apply propext
  match way, h with
  | 0, _ => cases n <;> cases e <;> cases s <;> cases w <;> decide
  | 1, _ => cases n <;> cases e <;> cases s <;> cases w <;> decide
  | 2, _ => cases n <;> cases e <;> cases s <;> cases w <;> decide
  | 3, _ => cases n <;> cases e <;> cases s <;> cases w <;> decide
/-- the day beside -/
def bes (W d way : Nat) : Nat := match way with
  | 0 => d - W
  | 1 => d + 1
  | 2 => d + W
  | _ => d - 1
/-- what hand tries: 0 straight, 1 right, 2 back, 3 left -/
def tn (hand k : Nat) : Nat := match hand, k with
  | 0, 0 => 3
  | 0, 1 => 0
  | 0, 2 => 1
  | 1, 0 => 1
  | 1, 1 => 0
  | 1, 2 => 3
  | 2, 0 => 0
  | 2, 1 => 3
  | 2, 2 => 1
  | _, _ => 2
theorem tn_4 (hand k : Nat) : tn hand k < 4 := by
  unfold tn
  split <;> omega
/-- what is open: by step, day, way; all of it leads to days -/
def opOk (op : Nat → Nat → Nat → Bool) (W D : Nat) : Prop := ∀ s d way, s < 100 → d < D → way < 4 → op s d way = true → bes W d way < D ∧ (way = 0 → W ≤ d) ∧ (way = 3 → 1 ≤ d)
def nxf (op : Nat → Nat → Nat → Bool) (W hand s st : Nat) : Nat → Nat → Nat
  | 0, _ => st
  | f + 1, k => if op s (st / 4) ((st % 4 + tn hand k) % 4) = true then 4 * bes W (st / 4) ((st % 4 + tn hand k) % 4) + (st % 4 + tn hand k) % 4 else nxf op W hand s st f (k + 1)
def nx (op : Nat → Nat → Nat → Bool) (W hand s st : Nat) : Nat := nxf op W hand s st 4 0
theorem nxf_lt {op : Nat → Nat → Nat → Bool} {W D hand s st : Nat} (ho : opOk op W D) (hs : s < 100) (h : st < 4 * D) : ∀ f k, nxf op W hand s st f k < 4 * D := by
  intro f
  induction f with
  | zero => exact fun _ => h
  | succ f ih =>
    intro k
    unfold nxf
    split
    · rename_i q
      have := (ho s (st / 4) ((st % 4 + tn hand k) % 4) hs (by omega) (by omega) q).1
      omega
    · exact ih (k + 1)
theorem nx_lt {op : Nat → Nat → Nat → Bool} {W D hand s st : Nat} (ho : opOk op W D) (hs : s < 100) (h : st < 4 * D) : nx op W hand s st < 4 * D := nxf_lt ho hs h 4 0
/-- n steps from step s on -/
def wlk (op : Nat → Nat → Nat → Bool) (W hand : Nat) : Nat → Nat → Nat → Nat
  | _, 0, st => st
  | s, n + 1, st => wlk op W hand (s + 1) n (nx op W hand s st)
theorem wlk_lt {op : Nat → Nat → Nat → Bool} {W D hand : Nat} (ho : opOk op W D) : ∀ (n s st : Nat), s + n ≤ 100 → st < 4 * D → wlk op W hand s n st < 4 * D := by
  intro n
  induction n with
  | zero => exact fun _ _ _ h => h
  | succ n ih => exact fun s st h1 h2 => ih (s + 1) _ (by omega) (nx_lt ho (by omega) h2)
theorem wlk_s (op : Nat → Nat → Nat → Bool) (W hand : Nat) : ∀ (n s st : Nat), wlk op W hand s (n + 1) st = nx op W hand (s + n) (wlk op W hand s n st) := by
  intro n
  induction n with
  | zero => exact fun _ _ => rfl
  | succ n ih =>
    intro s st
    show wlk op W hand (s + 1) (n + 1) (nx op W hand s st) = _
    rw [ih]
    show nx op W hand (s + 1 + n) (wlk op W hand s (n + 1) st) = _
    rw [show s + 1 + n = s + (n + 1) by omega]
/-- the reference's cells tell op -/
def rdP (op : Nat → Nat → Nat → Bool) (W D : Nat) (I : Nat → Nat → Int32) : Prop := (0 < D → I 0 2 = nI W) ∧ D ≤ 36 ∧ W ≤ 6 ∧ opOk op W D ∧ ∀ s d way, s < 100 → d < D → way < 4 → (mzshr (I 11 (36 * s + d)) (nI way) &&& nI 1 = nI 1) = (op s d way = true)
theorem trI_nI {hand h k : Nat} (hh : hand < 3) (hk : k < 4) (h4 : h < 4) : trI (nI hand) (nI h) (nI k) = nI ((h + tn hand k) % 4) := by
  unfold trI
  have e : (if nI k = 3 then 2 else if nI hand = 0 then mzrem (nI k + 3) 4 else if nI hand = 1 then mzrem (5 - nI k) 4 else if nI k = 0 then 0 else if nI k = 1 then 3 else (1 : Int32)) = nI (tn hand k) := by
    match hand, hh, k, hk with
    | 0, _, 0, _ => decide
    | 0, _, 1, _ => decide
    | 0, _, 2, _ => decide
    | 0, _, 3, _ => decide
    | 1, _, 0, _ => decide
    | 1, _, 1, _ => decide
    | 1, _, 2, _ => decide
    | 1, _, 3, _ => decide
    | 2, _, 0, _ => decide
    | 2, _, 1, _ => decide
    | 2, _, 2, _ => decide
    | 2, _, 3, _ => decide
  rw [e, nu_add]
  have := tn_4 hand k
  exact nu_rem (a := h + tn hand k) (d := 4) (by omega) (by omega) (by omega)
theorem bsI_nI {W d way : Nat} (hw : way < 4) (h0 : way = 0 → W ≤ d) (h3 : way = 3 → 1 ≤ d) : bsI (nI W) (nI d) (nI way) = nI (bes W d way) := by
  match way, hw with
  | 0, _ => exact nu_sub (h0 rfl)
  | 1, _ => exact nu_add d 1
  | 2, _ => exact nu_add d W
  | 3, _ => exact nu_sub (h3 rfl)
