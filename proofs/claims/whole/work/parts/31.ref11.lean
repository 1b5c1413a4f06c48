/-! what is open, out of the base alone -/
def opK (I : Nat → Nat → Int32) (kd : Nat → Int32) (s d x : Nat) : Bool := if oaH I (nI s) (nI d) (nI x) 16 = -1 ∧ oaG I (nI s) (nI d) (nI x) 16 = -1 then decide (mzshr (kd d) (nI x) &&& 1 = 1) else decide (oaH I (nI s) (nI d) (nI x) 16 ≤ oaG I (nI s) (nI d) (nI x) 16)
def opKR (I : Nat → Nat → Int32) (kd : Nat → Int32) (W s d : Nat) : Bool := decide (d % W < W - 1) && opK I kd s d 0
def opKD (I : Nat → Nat → Int32) (kd : Nat → Int32) (W rows s d : Nat) : Bool := decide (d / W < rows - 1) && opK I kd s d 1
def opN (I : Nat → Nat → Int32) (kd : Nat → Int32) (W rows s d way : Nat) : Bool := obw (decide (W ≤ d) && (decide (d - W < rows * W) && opKD I kd W rows s (d - W))) (decide (d < rows * W) && opKR I kd W s d) (decide (d < rows * W) && opKD I kd W rows s d) (decide (1 ≤ d) && (decide (d - 1 < rows * W) && opKR I kd W s (d - 1))) way
/-- the maze of the base -/
def opX (I : Nat → Nat → Int32) (n0 : Nat) : Nat → Nat → Nat → Bool := opN I (mzq (I 2) n0).2.2.2 (mzq (I 2) n0).1 (mzq (I 2) n0).2.1
theorem opN_ok (I : Nat → Nat → Int32) (kd : Nat → Int32) (W rows : Nat) (hW : 0 < rows * W → 0 < W) : opOk (opN I kd W rows) W (rows * W) := by
  intro s d way hs hd hw h
  have hW := hW (by omega)
  match way, hw with
  | 0, _ =>
    have h : (decide (W ≤ d) && (decide (d - W < rows * W) && opKD I kd W rows s (d - W))) = true := h
    simp only [Bool.and_eq_true, decide_eq_true_eq] at h
    exact ⟨h.2.1, fun _ => h.1, fun q => by omega⟩
  | 1, _ =>
    have h : (decide (d < rows * W) && opKR I kd W s d) = true := h
    unfold opKR at h
    simp only [Bool.and_eq_true, decide_eq_true_eq] at h
    exact ⟨pl0_lt hd h.2.1, fun q => by omega, fun q => by omega⟩
  | 2, _ =>
    have h : (decide (d < rows * W) && opKD I kd W rows s d) = true := h
    unfold opKD at h
    simp only [Bool.and_eq_true, decide_eq_true_eq] at h
    exact ⟨pl1_lt hW h.2.1, fun q => by omega, fun q => by omega⟩
  | 3, _ =>
    have h : (decide (1 ≤ d) && (decide (d - 1 < rows * W) && opKR I kd W s (d - 1))) = true := h
    simp only [Bool.and_eq_true, decide_eq_true_eq] at h
    exact ⟨h.2.1, fun q => by omega, fun _ => h.1⟩
theorem opR_opK {I I1 : Nat → Nat → Int32} {kd : Nat → Int32} (he : eqx fD I I1) (s d x : Nat) (h3 : I1 3 d = kd d) : opR I1 s d x = opK I kd s d x := by
  have k7 : I1 7 = I 7 := funext fun j => he 7 j (by unfold fD fM fW; omega)
  have k8 : I1 8 = I 8 := funext fun j => he 8 j (by unfold fD fM fW; omega)
  have k9 : I1 9 = I 9 := funext fun j => he 9 j (by unfold fD fM fW; omega)
  have k10 : I1 10 = I 10 := funext fun j => he 10 j (by unfold fD fM fW; omega)
  unfold opR opK
  rw [oaH_k k7 k8 k9 k10, oaG_k k7 k8 k9 k10, h3]
theorem owR_opN {I I1 : Nat → Nat → Int32} {kd : Nat → Int32} {W rows : Nat} (he : eqx fD I I1) (h3 : ∀ d, d < rows * W → I1 3 d = kd d) (s d way : Nat) (hd : d < rows * W) (hw : way < 4) : (mzshr (owR I1 W rows s d) (nI way) &&& nI 1 = nI 1) = (opN I kd W rows s d way = true) := by
  unfold owR obg opN
  have a1 : (decide (W ≤ d) && (decide (d - W < rows * W) && opDD I1 W rows s (d - W))) = (decide (W ≤ d) && (decide (d - W < rows * W) && opKD I kd W rows s (d - W))) := by
    unfold opDD opKD
    rw [opR_opK he s (d - W) 1 (h3 _ (by omega))]
  have a2 : opRR I1 W s d = opKR I kd W s d := by
    unfold opRR opKR
    rw [opR_opK he s d 0 (h3 _ hd)]
  have a3 : opDD I1 W rows s d = opKD I kd W rows s d := by
    unfold opDD opKD
    rw [opR_opK he s d 1 (h3 _ hd)]
  have a4 : opRR I1 W s (d - 1) = opKR I kd W s (d - 1) := by
    unfold opRR opKR
    rw [opR_opK he s (d - 1) 0 (h3 _ (by omega))]
  rw [a1, a2, a3, a4]
  exact ob_way _ _ _ _ hw
theorem r_laysP (I : Nat → Nat → Int32) (L : Nat → Nat → Int64) (K : Value → mzM → Prop) {n0 n1 : Nat} (hb : rbT I n0 n1) (hK : ∀ I', eqx fD I I' → rdM (I 2) n0 I' → rdW (fun p => I 2 (41 + p)) n1 I' → rdP (opX I n0) (mzq (I 2) n0).1 (mzq (I 2) n0).2.2.1 I' → K .null (mR I' L)) : mzdo M_X8_lays [.ref 0] (mR I L) K := by
  refine r_lays I L K hb (fun I1 I' e m1 e1 m w o => hK I' e m w ?_)
  obtain ⟨q1, q2, q3, -⟩ := mzq_ok (I 2) n0
  refine ⟨m.2.2.1, mzq_36 _ _, q2, ?_, fun s d way hs hd hw => ?_⟩
  · rw [q1]
    exact opN_ok _ _ _ _ (fun h => by
      rcases Nat.eq_zero_or_pos (mzq (I 2) n0).1 with e | e
      · rw [e, Nat.mul_zero] at h; omega
      · exact e)
  · rw [o s hs d hd]
    rw [q1] at hd
    exact owR_opN e1 (fun d hd => m1.2.2.2 d (by rw [q1]; exact hd)) s d way hd hw
theorem wkDay_nI {T : Nat → Int32} {w : Nat} (h0 : wkS 0 (T (5 * w))) (h1 : wkS 1 (T (5 * w + 1))) : ∃ d, d < 40 ∧ wkDay T w = nI d := by
  obtain ⟨a1, a2⟩ := h0
  obtain ⟨b1, b2⟩ := h1
  have fx : ∀ (z : Int32) (m : Nat), m < 100 → 0 ≤ z → z ≤ nI m → ∃ k, k ≤ m ∧ z = nI k := by
    intro z m hm h0 h1
    obtain ⟨j, hj, e⟩ := nI_of (x := z) (Int32.not_lt.mpr h0)
    rw [e] at h1
    refine ⟨j, ?_, e⟩
    exact (nI_leI hj (by omega)).mp h1
  obtain ⟨t, ht, e1⟩ := fx _ 3 (by omega) a1 a2
  obtain ⟨u, hu, e2⟩ := fx _ 9 (by omega) b1 b2
  refine ⟨10 * t + u, by omega, ?_⟩
  unfold wkDay
  rw [e1, e2, show (10 : Int32) = nI 10 from rfl, nu_mul, nu_add]
theorem hdOf_nI {b : Int32} (h : ¬ hdOf b = -1) : ∃ k, k < 4 ∧ hdOf b = nI k := by
  unfold hdOf at h ⊢
  by_cases q1 : b = 110
  · exact ⟨0, by omega, by rw [if_pos q1]; rfl⟩
  · rw [if_neg q1] at h ⊢
    by_cases q2 : b = 101
    · exact ⟨1, by omega, by rw [if_pos q2]; rfl⟩
    · rw [if_neg q2] at h ⊢
      by_cases q3 : b = 115
      · exact ⟨2, by omega, by rw [if_pos q3]; rfl⟩
      · rw [if_neg q3] at h ⊢
        by_cases q4 : b = 119
        · exact ⟨3, by omega, by rw [if_pos q4]; rfl⟩
        · rw [if_neg q4] at h; exact absurd rfl h
theorem haOf_nI {b : Int32} (h : ¬ haOf b = -1) : ∃ k, k < 3 ∧ haOf b = nI k := by
  unfold haOf at h ⊢
  by_cases q1 : b = 108
  · exact ⟨0, by omega, by rw [if_pos q1]; rfl⟩
  · rw [if_neg q1] at h ⊢
    by_cases q2 : b = 114
    · exact ⟨1, by omega, by rw [if_pos q2]; rfl⟩
    · rw [if_neg q2] at h ⊢
      by_cases q3 : b = 97
      · exact ⟨2, by omega, by rw [if_pos q3]; rfl⟩
      · rw [if_neg q3] at h; exact absurd rfl h
/-- a walker's day, way and hand -/
theorem nWk_ok {T : Nat → Int32} {n w : Nat} (hw : w < nWk T n) : (∃ d, d < 40 ∧ wkDay T w = nI d) ∧ (∃ k, k < 4 ∧ hdOf (T (5 * w + 2)) = nI k) ∧ (∃ k, k < 3 ∧ haOf (T (5 * w + 3)) = nI k) := by
  unfold nWk at hw
  by_cases c : wkf T n = n ∧ n % 5 = 4
  · rw [if_pos c] at hw
    have hF := (wkf_F T n).2.1
    rw [c.1] at hF
    have g : ∀ q, q < 4 → wkS q (T (5 * w + q)) := fun q hq => by
      have := hF (5 * w + q) (by omega)
      rw [show (5 * w + q) % 5 = q by omega] at this
      exact this
    exact ⟨wkDay_nI (g 0 (by omega)) (g 1 (by omega)), hdOf_nI (g 2 (by omega)), haOf_nI (g 3 (by omega))⟩
  · rw [if_neg c] at hw; omega
theorem nWk_8 {T : Nat → Int32} {n : Nat} (h : n ≤ 39) : nWk T n ≤ 8 := by
  unfold nWk
  split <;> omega
