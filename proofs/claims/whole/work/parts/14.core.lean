/-! THE SMALL LANGUAGE, 12: arraycopy between int arrays; loops by a measure -/
def mzLkC (own idx : Nat) : Prop := Jvm.Cond.methodLink (mzcn own) idx arraycopyName ∈ mzT ∧ Jvm.Cond.native arraycopyName ∈ mzT ∧ Jvm.Cond.static arraycopyName ∈ mzT ∧ Jvm.Cond.initialized "java/lang/System" ∈ mzT
def mzcpy (M : mzM) (a b sp dp n : Nat) : mzM := (M.1, fun i => if i = b then va_cpy (M.2.1 a) (M.2.1 b) sp dp n else M.2.1 i, M.2.2.1, M.2.2.2)
def mzcpk (M : mzM) (r q : Option Nat) (sp dp n : Int32) (K : mzM → Prop) : Prop := match r, q with
  | some a, some b => (M.1 a).1 = 0 ∧ (M.1 b).1 = 0 ∧ ¬ sp < 0 ∧ ¬ dp < 0 ∧ ¬ n < 0 ∧ sp.toNatClampNeg + n.toNatClampNeg ≤ (M.1 a).2 ∧ dp.toNatClampNeg + n.toNatClampNeg ≤ (M.1 b).2 ∧ K (mzcpy M a b sp.toNatClampNeg dp.toNatClampNeg n.toNatClampNeg)
  | _, _ => False
def scopy {own idx : Nat} (hl : mzLkC own idx) (r : mzR) (s : mzI) (q : mzR) (d n : mzI) : mzT1 := ⟨(fun C p0 kn _ _ => match mzcas [gR r, gI s, gR q, gI d, gI n] C 0 p0 with
    | none => none
    | some p1 => if (C.2.1 == own && mzdec C.1 p1 (.invokestatic idx) 3 && decide (1 ≤ C.2.2.2.1) && decide (nativeFrameWords "java/lang/System" "arraycopy" 5 + 11 ≤ C.2.2.2.2.1)) = true then mzfin C (p1 + 3) kn else none,
    fun ls M Kn _ _ _ => (r.1.2.2 ls M ∧ s.1.2.2 ls M ∧ q.1.2.2 ls M ∧ d.1.2.2 ls M ∧ n.1.2.2 ls M) ∧ mzcpk M (r.1.2.1 ls M) (q.1.2.1 ls M) (s.1.2.1 ls M) (d.1.2.1 ls M) (n.1.2.1 ls M) (fun M1 => Kn ls M1)), by
  intro C p0 kn bk ct p1 hc x hx A ls M H locs Kn Kr Kb Kc h1 h2 h3 n1 n2 n3 n4
  dsimp only at hc h3
  split at hc
  · cases hc
  · rename_i p hp
    split at hc
    · rename_i hh
      simp only [Bool.and_eq_true] at hh
      obtain ⟨⟨⟨a1, a2⟩, a3⟩, a4⟩ := hh
      have ho : C.2.1 = own := by simpa using a1
      subst ho
      obtain ⟨⟨k1, k2, k3, k4, k5⟩, k6⟩ := h3
      refine mzas_go hx [gR r, gI s, gR q, gI d, gI n] 0 p0 p hp A ls M H locs [] (fun vs M1 => M1 = M ∧ vs = [va_rf (r.1.2.1 ls M), .int (s.1.2.1 ls M), va_rf (q.1.2.1 ls M), .int (d.1.2.1 ls M), .int (n.1.2.1 ls M)]) h1 h2 mz0 ⟨k1, k2, k3, k4, k5, rfl, rfl⟩ (fun vs M1 H1 locs1 z1 _ hh1 => ?_)
      obtain ⟨rfl, rfl⟩ := z1
      unfold mzcpk at k6
      split at k6
      · rename_i a b ea eb
        rw [ea, eb]
        obtain ⟨c1, c2, c3, c4, c5, c6, c7, c8⟩ := k6
        have hata := mzhp_at hh1 (id := a) (by omega)
        have hatb := mzhp_at hh1 (id := b) (by omega)
        rw [mzcell_i c1] at hata
        rw [mzcell_i c2] at hatb
        obtain ⟨l1, l2, l3, l4⟩ := hl
        refine va_copyi hx.1 hx.2.1 (by rw [h1.1]; exact hx.2.2.1) hx.2.2.2.1 (hx.2.2.2.2.1 _ l1) (hx.2.2.2.2.1 _ l2) (hx.2.2.2.2.1 _ l3) (hx.2.2.2.2.1 _ l4) hx.2.2.2.2.2.2.1 hh1.1 (mzW_D hx.2.2.2.2.2.2.2.1 M1) hh1.2.1 a b 0 0 hata hatb rfl rfl rfl c3 c4 c5 c6 c7 (fun _ _ => rfl) (by rw [hx.2.2.2.2.2.2.2.2.2.1.1]; exact of_decide_eq_true a3) (by rw [hx.2.2.2.2.2.2.2.2.2.1.2]; have := of_decide_eq_true a4; simpa using this) (mzdec_ok a2) (fun H2 locs2 hP2 _ hS2 => ?_)
        rw [mzW_set (M := M1) (M' := mzcpy M1 a b _ _ _) (by
          rw [mzcell_i (show ((mzcpy M1 a b _ _ _).1 b).1 = 0 from c2)]
          show _ = (Sum.inl (x.1.2.1 0, (M1.1 b).2, .inl (if b = b then va_cpy (M1.2.1 a) (M1.2.1 b) _ _ _ else M1.2.1 b)) : va_E)
          rw [if_pos rfl]) (fun j hj => mzcell_cong rfl (by show (if j = b then _ else _) = _; rw [if_neg hj]) rfl rfl)] at hP2
        exact mzfin_go hx hc (n1 A ls _ H2 locs2 c8 h1 ⟨hP2, hS2, hh1.2.2⟩)
      · exact k6.elim
    · cases hc⟩
theorem w_scopy {own idx : Nat} (hl : mzLkC own idx) (r : mzR) (s : mzI) (q : mzR) (d n : mzI) {ls : mzL} {M : mzM} {Kn : mzL → mzM → Prop} {Kr : Value → mzM → Prop} {Kb Kc : mzL → mzM → Prop} : (scopy hl r s q d n).1.2 ls M Kn Kr Kb Kc = ((r.1.2.2 ls M ∧ s.1.2.2 ls M ∧ q.1.2.2 ls M ∧ d.1.2.2 ls M ∧ n.1.2.2 ls M) ∧ mzcpk M (r.1.2.1 ls M) (q.1.2.1 ls M) (s.1.2.1 ls M) (d.1.2.1 ls M) (n.1.2.1 ls M) (fun M1 => Kn ls M1)) := rfl
/-- a loop by an invariant with a measure -/
theorem mzloop {c : mzwc} {b st : mzsw} {Kn : mzL → mzM → Prop} {Kr : Value → mzM → Prop} (I : Nat → mzL → mzM → Prop)
    (hs : ∀ (n : Nat) (ls : mzL) (M : mzM) (K : mzL → mzM → Prop), I n ls M → (∀ n' ls' M', n' < n → I n' ls' M' → K ls' M') → c ls M (fun M1 => b ls M1 (fun ls2 M2 => st ls2 M2 K Kr (fun _ _ => False) (fun _ _ => False)) Kr Kn (fun ls2 M2 => st ls2 M2 K Kr (fun _ _ => False) (fun _ _ => False))) (fun M1 => Kn ls M1)) :
    ∀ (n : Nat) (ls : mzL) (M : mzM), I n ls M → ∃ k, mzit c b st Kn Kr k ls M := by
  have key : ∀ (m n : Nat), n < m → ∀ (ls : mzL) (M : mzM), I n ls M → mzit c b st Kn Kr m ls M := by
    intro m
    induction m with
    | zero => intro n h; omega
    | succ m ih =>
      intro n hn ls M h
      exact hs n ls M (mzit c b st Kn Kr m) h (fun n' ls' M' h1 h2 => ih n' (by omega) ls' M' h2)
  intro n ls M h
  exact ⟨n + 1, key (n + 1) n (Nat.lt_succ_self n) ls M h⟩
