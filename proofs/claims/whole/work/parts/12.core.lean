/-! THE SMALL LANGUAGE, 10: texts with values (nothing is changed), and general ones -/
abbrev mzI : Type := { g : mzch × (mzL → mzM → Int32) × (mzL → mzM → Prop) // mzE 1 g.1 (fun ls M K => g.2.2 ls M ∧ K (.int (g.2.1 ls M)) M) }
abbrev mzJ : Type := { g : mzch × (mzL → mzM → Int64) × (mzL → mzM → Prop) // mzE 2 g.1 (fun ls M K => g.2.2 ls M ∧ K (.long (g.2.1 ls M)) M) }
abbrev mzR : Type := { g : mzch × (mzL → mzM → Option Nat) × (mzL → mzM → Prop) // mzE 3 g.1 (fun ls M K => g.2.2 ls M ∧ K (va_rf (g.2.1 ls M)) M) }
abbrev mzB : Type := { g : mzcc × (mzL → mzM → Bool) × (mzL → mzM → Prop) // mzC g.1 (fun ls M KT KF => g.2.2 ls M ∧ (g.2.1 ls M = true → KT M) ∧ (g.2.1 ls M = false → KF M)) }
def gI (a : mzI) : mzG := ⟨(1, a.1.1, fun ls M K => a.1.2.2 ls M ∧ K (.int (a.1.2.1 ls M)) M), a.2⟩
def gJ (a : mzJ) : mzG := ⟨(2, a.1.1, fun ls M K => a.1.2.2 ls M ∧ K (.long (a.1.2.1 ls M)) M), a.2⟩
def gR (a : mzR) : mzG := ⟨(3, a.1.1, fun ls M K => a.1.2.2 ls M ∧ K (va_rf (a.1.2.1 ls M)) M), a.2⟩
def gB (a : mzB) : mzB1 := ⟨(a.1.1, fun ls M KT KF => a.1.2.2 ls M ∧ (a.1.2.1 ls M = true → KT M) ∧ (a.1.2.1 ls M = false → KF M)), a.2⟩
def iK (v : Int32) : mzI := ⟨(mzcK v, fun _ _ => v, fun _ _ => True), (mzE_K v).conv (fun _ _ _ h => h.2)⟩
def iKc {own idx : Nat} {v : Int32} (hm : Jvm.Cond.constant (mzcn own) idx v ∈ mzT) : mzI := ⟨(mzcT own (.ldc idx) 2, fun _ _ => v, fun _ _ => True), (mzE_Kc hm).conv (fun _ _ _ h => h.2)⟩
def iKw {own idx : Nat} {v : Int32} (hm : Jvm.Cond.constant (mzcn own) idx v ∈ mzT) : mzI := ⟨(mzcT own (.ldc_w idx) 3, fun _ _ => v, fun _ _ => True), (mzE_Kcw hm).conv (fun _ _ _ h => h.2)⟩
def jK (v : Int64) : mzJ := ⟨(mzcJ v, fun _ _ => v, fun _ _ => True), (mzE_J v).conv (fun _ _ _ h => h.2)⟩
def jKc {own idx : Nat} {v : Int64} (hm : Jvm.Cond.constantLong (mzcn own) idx v ∈ mzT) : mzJ := ⟨(mzcT own (.ldc2_w idx) 3, fun _ _ => v, fun _ _ => True), (mzE_Jc hm).conv (fun _ _ _ h => h.2)⟩
def rN : mzR := ⟨(mzcN, fun _ _ => none, fun _ _ => True), mzE_N.conv (fun _ _ _ h => h.2)⟩
def mzgi (ls : mzL) (k : Nat) : Int32 := match ls[k]? with
  | some (some (.int z)) => z
  | _ => 0
def mzgio (ls : mzL) (k : Nat) : Prop := match ls[k]? with
  | some (some (.int _)) => True
  | _ => False
def mzgj (ls : mzL) (k : Nat) : Int64 := match ls[k]? with
  | some (some (.long z)) => z
  | _ => 0
def mzgjo (ls : mzL) (k : Nat) : Prop := match ls[k]? with
  | some (some (.long _)) => True
  | _ => False
def mzgr (ls : mzL) (k : Nat) : Option Nat := match ls[k]? with
  | some (some (.ref z)) => some z
  | _ => none
def mzgro (ls : mzL) (k : Nat) : Prop := match ls[k]? with
  | some (some (.ref _)) => True
  | some (some .null) => True
  | _ => False
def iL (k : Nat) : mzI := ⟨(mzcIL k, fun ls _ => mzgi ls k, fun ls _ => mzgio ls k), (mzE_IL k).conv (fun ls M K h => by
  obtain ⟨h1, h2⟩ := h
  dsimp only at h1 h2
  unfold mzgio at h1
  unfold mzgi at h2
  split at h1
  · rename_i z hz
    rw [hz] at h2 ⊢
    exact h2
  · exact h1.elim)⟩
def jL (k : Nat) : mzJ := ⟨(mzcJL k, fun ls _ => mzgj ls k, fun ls _ => mzgjo ls k), (mzE_JL k).conv (fun ls M K h => by
  obtain ⟨h1, h2⟩ := h
  dsimp only at h1 h2
  unfold mzgjo at h1
  unfold mzgj at h2
  split at h1
  · rename_i z hz
    rw [hz] at h2 ⊢
    exact h2
  · exact h1.elim)⟩
def rL (k : Nat) : mzR := ⟨(mzcAL k, fun ls _ => mzgr ls k, fun ls _ => mzgro ls k), (mzE_AL k).conv (fun ls M K h => by
  obtain ⟨h1, h2⟩ := h
  dsimp only at h1 h2
  unfold mzgro at h1
  unfold mzgr at h2
  split at h1
  · rename_i z hz
    rw [hz] at h2 ⊢
    exact h2
  · rename_i hz
    rw [hz] at h2 ⊢
    exact h2
  · exact h1.elim)⟩
def iadd (a b : mzI) : mzI := ⟨(mzc2 .iadd 1 a.1.1 b.1.1, fun ls M => a.1.2.1 ls M + b.1.2.1 ls M, fun ls M => a.1.2.2 ls M ∧ b.1.2.2 ls M), (mzE_2 mzr_iadd a.2 b.2).conv (fun _ _ _ h => ⟨h.1.1, h.1.2, h.2⟩)⟩
def isub (a b : mzI) : mzI := ⟨(mzc2 .isub 1 a.1.1 b.1.1, fun ls M => a.1.2.1 ls M - b.1.2.1 ls M, fun ls M => a.1.2.2 ls M ∧ b.1.2.2 ls M), (mzE_2 mzr_isub a.2 b.2).conv (fun _ _ _ h => ⟨h.1.1, h.1.2, h.2⟩)⟩
def imul (a b : mzI) : mzI := ⟨(mzc2 .imul 1 a.1.1 b.1.1, fun ls M => a.1.2.1 ls M * b.1.2.1 ls M, fun ls M => a.1.2.2 ls M ∧ b.1.2.2 ls M), (mzE_2 mzr_imul a.2 b.2).conv (fun _ _ _ h => ⟨h.1.1, h.1.2, h.2⟩)⟩
def iand (a b : mzI) : mzI := ⟨(mzc2 .iand 1 a.1.1 b.1.1, fun ls M => a.1.2.1 ls M &&& b.1.2.1 ls M, fun ls M => a.1.2.2 ls M ∧ b.1.2.2 ls M), (mzE_2 mzr_iand a.2 b.2).conv (fun _ _ _ h => ⟨h.1.1, h.1.2, h.2⟩)⟩
def ior (a b : mzI) : mzI := ⟨(mzc2 .ior 1 a.1.1 b.1.1, fun ls M => a.1.2.1 ls M ||| b.1.2.1 ls M, fun ls M => a.1.2.2 ls M ∧ b.1.2.2 ls M), (mzE_2 mzr_ior a.2 b.2).conv (fun _ _ _ h => ⟨h.1.1, h.1.2, h.2⟩)⟩
def ishl (a b : mzI) : mzI := ⟨(mzc2 .ishl 1 a.1.1 b.1.1, fun ls M => mzshl (a.1.2.1 ls M) (b.1.2.1 ls M), fun ls M => a.1.2.2 ls M ∧ b.1.2.2 ls M), (mzE_2 mzr_ishl a.2 b.2).conv (fun _ _ _ h => ⟨h.1.1, h.1.2, h.2⟩)⟩
def ishr (a b : mzI) : mzI := ⟨(mzc2 .ishr 1 a.1.1 b.1.1, fun ls M => mzshr (a.1.2.1 ls M) (b.1.2.1 ls M), fun ls M => a.1.2.2 ls M ∧ b.1.2.2 ls M), (mzE_2 mzr_ishr a.2 b.2).conv (fun _ _ _ h => ⟨h.1.1, h.1.2, h.2⟩)⟩
def iushr (a b : mzI) : mzI := ⟨(mzc2 .iushr 1 a.1.1 b.1.1, fun ls M => mzushr (a.1.2.1 ls M) (b.1.2.1 ls M), fun ls M => a.1.2.2 ls M ∧ b.1.2.2 ls M), (mzE_2 mzr_iushr a.2 b.2).conv (fun _ _ _ h => ⟨h.1.1, h.1.2, h.2⟩)⟩
def idiv (a b : mzI) : mzI := ⟨(mzc2 .idiv 1 a.1.1 b.1.1, fun ls M => a.1.2.1 ls M / b.1.2.1 ls M, fun ls M => a.1.2.2 ls M ∧ b.1.2.2 ls M ∧ ¬ b.1.2.1 ls M = 0), (mzE_2 mzr_idiv a.2 b.2).conv (fun _ _ _ h => ⟨h.1.1, h.1.2.1, by simp only [mzfid, if_neg h.1.2.2]; exact h.2⟩)⟩
def irem (a b : mzI) : mzI := ⟨(mzc2 .irem 1 a.1.1 b.1.1, fun ls M => mzrem (a.1.2.1 ls M) (b.1.2.1 ls M), fun ls M => a.1.2.2 ls M ∧ b.1.2.2 ls M ∧ ¬ b.1.2.1 ls M = 0), (mzE_2 mzr_irem a.2 b.2).conv (fun _ _ _ h => ⟨h.1.1, h.1.2.1, by simp only [mzfid, if_neg h.1.2.2]; exact h.2⟩)⟩
def jadd (a b : mzJ) : mzJ := ⟨(mzc2 .ladd 2 a.1.1 b.1.1, fun ls M => a.1.2.1 ls M + b.1.2.1 ls M, fun ls M => a.1.2.2 ls M ∧ b.1.2.2 ls M), (mzE_2 mzr_ladd a.2 b.2).conv (fun _ _ _ h => ⟨h.1.1, h.1.2, h.2⟩)⟩
def jsub (a b : mzJ) : mzJ := ⟨(mzc2 .lsub 2 a.1.1 b.1.1, fun ls M => a.1.2.1 ls M - b.1.2.1 ls M, fun ls M => a.1.2.2 ls M ∧ b.1.2.2 ls M), (mzE_2 mzr_lsub a.2 b.2).conv (fun _ _ _ h => ⟨h.1.1, h.1.2, h.2⟩)⟩
def jmul (a b : mzJ) : mzJ := ⟨(mzc2 .lmul 2 a.1.1 b.1.1, fun ls M => a.1.2.1 ls M * b.1.2.1 ls M, fun ls M => a.1.2.2 ls M ∧ b.1.2.2 ls M), (mzE_2 mzr_lmul a.2 b.2).conv (fun _ _ _ h => ⟨h.1.1, h.1.2, h.2⟩)⟩
def jand (a b : mzJ) : mzJ := ⟨(mzc2 .land 2 a.1.1 b.1.1, fun ls M => a.1.2.1 ls M &&& b.1.2.1 ls M, fun ls M => a.1.2.2 ls M ∧ b.1.2.2 ls M), (mzE_2 mzr_land a.2 b.2).conv (fun _ _ _ h => ⟨h.1.1, h.1.2, h.2⟩)⟩
def jor (a b : mzJ) : mzJ := ⟨(mzc2 .lor 2 a.1.1 b.1.1, fun ls M => a.1.2.1 ls M ||| b.1.2.1 ls M, fun ls M => a.1.2.2 ls M ∧ b.1.2.2 ls M), (mzE_2 mzr_lor a.2 b.2).conv (fun _ _ _ h => ⟨h.1.1, h.1.2, h.2⟩)⟩
def jxor (a b : mzJ) : mzJ := ⟨(mzc2 .lxor 2 a.1.1 b.1.1, fun ls M => a.1.2.1 ls M ^^^ b.1.2.1 ls M, fun ls M => a.1.2.2 ls M ∧ b.1.2.2 ls M), (mzE_2 mzr_lxor a.2 b.2).conv (fun _ _ _ h => ⟨h.1.1, h.1.2, h.2⟩)⟩
def jdiv (a b : mzJ) : mzJ := ⟨(mzc2 .ldiv 2 a.1.1 b.1.1, fun ls M => a.1.2.1 ls M / b.1.2.1 ls M, fun ls M => a.1.2.2 ls M ∧ b.1.2.2 ls M ∧ ¬ b.1.2.1 ls M = 0), (mzE_2 mzr_ldiv a.2 b.2).conv (fun _ _ _ h => ⟨h.1.1, h.1.2.1, by simp only [mzfld, if_neg h.1.2.2]; exact h.2⟩)⟩
def jrem (a b : mzJ) : mzJ := ⟨(mzc2 .lrem 2 a.1.1 b.1.1, fun ls M => mzlrem (a.1.2.1 ls M) (b.1.2.1 ls M), fun ls M => a.1.2.2 ls M ∧ b.1.2.2 ls M ∧ ¬ b.1.2.1 ls M = 0), (mzE_2 mzr_lrem a.2 b.2).conv (fun _ _ _ h => ⟨h.1.1, h.1.2.1, by simp only [mzfld, if_neg h.1.2.2]; exact h.2⟩)⟩
def jshl (a : mzJ) (b : mzI) : mzJ := ⟨(mzc2 .lshl 2 a.1.1 b.1.1, fun ls M => mzlshl (a.1.2.1 ls M) (b.1.2.1 ls M), fun ls M => a.1.2.2 ls M ∧ b.1.2.2 ls M), (mzE_2 mzr_lshl a.2 b.2).conv (fun _ _ _ h => ⟨h.1.1, h.1.2, h.2⟩)⟩
def jushr (a : mzJ) (b : mzI) : mzJ := ⟨(mzc2 .lushr 2 a.1.1 b.1.1, fun ls M => mzlushr (a.1.2.1 ls M) (b.1.2.1 ls M), fun ls M => a.1.2.2 ls M ∧ b.1.2.2 ls M), (mzE_2 mzr_lushr a.2 b.2).conv (fun _ _ _ h => ⟨h.1.1, h.1.2, h.2⟩)⟩
def i2j (a : mzI) : mzJ := ⟨(mzc1 .i2l a.1.1, fun ls M => (a.1.2.1 ls M).toInt64, fun ls M => a.1.2.2 ls M), (mzE_1 mzr_i2l a.2).conv (fun _ _ _ h => ⟨h.1, h.2⟩)⟩
def j2i (a : mzJ) : mzI := ⟨(mzc1 .l2i a.1.1, fun ls M => (a.1.2.1 ls M).toInt32, fun ls M => a.1.2.2 ls M), (mzE_1 mzr_l2i a.2).conv (fun _ _ _ h => ⟨h.1, h.2⟩)⟩
def i2b (a : mzI) : mzI := ⟨(mzc1 .i2b a.1.1, fun ls M => (a.1.2.1 ls M).toInt8.toInt32, fun ls M => a.1.2.2 ls M), (mzE_1 mzr_i2b a.2).conv (fun _ _ _ h => ⟨h.1, h.2⟩)⟩
def i2s (a : mzI) : mzI := ⟨(mzc1 .i2s a.1.1, fun ls M => (a.1.2.1 ls M).toInt16.toInt32, fun ls M => a.1.2.2 ls M), (mzE_1 mzr_i2s a.2).conv (fun _ _ _ h => ⟨h.1, h.2⟩)⟩
/-- a cell is there, and of a kind -/
def mzis (M : mzM) (r : Option Nat) (k : Nat) : Prop := match r with
  | some id => (M.1 id).1 = k
  | none => False
def mzla (M : mzM) (r : Option Nat) (k : Nat) (i : Int32) : Prop := match r with
  | some id => (M.1 id).1 = k ∧ vp_in i (M.1 id).2
  | none => False
def iF {own idx ci k : Nat} (hl : mzLkF own idx ci k 0) (hc : ci < 20) (a : mzR) : mzI := ⟨(mzcF own idx a.1.1, fun ls M => M.2.1 ((a.1.2.1 ls M).getD 0) k, fun ls M => a.1.2.2 ls M ∧ mzis M (a.1.2.1 ls M) (ci + 4)), (mzE_F hl hc a.2).conv (fun ls M K h => by
  obtain ⟨⟨h1, h2⟩, h3⟩ := h
  refine ⟨h1, ?_⟩
  unfold mzis at h2
  split at h2
  · rename_i id hid
    dsimp only at h3
    rw [hid] at h3 ⊢
    exact ⟨h2, h3⟩
  · exact h2.elim)⟩
def jF {own idx ci k : Nat} (hl : mzLkF own idx ci k 1) (hc : ci < 20) (a : mzR) : mzJ := ⟨(mzcF own idx a.1.1, fun ls M => M.2.2.1 ((a.1.2.1 ls M).getD 0) k, fun ls M => a.1.2.2 ls M ∧ mzis M (a.1.2.1 ls M) (ci + 4)), (mzE_F hl hc a.2).conv (fun ls M K h => by
  obtain ⟨⟨h1, h2⟩, h3⟩ := h
  refine ⟨h1, ?_⟩
  unfold mzis at h2
  split at h2
  · rename_i id hid
    dsimp only at h3
    rw [hid] at h3 ⊢
    exact ⟨h2, h3⟩
  · exact h2.elim)⟩
def rF {own idx ci k : Nat} (hl : mzLkF own idx ci k 2) (hc : ci < 20) (a : mzR) : mzR := ⟨(mzcF own idx a.1.1, fun ls M => M.2.2.2 ((a.1.2.1 ls M).getD 0) k, fun ls M => a.1.2.2 ls M ∧ mzis M (a.1.2.1 ls M) (ci + 4)), (mzE_F hl hc a.2).conv (fun ls M K h => by
  obtain ⟨⟨h1, h2⟩, h3⟩ := h
  refine ⟨h1, ?_⟩
  unfold mzis at h2
  split at h2
  · rename_i id hid
    dsimp only at h3
    rw [hid] at h3 ⊢
    exact ⟨h2, h3⟩
  · exact h2.elim)⟩
def iA (a : mzR) (b : mzI) : mzI := ⟨(mzc2 (mzalI 0) 3 a.1.1 b.1.1, fun ls M => M.2.1 ((a.1.2.1 ls M).getD 0) (b.1.2.1 ls M).toNatClampNeg, fun ls M => a.1.2.2 ls M ∧ b.1.2.2 ls M ∧ mzla M (a.1.2.1 ls M) 0 (b.1.2.1 ls M)), (mzE_A (a := 0) (by decide) a.2 b.2).conv (fun ls M K h => by
  obtain ⟨⟨h1, h2, h4⟩, h3⟩ := h
  refine ⟨h1, h2, ?_⟩
  unfold mzla at h4
  split at h4
  · rename_i id hid
    dsimp only at h3
    rw [hid] at h3 ⊢
    exact ⟨h4.1, h4.2, h3⟩
  · exact h4.elim)⟩
def jA (a : mzR) (b : mzI) : mzJ := ⟨(mzc2 (mzalI 1) 3 a.1.1 b.1.1, fun ls M => M.2.2.1 ((a.1.2.1 ls M).getD 0) (b.1.2.1 ls M).toNatClampNeg, fun ls M => a.1.2.2 ls M ∧ b.1.2.2 ls M ∧ mzla M (a.1.2.1 ls M) 1 (b.1.2.1 ls M)), (mzE_A (a := 1) (by decide) a.2 b.2).conv (fun ls M K h => by
  obtain ⟨⟨h1, h2, h4⟩, h3⟩ := h
  refine ⟨h1, h2, ?_⟩
  unfold mzla at h4
  split at h4
  · rename_i id hid
    dsimp only at h3
    rw [hid] at h3 ⊢
    exact ⟨h4.1, h4.2, h3⟩
  · exact h4.elim)⟩
def zA (a : mzR) (b : mzI) : mzI := ⟨(mzc2 (mzalI 2) 3 a.1.1 b.1.1, fun ls M => M.2.1 ((a.1.2.1 ls M).getD 0) (b.1.2.1 ls M).toNatClampNeg, fun ls M => a.1.2.2 ls M ∧ b.1.2.2 ls M ∧ mzla M (a.1.2.1 ls M) 2 (b.1.2.1 ls M)), (mzE_A (a := 2) (by decide) a.2 b.2).conv (fun ls M K h => by
  obtain ⟨⟨h1, h2, h4⟩, h3⟩ := h
  refine ⟨h1, h2, ?_⟩
  unfold mzla at h4
  split at h4
  · rename_i id hid
    dsimp only at h3
    rw [hid] at h3 ⊢
    exact ⟨h4.1, h4.2, h3⟩
  · exact h4.elim)⟩
def rA (a : mzR) (b : mzI) : mzR := ⟨(mzc2 (mzalI 3) 3 a.1.1 b.1.1, fun ls M => M.2.2.2 ((a.1.2.1 ls M).getD 0) (b.1.2.1 ls M).toNatClampNeg, fun ls M => a.1.2.2 ls M ∧ b.1.2.2 ls M ∧ mzla M (a.1.2.1 ls M) 3 (b.1.2.1 ls M)), (mzE_A (a := 3) (by decide) a.2 b.2).conv (fun ls M K h => by
  obtain ⟨⟨h1, h2, h4⟩, h3⟩ := h
  refine ⟨h1, h2, ?_⟩
  unfold mzla at h4
  split at h4
  · rename_i id hid
    dsimp only at h3
    rw [hid] at h3 ⊢
    exact ⟨h4.1, h4.2, h3⟩
  · exact h4.elim)⟩
def ilen (a : mzR) : mzI := ⟨(mzc1 .arraylength a.1.1, fun ls M => Int32.ofNat (M.1 ((a.1.2.1 ls M).getD 0)).2, fun ls M => a.1.2.2 ls M ∧ (mzis M (a.1.2.1 ls M) 0 ∨ mzis M (a.1.2.1 ls M) 1)), (mzE_len a.2).conv (fun ls M K h => by
  obtain ⟨⟨h1, h2⟩, h3⟩ := h
  refine ⟨h1, ?_⟩
  dsimp only at h3
  cases hid : a.1.2.1 ls M with
  | none => rw [hid] at h2; rcases h2 with h2 | h2 <;> exact h2.elim
  | some id =>
    rw [hid] at h2 h3
    refine ⟨?_, h3⟩
    rcases h2 with h2 | h2
    · have : (M.1 id).1 = 0 := h2
      omega
    · have : (M.1 id).1 = 1 := h2
      omega)⟩
def iU {own idx : Nat} (hl : mzLkU own idx) (a : mzI) : mzI := ⟨(mzcU own idx a.1.1, fun ls M => mzturn (a.1.2.1 ls M).toNatClampNeg, fun ls M => a.1.2.2 ls M ∧ vp_in (a.1.2.1 ls M) 12), (mzE_U hl a.2).conv (fun _ _ _ h => ⟨h.1.1, h.1.2, h.2⟩)⟩
def ccmp (op : Jvm.ClassFile.Cond) (a b : mzI) : mzB := ⟨(mzccmp op a.1.1 b.1.1, fun ls M => mzcmp op (a.1.2.1 ls M) (b.1.2.1 ls M), fun ls M => a.1.2.2 ls M ∧ b.1.2.2 ls M), (mzC_cmp op a.2 b.2).conv (fun _ _ _ _ h => ⟨h.1.1, h.1.2, h.2⟩)⟩
def cif0 (op : Jvm.ClassFile.Cond) (a : mzI) : mzB := ⟨(mzcif0 op a.1.1, fun ls M => mzcmp op (a.1.2.1 ls M) 0, fun ls M => a.1.2.2 ls M), (mzC_if0 op a.2).conv (fun _ _ _ _ h => ⟨h.1, h.2⟩)⟩
def ccml (op : Jvm.ClassFile.Cond) (a b : mzJ) : mzB := ⟨(mzccml op a.1.1 b.1.1, fun ls M => mzcml op (a.1.2.1 ls M) (b.1.2.1 ls M), fun ls M => a.1.2.2 ls M ∧ b.1.2.2 ls M), (mzC_cml op a.2 b.2).conv (fun _ _ _ _ h => ⟨h.1.1, h.1.2, h.2⟩)⟩
def cnul (op : Jvm.ClassFile.Cond) (a : mzR) : mzB := ⟨(mzcnul op a.1.1, fun ls M => mzcmp op (mznul (va_rf (a.1.2.1 ls M))) 0, fun ls M => a.1.2.2 ls M), (mzC_nul op a.2).conv (fun _ _ _ _ h => ⟨h.1, h.2⟩)⟩
def cand (pb : Nat) (a b : mzB) : mzB := ⟨(mzcand pb a.1.1 b.1.1, fun ls M => a.1.2.1 ls M && b.1.2.1 ls M, fun ls M => a.1.2.2 ls M ∧ (a.1.2.1 ls M = true → b.1.2.2 ls M)), (mzC_and pb a.2 b.2).conv (fun ls M KT KF h => by
  obtain ⟨⟨h1, h2⟩, h3, h4⟩ := h
  dsimp only at h3 h4
  refine ⟨h1, fun e => ⟨h2 e, ?_⟩, fun e => h4 (by rw [e]; rfl)⟩
  rw [e, Bool.true_and] at h3 h4
  exact ⟨h3, h4⟩)⟩
def cor (pb : Nat) (a b : mzB) : mzB := ⟨(mzcor pb a.1.1 b.1.1, fun ls M => a.1.2.1 ls M || b.1.2.1 ls M, fun ls M => a.1.2.2 ls M ∧ (a.1.2.1 ls M = false → b.1.2.2 ls M)), (mzC_or pb a.2 b.2).conv (fun ls M KT KF h => by
  obtain ⟨⟨h1, h2⟩, h3, h4⟩ := h
  dsimp only at h3 h4
  refine ⟨h1, fun e => h3 (by rw [e]; rfl), fun e => ⟨h2 e, ?_⟩⟩
  rw [e, Bool.false_or] at h3 h4
  exact ⟨h3, h4⟩)⟩
def cnot (a : mzB) : mzB := ⟨(mzcnot a.1.1, fun ls M => !a.1.2.1 ls M, fun ls M => a.1.2.2 ls M), (mzC_not a.2).conv (fun ls M KT KF h => by
  obtain ⟨h1, h3, h4⟩ := h
  dsimp only at h3 h4
  refine ⟨h1, fun e => h4 (by rw [e]; rfl), fun e => h3 (by rw [e]; rfl)⟩)⟩
def iq (pa pb : Nat) (c : mzB) (a b : mzI) : mzI := ⟨(mzcq pa pb c.1.1 a.1.1 b.1.1, fun ls M => if c.1.2.1 ls M = true then a.1.2.1 ls M else b.1.2.1 ls M, fun ls M => c.1.2.2 ls M ∧ (c.1.2.1 ls M = true → a.1.2.2 ls M) ∧ (c.1.2.1 ls M = false → b.1.2.2 ls M)), (mzE_q pa pb c.2 a.2 b.2).conv (fun ls M K h => by
  obtain ⟨⟨h1, h2, h3⟩, h4⟩ := h
  dsimp only at h4
  refine ⟨h1, fun e => ⟨h2 e, ?_⟩, fun e => ⟨h3 e, ?_⟩⟩
  · rw [if_pos e] at h4; exact h4
  · rw [if_neg (by rw [e]; decide)] at h4; exact h4)⟩
def jq (pa pb : Nat) (c : mzB) (a b : mzJ) : mzJ := ⟨(mzcq pa pb c.1.1 a.1.1 b.1.1, fun ls M => if c.1.2.1 ls M = true then a.1.2.1 ls M else b.1.2.1 ls M, fun ls M => c.1.2.2 ls M ∧ (c.1.2.1 ls M = true → a.1.2.2 ls M) ∧ (c.1.2.1 ls M = false → b.1.2.2 ls M)), (mzE_q pa pb c.2 a.2 b.2).conv (fun ls M K h => by
  obtain ⟨⟨h1, h2, h3⟩, h4⟩ := h
  dsimp only at h4
  refine ⟨h1, fun e => ⟨h2 e, ?_⟩, fun e => ⟨h3 e, ?_⟩⟩
  · rw [if_pos e] at h4; exact h4
  · rw [if_neg (by rw [e]; decide)] at h4; exact h4)⟩
def rq (pa pb : Nat) (c : mzB) (a b : mzR) : mzR := ⟨(mzcq pa pb c.1.1 a.1.1 b.1.1, fun ls M => if c.1.2.1 ls M = true then a.1.2.1 ls M else b.1.2.1 ls M, fun ls M => c.1.2.2 ls M ∧ (c.1.2.1 ls M = true → a.1.2.2 ls M) ∧ (c.1.2.1 ls M = false → b.1.2.2 ls M)), (mzE_q pa pb c.2 a.2 b.2).conv (fun ls M K h => by
  obtain ⟨⟨h1, h2, h3⟩, h4⟩ := h
  dsimp only at h4
  refine ⟨h1, fun e => ⟨h2 e, ?_⟩, fun e => ⟨h3 e, ?_⟩⟩
  · rw [if_pos e] at h4; exact h4
  · rw [if_neg (by rw [e]; decide)] at h4; exact h4)⟩
/-- arguments with values -/
abbrev mzV : Type := { g : Nat × mzch × (mzL → mzM → Value) × (mzL → mzM → Prop) // mzE g.1 g.2.1 (fun ls M K => g.2.2.2 ls M ∧ K (g.2.2.1 ls M) M) }
def vI (a : mzI) : mzV := ⟨(1, a.1.1, fun ls M => .int (a.1.2.1 ls M), a.1.2.2), a.2⟩
def vJ (a : mzJ) : mzV := ⟨(2, a.1.1, fun ls M => .long (a.1.2.1 ls M), a.1.2.2), a.2⟩
def vR (a : mzR) : mzV := ⟨(3, a.1.1, fun ls M => va_rf (a.1.2.1 ls M), a.1.2.2), a.2⟩
def gV (a : mzV) : mzG := ⟨(a.1.1, a.1.2.1, fun ls M K => a.1.2.2.2 ls M ∧ K (a.1.2.2.1 ls M) M), a.2⟩
def gVs : List mzV → List mzG
  | [] => []
  | a :: r => gV a :: gVs r
def mzevs : List mzV → mzL → mzM → List Value
  | [], _, _ => []
  | a :: r, ls, M => a.1.2.2.1 ls M :: mzevs r ls M
def mzoks : List mzV → mzL → mzM → Prop
  | [], _, _ => True
  | a :: r, ls, M => a.1.2.2.2 ls M ∧ mzoks r ls M
theorem mzwas_pure : ∀ (as : List mzV) (ls : mzL) (M : mzM) (K : List Value → mzM → Prop), mzoks as ls M → K (mzevs as ls M) M → mzwas (gVs as) ls M K := by
  intro as
  induction as with
  | nil => exact fun ls M K _ h => h
  | cons a r ih => exact fun ls M K h1 h2 => ⟨h1.1, ih ls M _ h1.2 h2⟩
/-- a method that changes nothing: what it answers, when it is well -/
abbrev mzPI : Type := { g : mzMt × (List Value → mzM → Int32) × (List Value → mzM → Prop) // g.1.1.2.2.2.2.2.2.1 ≠ 0 ∧ mzrtt g.1.1.2.2.2.2.2.2.1 = 1 ∧ ∀ (as : List Value) (M : mzM) (K : Value → mzM → Prop), g.2.2 as M → K (.int (g.2.1 as M)) M → g.1.1.2.2.2.2.2.2.2 as M K }
abbrev mzPJ : Type := { g : mzMt × (List Value → mzM → Int64) × (List Value → mzM → Prop) // g.1.1.2.2.2.2.2.2.1 ≠ 0 ∧ mzrtt g.1.1.2.2.2.2.2.2.1 = 2 ∧ ∀ (as : List Value) (M : mzM) (K : Value → mzM → Prop), g.2.2 as M → K (.long (g.2.1 as M)) M → g.1.1.2.2.2.2.2.2.2 as M K }
abbrev mzPR : Type := { g : mzMt × (List Value → mzM → Option Nat) × (List Value → mzM → Prop) // g.1.1.2.2.2.2.2.2.1 ≠ 0 ∧ mzrtt g.1.1.2.2.2.2.2.2.1 = 3 ∧ ∀ (as : List Value) (M : mzM) (K : Value → mzM → Prop), g.2.2 as M → K (va_rf (g.2.1 as M)) M → g.1.1.2.2.2.2.2.2.2 as M K }
def mzrc (M : mzM) (vs : List Value) (ci : Nat) : Prop := match vs with
  | .ref id :: _ => (M.1 id).1 = ci + 4
  | _ => False
def icV (m : mzPI) {own idx ci : Nat} {y : MethodName} (hl : mzLkV own idx ci y) (hy : m.1.1.1.1 = y) (as : List mzV) : mzI := ⟨(mzccV m.1.1 own idx (gVs as), fun ls M => m.1.2.1 (mzevs as ls M) M, fun ls M => mzoks as ls M ∧ mzrc M (mzevs as ls M) ci ∧ m.1.2.2 (mzevs as ls M) M), by
  have h := mzE_V (own := own) (idx := idx) (ci := ci) (by rw [hy]; exact hl) m.2.1 (gVs as)
  rw [m.2.2.1] at h
  refine h.conv (fun ls M K h => mzwas_pure as ls M _ h.1.1 ?_)
  obtain ⟨⟨-, h2, h3⟩, h4⟩ := h
  unfold mzrc at h2
  split at h2
  · rename_i id tl e
    dsimp only at h3 h4 ⊢
    rw [e] at h3 h4 ⊢
    exact ⟨h2, m.2.2.2 _ M K h3 h4⟩
  · exact h2.elim⟩
def icS (m : mzPI) {own idx : Nat} {y : MethodName} (hl : mzLkS own idx y) (hy : m.1.1.1.1 = y) (as : List mzV) : mzI := ⟨(mzccS m.1.1 own idx (gVs as), fun ls M => m.1.2.1 (mzevs as ls M) M, fun ls M => mzoks as ls M ∧ m.1.2.2 (mzevs as ls M) M), by
  have h := mzE_S (own := own) (idx := idx) (by rw [hy]; exact hl) m.2.1 (gVs as)
  rw [m.2.2.1] at h
  refine h.conv (fun ls M K h => mzwas_pure as ls M _ h.1.1 ?_)
  exact m.2.2.2 _ M K h.1.2 h.2⟩
def jcV (m : mzPJ) {own idx ci : Nat} {y : MethodName} (hl : mzLkV own idx ci y) (hy : m.1.1.1.1 = y) (as : List mzV) : mzJ := ⟨(mzccV m.1.1 own idx (gVs as), fun ls M => m.1.2.1 (mzevs as ls M) M, fun ls M => mzoks as ls M ∧ mzrc M (mzevs as ls M) ci ∧ m.1.2.2 (mzevs as ls M) M), by
  have h := mzE_V (own := own) (idx := idx) (ci := ci) (by rw [hy]; exact hl) m.2.1 (gVs as)
  rw [m.2.2.1] at h
  refine h.conv (fun ls M K h => mzwas_pure as ls M _ h.1.1 ?_)
  obtain ⟨⟨-, h2, h3⟩, h4⟩ := h
  unfold mzrc at h2
  split at h2
  · rename_i id tl e
    dsimp only at h3 h4 ⊢
    rw [e] at h3 h4 ⊢
    exact ⟨h2, m.2.2.2 _ M K h3 h4⟩
  · exact h2.elim⟩
def jcS (m : mzPJ) {own idx : Nat} {y : MethodName} (hl : mzLkS own idx y) (hy : m.1.1.1.1 = y) (as : List mzV) : mzJ := ⟨(mzccS m.1.1 own idx (gVs as), fun ls M => m.1.2.1 (mzevs as ls M) M, fun ls M => mzoks as ls M ∧ m.1.2.2 (mzevs as ls M) M), by
  have h := mzE_S (own := own) (idx := idx) (by rw [hy]; exact hl) m.2.1 (gVs as)
  rw [m.2.2.1] at h
  refine h.conv (fun ls M K h => mzwas_pure as ls M _ h.1.1 ?_)
  exact m.2.2.2 _ M K h.1.2 h.2⟩
def rcV (m : mzPR) {own idx ci : Nat} {y : MethodName} (hl : mzLkV own idx ci y) (hy : m.1.1.1.1 = y) (as : List mzV) : mzR := ⟨(mzccV m.1.1 own idx (gVs as), fun ls M => m.1.2.1 (mzevs as ls M) M, fun ls M => mzoks as ls M ∧ mzrc M (mzevs as ls M) ci ∧ m.1.2.2 (mzevs as ls M) M), by
  have h := mzE_V (own := own) (idx := idx) (ci := ci) (by rw [hy]; exact hl) m.2.1 (gVs as)
  rw [m.2.2.1] at h
  refine h.conv (fun ls M K h => mzwas_pure as ls M _ h.1.1 ?_)
  obtain ⟨⟨-, h2, h3⟩, h4⟩ := h
  unfold mzrc at h2
  split at h2
  · rename_i id tl e
    dsimp only at h3 h4 ⊢
    rw [e] at h3 h4 ⊢
    exact ⟨h2, m.2.2.2 _ M K h3 h4⟩
  · exact h2.elim⟩
def rcS (m : mzPR) {own idx : Nat} {y : MethodName} (hl : mzLkS own idx y) (hy : m.1.1.1.1 = y) (as : List mzV) : mzR := ⟨(mzccS m.1.1 own idx (gVs as), fun ls M => m.1.2.1 (mzevs as ls M) M, fun ls M => mzoks as ls M ∧ m.1.2.2 (mzevs as ls M) M), by
  have h := mzE_S (own := own) (idx := idx) (by rw [hy]; exact hl) m.2.1 (gVs as)
  rw [m.2.2.1] at h
  refine h.conv (fun ls M K h => mzwas_pure as ls M _ h.1.1 ?_)
  exact m.2.2.2 _ M K h.1.2 h.2⟩
/-! general texts -/
def gcV (r : mzMt) {own idx ci : Nat} {y : MethodName} (hl : mzLkV own idx ci y) (hy : r.1.1 = y) (h0 : r.1.2.2.2.2.2.2.1 ≠ 0) (as : List mzG) : mzG := ⟨(mzrtt r.1.2.2.2.2.2.2.1, mzccV r own idx as, mzwV r ci as), mzE_V (by rw [hy]; exact hl) h0 as⟩
def gcS (r : mzMt) {own idx : Nat} {y : MethodName} (hl : mzLkS own idx y) (hy : r.1.1 = y) (h0 : r.1.2.2.2.2.2.2.1 ≠ 0) (as : List mzG) : mzG := ⟨(mzrtt r.1.2.2.2.2.2.2.1, mzccS r own idx as, mzwS r as), mzE_S (by rw [hy]; exact hl) h0 as⟩
def g1 {ins : Instr} {t1 t : Nat} {f : Value → Option Value} (hr : mzR1 ins t1 t f) (a : mzG) : mzG := ⟨(t, fun C d p0 kn => if a.1.1 = t1 then mzc1 ins a.1.2.1 C d p0 kn else none, fun ls M K => a.1.2.2 ls M (fun v1 M1 => match f v1 with | some v => K v M1 | none => False)), by
  intro C d p0 kn p1 hc
  dsimp only at hc
  split at hc
  · rename_i h
    exact mzE_1 hr (by have := a.2; rw [h] at this; exact this) C d p0 kn p1 hc
  · cases hc⟩
def g2 {ins : Instr} {t1 t2 t : Nat} {f : Value → Value → Option Value} (hr : mzR2 ins t1 t2 t f) (a b : mzG) : mzG := ⟨(t, fun C d p0 kn => if a.1.1 = t1 ∧ b.1.1 = t2 then mzc2 ins t1 a.1.2.1 b.1.2.1 C d p0 kn else none, fun ls M K => a.1.2.2 ls M (fun v1 M1 => b.1.2.2 ls M1 (fun v2 M2 => match f v1 v2 with | some v => K v M2 | none => False))), by
  intro C d p0 kn p1 hc
  dsimp only at hc
  split at hc
  · rename_i h
    exact mzE_2 hr (by have := a.2; rw [h.1] at this; exact this) (by have := b.2; rw [h.2] at this; exact this) C d p0 kn p1 hc
  · cases hc⟩
def gq (pa pb : Nat) (c : mzB1) (a b : mzG) : mzG := ⟨(a.1.1, fun C d p0 kn => if b.1.1 = a.1.1 then mzcq pa pb c.1.1 a.1.2.1 b.1.2.1 C d p0 kn else none, fun ls M K => c.1.2 ls M (fun M1 => a.1.2.2 ls M1 K) (fun M1 => b.1.2.2 ls M1 K)), by
  intro C d p0 kn p1 hc
  dsimp only at hc
  split at hc
  · rename_i h
    exact mzE_q pa pb c.2 a.2 (by have := b.2; rw [h] at this; exact this) C d p0 kn p1 hc
  · cases hc⟩
def bcmp (op : Jvm.ClassFile.Cond) (a b : mzG) : mzB1 := ⟨(fun C d p0 kT kF => decide (a.1.1 = 1 ∧ b.1.1 = 1) && mzccmp op a.1.2.1 b.1.2.1 C d p0 kT kF, fun ls M KT KF => a.1.2.2 ls M (fun v1 M1 => b.1.2.2 ls M1 (fun v2 M2 => match v1, v2 with | .int a, .int b => (mzcmp op a b = true → KT M2) ∧ (mzcmp op a b = false → KF M2) | _, _ => False))), by
  intro C d p0 kT kF hc
  dsimp only at hc
  rw [Bool.and_eq_true] at hc
  have h := of_decide_eq_true hc.1
  exact mzC_cmp op (by have := a.2; rw [h.1] at this; exact this) (by have := b.2; rw [h.2] at this; exact this) C d p0 kT kF hc.2⟩
def bif0 (op : Jvm.ClassFile.Cond) (a : mzG) : mzB1 := ⟨(fun C d p0 kT kF => decide (a.1.1 = 1) && mzcif0 op a.1.2.1 C d p0 kT kF, fun ls M KT KF => a.1.2.2 ls M (fun v1 M1 => match v1 with | .int a => (mzcmp op a 0 = true → KT M1) ∧ (mzcmp op a 0 = false → KF M1) | _ => False)), by
  intro C d p0 kT kF hc
  dsimp only at hc
  rw [Bool.and_eq_true] at hc
  have h := of_decide_eq_true hc.1
  exact mzC_if0 op (by have := a.2; rw [h] at this; exact this) C d p0 kT kF hc.2⟩
def band (pb : Nat) (a b : mzB1) : mzB1 := ⟨(mzcand pb a.1.1 b.1.1, fun ls M KT KF => a.1.2 ls M (fun M1 => b.1.2 ls M1 KT KF) KF), mzC_and pb (wa := a.1.2) (wb := b.1.2) a.2 b.2⟩
def bor (pb : Nat) (a b : mzB1) : mzB1 := ⟨(mzcor pb a.1.1 b.1.1, fun ls M KT KF => a.1.2 ls M KT (fun M1 => b.1.2 ls M1 KT KF)), mzC_or pb (wa := a.1.2) (wb := b.1.2) a.2 b.2⟩
def bnot (a : mzB1) : mzB1 := ⟨(mzcnot a.1.1, fun ls M KT KF => a.1.2 ls M KF KT), mzC_not a.2⟩
