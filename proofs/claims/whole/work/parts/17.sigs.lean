/-! functions of told arguments -/
def pfi_I (f : Int32 → mzM → Int32) : List Value → mzM → Int32 := fun as M => match as with
  | [.int a0] => f a0 M
  | _ => 0
theorem e_pfi_I (f : Int32 → mzM → Int32) (a0 : Int32) (M : mzM) : pfi_I f [.int a0] M = f a0 M := mzrf rfl
def pfj_I (f : Int32 → mzM → Int64) : List Value → mzM → Int64 := fun as M => match as with
  | [.int a0] => f a0 M
  | _ => 0
theorem e_pfj_I (f : Int32 → mzM → Int64) (a0 : Int32) (M : mzM) : pfj_I f [.int a0] M = f a0 M := mzrf rfl
def pfr_I (f : Int32 → mzM → Option Nat) : List Value → mzM → Option Nat := fun as M => match as with
  | [.int a0] => f a0 M
  | _ => none
theorem e_pfr_I (f : Int32 → mzM → Option Nat) (a0 : Int32) (M : mzM) : pfr_I f [.int a0] M = f a0 M := mzrf rfl
def po_I (f : Int32 → mzM → Prop) : List Value → mzM → Prop := fun as M => match as with
  | [.int a0] => f a0 M
  | _ => False
theorem e_po_I (f : Int32 → mzM → Prop) (a0 : Int32) (M : mzM) : po_I f [.int a0] M = f a0 M := mzrf rfl
theorem ppi_I {m : mzMt} {f : Int32 → mzM → Int32} {ok : Int32 → mzM → Prop} (h : ∀ (a0 : Int32) (M : mzM) (K : Value → mzM → Prop), ok a0 M → K (.int (f a0 M)) M → mzdo m [.int a0] M K) : ∀ (as : List Value) (M : mzM) (K : Value → mzM → Prop), po_I ok as M → K (.int (pfi_I f as M)) M → m.1.2.2.2.2.2.2.2 as M K := by
  intro as M K h1 h2
  unfold po_I at h1
  split at h1
  · exact h _  M K h1 h2
  · exact h1.elim
theorem ppj_I {m : mzMt} {f : Int32 → mzM → Int64} {ok : Int32 → mzM → Prop} (h : ∀ (a0 : Int32) (M : mzM) (K : Value → mzM → Prop), ok a0 M → K (.long (f a0 M)) M → mzdo m [.int a0] M K) : ∀ (as : List Value) (M : mzM) (K : Value → mzM → Prop), po_I ok as M → K (.long (pfj_I f as M)) M → m.1.2.2.2.2.2.2.2 as M K := by
  intro as M K h1 h2
  unfold po_I at h1
  split at h1
  · exact h _  M K h1 h2
  · exact h1.elim
theorem ppr_I {m : mzMt} {f : Int32 → mzM → Option Nat} {ok : Int32 → mzM → Prop} (h : ∀ (a0 : Int32) (M : mzM) (K : Value → mzM → Prop), ok a0 M → K (va_rf (f a0 M)) M → mzdo m [.int a0] M K) : ∀ (as : List Value) (M : mzM) (K : Value → mzM → Prop), po_I ok as M → K (va_rf (pfr_I f as M)) M → m.1.2.2.2.2.2.2.2 as M K := by
  intro as M K h1 h2
  unfold po_I at h1
  split at h1
  · exact h _  M K h1 h2
  · exact h1.elim
def pfi_II (f : Int32 → Int32 → mzM → Int32) : List Value → mzM → Int32 := fun as M => match as with
  | [.int a0, .int a1] => f a0 a1 M
  | _ => 0
theorem e_pfi_II (f : Int32 → Int32 → mzM → Int32) (a0 : Int32) (a1 : Int32) (M : mzM) : pfi_II f [.int a0, .int a1] M = f a0 a1 M := mzrf rfl
def pfj_II (f : Int32 → Int32 → mzM → Int64) : List Value → mzM → Int64 := fun as M => match as with
  | [.int a0, .int a1] => f a0 a1 M
  | _ => 0
theorem e_pfj_II (f : Int32 → Int32 → mzM → Int64) (a0 : Int32) (a1 : Int32) (M : mzM) : pfj_II f [.int a0, .int a1] M = f a0 a1 M := mzrf rfl
def pfr_II (f : Int32 → Int32 → mzM → Option Nat) : List Value → mzM → Option Nat := fun as M => match as with
  | [.int a0, .int a1] => f a0 a1 M
  | _ => none
theorem e_pfr_II (f : Int32 → Int32 → mzM → Option Nat) (a0 : Int32) (a1 : Int32) (M : mzM) : pfr_II f [.int a0, .int a1] M = f a0 a1 M := mzrf rfl
def po_II (f : Int32 → Int32 → mzM → Prop) : List Value → mzM → Prop := fun as M => match as with
  | [.int a0, .int a1] => f a0 a1 M
  | _ => False
theorem e_po_II (f : Int32 → Int32 → mzM → Prop) (a0 : Int32) (a1 : Int32) (M : mzM) : po_II f [.int a0, .int a1] M = f a0 a1 M := mzrf rfl
theorem ppi_II {m : mzMt} {f : Int32 → Int32 → mzM → Int32} {ok : Int32 → Int32 → mzM → Prop} (h : ∀ (a0 : Int32) (a1 : Int32) (M : mzM) (K : Value → mzM → Prop), ok a0 a1 M → K (.int (f a0 a1 M)) M → mzdo m [.int a0, .int a1] M K) : ∀ (as : List Value) (M : mzM) (K : Value → mzM → Prop), po_II ok as M → K (.int (pfi_II f as M)) M → m.1.2.2.2.2.2.2.2 as M K := by
  intro as M K h1 h2
  unfold po_II at h1
  split at h1
  · exact h _ _ M K h1 h2
  · exact h1.elim
theorem ppj_II {m : mzMt} {f : Int32 → Int32 → mzM → Int64} {ok : Int32 → Int32 → mzM → Prop} (h : ∀ (a0 : Int32) (a1 : Int32) (M : mzM) (K : Value → mzM → Prop), ok a0 a1 M → K (.long (f a0 a1 M)) M → mzdo m [.int a0, .int a1] M K) : ∀ (as : List Value) (M : mzM) (K : Value → mzM → Prop), po_II ok as M → K (.long (pfj_II f as M)) M → m.1.2.2.2.2.2.2.2 as M K := by
  intro as M K h1 h2
  unfold po_II at h1
  split at h1
  · exact h _ _ M K h1 h2
  · exact h1.elim
theorem ppr_II {m : mzMt} {f : Int32 → Int32 → mzM → Option Nat} {ok : Int32 → Int32 → mzM → Prop} (h : ∀ (a0 : Int32) (a1 : Int32) (M : mzM) (K : Value → mzM → Prop), ok a0 a1 M → K (va_rf (f a0 a1 M)) M → mzdo m [.int a0, .int a1] M K) : ∀ (as : List Value) (M : mzM) (K : Value → mzM → Prop), po_II ok as M → K (va_rf (pfr_II f as M)) M → m.1.2.2.2.2.2.2.2 as M K := by
  intro as M K h1 h2
  unfold po_II at h1
  split at h1
  · exact h _ _ M K h1 h2
  · exact h1.elim
def pfi_III (f : Int32 → Int32 → Int32 → mzM → Int32) : List Value → mzM → Int32 := fun as M => match as with
  | [.int a0, .int a1, .int a2] => f a0 a1 a2 M
  | _ => 0
theorem e_pfi_III (f : Int32 → Int32 → Int32 → mzM → Int32) (a0 : Int32) (a1 : Int32) (a2 : Int32) (M : mzM) : pfi_III f [.int a0, .int a1, .int a2] M = f a0 a1 a2 M := mzrf rfl
def pfj_III (f : Int32 → Int32 → Int32 → mzM → Int64) : List Value → mzM → Int64 := fun as M => match as with
  | [.int a0, .int a1, .int a2] => f a0 a1 a2 M
  | _ => 0
theorem e_pfj_III (f : Int32 → Int32 → Int32 → mzM → Int64) (a0 : Int32) (a1 : Int32) (a2 : Int32) (M : mzM) : pfj_III f [.int a0, .int a1, .int a2] M = f a0 a1 a2 M := mzrf rfl
def pfr_III (f : Int32 → Int32 → Int32 → mzM → Option Nat) : List Value → mzM → Option Nat := fun as M => match as with
  | [.int a0, .int a1, .int a2] => f a0 a1 a2 M
  | _ => none
theorem e_pfr_III (f : Int32 → Int32 → Int32 → mzM → Option Nat) (a0 : Int32) (a1 : Int32) (a2 : Int32) (M : mzM) : pfr_III f [.int a0, .int a1, .int a2] M = f a0 a1 a2 M := mzrf rfl
def po_III (f : Int32 → Int32 → Int32 → mzM → Prop) : List Value → mzM → Prop := fun as M => match as with
  | [.int a0, .int a1, .int a2] => f a0 a1 a2 M
  | _ => False
theorem e_po_III (f : Int32 → Int32 → Int32 → mzM → Prop) (a0 : Int32) (a1 : Int32) (a2 : Int32) (M : mzM) : po_III f [.int a0, .int a1, .int a2] M = f a0 a1 a2 M := mzrf rfl
theorem ppi_III {m : mzMt} {f : Int32 → Int32 → Int32 → mzM → Int32} {ok : Int32 → Int32 → Int32 → mzM → Prop} (h : ∀ (a0 : Int32) (a1 : Int32) (a2 : Int32) (M : mzM) (K : Value → mzM → Prop), ok a0 a1 a2 M → K (.int (f a0 a1 a2 M)) M → mzdo m [.int a0, .int a1, .int a2] M K) : ∀ (as : List Value) (M : mzM) (K : Value → mzM → Prop), po_III ok as M → K (.int (pfi_III f as M)) M → m.1.2.2.2.2.2.2.2 as M K := by
  intro as M K h1 h2
  unfold po_III at h1
  split at h1
  · exact h _ _ _ M K h1 h2
  · exact h1.elim
theorem ppj_III {m : mzMt} {f : Int32 → Int32 → Int32 → mzM → Int64} {ok : Int32 → Int32 → Int32 → mzM → Prop} (h : ∀ (a0 : Int32) (a1 : Int32) (a2 : Int32) (M : mzM) (K : Value → mzM → Prop), ok a0 a1 a2 M → K (.long (f a0 a1 a2 M)) M → mzdo m [.int a0, .int a1, .int a2] M K) : ∀ (as : List Value) (M : mzM) (K : Value → mzM → Prop), po_III ok as M → K (.long (pfj_III f as M)) M → m.1.2.2.2.2.2.2.2 as M K := by
  intro as M K h1 h2
  unfold po_III at h1
  split at h1
  · exact h _ _ _ M K h1 h2
  · exact h1.elim
theorem ppr_III {m : mzMt} {f : Int32 → Int32 → Int32 → mzM → Option Nat} {ok : Int32 → Int32 → Int32 → mzM → Prop} (h : ∀ (a0 : Int32) (a1 : Int32) (a2 : Int32) (M : mzM) (K : Value → mzM → Prop), ok a0 a1 a2 M → K (va_rf (f a0 a1 a2 M)) M → mzdo m [.int a0, .int a1, .int a2] M K) : ∀ (as : List Value) (M : mzM) (K : Value → mzM → Prop), po_III ok as M → K (va_rf (pfr_III f as M)) M → m.1.2.2.2.2.2.2.2 as M K := by
  intro as M K h1 h2
  unfold po_III at h1
  split at h1
  · exact h _ _ _ M K h1 h2
  · exact h1.elim
def pfi_IIII (f : Int32 → Int32 → Int32 → Int32 → mzM → Int32) : List Value → mzM → Int32 := fun as M => match as with
  | [.int a0, .int a1, .int a2, .int a3] => f a0 a1 a2 a3 M
  | _ => 0
theorem e_pfi_IIII (f : Int32 → Int32 → Int32 → Int32 → mzM → Int32) (a0 : Int32) (a1 : Int32) (a2 : Int32) (a3 : Int32) (M : mzM) : pfi_IIII f [.int a0, .int a1, .int a2, .int a3] M = f a0 a1 a2 a3 M := mzrf rfl
def pfj_IIII (f : Int32 → Int32 → Int32 → Int32 → mzM → Int64) : List Value → mzM → Int64 := fun as M => match as with
  | [.int a0, .int a1, .int a2, .int a3] => f a0 a1 a2 a3 M
  | _ => 0
theorem e_pfj_IIII (f : Int32 → Int32 → Int32 → Int32 → mzM → Int64) (a0 : Int32) (a1 : Int32) (a2 : Int32) (a3 : Int32) (M : mzM) : pfj_IIII f [.int a0, .int a1, .int a2, .int a3] M = f a0 a1 a2 a3 M := mzrf rfl
def pfr_IIII (f : Int32 → Int32 → Int32 → Int32 → mzM → Option Nat) : List Value → mzM → Option Nat := fun as M => match as with
  | [.int a0, .int a1, .int a2, .int a3] => f a0 a1 a2 a3 M
  | _ => none
theorem e_pfr_IIII (f : Int32 → Int32 → Int32 → Int32 → mzM → Option Nat) (a0 : Int32) (a1 : Int32) (a2 : Int32) (a3 : Int32) (M : mzM) : pfr_IIII f [.int a0, .int a1, .int a2, .int a3] M = f a0 a1 a2 a3 M := mzrf rfl
def po_IIII (f : Int32 → Int32 → Int32 → Int32 → mzM → Prop) : List Value → mzM → Prop := fun as M => match as with
  | [.int a0, .int a1, .int a2, .int a3] => f a0 a1 a2 a3 M
  | _ => False
theorem e_po_IIII (f : Int32 → Int32 → Int32 → Int32 → mzM → Prop) (a0 : Int32) (a1 : Int32) (a2 : Int32) (a3 : Int32) (M : mzM) : po_IIII f [.int a0, .int a1, .int a2, .int a3] M = f a0 a1 a2 a3 M := mzrf rfl
theorem ppi_IIII {m : mzMt} {f : Int32 → Int32 → Int32 → Int32 → mzM → Int32} {ok : Int32 → Int32 → Int32 → Int32 → mzM → Prop} (h : ∀ (a0 : Int32) (a1 : Int32) (a2 : Int32) (a3 : Int32) (M : mzM) (K : Value → mzM → Prop), ok a0 a1 a2 a3 M → K (.int (f a0 a1 a2 a3 M)) M → mzdo m [.int a0, .int a1, .int a2, .int a3] M K) : ∀ (as : List Value) (M : mzM) (K : Value → mzM → Prop), po_IIII ok as M → K (.int (pfi_IIII f as M)) M → m.1.2.2.2.2.2.2.2 as M K := by
  intro as M K h1 h2
  unfold po_IIII at h1
  split at h1
  · exact h _ _ _ _ M K h1 h2
  · exact h1.elim
theorem ppj_IIII {m : mzMt} {f : Int32 → Int32 → Int32 → Int32 → mzM → Int64} {ok : Int32 → Int32 → Int32 → Int32 → mzM → Prop} (h : ∀ (a0 : Int32) (a1 : Int32) (a2 : Int32) (a3 : Int32) (M : mzM) (K : Value → mzM → Prop), ok a0 a1 a2 a3 M → K (.long (f a0 a1 a2 a3 M)) M → mzdo m [.int a0, .int a1, .int a2, .int a3] M K) : ∀ (as : List Value) (M : mzM) (K : Value → mzM → Prop), po_IIII ok as M → K (.long (pfj_IIII f as M)) M → m.1.2.2.2.2.2.2.2 as M K := by
  intro as M K h1 h2
  unfold po_IIII at h1
  split at h1
  · exact h _ _ _ _ M K h1 h2
  · exact h1.elim
theorem ppr_IIII {m : mzMt} {f : Int32 → Int32 → Int32 → Int32 → mzM → Option Nat} {ok : Int32 → Int32 → Int32 → Int32 → mzM → Prop} (h : ∀ (a0 : Int32) (a1 : Int32) (a2 : Int32) (a3 : Int32) (M : mzM) (K : Value → mzM → Prop), ok a0 a1 a2 a3 M → K (va_rf (f a0 a1 a2 a3 M)) M → mzdo m [.int a0, .int a1, .int a2, .int a3] M K) : ∀ (as : List Value) (M : mzM) (K : Value → mzM → Prop), po_IIII ok as M → K (va_rf (pfr_IIII f as M)) M → m.1.2.2.2.2.2.2.2 as M K := by
  intro as M K h1 h2
  unfold po_IIII at h1
  split at h1
  · exact h _ _ _ _ M K h1 h2
  · exact h1.elim
def pfi_IIIII (f : Int32 → Int32 → Int32 → Int32 → Int32 → mzM → Int32) : List Value → mzM → Int32 := fun as M => match as with
  | [.int a0, .int a1, .int a2, .int a3, .int a4] => f a0 a1 a2 a3 a4 M
  | _ => 0
theorem e_pfi_IIIII (f : Int32 → Int32 → Int32 → Int32 → Int32 → mzM → Int32) (a0 : Int32) (a1 : Int32) (a2 : Int32) (a3 : Int32) (a4 : Int32) (M : mzM) : pfi_IIIII f [.int a0, .int a1, .int a2, .int a3, .int a4] M = f a0 a1 a2 a3 a4 M := mzrf rfl
def pfj_IIIII (f : Int32 → Int32 → Int32 → Int32 → Int32 → mzM → Int64) : List Value → mzM → Int64 := fun as M => match as with
  | [.int a0, .int a1, .int a2, .int a3, .int a4] => f a0 a1 a2 a3 a4 M
  | _ => 0
theorem e_pfj_IIIII (f : Int32 → Int32 → Int32 → Int32 → Int32 → mzM → Int64) (a0 : Int32) (a1 : Int32) (a2 : Int32) (a3 : Int32) (a4 : Int32) (M : mzM) : pfj_IIIII f [.int a0, .int a1, .int a2, .int a3, .int a4] M = f a0 a1 a2 a3 a4 M := mzrf rfl
def pfr_IIIII (f : Int32 → Int32 → Int32 → Int32 → Int32 → mzM → Option Nat) : List Value → mzM → Option Nat := fun as M => match as with
  | [.int a0, .int a1, .int a2, .int a3, .int a4] => f a0 a1 a2 a3 a4 M
  | _ => none
theorem e_pfr_IIIII (f : Int32 → Int32 → Int32 → Int32 → Int32 → mzM → Option Nat) (a0 : Int32) (a1 : Int32) (a2 : Int32) (a3 : Int32) (a4 : Int32) (M : mzM) : pfr_IIIII f [.int a0, .int a1, .int a2, .int a3, .int a4] M = f a0 a1 a2 a3 a4 M := mzrf rfl
def po_IIIII (f : Int32 → Int32 → Int32 → Int32 → Int32 → mzM → Prop) : List Value → mzM → Prop := fun as M => match as with
  | [.int a0, .int a1, .int a2, .int a3, .int a4] => f a0 a1 a2 a3 a4 M
  | _ => False
theorem e_po_IIIII (f : Int32 → Int32 → Int32 → Int32 → Int32 → mzM → Prop) (a0 : Int32) (a1 : Int32) (a2 : Int32) (a3 : Int32) (a4 : Int32) (M : mzM) : po_IIIII f [.int a0, .int a1, .int a2, .int a3, .int a4] M = f a0 a1 a2 a3 a4 M := mzrf rfl
theorem ppi_IIIII {m : mzMt} {f : Int32 → Int32 → Int32 → Int32 → Int32 → mzM → Int32} {ok : Int32 → Int32 → Int32 → Int32 → Int32 → mzM → Prop} (h : ∀ (a0 : Int32) (a1 : Int32) (a2 : Int32) (a3 : Int32) (a4 : Int32) (M : mzM) (K : Value → mzM → Prop), ok a0 a1 a2 a3 a4 M → K (.int (f a0 a1 a2 a3 a4 M)) M → mzdo m [.int a0, .int a1, .int a2, .int a3, .int a4] M K) : ∀ (as : List Value) (M : mzM) (K : Value → mzM → Prop), po_IIIII ok as M → K (.int (pfi_IIIII f as M)) M → m.1.2.2.2.2.2.2.2 as M K := by
  intro as M K h1 h2
  unfold po_IIIII at h1
  split at h1
  · exact h _ _ _ _ _ M K h1 h2
  · exact h1.elim
theorem ppj_IIIII {m : mzMt} {f : Int32 → Int32 → Int32 → Int32 → Int32 → mzM → Int64} {ok : Int32 → Int32 → Int32 → Int32 → Int32 → mzM → Prop} (h : ∀ (a0 : Int32) (a1 : Int32) (a2 : Int32) (a3 : Int32) (a4 : Int32) (M : mzM) (K : Value → mzM → Prop), ok a0 a1 a2 a3 a4 M → K (.long (f a0 a1 a2 a3 a4 M)) M → mzdo m [.int a0, .int a1, .int a2, .int a3, .int a4] M K) : ∀ (as : List Value) (M : mzM) (K : Value → mzM → Prop), po_IIIII ok as M → K (.long (pfj_IIIII f as M)) M → m.1.2.2.2.2.2.2.2 as M K := by
  intro as M K h1 h2
  unfold po_IIIII at h1
  split at h1
  · exact h _ _ _ _ _ M K h1 h2
  · exact h1.elim
theorem ppr_IIIII {m : mzMt} {f : Int32 → Int32 → Int32 → Int32 → Int32 → mzM → Option Nat} {ok : Int32 → Int32 → Int32 → Int32 → Int32 → mzM → Prop} (h : ∀ (a0 : Int32) (a1 : Int32) (a2 : Int32) (a3 : Int32) (a4 : Int32) (M : mzM) (K : Value → mzM → Prop), ok a0 a1 a2 a3 a4 M → K (va_rf (f a0 a1 a2 a3 a4 M)) M → mzdo m [.int a0, .int a1, .int a2, .int a3, .int a4] M K) : ∀ (as : List Value) (M : mzM) (K : Value → mzM → Prop), po_IIIII ok as M → K (va_rf (pfr_IIIII f as M)) M → m.1.2.2.2.2.2.2.2 as M K := by
  intro as M K h1 h2
  unfold po_IIIII at h1
  split at h1
  · exact h _ _ _ _ _ M K h1 h2
  · exact h1.elim
def pfi_R (f : Nat → mzM → Int32) : List Value → mzM → Int32 := fun as M => match as with
  | [.ref a0] => f a0 M
  | _ => 0
theorem e_pfi_R (f : Nat → mzM → Int32) (a0 : Nat) (M : mzM) : pfi_R f [.ref a0] M = f a0 M := mzrf rfl
def pfj_R (f : Nat → mzM → Int64) : List Value → mzM → Int64 := fun as M => match as with
  | [.ref a0] => f a0 M
  | _ => 0
theorem e_pfj_R (f : Nat → mzM → Int64) (a0 : Nat) (M : mzM) : pfj_R f [.ref a0] M = f a0 M := mzrf rfl
def pfr_R (f : Nat → mzM → Option Nat) : List Value → mzM → Option Nat := fun as M => match as with
  | [.ref a0] => f a0 M
  | _ => none
theorem e_pfr_R (f : Nat → mzM → Option Nat) (a0 : Nat) (M : mzM) : pfr_R f [.ref a0] M = f a0 M := mzrf rfl
def po_R (f : Nat → mzM → Prop) : List Value → mzM → Prop := fun as M => match as with
  | [.ref a0] => f a0 M
  | _ => False
theorem e_po_R (f : Nat → mzM → Prop) (a0 : Nat) (M : mzM) : po_R f [.ref a0] M = f a0 M := mzrf rfl
theorem ppi_R {m : mzMt} {f : Nat → mzM → Int32} {ok : Nat → mzM → Prop} (h : ∀ (a0 : Nat) (M : mzM) (K : Value → mzM → Prop), ok a0 M → K (.int (f a0 M)) M → mzdo m [.ref a0] M K) : ∀ (as : List Value) (M : mzM) (K : Value → mzM → Prop), po_R ok as M → K (.int (pfi_R f as M)) M → m.1.2.2.2.2.2.2.2 as M K := by
  intro as M K h1 h2
  unfold po_R at h1
  split at h1
  · exact h _  M K h1 h2
  · exact h1.elim
theorem ppj_R {m : mzMt} {f : Nat → mzM → Int64} {ok : Nat → mzM → Prop} (h : ∀ (a0 : Nat) (M : mzM) (K : Value → mzM → Prop), ok a0 M → K (.long (f a0 M)) M → mzdo m [.ref a0] M K) : ∀ (as : List Value) (M : mzM) (K : Value → mzM → Prop), po_R ok as M → K (.long (pfj_R f as M)) M → m.1.2.2.2.2.2.2.2 as M K := by
  intro as M K h1 h2
  unfold po_R at h1
  split at h1
  · exact h _  M K h1 h2
  · exact h1.elim
theorem ppr_R {m : mzMt} {f : Nat → mzM → Option Nat} {ok : Nat → mzM → Prop} (h : ∀ (a0 : Nat) (M : mzM) (K : Value → mzM → Prop), ok a0 M → K (va_rf (f a0 M)) M → mzdo m [.ref a0] M K) : ∀ (as : List Value) (M : mzM) (K : Value → mzM → Prop), po_R ok as M → K (va_rf (pfr_R f as M)) M → m.1.2.2.2.2.2.2.2 as M K := by
  intro as M K h1 h2
  unfold po_R at h1
  split at h1
  · exact h _  M K h1 h2
  · exact h1.elim
def pfi_RI (f : Nat → Int32 → mzM → Int32) : List Value → mzM → Int32 := fun as M => match as with
  | [.ref a0, .int a1] => f a0 a1 M
  | _ => 0
theorem e_pfi_RI (f : Nat → Int32 → mzM → Int32) (a0 : Nat) (a1 : Int32) (M : mzM) : pfi_RI f [.ref a0, .int a1] M = f a0 a1 M := mzrf rfl
def pfj_RI (f : Nat → Int32 → mzM → Int64) : List Value → mzM → Int64 := fun as M => match as with
  | [.ref a0, .int a1] => f a0 a1 M
  | _ => 0
theorem e_pfj_RI (f : Nat → Int32 → mzM → Int64) (a0 : Nat) (a1 : Int32) (M : mzM) : pfj_RI f [.ref a0, .int a1] M = f a0 a1 M := mzrf rfl
def pfr_RI (f : Nat → Int32 → mzM → Option Nat) : List Value → mzM → Option Nat := fun as M => match as with
  | [.ref a0, .int a1] => f a0 a1 M
  | _ => none
theorem e_pfr_RI (f : Nat → Int32 → mzM → Option Nat) (a0 : Nat) (a1 : Int32) (M : mzM) : pfr_RI f [.ref a0, .int a1] M = f a0 a1 M := mzrf rfl
def po_RI (f : Nat → Int32 → mzM → Prop) : List Value → mzM → Prop := fun as M => match as with
  | [.ref a0, .int a1] => f a0 a1 M
  | _ => False
theorem e_po_RI (f : Nat → Int32 → mzM → Prop) (a0 : Nat) (a1 : Int32) (M : mzM) : po_RI f [.ref a0, .int a1] M = f a0 a1 M := mzrf rfl
theorem ppi_RI {m : mzMt} {f : Nat → Int32 → mzM → Int32} {ok : Nat → Int32 → mzM → Prop} (h : ∀ (a0 : Nat) (a1 : Int32) (M : mzM) (K : Value → mzM → Prop), ok a0 a1 M → K (.int (f a0 a1 M)) M → mzdo m [.ref a0, .int a1] M K) : ∀ (as : List Value) (M : mzM) (K : Value → mzM → Prop), po_RI ok as M → K (.int (pfi_RI f as M)) M → m.1.2.2.2.2.2.2.2 as M K := by
  intro as M K h1 h2
  unfold po_RI at h1
  split at h1
  · exact h _ _ M K h1 h2
  · exact h1.elim
theorem ppj_RI {m : mzMt} {f : Nat → Int32 → mzM → Int64} {ok : Nat → Int32 → mzM → Prop} (h : ∀ (a0 : Nat) (a1 : Int32) (M : mzM) (K : Value → mzM → Prop), ok a0 a1 M → K (.long (f a0 a1 M)) M → mzdo m [.ref a0, .int a1] M K) : ∀ (as : List Value) (M : mzM) (K : Value → mzM → Prop), po_RI ok as M → K (.long (pfj_RI f as M)) M → m.1.2.2.2.2.2.2.2 as M K := by
  intro as M K h1 h2
  unfold po_RI at h1
  split at h1
  · exact h _ _ M K h1 h2
  · exact h1.elim
theorem ppr_RI {m : mzMt} {f : Nat → Int32 → mzM → Option Nat} {ok : Nat → Int32 → mzM → Prop} (h : ∀ (a0 : Nat) (a1 : Int32) (M : mzM) (K : Value → mzM → Prop), ok a0 a1 M → K (va_rf (f a0 a1 M)) M → mzdo m [.ref a0, .int a1] M K) : ∀ (as : List Value) (M : mzM) (K : Value → mzM → Prop), po_RI ok as M → K (va_rf (pfr_RI f as M)) M → m.1.2.2.2.2.2.2.2 as M K := by
  intro as M K h1 h2
  unfold po_RI at h1
  split at h1
  · exact h _ _ M K h1 h2
  · exact h1.elim
def pfi_RII (f : Nat → Int32 → Int32 → mzM → Int32) : List Value → mzM → Int32 := fun as M => match as with
  | [.ref a0, .int a1, .int a2] => f a0 a1 a2 M
  | _ => 0
theorem e_pfi_RII (f : Nat → Int32 → Int32 → mzM → Int32) (a0 : Nat) (a1 : Int32) (a2 : Int32) (M : mzM) : pfi_RII f [.ref a0, .int a1, .int a2] M = f a0 a1 a2 M := mzrf rfl
def pfj_RII (f : Nat → Int32 → Int32 → mzM → Int64) : List Value → mzM → Int64 := fun as M => match as with
  | [.ref a0, .int a1, .int a2] => f a0 a1 a2 M
  | _ => 0
theorem e_pfj_RII (f : Nat → Int32 → Int32 → mzM → Int64) (a0 : Nat) (a1 : Int32) (a2 : Int32) (M : mzM) : pfj_RII f [.ref a0, .int a1, .int a2] M = f a0 a1 a2 M := mzrf rfl
def pfr_RII (f : Nat → Int32 → Int32 → mzM → Option Nat) : List Value → mzM → Option Nat := fun as M => match as with
  | [.ref a0, .int a1, .int a2] => f a0 a1 a2 M
  | _ => none
theorem e_pfr_RII (f : Nat → Int32 → Int32 → mzM → Option Nat) (a0 : Nat) (a1 : Int32) (a2 : Int32) (M : mzM) : pfr_RII f [.ref a0, .int a1, .int a2] M = f a0 a1 a2 M := mzrf rfl
def po_RII (f : Nat → Int32 → Int32 → mzM → Prop) : List Value → mzM → Prop := fun as M => match as with
  | [.ref a0, .int a1, .int a2] => f a0 a1 a2 M
  | _ => False
theorem e_po_RII (f : Nat → Int32 → Int32 → mzM → Prop) (a0 : Nat) (a1 : Int32) (a2 : Int32) (M : mzM) : po_RII f [.ref a0, .int a1, .int a2] M = f a0 a1 a2 M := mzrf rfl
theorem ppi_RII {m : mzMt} {f : Nat → Int32 → Int32 → mzM → Int32} {ok : Nat → Int32 → Int32 → mzM → Prop} (h : ∀ (a0 : Nat) (a1 : Int32) (a2 : Int32) (M : mzM) (K : Value → mzM → Prop), ok a0 a1 a2 M → K (.int (f a0 a1 a2 M)) M → mzdo m [.ref a0, .int a1, .int a2] M K) : ∀ (as : List Value) (M : mzM) (K : Value → mzM → Prop), po_RII ok as M → K (.int (pfi_RII f as M)) M → m.1.2.2.2.2.2.2.2 as M K := by
  intro as M K h1 h2
  unfold po_RII at h1
  split at h1
  · exact h _ _ _ M K h1 h2
  · exact h1.elim
theorem ppj_RII {m : mzMt} {f : Nat → Int32 → Int32 → mzM → Int64} {ok : Nat → Int32 → Int32 → mzM → Prop} (h : ∀ (a0 : Nat) (a1 : Int32) (a2 : Int32) (M : mzM) (K : Value → mzM → Prop), ok a0 a1 a2 M → K (.long (f a0 a1 a2 M)) M → mzdo m [.ref a0, .int a1, .int a2] M K) : ∀ (as : List Value) (M : mzM) (K : Value → mzM → Prop), po_RII ok as M → K (.long (pfj_RII f as M)) M → m.1.2.2.2.2.2.2.2 as M K := by
  intro as M K h1 h2
  unfold po_RII at h1
  split at h1
  · exact h _ _ _ M K h1 h2
  · exact h1.elim
theorem ppr_RII {m : mzMt} {f : Nat → Int32 → Int32 → mzM → Option Nat} {ok : Nat → Int32 → Int32 → mzM → Prop} (h : ∀ (a0 : Nat) (a1 : Int32) (a2 : Int32) (M : mzM) (K : Value → mzM → Prop), ok a0 a1 a2 M → K (va_rf (f a0 a1 a2 M)) M → mzdo m [.ref a0, .int a1, .int a2] M K) : ∀ (as : List Value) (M : mzM) (K : Value → mzM → Prop), po_RII ok as M → K (va_rf (pfr_RII f as M)) M → m.1.2.2.2.2.2.2.2 as M K := by
  intro as M K h1 h2
  unfold po_RII at h1
  split at h1
  · exact h _ _ _ M K h1 h2
  · exact h1.elim
def pfi_RIII (f : Nat → Int32 → Int32 → Int32 → mzM → Int32) : List Value → mzM → Int32 := fun as M => match as with
  | [.ref a0, .int a1, .int a2, .int a3] => f a0 a1 a2 a3 M
  | _ => 0
theorem e_pfi_RIII (f : Nat → Int32 → Int32 → Int32 → mzM → Int32) (a0 : Nat) (a1 : Int32) (a2 : Int32) (a3 : Int32) (M : mzM) : pfi_RIII f [.ref a0, .int a1, .int a2, .int a3] M = f a0 a1 a2 a3 M := mzrf rfl
def pfj_RIII (f : Nat → Int32 → Int32 → Int32 → mzM → Int64) : List Value → mzM → Int64 := fun as M => match as with
  | [.ref a0, .int a1, .int a2, .int a3] => f a0 a1 a2 a3 M
  | _ => 0
theorem e_pfj_RIII (f : Nat → Int32 → Int32 → Int32 → mzM → Int64) (a0 : Nat) (a1 : Int32) (a2 : Int32) (a3 : Int32) (M : mzM) : pfj_RIII f [.ref a0, .int a1, .int a2, .int a3] M = f a0 a1 a2 a3 M := mzrf rfl
def pfr_RIII (f : Nat → Int32 → Int32 → Int32 → mzM → Option Nat) : List Value → mzM → Option Nat := fun as M => match as with
  | [.ref a0, .int a1, .int a2, .int a3] => f a0 a1 a2 a3 M
  | _ => none
theorem e_pfr_RIII (f : Nat → Int32 → Int32 → Int32 → mzM → Option Nat) (a0 : Nat) (a1 : Int32) (a2 : Int32) (a3 : Int32) (M : mzM) : pfr_RIII f [.ref a0, .int a1, .int a2, .int a3] M = f a0 a1 a2 a3 M := mzrf rfl
def po_RIII (f : Nat → Int32 → Int32 → Int32 → mzM → Prop) : List Value → mzM → Prop := fun as M => match as with
  | [.ref a0, .int a1, .int a2, .int a3] => f a0 a1 a2 a3 M
  | _ => False
theorem e_po_RIII (f : Nat → Int32 → Int32 → Int32 → mzM → Prop) (a0 : Nat) (a1 : Int32) (a2 : Int32) (a3 : Int32) (M : mzM) : po_RIII f [.ref a0, .int a1, .int a2, .int a3] M = f a0 a1 a2 a3 M := mzrf rfl
theorem ppi_RIII {m : mzMt} {f : Nat → Int32 → Int32 → Int32 → mzM → Int32} {ok : Nat → Int32 → Int32 → Int32 → mzM → Prop} (h : ∀ (a0 : Nat) (a1 : Int32) (a2 : Int32) (a3 : Int32) (M : mzM) (K : Value → mzM → Prop), ok a0 a1 a2 a3 M → K (.int (f a0 a1 a2 a3 M)) M → mzdo m [.ref a0, .int a1, .int a2, .int a3] M K) : ∀ (as : List Value) (M : mzM) (K : Value → mzM → Prop), po_RIII ok as M → K (.int (pfi_RIII f as M)) M → m.1.2.2.2.2.2.2.2 as M K := by
  intro as M K h1 h2
  unfold po_RIII at h1
  split at h1
  · exact h _ _ _ _ M K h1 h2
  · exact h1.elim
theorem ppj_RIII {m : mzMt} {f : Nat → Int32 → Int32 → Int32 → mzM → Int64} {ok : Nat → Int32 → Int32 → Int32 → mzM → Prop} (h : ∀ (a0 : Nat) (a1 : Int32) (a2 : Int32) (a3 : Int32) (M : mzM) (K : Value → mzM → Prop), ok a0 a1 a2 a3 M → K (.long (f a0 a1 a2 a3 M)) M → mzdo m [.ref a0, .int a1, .int a2, .int a3] M K) : ∀ (as : List Value) (M : mzM) (K : Value → mzM → Prop), po_RIII ok as M → K (.long (pfj_RIII f as M)) M → m.1.2.2.2.2.2.2.2 as M K := by
  intro as M K h1 h2
  unfold po_RIII at h1
  split at h1
  · exact h _ _ _ _ M K h1 h2
  · exact h1.elim
theorem ppr_RIII {m : mzMt} {f : Nat → Int32 → Int32 → Int32 → mzM → Option Nat} {ok : Nat → Int32 → Int32 → Int32 → mzM → Prop} (h : ∀ (a0 : Nat) (a1 : Int32) (a2 : Int32) (a3 : Int32) (M : mzM) (K : Value → mzM → Prop), ok a0 a1 a2 a3 M → K (va_rf (f a0 a1 a2 a3 M)) M → mzdo m [.ref a0, .int a1, .int a2, .int a3] M K) : ∀ (as : List Value) (M : mzM) (K : Value → mzM → Prop), po_RIII ok as M → K (va_rf (pfr_RIII f as M)) M → m.1.2.2.2.2.2.2.2 as M K := by
  intro as M K h1 h2
  unfold po_RIII at h1
  split at h1
  · exact h _ _ _ _ M K h1 h2
  · exact h1.elim
def pfi_RIIII (f : Nat → Int32 → Int32 → Int32 → Int32 → mzM → Int32) : List Value → mzM → Int32 := fun as M => match as with
  | [.ref a0, .int a1, .int a2, .int a3, .int a4] => f a0 a1 a2 a3 a4 M
  | _ => 0
theorem e_pfi_RIIII (f : Nat → Int32 → Int32 → Int32 → Int32 → mzM → Int32) (a0 : Nat) (a1 : Int32) (a2 : Int32) (a3 : Int32) (a4 : Int32) (M : mzM) : pfi_RIIII f [.ref a0, .int a1, .int a2, .int a3, .int a4] M = f a0 a1 a2 a3 a4 M := mzrf rfl
def pfj_RIIII (f : Nat → Int32 → Int32 → Int32 → Int32 → mzM → Int64) : List Value → mzM → Int64 := fun as M => match as with
  | [.ref a0, .int a1, .int a2, .int a3, .int a4] => f a0 a1 a2 a3 a4 M
  | _ => 0
theorem e_pfj_RIIII (f : Nat → Int32 → Int32 → Int32 → Int32 → mzM → Int64) (a0 : Nat) (a1 : Int32) (a2 : Int32) (a3 : Int32) (a4 : Int32) (M : mzM) : pfj_RIIII f [.ref a0, .int a1, .int a2, .int a3, .int a4] M = f a0 a1 a2 a3 a4 M := mzrf rfl
def pfr_RIIII (f : Nat → Int32 → Int32 → Int32 → Int32 → mzM → Option Nat) : List Value → mzM → Option Nat := fun as M => match as with
  | [.ref a0, .int a1, .int a2, .int a3, .int a4] => f a0 a1 a2 a3 a4 M
  | _ => none
theorem e_pfr_RIIII (f : Nat → Int32 → Int32 → Int32 → Int32 → mzM → Option Nat) (a0 : Nat) (a1 : Int32) (a2 : Int32) (a3 : Int32) (a4 : Int32) (M : mzM) : pfr_RIIII f [.ref a0, .int a1, .int a2, .int a3, .int a4] M = f a0 a1 a2 a3 a4 M := mzrf rfl
def po_RIIII (f : Nat → Int32 → Int32 → Int32 → Int32 → mzM → Prop) : List Value → mzM → Prop := fun as M => match as with
  | [.ref a0, .int a1, .int a2, .int a3, .int a4] => f a0 a1 a2 a3 a4 M
  | _ => False
theorem e_po_RIIII (f : Nat → Int32 → Int32 → Int32 → Int32 → mzM → Prop) (a0 : Nat) (a1 : Int32) (a2 : Int32) (a3 : Int32) (a4 : Int32) (M : mzM) : po_RIIII f [.ref a0, .int a1, .int a2, .int a3, .int a4] M = f a0 a1 a2 a3 a4 M := mzrf rfl
theorem ppi_RIIII {m : mzMt} {f : Nat → Int32 → Int32 → Int32 → Int32 → mzM → Int32} {ok : Nat → Int32 → Int32 → Int32 → Int32 → mzM → Prop} (h : ∀ (a0 : Nat) (a1 : Int32) (a2 : Int32) (a3 : Int32) (a4 : Int32) (M : mzM) (K : Value → mzM → Prop), ok a0 a1 a2 a3 a4 M → K (.int (f a0 a1 a2 a3 a4 M)) M → mzdo m [.ref a0, .int a1, .int a2, .int a3, .int a4] M K) : ∀ (as : List Value) (M : mzM) (K : Value → mzM → Prop), po_RIIII ok as M → K (.int (pfi_RIIII f as M)) M → m.1.2.2.2.2.2.2.2 as M K := by
  intro as M K h1 h2
  unfold po_RIIII at h1
  split at h1
  · exact h _ _ _ _ _ M K h1 h2
  · exact h1.elim
theorem ppj_RIIII {m : mzMt} {f : Nat → Int32 → Int32 → Int32 → Int32 → mzM → Int64} {ok : Nat → Int32 → Int32 → Int32 → Int32 → mzM → Prop} (h : ∀ (a0 : Nat) (a1 : Int32) (a2 : Int32) (a3 : Int32) (a4 : Int32) (M : mzM) (K : Value → mzM → Prop), ok a0 a1 a2 a3 a4 M → K (.long (f a0 a1 a2 a3 a4 M)) M → mzdo m [.ref a0, .int a1, .int a2, .int a3, .int a4] M K) : ∀ (as : List Value) (M : mzM) (K : Value → mzM → Prop), po_RIIII ok as M → K (.long (pfj_RIIII f as M)) M → m.1.2.2.2.2.2.2.2 as M K := by
  intro as M K h1 h2
  unfold po_RIIII at h1
  split at h1
  · exact h _ _ _ _ _ M K h1 h2
  · exact h1.elim
theorem ppr_RIIII {m : mzMt} {f : Nat → Int32 → Int32 → Int32 → Int32 → mzM → Option Nat} {ok : Nat → Int32 → Int32 → Int32 → Int32 → mzM → Prop} (h : ∀ (a0 : Nat) (a1 : Int32) (a2 : Int32) (a3 : Int32) (a4 : Int32) (M : mzM) (K : Value → mzM → Prop), ok a0 a1 a2 a3 a4 M → K (va_rf (f a0 a1 a2 a3 a4 M)) M → mzdo m [.ref a0, .int a1, .int a2, .int a3, .int a4] M K) : ∀ (as : List Value) (M : mzM) (K : Value → mzM → Prop), po_RIIII ok as M → K (va_rf (pfr_RIIII f as M)) M → m.1.2.2.2.2.2.2.2 as M K := by
  intro as M K h1 h2
  unfold po_RIIII at h1
  split at h1
  · exact h _ _ _ _ _ M K h1 h2
  · exact h1.elim
def pfi_RIIIII (f : Nat → Int32 → Int32 → Int32 → Int32 → Int32 → mzM → Int32) : List Value → mzM → Int32 := fun as M => match as with
  | [.ref a0, .int a1, .int a2, .int a3, .int a4, .int a5] => f a0 a1 a2 a3 a4 a5 M
  | _ => 0
theorem e_pfi_RIIIII (f : Nat → Int32 → Int32 → Int32 → Int32 → Int32 → mzM → Int32) (a0 : Nat) (a1 : Int32) (a2 : Int32) (a3 : Int32) (a4 : Int32) (a5 : Int32) (M : mzM) : pfi_RIIIII f [.ref a0, .int a1, .int a2, .int a3, .int a4, .int a5] M = f a0 a1 a2 a3 a4 a5 M := mzrf rfl
def pfj_RIIIII (f : Nat → Int32 → Int32 → Int32 → Int32 → Int32 → mzM → Int64) : List Value → mzM → Int64 := fun as M => match as with
  | [.ref a0, .int a1, .int a2, .int a3, .int a4, .int a5] => f a0 a1 a2 a3 a4 a5 M
  | _ => 0
theorem e_pfj_RIIIII (f : Nat → Int32 → Int32 → Int32 → Int32 → Int32 → mzM → Int64) (a0 : Nat) (a1 : Int32) (a2 : Int32) (a3 : Int32) (a4 : Int32) (a5 : Int32) (M : mzM) : pfj_RIIIII f [.ref a0, .int a1, .int a2, .int a3, .int a4, .int a5] M = f a0 a1 a2 a3 a4 a5 M := mzrf rfl
def pfr_RIIIII (f : Nat → Int32 → Int32 → Int32 → Int32 → Int32 → mzM → Option Nat) : List Value → mzM → Option Nat := fun as M => match as with
  | [.ref a0, .int a1, .int a2, .int a3, .int a4, .int a5] => f a0 a1 a2 a3 a4 a5 M
  | _ => none
theorem e_pfr_RIIIII (f : Nat → Int32 → Int32 → Int32 → Int32 → Int32 → mzM → Option Nat) (a0 : Nat) (a1 : Int32) (a2 : Int32) (a3 : Int32) (a4 : Int32) (a5 : Int32) (M : mzM) : pfr_RIIIII f [.ref a0, .int a1, .int a2, .int a3, .int a4, .int a5] M = f a0 a1 a2 a3 a4 a5 M := mzrf rfl
def po_RIIIII (f : Nat → Int32 → Int32 → Int32 → Int32 → Int32 → mzM → Prop) : List Value → mzM → Prop := fun as M => match as with
  | [.ref a0, .int a1, .int a2, .int a3, .int a4, .int a5] => f a0 a1 a2 a3 a4 a5 M
  | _ => False
theorem e_po_RIIIII (f : Nat → Int32 → Int32 → Int32 → Int32 → Int32 → mzM → Prop) (a0 : Nat) (a1 : Int32) (a2 : Int32) (a3 : Int32) (a4 : Int32) (a5 : Int32) (M : mzM) : po_RIIIII f [.ref a0, .int a1, .int a2, .int a3, .int a4, .int a5] M = f a0 a1 a2 a3 a4 a5 M := mzrf rfl
theorem ppi_RIIIII {m : mzMt} {f : Nat → Int32 → Int32 → Int32 → Int32 → Int32 → mzM → Int32} {ok : Nat → Int32 → Int32 → Int32 → Int32 → Int32 → mzM → Prop} (h : ∀ (a0 : Nat) (a1 : Int32) (a2 : Int32) (a3 : Int32) (a4 : Int32) (a5 : Int32) (M : mzM) (K : Value → mzM → Prop), ok a0 a1 a2 a3 a4 a5 M → K (.int (f a0 a1 a2 a3 a4 a5 M)) M → mzdo m [.ref a0, .int a1, .int a2, .int a3, .int a4, .int a5] M K) : ∀ (as : List Value) (M : mzM) (K : Value → mzM → Prop), po_RIIIII ok as M → K (.int (pfi_RIIIII f as M)) M → m.1.2.2.2.2.2.2.2 as M K := by
  intro as M K h1 h2
  unfold po_RIIIII at h1
  split at h1
  · exact h _ _ _ _ _ _ M K h1 h2
  · exact h1.elim
theorem ppj_RIIIII {m : mzMt} {f : Nat → Int32 → Int32 → Int32 → Int32 → Int32 → mzM → Int64} {ok : Nat → Int32 → Int32 → Int32 → Int32 → Int32 → mzM → Prop} (h : ∀ (a0 : Nat) (a1 : Int32) (a2 : Int32) (a3 : Int32) (a4 : Int32) (a5 : Int32) (M : mzM) (K : Value → mzM → Prop), ok a0 a1 a2 a3 a4 a5 M → K (.long (f a0 a1 a2 a3 a4 a5 M)) M → mzdo m [.ref a0, .int a1, .int a2, .int a3, .int a4, .int a5] M K) : ∀ (as : List Value) (M : mzM) (K : Value → mzM → Prop), po_RIIIII ok as M → K (.long (pfj_RIIIII f as M)) M → m.1.2.2.2.2.2.2.2 as M K := by
  intro as M K h1 h2
  unfold po_RIIIII at h1
  split at h1
  · exact h _ _ _ _ _ _ M K h1 h2
  · exact h1.elim
theorem ppr_RIIIII {m : mzMt} {f : Nat → Int32 → Int32 → Int32 → Int32 → Int32 → mzM → Option Nat} {ok : Nat → Int32 → Int32 → Int32 → Int32 → Int32 → mzM → Prop} (h : ∀ (a0 : Nat) (a1 : Int32) (a2 : Int32) (a3 : Int32) (a4 : Int32) (a5 : Int32) (M : mzM) (K : Value → mzM → Prop), ok a0 a1 a2 a3 a4 a5 M → K (va_rf (f a0 a1 a2 a3 a4 a5 M)) M → mzdo m [.ref a0, .int a1, .int a2, .int a3, .int a4, .int a5] M K) : ∀ (as : List Value) (M : mzM) (K : Value → mzM → Prop), po_RIIIII ok as M → K (va_rf (pfr_RIIIII f as M)) M → m.1.2.2.2.2.2.2.2 as M K := by
  intro as M K h1 h2
  unfold po_RIIIII at h1
  split at h1
  · exact h _ _ _ _ _ _ M K h1 h2
  · exact h1.elim
def pfi_JI (f : Int64 → Int32 → mzM → Int32) : List Value → mzM → Int32 := fun as M => match as with
  | [.long a0, .int a1] => f a0 a1 M
  | _ => 0
theorem e_pfi_JI (f : Int64 → Int32 → mzM → Int32) (a0 : Int64) (a1 : Int32) (M : mzM) : pfi_JI f [.long a0, .int a1] M = f a0 a1 M := mzrf rfl
def pfj_JI (f : Int64 → Int32 → mzM → Int64) : List Value → mzM → Int64 := fun as M => match as with
  | [.long a0, .int a1] => f a0 a1 M
  | _ => 0
theorem e_pfj_JI (f : Int64 → Int32 → mzM → Int64) (a0 : Int64) (a1 : Int32) (M : mzM) : pfj_JI f [.long a0, .int a1] M = f a0 a1 M := mzrf rfl
def pfr_JI (f : Int64 → Int32 → mzM → Option Nat) : List Value → mzM → Option Nat := fun as M => match as with
  | [.long a0, .int a1] => f a0 a1 M
  | _ => none
theorem e_pfr_JI (f : Int64 → Int32 → mzM → Option Nat) (a0 : Int64) (a1 : Int32) (M : mzM) : pfr_JI f [.long a0, .int a1] M = f a0 a1 M := mzrf rfl
def po_JI (f : Int64 → Int32 → mzM → Prop) : List Value → mzM → Prop := fun as M => match as with
  | [.long a0, .int a1] => f a0 a1 M
  | _ => False
theorem e_po_JI (f : Int64 → Int32 → mzM → Prop) (a0 : Int64) (a1 : Int32) (M : mzM) : po_JI f [.long a0, .int a1] M = f a0 a1 M := mzrf rfl
theorem ppi_JI {m : mzMt} {f : Int64 → Int32 → mzM → Int32} {ok : Int64 → Int32 → mzM → Prop} (h : ∀ (a0 : Int64) (a1 : Int32) (M : mzM) (K : Value → mzM → Prop), ok a0 a1 M → K (.int (f a0 a1 M)) M → mzdo m [.long a0, .int a1] M K) : ∀ (as : List Value) (M : mzM) (K : Value → mzM → Prop), po_JI ok as M → K (.int (pfi_JI f as M)) M → m.1.2.2.2.2.2.2.2 as M K := by
  intro as M K h1 h2
  unfold po_JI at h1
  split at h1
  · exact h _ _ M K h1 h2
  · exact h1.elim
theorem ppj_JI {m : mzMt} {f : Int64 → Int32 → mzM → Int64} {ok : Int64 → Int32 → mzM → Prop} (h : ∀ (a0 : Int64) (a1 : Int32) (M : mzM) (K : Value → mzM → Prop), ok a0 a1 M → K (.long (f a0 a1 M)) M → mzdo m [.long a0, .int a1] M K) : ∀ (as : List Value) (M : mzM) (K : Value → mzM → Prop), po_JI ok as M → K (.long (pfj_JI f as M)) M → m.1.2.2.2.2.2.2.2 as M K := by
  intro as M K h1 h2
  unfold po_JI at h1
  split at h1
  · exact h _ _ M K h1 h2
  · exact h1.elim
theorem ppr_JI {m : mzMt} {f : Int64 → Int32 → mzM → Option Nat} {ok : Int64 → Int32 → mzM → Prop} (h : ∀ (a0 : Int64) (a1 : Int32) (M : mzM) (K : Value → mzM → Prop), ok a0 a1 M → K (va_rf (f a0 a1 M)) M → mzdo m [.long a0, .int a1] M K) : ∀ (as : List Value) (M : mzM) (K : Value → mzM → Prop), po_JI ok as M → K (va_rf (pfr_JI f as M)) M → m.1.2.2.2.2.2.2.2 as M K := by
  intro as M K h1 h2
  unfold po_JI at h1
  split at h1
  · exact h _ _ M K h1 h2
  · exact h1.elim
def pfi_JJ (f : Int64 → Int64 → mzM → Int32) : List Value → mzM → Int32 := fun as M => match as with
  | [.long a0, .long a1] => f a0 a1 M
  | _ => 0
theorem e_pfi_JJ (f : Int64 → Int64 → mzM → Int32) (a0 : Int64) (a1 : Int64) (M : mzM) : pfi_JJ f [.long a0, .long a1] M = f a0 a1 M := mzrf rfl
def pfj_JJ (f : Int64 → Int64 → mzM → Int64) : List Value → mzM → Int64 := fun as M => match as with
  | [.long a0, .long a1] => f a0 a1 M
  | _ => 0
theorem e_pfj_JJ (f : Int64 → Int64 → mzM → Int64) (a0 : Int64) (a1 : Int64) (M : mzM) : pfj_JJ f [.long a0, .long a1] M = f a0 a1 M := mzrf rfl
def pfr_JJ (f : Int64 → Int64 → mzM → Option Nat) : List Value → mzM → Option Nat := fun as M => match as with
  | [.long a0, .long a1] => f a0 a1 M
  | _ => none
theorem e_pfr_JJ (f : Int64 → Int64 → mzM → Option Nat) (a0 : Int64) (a1 : Int64) (M : mzM) : pfr_JJ f [.long a0, .long a1] M = f a0 a1 M := mzrf rfl
def po_JJ (f : Int64 → Int64 → mzM → Prop) : List Value → mzM → Prop := fun as M => match as with
  | [.long a0, .long a1] => f a0 a1 M
  | _ => False
theorem e_po_JJ (f : Int64 → Int64 → mzM → Prop) (a0 : Int64) (a1 : Int64) (M : mzM) : po_JJ f [.long a0, .long a1] M = f a0 a1 M := mzrf rfl
theorem ppi_JJ {m : mzMt} {f : Int64 → Int64 → mzM → Int32} {ok : Int64 → Int64 → mzM → Prop} (h : ∀ (a0 : Int64) (a1 : Int64) (M : mzM) (K : Value → mzM → Prop), ok a0 a1 M → K (.int (f a0 a1 M)) M → mzdo m [.long a0, .long a1] M K) : ∀ (as : List Value) (M : mzM) (K : Value → mzM → Prop), po_JJ ok as M → K (.int (pfi_JJ f as M)) M → m.1.2.2.2.2.2.2.2 as M K := by
  intro as M K h1 h2
  unfold po_JJ at h1
  split at h1
  · exact h _ _ M K h1 h2
  · exact h1.elim
theorem ppj_JJ {m : mzMt} {f : Int64 → Int64 → mzM → Int64} {ok : Int64 → Int64 → mzM → Prop} (h : ∀ (a0 : Int64) (a1 : Int64) (M : mzM) (K : Value → mzM → Prop), ok a0 a1 M → K (.long (f a0 a1 M)) M → mzdo m [.long a0, .long a1] M K) : ∀ (as : List Value) (M : mzM) (K : Value → mzM → Prop), po_JJ ok as M → K (.long (pfj_JJ f as M)) M → m.1.2.2.2.2.2.2.2 as M K := by
  intro as M K h1 h2
  unfold po_JJ at h1
  split at h1
  · exact h _ _ M K h1 h2
  · exact h1.elim
theorem ppr_JJ {m : mzMt} {f : Int64 → Int64 → mzM → Option Nat} {ok : Int64 → Int64 → mzM → Prop} (h : ∀ (a0 : Int64) (a1 : Int64) (M : mzM) (K : Value → mzM → Prop), ok a0 a1 M → K (va_rf (f a0 a1 M)) M → mzdo m [.long a0, .long a1] M K) : ∀ (as : List Value) (M : mzM) (K : Value → mzM → Prop), po_JJ ok as M → K (va_rf (pfr_JJ f as M)) M → m.1.2.2.2.2.2.2.2 as M K := by
  intro as M K h1 h2
  unfold po_JJ at h1
  split at h1
  · exact h _ _ M K h1 h2
  · exact h1.elim
def pfi_RJ (f : Nat → Int64 → mzM → Int32) : List Value → mzM → Int32 := fun as M => match as with
  | [.ref a0, .long a1] => f a0 a1 M
  | _ => 0
theorem e_pfi_RJ (f : Nat → Int64 → mzM → Int32) (a0 : Nat) (a1 : Int64) (M : mzM) : pfi_RJ f [.ref a0, .long a1] M = f a0 a1 M := mzrf rfl
def pfj_RJ (f : Nat → Int64 → mzM → Int64) : List Value → mzM → Int64 := fun as M => match as with
  | [.ref a0, .long a1] => f a0 a1 M
  | _ => 0
theorem e_pfj_RJ (f : Nat → Int64 → mzM → Int64) (a0 : Nat) (a1 : Int64) (M : mzM) : pfj_RJ f [.ref a0, .long a1] M = f a0 a1 M := mzrf rfl
def pfr_RJ (f : Nat → Int64 → mzM → Option Nat) : List Value → mzM → Option Nat := fun as M => match as with
  | [.ref a0, .long a1] => f a0 a1 M
  | _ => none
theorem e_pfr_RJ (f : Nat → Int64 → mzM → Option Nat) (a0 : Nat) (a1 : Int64) (M : mzM) : pfr_RJ f [.ref a0, .long a1] M = f a0 a1 M := mzrf rfl
def po_RJ (f : Nat → Int64 → mzM → Prop) : List Value → mzM → Prop := fun as M => match as with
  | [.ref a0, .long a1] => f a0 a1 M
  | _ => False
theorem e_po_RJ (f : Nat → Int64 → mzM → Prop) (a0 : Nat) (a1 : Int64) (M : mzM) : po_RJ f [.ref a0, .long a1] M = f a0 a1 M := mzrf rfl
theorem ppi_RJ {m : mzMt} {f : Nat → Int64 → mzM → Int32} {ok : Nat → Int64 → mzM → Prop} (h : ∀ (a0 : Nat) (a1 : Int64) (M : mzM) (K : Value → mzM → Prop), ok a0 a1 M → K (.int (f a0 a1 M)) M → mzdo m [.ref a0, .long a1] M K) : ∀ (as : List Value) (M : mzM) (K : Value → mzM → Prop), po_RJ ok as M → K (.int (pfi_RJ f as M)) M → m.1.2.2.2.2.2.2.2 as M K := by
  intro as M K h1 h2
  unfold po_RJ at h1
  split at h1
  · exact h _ _ M K h1 h2
  · exact h1.elim
theorem ppj_RJ {m : mzMt} {f : Nat → Int64 → mzM → Int64} {ok : Nat → Int64 → mzM → Prop} (h : ∀ (a0 : Nat) (a1 : Int64) (M : mzM) (K : Value → mzM → Prop), ok a0 a1 M → K (.long (f a0 a1 M)) M → mzdo m [.ref a0, .long a1] M K) : ∀ (as : List Value) (M : mzM) (K : Value → mzM → Prop), po_RJ ok as M → K (.long (pfj_RJ f as M)) M → m.1.2.2.2.2.2.2.2 as M K := by
  intro as M K h1 h2
  unfold po_RJ at h1
  split at h1
  · exact h _ _ M K h1 h2
  · exact h1.elim
theorem ppr_RJ {m : mzMt} {f : Nat → Int64 → mzM → Option Nat} {ok : Nat → Int64 → mzM → Prop} (h : ∀ (a0 : Nat) (a1 : Int64) (M : mzM) (K : Value → mzM → Prop), ok a0 a1 M → K (va_rf (f a0 a1 M)) M → mzdo m [.ref a0, .long a1] M K) : ∀ (as : List Value) (M : mzM) (K : Value → mzM → Prop), po_RJ ok as M → K (va_rf (pfr_RJ f as M)) M → m.1.2.2.2.2.2.2.2 as M K := by
  intro as M K h1 h2
  unfold po_RJ at h1
  split at h1
  · exact h _ _ M K h1 h2
  · exact h1.elim
def pfi_RJI (f : Nat → Int64 → Int32 → mzM → Int32) : List Value → mzM → Int32 := fun as M => match as with
  | [.ref a0, .long a1, .int a2] => f a0 a1 a2 M
  | _ => 0
theorem e_pfi_RJI (f : Nat → Int64 → Int32 → mzM → Int32) (a0 : Nat) (a1 : Int64) (a2 : Int32) (M : mzM) : pfi_RJI f [.ref a0, .long a1, .int a2] M = f a0 a1 a2 M := mzrf rfl
def pfj_RJI (f : Nat → Int64 → Int32 → mzM → Int64) : List Value → mzM → Int64 := fun as M => match as with
  | [.ref a0, .long a1, .int a2] => f a0 a1 a2 M
  | _ => 0
theorem e_pfj_RJI (f : Nat → Int64 → Int32 → mzM → Int64) (a0 : Nat) (a1 : Int64) (a2 : Int32) (M : mzM) : pfj_RJI f [.ref a0, .long a1, .int a2] M = f a0 a1 a2 M := mzrf rfl
def pfr_RJI (f : Nat → Int64 → Int32 → mzM → Option Nat) : List Value → mzM → Option Nat := fun as M => match as with
  | [.ref a0, .long a1, .int a2] => f a0 a1 a2 M
  | _ => none
theorem e_pfr_RJI (f : Nat → Int64 → Int32 → mzM → Option Nat) (a0 : Nat) (a1 : Int64) (a2 : Int32) (M : mzM) : pfr_RJI f [.ref a0, .long a1, .int a2] M = f a0 a1 a2 M := mzrf rfl
def po_RJI (f : Nat → Int64 → Int32 → mzM → Prop) : List Value → mzM → Prop := fun as M => match as with
  | [.ref a0, .long a1, .int a2] => f a0 a1 a2 M
  | _ => False
theorem e_po_RJI (f : Nat → Int64 → Int32 → mzM → Prop) (a0 : Nat) (a1 : Int64) (a2 : Int32) (M : mzM) : po_RJI f [.ref a0, .long a1, .int a2] M = f a0 a1 a2 M := mzrf rfl
theorem ppi_RJI {m : mzMt} {f : Nat → Int64 → Int32 → mzM → Int32} {ok : Nat → Int64 → Int32 → mzM → Prop} (h : ∀ (a0 : Nat) (a1 : Int64) (a2 : Int32) (M : mzM) (K : Value → mzM → Prop), ok a0 a1 a2 M → K (.int (f a0 a1 a2 M)) M → mzdo m [.ref a0, .long a1, .int a2] M K) : ∀ (as : List Value) (M : mzM) (K : Value → mzM → Prop), po_RJI ok as M → K (.int (pfi_RJI f as M)) M → m.1.2.2.2.2.2.2.2 as M K := by
  intro as M K h1 h2
  unfold po_RJI at h1
  split at h1
  · exact h _ _ _ M K h1 h2
  · exact h1.elim
theorem ppj_RJI {m : mzMt} {f : Nat → Int64 → Int32 → mzM → Int64} {ok : Nat → Int64 → Int32 → mzM → Prop} (h : ∀ (a0 : Nat) (a1 : Int64) (a2 : Int32) (M : mzM) (K : Value → mzM → Prop), ok a0 a1 a2 M → K (.long (f a0 a1 a2 M)) M → mzdo m [.ref a0, .long a1, .int a2] M K) : ∀ (as : List Value) (M : mzM) (K : Value → mzM → Prop), po_RJI ok as M → K (.long (pfj_RJI f as M)) M → m.1.2.2.2.2.2.2.2 as M K := by
  intro as M K h1 h2
  unfold po_RJI at h1
  split at h1
  · exact h _ _ _ M K h1 h2
  · exact h1.elim
theorem ppr_RJI {m : mzMt} {f : Nat → Int64 → Int32 → mzM → Option Nat} {ok : Nat → Int64 → Int32 → mzM → Prop} (h : ∀ (a0 : Nat) (a1 : Int64) (a2 : Int32) (M : mzM) (K : Value → mzM → Prop), ok a0 a1 a2 M → K (va_rf (f a0 a1 a2 M)) M → mzdo m [.ref a0, .long a1, .int a2] M K) : ∀ (as : List Value) (M : mzM) (K : Value → mzM → Prop), po_RJI ok as M → K (va_rf (pfr_RJI f as M)) M → m.1.2.2.2.2.2.2.2 as M K := by
  intro as M K h1 h2
  unfold po_RJI at h1
  split at h1
  · exact h _ _ _ M K h1 h2
  · exact h1.elim
def pfi_RJJJ (f : Nat → Int64 → Int64 → Int64 → mzM → Int32) : List Value → mzM → Int32 := fun as M => match as with
  | [.ref a0, .long a1, .long a2, .long a3] => f a0 a1 a2 a3 M
  | _ => 0
theorem e_pfi_RJJJ (f : Nat → Int64 → Int64 → Int64 → mzM → Int32) (a0 : Nat) (a1 : Int64) (a2 : Int64) (a3 : Int64) (M : mzM) : pfi_RJJJ f [.ref a0, .long a1, .long a2, .long a3] M = f a0 a1 a2 a3 M := mzrf rfl
def pfj_RJJJ (f : Nat → Int64 → Int64 → Int64 → mzM → Int64) : List Value → mzM → Int64 := fun as M => match as with
  | [.ref a0, .long a1, .long a2, .long a3] => f a0 a1 a2 a3 M
  | _ => 0
theorem e_pfj_RJJJ (f : Nat → Int64 → Int64 → Int64 → mzM → Int64) (a0 : Nat) (a1 : Int64) (a2 : Int64) (a3 : Int64) (M : mzM) : pfj_RJJJ f [.ref a0, .long a1, .long a2, .long a3] M = f a0 a1 a2 a3 M := mzrf rfl
def pfr_RJJJ (f : Nat → Int64 → Int64 → Int64 → mzM → Option Nat) : List Value → mzM → Option Nat := fun as M => match as with
  | [.ref a0, .long a1, .long a2, .long a3] => f a0 a1 a2 a3 M
  | _ => none
theorem e_pfr_RJJJ (f : Nat → Int64 → Int64 → Int64 → mzM → Option Nat) (a0 : Nat) (a1 : Int64) (a2 : Int64) (a3 : Int64) (M : mzM) : pfr_RJJJ f [.ref a0, .long a1, .long a2, .long a3] M = f a0 a1 a2 a3 M := mzrf rfl
def po_RJJJ (f : Nat → Int64 → Int64 → Int64 → mzM → Prop) : List Value → mzM → Prop := fun as M => match as with
  | [.ref a0, .long a1, .long a2, .long a3] => f a0 a1 a2 a3 M
  | _ => False
theorem e_po_RJJJ (f : Nat → Int64 → Int64 → Int64 → mzM → Prop) (a0 : Nat) (a1 : Int64) (a2 : Int64) (a3 : Int64) (M : mzM) : po_RJJJ f [.ref a0, .long a1, .long a2, .long a3] M = f a0 a1 a2 a3 M := mzrf rfl
theorem ppi_RJJJ {m : mzMt} {f : Nat → Int64 → Int64 → Int64 → mzM → Int32} {ok : Nat → Int64 → Int64 → Int64 → mzM → Prop} (h : ∀ (a0 : Nat) (a1 : Int64) (a2 : Int64) (a3 : Int64) (M : mzM) (K : Value → mzM → Prop), ok a0 a1 a2 a3 M → K (.int (f a0 a1 a2 a3 M)) M → mzdo m [.ref a0, .long a1, .long a2, .long a3] M K) : ∀ (as : List Value) (M : mzM) (K : Value → mzM → Prop), po_RJJJ ok as M → K (.int (pfi_RJJJ f as M)) M → m.1.2.2.2.2.2.2.2 as M K := by
  intro as M K h1 h2
  unfold po_RJJJ at h1
  split at h1
  · exact h _ _ _ _ M K h1 h2
  · exact h1.elim
theorem ppj_RJJJ {m : mzMt} {f : Nat → Int64 → Int64 → Int64 → mzM → Int64} {ok : Nat → Int64 → Int64 → Int64 → mzM → Prop} (h : ∀ (a0 : Nat) (a1 : Int64) (a2 : Int64) (a3 : Int64) (M : mzM) (K : Value → mzM → Prop), ok a0 a1 a2 a3 M → K (.long (f a0 a1 a2 a3 M)) M → mzdo m [.ref a0, .long a1, .long a2, .long a3] M K) : ∀ (as : List Value) (M : mzM) (K : Value → mzM → Prop), po_RJJJ ok as M → K (.long (pfj_RJJJ f as M)) M → m.1.2.2.2.2.2.2.2 as M K := by
  intro as M K h1 h2
  unfold po_RJJJ at h1
  split at h1
  · exact h _ _ _ _ M K h1 h2
  · exact h1.elim
theorem ppr_RJJJ {m : mzMt} {f : Nat → Int64 → Int64 → Int64 → mzM → Option Nat} {ok : Nat → Int64 → Int64 → Int64 → mzM → Prop} (h : ∀ (a0 : Nat) (a1 : Int64) (a2 : Int64) (a3 : Int64) (M : mzM) (K : Value → mzM → Prop), ok a0 a1 a2 a3 M → K (va_rf (f a0 a1 a2 a3 M)) M → mzdo m [.ref a0, .long a1, .long a2, .long a3] M K) : ∀ (as : List Value) (M : mzM) (K : Value → mzM → Prop), po_RJJJ ok as M → K (va_rf (pfr_RJJJ f as M)) M → m.1.2.2.2.2.2.2.2 as M K := by
  intro as M K h1 h2
  unfold po_RJJJ at h1
  split at h1
  · exact h _ _ _ _ M K h1 h2
  · exact h1.elim
def pfi_RJIJ (f : Nat → Int64 → Int32 → Int64 → mzM → Int32) : List Value → mzM → Int32 := fun as M => match as with
  | [.ref a0, .long a1, .int a2, .long a3] => f a0 a1 a2 a3 M
  | _ => 0
theorem e_pfi_RJIJ (f : Nat → Int64 → Int32 → Int64 → mzM → Int32) (a0 : Nat) (a1 : Int64) (a2 : Int32) (a3 : Int64) (M : mzM) : pfi_RJIJ f [.ref a0, .long a1, .int a2, .long a3] M = f a0 a1 a2 a3 M := mzrf rfl
def pfj_RJIJ (f : Nat → Int64 → Int32 → Int64 → mzM → Int64) : List Value → mzM → Int64 := fun as M => match as with
  | [.ref a0, .long a1, .int a2, .long a3] => f a0 a1 a2 a3 M
  | _ => 0
theorem e_pfj_RJIJ (f : Nat → Int64 → Int32 → Int64 → mzM → Int64) (a0 : Nat) (a1 : Int64) (a2 : Int32) (a3 : Int64) (M : mzM) : pfj_RJIJ f [.ref a0, .long a1, .int a2, .long a3] M = f a0 a1 a2 a3 M := mzrf rfl
def pfr_RJIJ (f : Nat → Int64 → Int32 → Int64 → mzM → Option Nat) : List Value → mzM → Option Nat := fun as M => match as with
  | [.ref a0, .long a1, .int a2, .long a3] => f a0 a1 a2 a3 M
  | _ => none
theorem e_pfr_RJIJ (f : Nat → Int64 → Int32 → Int64 → mzM → Option Nat) (a0 : Nat) (a1 : Int64) (a2 : Int32) (a3 : Int64) (M : mzM) : pfr_RJIJ f [.ref a0, .long a1, .int a2, .long a3] M = f a0 a1 a2 a3 M := mzrf rfl
def po_RJIJ (f : Nat → Int64 → Int32 → Int64 → mzM → Prop) : List Value → mzM → Prop := fun as M => match as with
  | [.ref a0, .long a1, .int a2, .long a3] => f a0 a1 a2 a3 M
  | _ => False
theorem e_po_RJIJ (f : Nat → Int64 → Int32 → Int64 → mzM → Prop) (a0 : Nat) (a1 : Int64) (a2 : Int32) (a3 : Int64) (M : mzM) : po_RJIJ f [.ref a0, .long a1, .int a2, .long a3] M = f a0 a1 a2 a3 M := mzrf rfl
theorem ppi_RJIJ {m : mzMt} {f : Nat → Int64 → Int32 → Int64 → mzM → Int32} {ok : Nat → Int64 → Int32 → Int64 → mzM → Prop} (h : ∀ (a0 : Nat) (a1 : Int64) (a2 : Int32) (a3 : Int64) (M : mzM) (K : Value → mzM → Prop), ok a0 a1 a2 a3 M → K (.int (f a0 a1 a2 a3 M)) M → mzdo m [.ref a0, .long a1, .int a2, .long a3] M K) : ∀ (as : List Value) (M : mzM) (K : Value → mzM → Prop), po_RJIJ ok as M → K (.int (pfi_RJIJ f as M)) M → m.1.2.2.2.2.2.2.2 as M K := by
  intro as M K h1 h2
  unfold po_RJIJ at h1
  split at h1
  · exact h _ _ _ _ M K h1 h2
  · exact h1.elim
theorem ppj_RJIJ {m : mzMt} {f : Nat → Int64 → Int32 → Int64 → mzM → Int64} {ok : Nat → Int64 → Int32 → Int64 → mzM → Prop} (h : ∀ (a0 : Nat) (a1 : Int64) (a2 : Int32) (a3 : Int64) (M : mzM) (K : Value → mzM → Prop), ok a0 a1 a2 a3 M → K (.long (f a0 a1 a2 a3 M)) M → mzdo m [.ref a0, .long a1, .int a2, .long a3] M K) : ∀ (as : List Value) (M : mzM) (K : Value → mzM → Prop), po_RJIJ ok as M → K (.long (pfj_RJIJ f as M)) M → m.1.2.2.2.2.2.2.2 as M K := by
  intro as M K h1 h2
  unfold po_RJIJ at h1
  split at h1
  · exact h _ _ _ _ M K h1 h2
  · exact h1.elim
theorem ppr_RJIJ {m : mzMt} {f : Nat → Int64 → Int32 → Int64 → mzM → Option Nat} {ok : Nat → Int64 → Int32 → Int64 → mzM → Prop} (h : ∀ (a0 : Nat) (a1 : Int64) (a2 : Int32) (a3 : Int64) (M : mzM) (K : Value → mzM → Prop), ok a0 a1 a2 a3 M → K (va_rf (f a0 a1 a2 a3 M)) M → mzdo m [.ref a0, .long a1, .int a2, .long a3] M K) : ∀ (as : List Value) (M : mzM) (K : Value → mzM → Prop), po_RJIJ ok as M → K (va_rf (pfr_RJIJ f as M)) M → m.1.2.2.2.2.2.2.2 as M K := by
  intro as M K h1 h2
  unfold po_RJIJ at h1
  split at h1
  · exact h _ _ _ _ M K h1 h2
  · exact h1.elim
def pfi_RIIIJ (f : Nat → Int32 → Int32 → Int32 → Int64 → mzM → Int32) : List Value → mzM → Int32 := fun as M => match as with
  | [.ref a0, .int a1, .int a2, .int a3, .long a4] => f a0 a1 a2 a3 a4 M
  | _ => 0
theorem e_pfi_RIIIJ (f : Nat → Int32 → Int32 → Int32 → Int64 → mzM → Int32) (a0 : Nat) (a1 : Int32) (a2 : Int32) (a3 : Int32) (a4 : Int64) (M : mzM) : pfi_RIIIJ f [.ref a0, .int a1, .int a2, .int a3, .long a4] M = f a0 a1 a2 a3 a4 M := mzrf rfl
def pfj_RIIIJ (f : Nat → Int32 → Int32 → Int32 → Int64 → mzM → Int64) : List Value → mzM → Int64 := fun as M => match as with
  | [.ref a0, .int a1, .int a2, .int a3, .long a4] => f a0 a1 a2 a3 a4 M
  | _ => 0
theorem e_pfj_RIIIJ (f : Nat → Int32 → Int32 → Int32 → Int64 → mzM → Int64) (a0 : Nat) (a1 : Int32) (a2 : Int32) (a3 : Int32) (a4 : Int64) (M : mzM) : pfj_RIIIJ f [.ref a0, .int a1, .int a2, .int a3, .long a4] M = f a0 a1 a2 a3 a4 M := mzrf rfl
def pfr_RIIIJ (f : Nat → Int32 → Int32 → Int32 → Int64 → mzM → Option Nat) : List Value → mzM → Option Nat := fun as M => match as with
  | [.ref a0, .int a1, .int a2, .int a3, .long a4] => f a0 a1 a2 a3 a4 M
  | _ => none
theorem e_pfr_RIIIJ (f : Nat → Int32 → Int32 → Int32 → Int64 → mzM → Option Nat) (a0 : Nat) (a1 : Int32) (a2 : Int32) (a3 : Int32) (a4 : Int64) (M : mzM) : pfr_RIIIJ f [.ref a0, .int a1, .int a2, .int a3, .long a4] M = f a0 a1 a2 a3 a4 M := mzrf rfl
def po_RIIIJ (f : Nat → Int32 → Int32 → Int32 → Int64 → mzM → Prop) : List Value → mzM → Prop := fun as M => match as with
  | [.ref a0, .int a1, .int a2, .int a3, .long a4] => f a0 a1 a2 a3 a4 M
  | _ => False
theorem e_po_RIIIJ (f : Nat → Int32 → Int32 → Int32 → Int64 → mzM → Prop) (a0 : Nat) (a1 : Int32) (a2 : Int32) (a3 : Int32) (a4 : Int64) (M : mzM) : po_RIIIJ f [.ref a0, .int a1, .int a2, .int a3, .long a4] M = f a0 a1 a2 a3 a4 M := mzrf rfl
theorem ppi_RIIIJ {m : mzMt} {f : Nat → Int32 → Int32 → Int32 → Int64 → mzM → Int32} {ok : Nat → Int32 → Int32 → Int32 → Int64 → mzM → Prop} (h : ∀ (a0 : Nat) (a1 : Int32) (a2 : Int32) (a3 : Int32) (a4 : Int64) (M : mzM) (K : Value → mzM → Prop), ok a0 a1 a2 a3 a4 M → K (.int (f a0 a1 a2 a3 a4 M)) M → mzdo m [.ref a0, .int a1, .int a2, .int a3, .long a4] M K) : ∀ (as : List Value) (M : mzM) (K : Value → mzM → Prop), po_RIIIJ ok as M → K (.int (pfi_RIIIJ f as M)) M → m.1.2.2.2.2.2.2.2 as M K := by
  intro as M K h1 h2
  unfold po_RIIIJ at h1
  split at h1
  · exact h _ _ _ _ _ M K h1 h2
  · exact h1.elim
theorem ppj_RIIIJ {m : mzMt} {f : Nat → Int32 → Int32 → Int32 → Int64 → mzM → Int64} {ok : Nat → Int32 → Int32 → Int32 → Int64 → mzM → Prop} (h : ∀ (a0 : Nat) (a1 : Int32) (a2 : Int32) (a3 : Int32) (a4 : Int64) (M : mzM) (K : Value → mzM → Prop), ok a0 a1 a2 a3 a4 M → K (.long (f a0 a1 a2 a3 a4 M)) M → mzdo m [.ref a0, .int a1, .int a2, .int a3, .long a4] M K) : ∀ (as : List Value) (M : mzM) (K : Value → mzM → Prop), po_RIIIJ ok as M → K (.long (pfj_RIIIJ f as M)) M → m.1.2.2.2.2.2.2.2 as M K := by
  intro as M K h1 h2
  unfold po_RIIIJ at h1
  split at h1
  · exact h _ _ _ _ _ M K h1 h2
  · exact h1.elim
theorem ppr_RIIIJ {m : mzMt} {f : Nat → Int32 → Int32 → Int32 → Int64 → mzM → Option Nat} {ok : Nat → Int32 → Int32 → Int32 → Int64 → mzM → Prop} (h : ∀ (a0 : Nat) (a1 : Int32) (a2 : Int32) (a3 : Int32) (a4 : Int64) (M : mzM) (K : Value → mzM → Prop), ok a0 a1 a2 a3 a4 M → K (va_rf (f a0 a1 a2 a3 a4 M)) M → mzdo m [.ref a0, .int a1, .int a2, .int a3, .long a4] M K) : ∀ (as : List Value) (M : mzM) (K : Value → mzM → Prop), po_RIIIJ ok as M → K (va_rf (pfr_RIIIJ f as M)) M → m.1.2.2.2.2.2.2.2 as M K := by
  intro as M K h1 h2
  unfold po_RIIIJ at h1
  split at h1
  · exact h _ _ _ _ _ M K h1 h2
  · exact h1.elim
def pfi_J (f : Int64 → mzM → Int32) : List Value → mzM → Int32 := fun as M => match as with
  | [.long a0] => f a0 M
  | _ => 0
theorem e_pfi_J (f : Int64 → mzM → Int32) (a0 : Int64) (M : mzM) : pfi_J f [.long a0] M = f a0 M := mzrf rfl
def pfj_J (f : Int64 → mzM → Int64) : List Value → mzM → Int64 := fun as M => match as with
  | [.long a0] => f a0 M
  | _ => 0
theorem e_pfj_J (f : Int64 → mzM → Int64) (a0 : Int64) (M : mzM) : pfj_J f [.long a0] M = f a0 M := mzrf rfl
def pfr_J (f : Int64 → mzM → Option Nat) : List Value → mzM → Option Nat := fun as M => match as with
  | [.long a0] => f a0 M
  | _ => none
theorem e_pfr_J (f : Int64 → mzM → Option Nat) (a0 : Int64) (M : mzM) : pfr_J f [.long a0] M = f a0 M := mzrf rfl
def po_J (f : Int64 → mzM → Prop) : List Value → mzM → Prop := fun as M => match as with
  | [.long a0] => f a0 M
  | _ => False
theorem e_po_J (f : Int64 → mzM → Prop) (a0 : Int64) (M : mzM) : po_J f [.long a0] M = f a0 M := mzrf rfl
theorem ppi_J {m : mzMt} {f : Int64 → mzM → Int32} {ok : Int64 → mzM → Prop} (h : ∀ (a0 : Int64) (M : mzM) (K : Value → mzM → Prop), ok a0 M → K (.int (f a0 M)) M → mzdo m [.long a0] M K) : ∀ (as : List Value) (M : mzM) (K : Value → mzM → Prop), po_J ok as M → K (.int (pfi_J f as M)) M → m.1.2.2.2.2.2.2.2 as M K := by
  intro as M K h1 h2
  unfold po_J at h1
  split at h1
  · exact h _  M K h1 h2
  · exact h1.elim
theorem ppj_J {m : mzMt} {f : Int64 → mzM → Int64} {ok : Int64 → mzM → Prop} (h : ∀ (a0 : Int64) (M : mzM) (K : Value → mzM → Prop), ok a0 M → K (.long (f a0 M)) M → mzdo m [.long a0] M K) : ∀ (as : List Value) (M : mzM) (K : Value → mzM → Prop), po_J ok as M → K (.long (pfj_J f as M)) M → m.1.2.2.2.2.2.2.2 as M K := by
  intro as M K h1 h2
  unfold po_J at h1
  split at h1
  · exact h _  M K h1 h2
  · exact h1.elim
theorem ppr_J {m : mzMt} {f : Int64 → mzM → Option Nat} {ok : Int64 → mzM → Prop} (h : ∀ (a0 : Int64) (M : mzM) (K : Value → mzM → Prop), ok a0 M → K (va_rf (f a0 M)) M → mzdo m [.long a0] M K) : ∀ (as : List Value) (M : mzM) (K : Value → mzM → Prop), po_J ok as M → K (va_rf (pfr_J f as M)) M → m.1.2.2.2.2.2.2.2 as M K := by
  intro as M K h1 h2
  unfold po_J at h1
  split at h1
  · exact h _  M K h1 h2
  · exact h1.elim
def pfi_RR (f : Nat → Nat → mzM → Int32) : List Value → mzM → Int32 := fun as M => match as with
  | [.ref a0, .ref a1] => f a0 a1 M
  | _ => 0
theorem e_pfi_RR (f : Nat → Nat → mzM → Int32) (a0 : Nat) (a1 : Nat) (M : mzM) : pfi_RR f [.ref a0, .ref a1] M = f a0 a1 M := mzrf rfl
def pfj_RR (f : Nat → Nat → mzM → Int64) : List Value → mzM → Int64 := fun as M => match as with
  | [.ref a0, .ref a1] => f a0 a1 M
  | _ => 0
theorem e_pfj_RR (f : Nat → Nat → mzM → Int64) (a0 : Nat) (a1 : Nat) (M : mzM) : pfj_RR f [.ref a0, .ref a1] M = f a0 a1 M := mzrf rfl
def pfr_RR (f : Nat → Nat → mzM → Option Nat) : List Value → mzM → Option Nat := fun as M => match as with
  | [.ref a0, .ref a1] => f a0 a1 M
  | _ => none
theorem e_pfr_RR (f : Nat → Nat → mzM → Option Nat) (a0 : Nat) (a1 : Nat) (M : mzM) : pfr_RR f [.ref a0, .ref a1] M = f a0 a1 M := mzrf rfl
def po_RR (f : Nat → Nat → mzM → Prop) : List Value → mzM → Prop := fun as M => match as with
  | [.ref a0, .ref a1] => f a0 a1 M
  | _ => False
theorem e_po_RR (f : Nat → Nat → mzM → Prop) (a0 : Nat) (a1 : Nat) (M : mzM) : po_RR f [.ref a0, .ref a1] M = f a0 a1 M := mzrf rfl
theorem ppi_RR {m : mzMt} {f : Nat → Nat → mzM → Int32} {ok : Nat → Nat → mzM → Prop} (h : ∀ (a0 : Nat) (a1 : Nat) (M : mzM) (K : Value → mzM → Prop), ok a0 a1 M → K (.int (f a0 a1 M)) M → mzdo m [.ref a0, .ref a1] M K) : ∀ (as : List Value) (M : mzM) (K : Value → mzM → Prop), po_RR ok as M → K (.int (pfi_RR f as M)) M → m.1.2.2.2.2.2.2.2 as M K := by
  intro as M K h1 h2
  unfold po_RR at h1
  split at h1
  · exact h _ _ M K h1 h2
  · exact h1.elim
theorem ppj_RR {m : mzMt} {f : Nat → Nat → mzM → Int64} {ok : Nat → Nat → mzM → Prop} (h : ∀ (a0 : Nat) (a1 : Nat) (M : mzM) (K : Value → mzM → Prop), ok a0 a1 M → K (.long (f a0 a1 M)) M → mzdo m [.ref a0, .ref a1] M K) : ∀ (as : List Value) (M : mzM) (K : Value → mzM → Prop), po_RR ok as M → K (.long (pfj_RR f as M)) M → m.1.2.2.2.2.2.2.2 as M K := by
  intro as M K h1 h2
  unfold po_RR at h1
  split at h1
  · exact h _ _ M K h1 h2
  · exact h1.elim
theorem ppr_RR {m : mzMt} {f : Nat → Nat → mzM → Option Nat} {ok : Nat → Nat → mzM → Prop} (h : ∀ (a0 : Nat) (a1 : Nat) (M : mzM) (K : Value → mzM → Prop), ok a0 a1 M → K (va_rf (f a0 a1 M)) M → mzdo m [.ref a0, .ref a1] M K) : ∀ (as : List Value) (M : mzM) (K : Value → mzM → Prop), po_RR ok as M → K (va_rf (pfr_RR f as M)) M → m.1.2.2.2.2.2.2.2 as M K := by
  intro as M K h1 h2
  unfold po_RR at h1
  split at h1
  · exact h _ _ M K h1 h2
  · exact h1.elim
def pfi_RRI (f : Nat → Nat → Int32 → mzM → Int32) : List Value → mzM → Int32 := fun as M => match as with
  | [.ref a0, .ref a1, .int a2] => f a0 a1 a2 M
  | _ => 0
theorem e_pfi_RRI (f : Nat → Nat → Int32 → mzM → Int32) (a0 : Nat) (a1 : Nat) (a2 : Int32) (M : mzM) : pfi_RRI f [.ref a0, .ref a1, .int a2] M = f a0 a1 a2 M := mzrf rfl
def pfj_RRI (f : Nat → Nat → Int32 → mzM → Int64) : List Value → mzM → Int64 := fun as M => match as with
  | [.ref a0, .ref a1, .int a2] => f a0 a1 a2 M
  | _ => 0
theorem e_pfj_RRI (f : Nat → Nat → Int32 → mzM → Int64) (a0 : Nat) (a1 : Nat) (a2 : Int32) (M : mzM) : pfj_RRI f [.ref a0, .ref a1, .int a2] M = f a0 a1 a2 M := mzrf rfl
def pfr_RRI (f : Nat → Nat → Int32 → mzM → Option Nat) : List Value → mzM → Option Nat := fun as M => match as with
  | [.ref a0, .ref a1, .int a2] => f a0 a1 a2 M
  | _ => none
theorem e_pfr_RRI (f : Nat → Nat → Int32 → mzM → Option Nat) (a0 : Nat) (a1 : Nat) (a2 : Int32) (M : mzM) : pfr_RRI f [.ref a0, .ref a1, .int a2] M = f a0 a1 a2 M := mzrf rfl
def po_RRI (f : Nat → Nat → Int32 → mzM → Prop) : List Value → mzM → Prop := fun as M => match as with
  | [.ref a0, .ref a1, .int a2] => f a0 a1 a2 M
  | _ => False
theorem e_po_RRI (f : Nat → Nat → Int32 → mzM → Prop) (a0 : Nat) (a1 : Nat) (a2 : Int32) (M : mzM) : po_RRI f [.ref a0, .ref a1, .int a2] M = f a0 a1 a2 M := mzrf rfl
theorem ppi_RRI {m : mzMt} {f : Nat → Nat → Int32 → mzM → Int32} {ok : Nat → Nat → Int32 → mzM → Prop} (h : ∀ (a0 : Nat) (a1 : Nat) (a2 : Int32) (M : mzM) (K : Value → mzM → Prop), ok a0 a1 a2 M → K (.int (f a0 a1 a2 M)) M → mzdo m [.ref a0, .ref a1, .int a2] M K) : ∀ (as : List Value) (M : mzM) (K : Value → mzM → Prop), po_RRI ok as M → K (.int (pfi_RRI f as M)) M → m.1.2.2.2.2.2.2.2 as M K := by
  intro as M K h1 h2
  unfold po_RRI at h1
  split at h1
  · exact h _ _ _ M K h1 h2
  · exact h1.elim
theorem ppj_RRI {m : mzMt} {f : Nat → Nat → Int32 → mzM → Int64} {ok : Nat → Nat → Int32 → mzM → Prop} (h : ∀ (a0 : Nat) (a1 : Nat) (a2 : Int32) (M : mzM) (K : Value → mzM → Prop), ok a0 a1 a2 M → K (.long (f a0 a1 a2 M)) M → mzdo m [.ref a0, .ref a1, .int a2] M K) : ∀ (as : List Value) (M : mzM) (K : Value → mzM → Prop), po_RRI ok as M → K (.long (pfj_RRI f as M)) M → m.1.2.2.2.2.2.2.2 as M K := by
  intro as M K h1 h2
  unfold po_RRI at h1
  split at h1
  · exact h _ _ _ M K h1 h2
  · exact h1.elim
theorem ppr_RRI {m : mzMt} {f : Nat → Nat → Int32 → mzM → Option Nat} {ok : Nat → Nat → Int32 → mzM → Prop} (h : ∀ (a0 : Nat) (a1 : Nat) (a2 : Int32) (M : mzM) (K : Value → mzM → Prop), ok a0 a1 a2 M → K (va_rf (f a0 a1 a2 M)) M → mzdo m [.ref a0, .ref a1, .int a2] M K) : ∀ (as : List Value) (M : mzM) (K : Value → mzM → Prop), po_RRI ok as M → K (va_rf (pfr_RRI f as M)) M → m.1.2.2.2.2.2.2.2 as M K := by
  intro as M K h1 h2
  unfold po_RRI at h1
  split at h1
  · exact h _ _ _ M K h1 h2
  · exact h1.elim
def pfi_RRII (f : Nat → Nat → Int32 → Int32 → mzM → Int32) : List Value → mzM → Int32 := fun as M => match as with
  | [.ref a0, .ref a1, .int a2, .int a3] => f a0 a1 a2 a3 M
  | _ => 0
theorem e_pfi_RRII (f : Nat → Nat → Int32 → Int32 → mzM → Int32) (a0 : Nat) (a1 : Nat) (a2 : Int32) (a3 : Int32) (M : mzM) : pfi_RRII f [.ref a0, .ref a1, .int a2, .int a3] M = f a0 a1 a2 a3 M := mzrf rfl
def pfj_RRII (f : Nat → Nat → Int32 → Int32 → mzM → Int64) : List Value → mzM → Int64 := fun as M => match as with
  | [.ref a0, .ref a1, .int a2, .int a3] => f a0 a1 a2 a3 M
  | _ => 0
theorem e_pfj_RRII (f : Nat → Nat → Int32 → Int32 → mzM → Int64) (a0 : Nat) (a1 : Nat) (a2 : Int32) (a3 : Int32) (M : mzM) : pfj_RRII f [.ref a0, .ref a1, .int a2, .int a3] M = f a0 a1 a2 a3 M := mzrf rfl
def pfr_RRII (f : Nat → Nat → Int32 → Int32 → mzM → Option Nat) : List Value → mzM → Option Nat := fun as M => match as with
  | [.ref a0, .ref a1, .int a2, .int a3] => f a0 a1 a2 a3 M
  | _ => none
theorem e_pfr_RRII (f : Nat → Nat → Int32 → Int32 → mzM → Option Nat) (a0 : Nat) (a1 : Nat) (a2 : Int32) (a3 : Int32) (M : mzM) : pfr_RRII f [.ref a0, .ref a1, .int a2, .int a3] M = f a0 a1 a2 a3 M := mzrf rfl
def po_RRII (f : Nat → Nat → Int32 → Int32 → mzM → Prop) : List Value → mzM → Prop := fun as M => match as with
  | [.ref a0, .ref a1, .int a2, .int a3] => f a0 a1 a2 a3 M
  | _ => False
theorem e_po_RRII (f : Nat → Nat → Int32 → Int32 → mzM → Prop) (a0 : Nat) (a1 : Nat) (a2 : Int32) (a3 : Int32) (M : mzM) : po_RRII f [.ref a0, .ref a1, .int a2, .int a3] M = f a0 a1 a2 a3 M := mzrf rfl
theorem ppi_RRII {m : mzMt} {f : Nat → Nat → Int32 → Int32 → mzM → Int32} {ok : Nat → Nat → Int32 → Int32 → mzM → Prop} (h : ∀ (a0 : Nat) (a1 : Nat) (a2 : Int32) (a3 : Int32) (M : mzM) (K : Value → mzM → Prop), ok a0 a1 a2 a3 M → K (.int (f a0 a1 a2 a3 M)) M → mzdo m [.ref a0, .ref a1, .int a2, .int a3] M K) : ∀ (as : List Value) (M : mzM) (K : Value → mzM → Prop), po_RRII ok as M → K (.int (pfi_RRII f as M)) M → m.1.2.2.2.2.2.2.2 as M K := by
  intro as M K h1 h2
  unfold po_RRII at h1
  split at h1
  · exact h _ _ _ _ M K h1 h2
  · exact h1.elim
theorem ppj_RRII {m : mzMt} {f : Nat → Nat → Int32 → Int32 → mzM → Int64} {ok : Nat → Nat → Int32 → Int32 → mzM → Prop} (h : ∀ (a0 : Nat) (a1 : Nat) (a2 : Int32) (a3 : Int32) (M : mzM) (K : Value → mzM → Prop), ok a0 a1 a2 a3 M → K (.long (f a0 a1 a2 a3 M)) M → mzdo m [.ref a0, .ref a1, .int a2, .int a3] M K) : ∀ (as : List Value) (M : mzM) (K : Value → mzM → Prop), po_RRII ok as M → K (.long (pfj_RRII f as M)) M → m.1.2.2.2.2.2.2.2 as M K := by
  intro as M K h1 h2
  unfold po_RRII at h1
  split at h1
  · exact h _ _ _ _ M K h1 h2
  · exact h1.elim
theorem ppr_RRII {m : mzMt} {f : Nat → Nat → Int32 → Int32 → mzM → Option Nat} {ok : Nat → Nat → Int32 → Int32 → mzM → Prop} (h : ∀ (a0 : Nat) (a1 : Nat) (a2 : Int32) (a3 : Int32) (M : mzM) (K : Value → mzM → Prop), ok a0 a1 a2 a3 M → K (va_rf (f a0 a1 a2 a3 M)) M → mzdo m [.ref a0, .ref a1, .int a2, .int a3] M K) : ∀ (as : List Value) (M : mzM) (K : Value → mzM → Prop), po_RRII ok as M → K (va_rf (pfr_RRII f as M)) M → m.1.2.2.2.2.2.2.2 as M K := by
  intro as M K h1 h2
  unfold po_RRII at h1
  split at h1
  · exact h _ _ _ _ M K h1 h2
  · exact h1.elim
def pfi_RRIII (f : Nat → Nat → Int32 → Int32 → Int32 → mzM → Int32) : List Value → mzM → Int32 := fun as M => match as with
  | [.ref a0, .ref a1, .int a2, .int a3, .int a4] => f a0 a1 a2 a3 a4 M
  | _ => 0
theorem e_pfi_RRIII (f : Nat → Nat → Int32 → Int32 → Int32 → mzM → Int32) (a0 : Nat) (a1 : Nat) (a2 : Int32) (a3 : Int32) (a4 : Int32) (M : mzM) : pfi_RRIII f [.ref a0, .ref a1, .int a2, .int a3, .int a4] M = f a0 a1 a2 a3 a4 M := mzrf rfl
def pfj_RRIII (f : Nat → Nat → Int32 → Int32 → Int32 → mzM → Int64) : List Value → mzM → Int64 := fun as M => match as with
  | [.ref a0, .ref a1, .int a2, .int a3, .int a4] => f a0 a1 a2 a3 a4 M
  | _ => 0
theorem e_pfj_RRIII (f : Nat → Nat → Int32 → Int32 → Int32 → mzM → Int64) (a0 : Nat) (a1 : Nat) (a2 : Int32) (a3 : Int32) (a4 : Int32) (M : mzM) : pfj_RRIII f [.ref a0, .ref a1, .int a2, .int a3, .int a4] M = f a0 a1 a2 a3 a4 M := mzrf rfl
def pfr_RRIII (f : Nat → Nat → Int32 → Int32 → Int32 → mzM → Option Nat) : List Value → mzM → Option Nat := fun as M => match as with
  | [.ref a0, .ref a1, .int a2, .int a3, .int a4] => f a0 a1 a2 a3 a4 M
  | _ => none
theorem e_pfr_RRIII (f : Nat → Nat → Int32 → Int32 → Int32 → mzM → Option Nat) (a0 : Nat) (a1 : Nat) (a2 : Int32) (a3 : Int32) (a4 : Int32) (M : mzM) : pfr_RRIII f [.ref a0, .ref a1, .int a2, .int a3, .int a4] M = f a0 a1 a2 a3 a4 M := mzrf rfl
def po_RRIII (f : Nat → Nat → Int32 → Int32 → Int32 → mzM → Prop) : List Value → mzM → Prop := fun as M => match as with
  | [.ref a0, .ref a1, .int a2, .int a3, .int a4] => f a0 a1 a2 a3 a4 M
  | _ => False
theorem e_po_RRIII (f : Nat → Nat → Int32 → Int32 → Int32 → mzM → Prop) (a0 : Nat) (a1 : Nat) (a2 : Int32) (a3 : Int32) (a4 : Int32) (M : mzM) : po_RRIII f [.ref a0, .ref a1, .int a2, .int a3, .int a4] M = f a0 a1 a2 a3 a4 M := mzrf rfl
theorem ppi_RRIII {m : mzMt} {f : Nat → Nat → Int32 → Int32 → Int32 → mzM → Int32} {ok : Nat → Nat → Int32 → Int32 → Int32 → mzM → Prop} (h : ∀ (a0 : Nat) (a1 : Nat) (a2 : Int32) (a3 : Int32) (a4 : Int32) (M : mzM) (K : Value → mzM → Prop), ok a0 a1 a2 a3 a4 M → K (.int (f a0 a1 a2 a3 a4 M)) M → mzdo m [.ref a0, .ref a1, .int a2, .int a3, .int a4] M K) : ∀ (as : List Value) (M : mzM) (K : Value → mzM → Prop), po_RRIII ok as M → K (.int (pfi_RRIII f as M)) M → m.1.2.2.2.2.2.2.2 as M K := by
  intro as M K h1 h2
  unfold po_RRIII at h1
  split at h1
  · exact h _ _ _ _ _ M K h1 h2
  · exact h1.elim
theorem ppj_RRIII {m : mzMt} {f : Nat → Nat → Int32 → Int32 → Int32 → mzM → Int64} {ok : Nat → Nat → Int32 → Int32 → Int32 → mzM → Prop} (h : ∀ (a0 : Nat) (a1 : Nat) (a2 : Int32) (a3 : Int32) (a4 : Int32) (M : mzM) (K : Value → mzM → Prop), ok a0 a1 a2 a3 a4 M → K (.long (f a0 a1 a2 a3 a4 M)) M → mzdo m [.ref a0, .ref a1, .int a2, .int a3, .int a4] M K) : ∀ (as : List Value) (M : mzM) (K : Value → mzM → Prop), po_RRIII ok as M → K (.long (pfj_RRIII f as M)) M → m.1.2.2.2.2.2.2.2 as M K := by
  intro as M K h1 h2
  unfold po_RRIII at h1
  split at h1
  · exact h _ _ _ _ _ M K h1 h2
  · exact h1.elim
theorem ppr_RRIII {m : mzMt} {f : Nat → Nat → Int32 → Int32 → Int32 → mzM → Option Nat} {ok : Nat → Nat → Int32 → Int32 → Int32 → mzM → Prop} (h : ∀ (a0 : Nat) (a1 : Nat) (a2 : Int32) (a3 : Int32) (a4 : Int32) (M : mzM) (K : Value → mzM → Prop), ok a0 a1 a2 a3 a4 M → K (va_rf (f a0 a1 a2 a3 a4 M)) M → mzdo m [.ref a0, .ref a1, .int a2, .int a3, .int a4] M K) : ∀ (as : List Value) (M : mzM) (K : Value → mzM → Prop), po_RRIII ok as M → K (va_rf (pfr_RRIII f as M)) M → m.1.2.2.2.2.2.2.2 as M K := by
  intro as M K h1 h2
  unfold po_RRIII at h1
  split at h1
  · exact h _ _ _ _ _ M K h1 h2
  · exact h1.elim
def pfi_RIJ (f : Nat → Int32 → Int64 → mzM → Int32) : List Value → mzM → Int32 := fun as M => match as with
  | [.ref a0, .int a1, .long a2] => f a0 a1 a2 M
  | _ => 0
theorem e_pfi_RIJ (f : Nat → Int32 → Int64 → mzM → Int32) (a0 : Nat) (a1 : Int32) (a2 : Int64) (M : mzM) : pfi_RIJ f [.ref a0, .int a1, .long a2] M = f a0 a1 a2 M := mzrf rfl
def pfj_RIJ (f : Nat → Int32 → Int64 → mzM → Int64) : List Value → mzM → Int64 := fun as M => match as with
  | [.ref a0, .int a1, .long a2] => f a0 a1 a2 M
  | _ => 0
theorem e_pfj_RIJ (f : Nat → Int32 → Int64 → mzM → Int64) (a0 : Nat) (a1 : Int32) (a2 : Int64) (M : mzM) : pfj_RIJ f [.ref a0, .int a1, .long a2] M = f a0 a1 a2 M := mzrf rfl
def pfr_RIJ (f : Nat → Int32 → Int64 → mzM → Option Nat) : List Value → mzM → Option Nat := fun as M => match as with
  | [.ref a0, .int a1, .long a2] => f a0 a1 a2 M
  | _ => none
theorem e_pfr_RIJ (f : Nat → Int32 → Int64 → mzM → Option Nat) (a0 : Nat) (a1 : Int32) (a2 : Int64) (M : mzM) : pfr_RIJ f [.ref a0, .int a1, .long a2] M = f a0 a1 a2 M := mzrf rfl
def po_RIJ (f : Nat → Int32 → Int64 → mzM → Prop) : List Value → mzM → Prop := fun as M => match as with
  | [.ref a0, .int a1, .long a2] => f a0 a1 a2 M
  | _ => False
theorem e_po_RIJ (f : Nat → Int32 → Int64 → mzM → Prop) (a0 : Nat) (a1 : Int32) (a2 : Int64) (M : mzM) : po_RIJ f [.ref a0, .int a1, .long a2] M = f a0 a1 a2 M := mzrf rfl
theorem ppi_RIJ {m : mzMt} {f : Nat → Int32 → Int64 → mzM → Int32} {ok : Nat → Int32 → Int64 → mzM → Prop} (h : ∀ (a0 : Nat) (a1 : Int32) (a2 : Int64) (M : mzM) (K : Value → mzM → Prop), ok a0 a1 a2 M → K (.int (f a0 a1 a2 M)) M → mzdo m [.ref a0, .int a1, .long a2] M K) : ∀ (as : List Value) (M : mzM) (K : Value → mzM → Prop), po_RIJ ok as M → K (.int (pfi_RIJ f as M)) M → m.1.2.2.2.2.2.2.2 as M K := by
  intro as M K h1 h2
  unfold po_RIJ at h1
  split at h1
  · exact h _ _ _ M K h1 h2
  · exact h1.elim
theorem ppj_RIJ {m : mzMt} {f : Nat → Int32 → Int64 → mzM → Int64} {ok : Nat → Int32 → Int64 → mzM → Prop} (h : ∀ (a0 : Nat) (a1 : Int32) (a2 : Int64) (M : mzM) (K : Value → mzM → Prop), ok a0 a1 a2 M → K (.long (f a0 a1 a2 M)) M → mzdo m [.ref a0, .int a1, .long a2] M K) : ∀ (as : List Value) (M : mzM) (K : Value → mzM → Prop), po_RIJ ok as M → K (.long (pfj_RIJ f as M)) M → m.1.2.2.2.2.2.2.2 as M K := by
  intro as M K h1 h2
  unfold po_RIJ at h1
  split at h1
  · exact h _ _ _ M K h1 h2
  · exact h1.elim
theorem ppr_RIJ {m : mzMt} {f : Nat → Int32 → Int64 → mzM → Option Nat} {ok : Nat → Int32 → Int64 → mzM → Prop} (h : ∀ (a0 : Nat) (a1 : Int32) (a2 : Int64) (M : mzM) (K : Value → mzM → Prop), ok a0 a1 a2 M → K (va_rf (f a0 a1 a2 M)) M → mzdo m [.ref a0, .int a1, .long a2] M K) : ∀ (as : List Value) (M : mzM) (K : Value → mzM → Prop), po_RIJ ok as M → K (va_rf (pfr_RIJ f as M)) M → m.1.2.2.2.2.2.2.2 as M K := by
  intro as M K h1 h2
  unfold po_RIJ at h1
  split at h1
  · exact h _ _ _ M K h1 h2
  · exact h1.elim
