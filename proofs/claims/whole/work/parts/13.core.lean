/-! THE SMALL LANGUAGE, 11: rows to rewrite with -/
theorem mzrf {α : Sort _} {a b : α} (h : a = b) : a = b := h
theorem e_iK (v : Int32) {ls : mzL} {M : mzM} : (iK v).1.2.1 ls M = (v) := mzrf rfl
theorem o_iK (v : Int32) {ls : mzL} {M : mzM} : (iK v).1.2.2 ls M = (True) := mzrf rfl
theorem e_iKc {own idx : Nat} {v : Int32} (hm : Jvm.Cond.constant (mzcn own) idx v ∈ mzT) {ls : mzL} {M : mzM} : (iKc hm).1.2.1 ls M = (v) := mzrf rfl
theorem o_iKc {own idx : Nat} {v : Int32} (hm : Jvm.Cond.constant (mzcn own) idx v ∈ mzT) {ls : mzL} {M : mzM} : (iKc hm).1.2.2 ls M = (True) := mzrf rfl
theorem e_iKw {own idx : Nat} {v : Int32} (hm : Jvm.Cond.constant (mzcn own) idx v ∈ mzT) {ls : mzL} {M : mzM} : (iKw hm).1.2.1 ls M = (v) := mzrf rfl
theorem o_iKw {own idx : Nat} {v : Int32} (hm : Jvm.Cond.constant (mzcn own) idx v ∈ mzT) {ls : mzL} {M : mzM} : (iKw hm).1.2.2 ls M = (True) := mzrf rfl
theorem e_jK (v : Int64) {ls : mzL} {M : mzM} : (jK v).1.2.1 ls M = (v) := mzrf rfl
theorem o_jK (v : Int64) {ls : mzL} {M : mzM} : (jK v).1.2.2 ls M = (True) := mzrf rfl
theorem e_jKc {own idx : Nat} {v : Int64} (hm : Jvm.Cond.constantLong (mzcn own) idx v ∈ mzT) {ls : mzL} {M : mzM} : (jKc hm).1.2.1 ls M = (v) := mzrf rfl
theorem o_jKc {own idx : Nat} {v : Int64} (hm : Jvm.Cond.constantLong (mzcn own) idx v ∈ mzT) {ls : mzL} {M : mzM} : (jKc hm).1.2.2 ls M = (True) := mzrf rfl
theorem e_rN  {ls : mzL} {M : mzM} : rN.1.2.1 ls M = (none) := mzrf rfl
theorem o_rN  {ls : mzL} {M : mzM} : rN.1.2.2 ls M = (True) := mzrf rfl
theorem e_iL (k : Nat) {ls : mzL} {M : mzM} : (iL k).1.2.1 ls M = (mzgi ls k) := mzrf rfl
theorem o_iL (k : Nat) {ls : mzL} {M : mzM} : (iL k).1.2.2 ls M = (mzgio ls k) := mzrf rfl
theorem e_jL (k : Nat) {ls : mzL} {M : mzM} : (jL k).1.2.1 ls M = (mzgj ls k) := mzrf rfl
theorem o_jL (k : Nat) {ls : mzL} {M : mzM} : (jL k).1.2.2 ls M = (mzgjo ls k) := mzrf rfl
theorem e_rL (k : Nat) {ls : mzL} {M : mzM} : (rL k).1.2.1 ls M = (mzgr ls k) := mzrf rfl
theorem o_rL (k : Nat) {ls : mzL} {M : mzM} : (rL k).1.2.2 ls M = (mzgro ls k) := mzrf rfl
theorem e_iadd (a b : mzI) {ls : mzL} {M : mzM} : (iadd a b).1.2.1 ls M = (a.1.2.1 ls M + b.1.2.1 ls M) := mzrf rfl
theorem o_iadd (a b : mzI) {ls : mzL} {M : mzM} : (iadd a b).1.2.2 ls M = (a.1.2.2 ls M ∧ b.1.2.2 ls M) := mzrf rfl
theorem e_isub (a b : mzI) {ls : mzL} {M : mzM} : (isub a b).1.2.1 ls M = (a.1.2.1 ls M - b.1.2.1 ls M) := mzrf rfl
theorem o_isub (a b : mzI) {ls : mzL} {M : mzM} : (isub a b).1.2.2 ls M = (a.1.2.2 ls M ∧ b.1.2.2 ls M) := mzrf rfl
theorem e_imul (a b : mzI) {ls : mzL} {M : mzM} : (imul a b).1.2.1 ls M = (a.1.2.1 ls M * b.1.2.1 ls M) := mzrf rfl
theorem o_imul (a b : mzI) {ls : mzL} {M : mzM} : (imul a b).1.2.2 ls M = (a.1.2.2 ls M ∧ b.1.2.2 ls M) := mzrf rfl
theorem e_iand (a b : mzI) {ls : mzL} {M : mzM} : (iand a b).1.2.1 ls M = (a.1.2.1 ls M &&& b.1.2.1 ls M) := mzrf rfl
theorem o_iand (a b : mzI) {ls : mzL} {M : mzM} : (iand a b).1.2.2 ls M = (a.1.2.2 ls M ∧ b.1.2.2 ls M) := mzrf rfl
theorem e_ior (a b : mzI) {ls : mzL} {M : mzM} : (ior a b).1.2.1 ls M = (a.1.2.1 ls M ||| b.1.2.1 ls M) := mzrf rfl
theorem o_ior (a b : mzI) {ls : mzL} {M : mzM} : (ior a b).1.2.2 ls M = (a.1.2.2 ls M ∧ b.1.2.2 ls M) := mzrf rfl
theorem e_ishl (a b : mzI) {ls : mzL} {M : mzM} : (ishl a b).1.2.1 ls M = (mzshl (a.1.2.1 ls M) (b.1.2.1 ls M)) := mzrf rfl
theorem o_ishl (a b : mzI) {ls : mzL} {M : mzM} : (ishl a b).1.2.2 ls M = (a.1.2.2 ls M ∧ b.1.2.2 ls M) := mzrf rfl
theorem e_ishr (a b : mzI) {ls : mzL} {M : mzM} : (ishr a b).1.2.1 ls M = (mzshr (a.1.2.1 ls M) (b.1.2.1 ls M)) := mzrf rfl
theorem o_ishr (a b : mzI) {ls : mzL} {M : mzM} : (ishr a b).1.2.2 ls M = (a.1.2.2 ls M ∧ b.1.2.2 ls M) := mzrf rfl
theorem e_iushr (a b : mzI) {ls : mzL} {M : mzM} : (iushr a b).1.2.1 ls M = (mzushr (a.1.2.1 ls M) (b.1.2.1 ls M)) := mzrf rfl
theorem o_iushr (a b : mzI) {ls : mzL} {M : mzM} : (iushr a b).1.2.2 ls M = (a.1.2.2 ls M ∧ b.1.2.2 ls M) := mzrf rfl
theorem e_idiv (a b : mzI) {ls : mzL} {M : mzM} : (idiv a b).1.2.1 ls M = (a.1.2.1 ls M / b.1.2.1 ls M) := mzrf rfl
theorem o_idiv (a b : mzI) {ls : mzL} {M : mzM} : (idiv a b).1.2.2 ls M = (a.1.2.2 ls M ∧ b.1.2.2 ls M ∧ ¬ b.1.2.1 ls M = 0) := mzrf rfl
theorem e_irem (a b : mzI) {ls : mzL} {M : mzM} : (irem a b).1.2.1 ls M = (mzrem (a.1.2.1 ls M) (b.1.2.1 ls M)) := mzrf rfl
theorem o_irem (a b : mzI) {ls : mzL} {M : mzM} : (irem a b).1.2.2 ls M = (a.1.2.2 ls M ∧ b.1.2.2 ls M ∧ ¬ b.1.2.1 ls M = 0) := mzrf rfl
theorem e_jadd (a b : mzJ) {ls : mzL} {M : mzM} : (jadd a b).1.2.1 ls M = (a.1.2.1 ls M + b.1.2.1 ls M) := mzrf rfl
theorem o_jadd (a b : mzJ) {ls : mzL} {M : mzM} : (jadd a b).1.2.2 ls M = (a.1.2.2 ls M ∧ b.1.2.2 ls M) := mzrf rfl
theorem e_jsub (a b : mzJ) {ls : mzL} {M : mzM} : (jsub a b).1.2.1 ls M = (a.1.2.1 ls M - b.1.2.1 ls M) := mzrf rfl
theorem o_jsub (a b : mzJ) {ls : mzL} {M : mzM} : (jsub a b).1.2.2 ls M = (a.1.2.2 ls M ∧ b.1.2.2 ls M) := mzrf rfl
theorem e_jmul (a b : mzJ) {ls : mzL} {M : mzM} : (jmul a b).1.2.1 ls M = (a.1.2.1 ls M * b.1.2.1 ls M) := mzrf rfl
theorem o_jmul (a b : mzJ) {ls : mzL} {M : mzM} : (jmul a b).1.2.2 ls M = (a.1.2.2 ls M ∧ b.1.2.2 ls M) := mzrf rfl
theorem e_jand (a b : mzJ) {ls : mzL} {M : mzM} : (jand a b).1.2.1 ls M = (a.1.2.1 ls M &&& b.1.2.1 ls M) := mzrf rfl
theorem o_jand (a b : mzJ) {ls : mzL} {M : mzM} : (jand a b).1.2.2 ls M = (a.1.2.2 ls M ∧ b.1.2.2 ls M) := mzrf rfl
theorem e_jor (a b : mzJ) {ls : mzL} {M : mzM} : (jor a b).1.2.1 ls M = (a.1.2.1 ls M ||| b.1.2.1 ls M) := mzrf rfl
theorem o_jor (a b : mzJ) {ls : mzL} {M : mzM} : (jor a b).1.2.2 ls M = (a.1.2.2 ls M ∧ b.1.2.2 ls M) := mzrf rfl
theorem e_jxor (a b : mzJ) {ls : mzL} {M : mzM} : (jxor a b).1.2.1 ls M = (a.1.2.1 ls M ^^^ b.1.2.1 ls M) := mzrf rfl
theorem o_jxor (a b : mzJ) {ls : mzL} {M : mzM} : (jxor a b).1.2.2 ls M = (a.1.2.2 ls M ∧ b.1.2.2 ls M) := mzrf rfl
theorem e_jdiv (a b : mzJ) {ls : mzL} {M : mzM} : (jdiv a b).1.2.1 ls M = (a.1.2.1 ls M / b.1.2.1 ls M) := mzrf rfl
theorem o_jdiv (a b : mzJ) {ls : mzL} {M : mzM} : (jdiv a b).1.2.2 ls M = (a.1.2.2 ls M ∧ b.1.2.2 ls M ∧ ¬ b.1.2.1 ls M = 0) := mzrf rfl
theorem e_jrem (a b : mzJ) {ls : mzL} {M : mzM} : (jrem a b).1.2.1 ls M = (mzlrem (a.1.2.1 ls M) (b.1.2.1 ls M)) := mzrf rfl
theorem o_jrem (a b : mzJ) {ls : mzL} {M : mzM} : (jrem a b).1.2.2 ls M = (a.1.2.2 ls M ∧ b.1.2.2 ls M ∧ ¬ b.1.2.1 ls M = 0) := mzrf rfl
theorem e_jshl (a : mzJ) (b : mzI) {ls : mzL} {M : mzM} : (jshl a b).1.2.1 ls M = (mzlshl (a.1.2.1 ls M) (b.1.2.1 ls M)) := mzrf rfl
theorem o_jshl (a : mzJ) (b : mzI) {ls : mzL} {M : mzM} : (jshl a b).1.2.2 ls M = (a.1.2.2 ls M ∧ b.1.2.2 ls M) := mzrf rfl
theorem e_jushr (a : mzJ) (b : mzI) {ls : mzL} {M : mzM} : (jushr a b).1.2.1 ls M = (mzlushr (a.1.2.1 ls M) (b.1.2.1 ls M)) := mzrf rfl
theorem o_jushr (a : mzJ) (b : mzI) {ls : mzL} {M : mzM} : (jushr a b).1.2.2 ls M = (a.1.2.2 ls M ∧ b.1.2.2 ls M) := mzrf rfl
theorem e_i2j (a : mzI) {ls : mzL} {M : mzM} : (i2j a).1.2.1 ls M = ((a.1.2.1 ls M).toInt64) := mzrf rfl
theorem o_i2j (a : mzI) {ls : mzL} {M : mzM} : (i2j a).1.2.2 ls M = (a.1.2.2 ls M) := mzrf rfl
theorem e_j2i (a : mzJ) {ls : mzL} {M : mzM} : (j2i a).1.2.1 ls M = ((a.1.2.1 ls M).toInt32) := mzrf rfl
theorem o_j2i (a : mzJ) {ls : mzL} {M : mzM} : (j2i a).1.2.2 ls M = (a.1.2.2 ls M) := mzrf rfl
theorem e_i2b (a : mzI) {ls : mzL} {M : mzM} : (i2b a).1.2.1 ls M = ((a.1.2.1 ls M).toInt8.toInt32) := mzrf rfl
theorem o_i2b (a : mzI) {ls : mzL} {M : mzM} : (i2b a).1.2.2 ls M = (a.1.2.2 ls M) := mzrf rfl
theorem e_i2s (a : mzI) {ls : mzL} {M : mzM} : (i2s a).1.2.1 ls M = ((a.1.2.1 ls M).toInt16.toInt32) := mzrf rfl
theorem o_i2s (a : mzI) {ls : mzL} {M : mzM} : (i2s a).1.2.2 ls M = (a.1.2.2 ls M) := mzrf rfl
theorem e_iF {own idx ci k : Nat} (hl : mzLkF own idx ci k 0) (hc : ci < 20) (a : mzR) {ls : mzL} {M : mzM} : (iF hl hc a).1.2.1 ls M = (M.2.1 ((a.1.2.1 ls M).getD 0) k) := mzrf rfl
theorem o_iF {own idx ci k : Nat} (hl : mzLkF own idx ci k 0) (hc : ci < 20) (a : mzR) {ls : mzL} {M : mzM} : (iF hl hc a).1.2.2 ls M = (a.1.2.2 ls M ∧ mzis M (a.1.2.1 ls M) (ci + 4)) := mzrf rfl
theorem e_jF {own idx ci k : Nat} (hl : mzLkF own idx ci k 1) (hc : ci < 20) (a : mzR) {ls : mzL} {M : mzM} : (jF hl hc a).1.2.1 ls M = (M.2.2.1 ((a.1.2.1 ls M).getD 0) k) := mzrf rfl
theorem o_jF {own idx ci k : Nat} (hl : mzLkF own idx ci k 1) (hc : ci < 20) (a : mzR) {ls : mzL} {M : mzM} : (jF hl hc a).1.2.2 ls M = (a.1.2.2 ls M ∧ mzis M (a.1.2.1 ls M) (ci + 4)) := mzrf rfl
theorem e_rF {own idx ci k : Nat} (hl : mzLkF own idx ci k 2) (hc : ci < 20) (a : mzR) {ls : mzL} {M : mzM} : (rF hl hc a).1.2.1 ls M = (M.2.2.2 ((a.1.2.1 ls M).getD 0) k) := mzrf rfl
theorem o_rF {own idx ci k : Nat} (hl : mzLkF own idx ci k 2) (hc : ci < 20) (a : mzR) {ls : mzL} {M : mzM} : (rF hl hc a).1.2.2 ls M = (a.1.2.2 ls M ∧ mzis M (a.1.2.1 ls M) (ci + 4)) := mzrf rfl
theorem e_iA (a : mzR) (b : mzI) {ls : mzL} {M : mzM} : (iA a b).1.2.1 ls M = (M.2.1 ((a.1.2.1 ls M).getD 0) (b.1.2.1 ls M).toNatClampNeg) := mzrf rfl
theorem o_iA (a : mzR) (b : mzI) {ls : mzL} {M : mzM} : (iA a b).1.2.2 ls M = (a.1.2.2 ls M ∧ b.1.2.2 ls M ∧ mzla M (a.1.2.1 ls M) 0 (b.1.2.1 ls M)) := mzrf rfl
theorem e_jA (a : mzR) (b : mzI) {ls : mzL} {M : mzM} : (jA a b).1.2.1 ls M = (M.2.2.1 ((a.1.2.1 ls M).getD 0) (b.1.2.1 ls M).toNatClampNeg) := mzrf rfl
theorem o_jA (a : mzR) (b : mzI) {ls : mzL} {M : mzM} : (jA a b).1.2.2 ls M = (a.1.2.2 ls M ∧ b.1.2.2 ls M ∧ mzla M (a.1.2.1 ls M) 1 (b.1.2.1 ls M)) := mzrf rfl
theorem e_zA (a : mzR) (b : mzI) {ls : mzL} {M : mzM} : (zA a b).1.2.1 ls M = (M.2.1 ((a.1.2.1 ls M).getD 0) (b.1.2.1 ls M).toNatClampNeg) := mzrf rfl
theorem o_zA (a : mzR) (b : mzI) {ls : mzL} {M : mzM} : (zA a b).1.2.2 ls M = (a.1.2.2 ls M ∧ b.1.2.2 ls M ∧ mzla M (a.1.2.1 ls M) 2 (b.1.2.1 ls M)) := mzrf rfl
theorem e_rA (a : mzR) (b : mzI) {ls : mzL} {M : mzM} : (rA a b).1.2.1 ls M = (M.2.2.2 ((a.1.2.1 ls M).getD 0) (b.1.2.1 ls M).toNatClampNeg) := mzrf rfl
theorem o_rA (a : mzR) (b : mzI) {ls : mzL} {M : mzM} : (rA a b).1.2.2 ls M = (a.1.2.2 ls M ∧ b.1.2.2 ls M ∧ mzla M (a.1.2.1 ls M) 3 (b.1.2.1 ls M)) := mzrf rfl
theorem e_ilen (a : mzR) {ls : mzL} {M : mzM} : (ilen a).1.2.1 ls M = (Int32.ofNat (M.1 ((a.1.2.1 ls M).getD 0)).2) := mzrf rfl
theorem o_ilen (a : mzR) {ls : mzL} {M : mzM} : (ilen a).1.2.2 ls M = (a.1.2.2 ls M ∧ (mzis M (a.1.2.1 ls M) 0 ∨ mzis M (a.1.2.1 ls M) 1)) := mzrf rfl
theorem e_iU {own idx : Nat} (hl : mzLkU own idx) (a : mzI) {ls : mzL} {M : mzM} : (iU hl a).1.2.1 ls M = (mzturn (a.1.2.1 ls M).toNatClampNeg) := mzrf rfl
theorem o_iU {own idx : Nat} (hl : mzLkU own idx) (a : mzI) {ls : mzL} {M : mzM} : (iU hl a).1.2.2 ls M = (a.1.2.2 ls M ∧ vp_in (a.1.2.1 ls M) 12) := mzrf rfl
theorem e_ccmp (op : Jvm.ClassFile.Cond) (a b : mzI) {ls : mzL} {M : mzM} : (ccmp op a b).1.2.1 ls M = (mzcmp op (a.1.2.1 ls M) (b.1.2.1 ls M)) := mzrf rfl
theorem o_ccmp (op : Jvm.ClassFile.Cond) (a b : mzI) {ls : mzL} {M : mzM} : (ccmp op a b).1.2.2 ls M = (a.1.2.2 ls M ∧ b.1.2.2 ls M) := mzrf rfl
theorem e_cif0 (op : Jvm.ClassFile.Cond) (a : mzI) {ls : mzL} {M : mzM} : (cif0 op a).1.2.1 ls M = (mzcmp op (a.1.2.1 ls M) 0) := mzrf rfl
theorem o_cif0 (op : Jvm.ClassFile.Cond) (a : mzI) {ls : mzL} {M : mzM} : (cif0 op a).1.2.2 ls M = (a.1.2.2 ls M) := mzrf rfl
theorem e_ccml (op : Jvm.ClassFile.Cond) (a b : mzJ) {ls : mzL} {M : mzM} : (ccml op a b).1.2.1 ls M = (mzcml op (a.1.2.1 ls M) (b.1.2.1 ls M)) := mzrf rfl
theorem o_ccml (op : Jvm.ClassFile.Cond) (a b : mzJ) {ls : mzL} {M : mzM} : (ccml op a b).1.2.2 ls M = (a.1.2.2 ls M ∧ b.1.2.2 ls M) := mzrf rfl
theorem e_cnul (op : Jvm.ClassFile.Cond) (a : mzR) {ls : mzL} {M : mzM} : (cnul op a).1.2.1 ls M = (mzcmp op (mznul (va_rf (a.1.2.1 ls M))) 0) := mzrf rfl
theorem o_cnul (op : Jvm.ClassFile.Cond) (a : mzR) {ls : mzL} {M : mzM} : (cnul op a).1.2.2 ls M = (a.1.2.2 ls M) := mzrf rfl
theorem e_cand (pb : Nat) (a b : mzB) {ls : mzL} {M : mzM} : (cand pb a b).1.2.1 ls M = (a.1.2.1 ls M && b.1.2.1 ls M) := mzrf rfl
theorem o_cand (pb : Nat) (a b : mzB) {ls : mzL} {M : mzM} : (cand pb a b).1.2.2 ls M = (a.1.2.2 ls M ∧ (a.1.2.1 ls M = true → b.1.2.2 ls M)) := mzrf rfl
theorem e_cor (pb : Nat) (a b : mzB) {ls : mzL} {M : mzM} : (cor pb a b).1.2.1 ls M = (a.1.2.1 ls M || b.1.2.1 ls M) := mzrf rfl
theorem o_cor (pb : Nat) (a b : mzB) {ls : mzL} {M : mzM} : (cor pb a b).1.2.2 ls M = (a.1.2.2 ls M ∧ (a.1.2.1 ls M = false → b.1.2.2 ls M)) := mzrf rfl
theorem e_cnot (a : mzB) {ls : mzL} {M : mzM} : (cnot a).1.2.1 ls M = (!a.1.2.1 ls M) := mzrf rfl
theorem o_cnot (a : mzB) {ls : mzL} {M : mzM} : (cnot a).1.2.2 ls M = (a.1.2.2 ls M) := mzrf rfl
theorem e_iq (pa pb : Nat) (c : mzB) (a b : mzI) {ls : mzL} {M : mzM} : (iq pa pb c a b).1.2.1 ls M = (if c.1.2.1 ls M = true then a.1.2.1 ls M else b.1.2.1 ls M) := mzrf rfl
theorem o_iq (pa pb : Nat) (c : mzB) (a b : mzI) {ls : mzL} {M : mzM} : (iq pa pb c a b).1.2.2 ls M = (c.1.2.2 ls M ∧ (c.1.2.1 ls M = true → a.1.2.2 ls M) ∧ (c.1.2.1 ls M = false → b.1.2.2 ls M)) := mzrf rfl
theorem e_jq (pa pb : Nat) (c : mzB) (a b : mzJ) {ls : mzL} {M : mzM} : (jq pa pb c a b).1.2.1 ls M = (if c.1.2.1 ls M = true then a.1.2.1 ls M else b.1.2.1 ls M) := mzrf rfl
theorem o_jq (pa pb : Nat) (c : mzB) (a b : mzJ) {ls : mzL} {M : mzM} : (jq pa pb c a b).1.2.2 ls M = (c.1.2.2 ls M ∧ (c.1.2.1 ls M = true → a.1.2.2 ls M) ∧ (c.1.2.1 ls M = false → b.1.2.2 ls M)) := mzrf rfl
theorem e_rq (pa pb : Nat) (c : mzB) (a b : mzR) {ls : mzL} {M : mzM} : (rq pa pb c a b).1.2.1 ls M = (if c.1.2.1 ls M = true then a.1.2.1 ls M else b.1.2.1 ls M) := mzrf rfl
theorem o_rq (pa pb : Nat) (c : mzB) (a b : mzR) {ls : mzL} {M : mzM} : (rq pa pb c a b).1.2.2 ls M = (c.1.2.2 ls M ∧ (c.1.2.1 ls M = true → a.1.2.2 ls M) ∧ (c.1.2.1 ls M = false → b.1.2.2 ls M)) := mzrf rfl
theorem e_icV (m : mzPI) {own idx ci : Nat} {y : MethodName} (hl : mzLkV own idx ci y) (hy : m.1.1.1.1 = y) (as : List mzV) {ls : mzL} {M : mzM} : (icV m hl hy as).1.2.1 ls M = (m.1.2.1 (mzevs as ls M) M) := mzrf rfl
theorem o_icV (m : mzPI) {own idx ci : Nat} {y : MethodName} (hl : mzLkV own idx ci y) (hy : m.1.1.1.1 = y) (as : List mzV) {ls : mzL} {M : mzM} : (icV m hl hy as).1.2.2 ls M = (mzoks as ls M ∧ mzrc M (mzevs as ls M) ci ∧ m.1.2.2 (mzevs as ls M) M) := mzrf rfl
theorem e_icS (m : mzPI) {own idx : Nat} {y : MethodName} (hl : mzLkS own idx y) (hy : m.1.1.1.1 = y) (as : List mzV) {ls : mzL} {M : mzM} : (icS m hl hy as).1.2.1 ls M = (m.1.2.1 (mzevs as ls M) M) := mzrf rfl
theorem o_icS (m : mzPI) {own idx : Nat} {y : MethodName} (hl : mzLkS own idx y) (hy : m.1.1.1.1 = y) (as : List mzV) {ls : mzL} {M : mzM} : (icS m hl hy as).1.2.2 ls M = (mzoks as ls M ∧ m.1.2.2 (mzevs as ls M) M) := mzrf rfl
theorem e_jcV (m : mzPJ) {own idx ci : Nat} {y : MethodName} (hl : mzLkV own idx ci y) (hy : m.1.1.1.1 = y) (as : List mzV) {ls : mzL} {M : mzM} : (jcV m hl hy as).1.2.1 ls M = (m.1.2.1 (mzevs as ls M) M) := mzrf rfl
theorem o_jcV (m : mzPJ) {own idx ci : Nat} {y : MethodName} (hl : mzLkV own idx ci y) (hy : m.1.1.1.1 = y) (as : List mzV) {ls : mzL} {M : mzM} : (jcV m hl hy as).1.2.2 ls M = (mzoks as ls M ∧ mzrc M (mzevs as ls M) ci ∧ m.1.2.2 (mzevs as ls M) M) := mzrf rfl
theorem e_jcS (m : mzPJ) {own idx : Nat} {y : MethodName} (hl : mzLkS own idx y) (hy : m.1.1.1.1 = y) (as : List mzV) {ls : mzL} {M : mzM} : (jcS m hl hy as).1.2.1 ls M = (m.1.2.1 (mzevs as ls M) M) := mzrf rfl
theorem o_jcS (m : mzPJ) {own idx : Nat} {y : MethodName} (hl : mzLkS own idx y) (hy : m.1.1.1.1 = y) (as : List mzV) {ls : mzL} {M : mzM} : (jcS m hl hy as).1.2.2 ls M = (mzoks as ls M ∧ m.1.2.2 (mzevs as ls M) M) := mzrf rfl
theorem e_rcV (m : mzPR) {own idx ci : Nat} {y : MethodName} (hl : mzLkV own idx ci y) (hy : m.1.1.1.1 = y) (as : List mzV) {ls : mzL} {M : mzM} : (rcV m hl hy as).1.2.1 ls M = (m.1.2.1 (mzevs as ls M) M) := mzrf rfl
theorem o_rcV (m : mzPR) {own idx ci : Nat} {y : MethodName} (hl : mzLkV own idx ci y) (hy : m.1.1.1.1 = y) (as : List mzV) {ls : mzL} {M : mzM} : (rcV m hl hy as).1.2.2 ls M = (mzoks as ls M ∧ mzrc M (mzevs as ls M) ci ∧ m.1.2.2 (mzevs as ls M) M) := mzrf rfl
theorem e_rcS (m : mzPR) {own idx : Nat} {y : MethodName} (hl : mzLkS own idx y) (hy : m.1.1.1.1 = y) (as : List mzV) {ls : mzL} {M : mzM} : (rcS m hl hy as).1.2.1 ls M = (m.1.2.1 (mzevs as ls M) M) := mzrf rfl
theorem o_rcS (m : mzPR) {own idx : Nat} {y : MethodName} (hl : mzLkS own idx y) (hy : m.1.1.1.1 = y) (as : List mzV) {ls : mzL} {M : mzM} : (rcS m hl hy as).1.2.2 ls M = (mzoks as ls M ∧ m.1.2.2 (mzevs as ls M) M) := mzrf rfl
theorem w_gI (a : mzI) {ls : mzL} {M : mzM} {K : Value → mzM → Prop} : (gI a).1.2.2 ls M K = (a.1.2.2 ls M ∧ K (.int (a.1.2.1 ls M)) M) := mzrf rfl
theorem w_gJ (a : mzJ) {ls : mzL} {M : mzM} {K : Value → mzM → Prop} : (gJ a).1.2.2 ls M K = (a.1.2.2 ls M ∧ K (.long (a.1.2.1 ls M)) M) := mzrf rfl
theorem w_gR (a : mzR) {ls : mzL} {M : mzM} {K : Value → mzM → Prop} : (gR a).1.2.2 ls M K = (a.1.2.2 ls M ∧ K (va_rf (a.1.2.1 ls M)) M) := mzrf rfl
theorem w_gB (a : mzB) {ls : mzL} {M : mzM} {KT KF : mzM → Prop} : (gB a).1.2 ls M KT KF = (a.1.2.2 ls M ∧ (a.1.2.1 ls M = true → KT M) ∧ (a.1.2.1 ls M = false → KF M)) := mzrf rfl
theorem w_gV (a : mzV) {ls : mzL} {M : mzM} {K : Value → mzM → Prop} : (gV a).1.2.2 ls M K = (a.1.2.2.2 ls M ∧ K (a.1.2.2.1 ls M) M) := mzrf rfl
theorem e_vI (a : mzI) {ls : mzL} {M : mzM} : (vI a).1.2.2.1 ls M = (.int (a.1.2.1 ls M)) := mzrf rfl
theorem o_vI (a : mzI) {ls : mzL} {M : mzM} : (vI a).1.2.2.2 ls M = a.1.2.2 ls M := mzrf rfl
theorem e_vJ (a : mzJ) {ls : mzL} {M : mzM} : (vJ a).1.2.2.1 ls M = (.long (a.1.2.1 ls M)) := mzrf rfl
theorem o_vJ (a : mzJ) {ls : mzL} {M : mzM} : (vJ a).1.2.2.2 ls M = a.1.2.2 ls M := mzrf rfl
theorem e_vR (a : mzR) {ls : mzL} {M : mzM} : (vR a).1.2.2.1 ls M = (va_rf (a.1.2.1 ls M)) := mzrf rfl
theorem o_vR (a : mzR) {ls : mzL} {M : mzM} : (vR a).1.2.2.2 ls M = a.1.2.2 ls M := mzrf rfl
theorem w_gcV (r : mzMt) {own idx ci : Nat} {y : MethodName} (hl : mzLkV own idx ci y) (hy : r.1.1 = y) (h0 : r.1.2.2.2.2.2.2.1 ≠ 0) (as : List mzG) {ls : mzL} {M : mzM} {K : Value → mzM → Prop} : (gcV r hl hy h0 as).1.2.2 ls M K = (mzwV r ci as ls M K) := mzrf rfl
theorem w_gcS (r : mzMt) {own idx : Nat} {y : MethodName} (hl : mzLkS own idx y) (hy : r.1.1 = y) (h0 : r.1.2.2.2.2.2.2.1 ≠ 0) (as : List mzG) {ls : mzL} {M : mzM} {K : Value → mzM → Prop} : (gcS r hl hy h0 as).1.2.2 ls M K = (mzwS r as ls M K) := mzrf rfl
theorem w_g1 {ins : Instr} {t1 t : Nat} {f : Value → Option Value} (hr : mzR1 ins t1 t f) (a : mzG) {ls : mzL} {M : mzM} {K : Value → mzM → Prop} : (g1 hr a).1.2.2 ls M K = (a.1.2.2 ls M (fun v1 M1 => match f v1 with | some v => K v M1 | none => False)) := mzrf rfl
theorem w_g2 {ins : Instr} {t1 t2 t : Nat} {f : Value → Value → Option Value} (hr : mzR2 ins t1 t2 t f) (a b : mzG) {ls : mzL} {M : mzM} {K : Value → mzM → Prop} : (g2 hr a b).1.2.2 ls M K = (a.1.2.2 ls M (fun v1 M1 => b.1.2.2 ls M1 (fun v2 M2 => match f v1 v2 with | some v => K v M2 | none => False))) := mzrf rfl
theorem w_gq (pa pb : Nat) (c : mzB1) (a b : mzG) {ls : mzL} {M : mzM} {K : Value → mzM → Prop} : (gq pa pb c a b).1.2.2 ls M K = (c.1.2 ls M (fun M1 => a.1.2.2 ls M1 K) (fun M1 => b.1.2.2 ls M1 K)) := mzrf rfl
theorem w_bcmp (op : Jvm.ClassFile.Cond) (a b : mzG) {ls : mzL} {M : mzM} {KT KF : mzM → Prop} : (bcmp op a b).1.2 ls M KT KF = (a.1.2.2 ls M (fun v1 M1 => b.1.2.2 ls M1 (fun v2 M2 => match v1, v2 with | .int a, .int b => (mzcmp op a b = true → KT M2) ∧ (mzcmp op a b = false → KF M2) | _, _ => False))) := mzrf rfl
theorem w_bif0 (op : Jvm.ClassFile.Cond) (a : mzG) {ls : mzL} {M : mzM} {KT KF : mzM → Prop} : (bif0 op a).1.2 ls M KT KF = (a.1.2.2 ls M (fun v1 M1 => match v1 with | .int a => (mzcmp op a 0 = true → KT M1) ∧ (mzcmp op a 0 = false → KF M1) | _ => False)) := mzrf rfl
theorem w_band (pb : Nat) (a b : mzB1) {ls : mzL} {M : mzM} {KT KF : mzM → Prop} : (band pb a b).1.2 ls M KT KF = (a.1.2 ls M (fun M1 => b.1.2 ls M1 KT KF) KF) := mzrf rfl
theorem w_bor (pb : Nat) (a b : mzB1) {ls : mzL} {M : mzM} {KT KF : mzM → Prop} : (bor pb a b).1.2 ls M KT KF = (a.1.2 ls M KT (fun M1 => b.1.2 ls M1 KT KF)) := mzrf rfl
theorem w_bnot (a : mzB1) {ls : mzL} {M : mzM} {KT KF : mzM → Prop} : (bnot a).1.2 ls M KT KF = (a.1.2 ls M KF KT) := mzrf rfl
theorem w_sskip  {ls : mzL} {M : mzM} {Kn : mzL → mzM → Prop} {Kr : Value → mzM → Prop} {Kb Kc : mzL → mzM → Prop} : sskip.1.2 ls M Kn Kr Kb Kc = (Kn ls M) := mzrf rfl
theorem w_sseq (a b : mzT1) {ls : mzL} {M : mzM} {Kn : mzL → mzM → Prop} {Kr : Value → mzM → Prop} {Kb Kc : mzL → mzM → Prop} : (sseq a b).1.2 ls M Kn Kr Kb Kc = (a.1.2 ls M (fun ls1 M1 => b.1.2 ls1 M1 Kn Kr Kb Kc) Kr Kb Kc) := mzrf rfl
theorem w_sset (k : Nat) (e : mzG) {ls : mzL} {M : mzM} {Kn : mzL → mzM → Prop} {Kr : Value → mzM → Prop} {Kb Kc : mzL → mzM → Prop} : (sset k e).1.2 ls M Kn Kr Kb Kc = (e.1.2.2 ls M (fun v M1 => Kn (mzst ls k v) M1)) := mzrf rfl
theorem w_sinc (k : Nat) (n : Int) {ls : mzL} {M : mzM} {Kn : mzL → mzM → Prop} {Kr : Value → mzM → Prop} {Kb Kc : mzL → mzM → Prop} : (sinc k n).1.2 ls M Kn Kr Kb Kc = (match ls[k]? with | some (some (.int z)) => Kn (mzst ls k (.int (z + Int32.ofInt n))) M | _ => False) := mzrf rfl
theorem w_sret (e : mzG) {ls : mzL} {M : mzM} {Kn : mzL → mzM → Prop} {Kr : Value → mzM → Prop} {Kb Kc : mzL → mzM → Prop} : (sret e).1.2 ls M Kn Kr Kb Kc = (e.1.2.2 ls M Kr) := mzrf rfl
theorem w_sretZ (e : mzG) {ls : mzL} {M : mzM} {Kn : mzL → mzM → Prop} {Kr : Value → mzM → Prop} {Kb Kc : mzL → mzM → Prop} : (sretZ e).1.2 ls M Kn Kr Kb Kc = (e.1.2.2 ls M (fun v M1 => (v = .int 0 ∨ v = .int 1) ∧ Kr v M1)) := mzrf rfl
theorem w_sretv  {ls : mzL} {M : mzM} {Kn : mzL → mzM → Prop} {Kr : Value → mzM → Prop} {Kb Kc : mzL → mzM → Prop} : sretv.1.2 ls M Kn Kr Kb Kc = (Kr .null M) := mzrf rfl
theorem w_sbrk  {ls : mzL} {M : mzM} {Kn : mzL → mzM → Prop} {Kr : Value → mzM → Prop} {Kb Kc : mzL → mzM → Prop} : sbrk.1.2 ls M Kn Kr Kb Kc = (Kb ls M) := mzrf rfl
theorem w_scnt  {ls : mzL} {M : mzM} {Kn : mzL → mzM → Prop} {Kr : Value → mzM → Prop} {Kb Kc : mzL → mzM → Prop} : scnt.1.2 ls M Kn Kr Kb Kc = (Kc ls M) := mzrf rfl
theorem w_sif (c : mzB1) (pa : Nat) (a : mzT1) (pb : Nat) (b : mzT1) {ls : mzL} {M : mzM} {Kn : mzL → mzM → Prop} {Kr : Value → mzM → Prop} {Kb Kc : mzL → mzM → Prop} : (sif c pa a pb b).1.2 ls M Kn Kr Kb Kc = (c.1.2 ls M (fun M1 => a.1.2 ls M1 Kn Kr Kb Kc) (fun M1 => b.1.2 ls M1 Kn Kr Kb Kc)) := mzrf rfl
theorem w_sif1 (c : mzB1) (pa : Nat) (a : mzT1) {ls : mzL} {M : mzM} {Kn : mzL → mzM → Prop} {Kr : Value → mzM → Prop} {Kb Kc : mzL → mzM → Prop} : (sif1 c pa a).1.2 ls M Kn Kr Kb Kc = (c.1.2 ls M (fun M1 => a.1.2 ls M1 Kn Kr Kb Kc) (fun M1 => Kn ls M1)) := mzrf rfl
theorem w_sloop (c : mzB1) (pb : Nat) (b : mzT1) (ps : Nat) (st : mzT1) (px : Nat) {ls : mzL} {M : mzM} {Kn : mzL → mzM → Prop} {Kr : Value → mzM → Prop} {Kb Kc : mzL → mzM → Prop} : (sloop c pb b ps st px).1.2 ls M Kn Kr Kb Kc = (∃ n, mzit c.1.2 b.1.2 st.1.2 Kn Kr n ls M) := mzrf rfl
theorem w_sput {own idx ci k t : Nat} (hl : mzLkP own idx ci k t) (o e : mzG) {ls : mzL} {M : mzM} {Kn : mzL → mzM → Prop} {Kr : Value → mzM → Prop} {Kb Kc : mzL → mzM → Prop} : (sput hl o e).1.2 ls M Kn Kr Kb Kc = (o.1.2.2 ls M (fun v M1 => e.1.2.2 ls M1 (fun u M2 => match v with | .ref id => (M2.1 id).1 = ci + 4 ∧ Kn ls (mzput t M2 id k u) | _ => False))) := mzrf rfl
theorem w_sputop {own idx ci k t : Nat} {ins : Instr} {t2 : Nat} {f : Value → Value → Option Value} (hl : mzLkP own idx ci k t) (hr : mzR2 ins (t + 1) t2 (t + 1) f) (o e : mzG) {ls : mzL} {M : mzM} {Kn : mzL → mzM → Prop} {Kr : Value → mzM → Prop} {Kb Kc : mzL → mzM → Prop} : (sputop hl hr o e).1.2 ls M Kn Kr Kb Kc = (o.1.2.2 ls M (fun v M1 => match v with | .ref id => (M1.1 id).1 = ci + 4 ∧ e.1.2.2 ls M1 (fun u M2 => (M2.1 id).1 = ci + 4 ∧ (match f (mzget t M1 id k) u with | some u2 => Kn ls (mzput t M2 id k u2) | none => False)) | _ => False)) := mzrf rfl
theorem w_sast (a : Nat) (o i e : mzG) {ls : mzL} {M : mzM} {Kn : mzL → mzM → Prop} {Kr : Value → mzM → Prop} {Kb Kc : mzL → mzM → Prop} : (sast a o i e).1.2 ls M Kn Kr Kb Kc = (o.1.2.2 ls M (fun v M1 => i.1.2.2 ls M1 (fun j M2 => e.1.2.2 ls M2 (fun u M3 => match v, j with | .ref id, .int i => (M3.1 id).1 = a ∧ vp_in i (M3.1 id).2 ∧ Kn ls (mzasto a M3 id i.toNatClampNeg u) | _, _ => False)))) := mzrf rfl
theorem w_sastop {a : Nat} {ins : Instr} {t2 : Nat} {f : Value → Value → Option Value} (hr : mzR2 ins (mzalT a) t2 (mzalT a) f) (ha : a < 2) (o i e : mzG) {ls : mzL} {M : mzM} {Kn : mzL → mzM → Prop} {Kr : Value → mzM → Prop} {Kb Kc : mzL → mzM → Prop} : (sastop hr ha o i e).1.2 ls M Kn Kr Kb Kc = (o.1.2.2 ls M (fun v M1 => i.1.2.2 ls M1 (fun j M2 => match v, j with | .ref id, .int i => (M2.1 id).1 = a ∧ vp_in i (M2.1 id).2 ∧ e.1.2.2 ls M2 (fun u M3 => M3.1 = M2.1 ∧ (match f (mzald a M2 id i.toNatClampNeg) u with | some u2 => Kn ls (mzasto a M3 id i.toNatClampNeg u2) | none => False)) | _, _ => False))) := mzrf rfl
def sastI {ins : Instr} {t2 : Nat} {f : Value → Value → Option Value} (hr : mzR2 ins 1 t2 1 f) (o i e : mzG) : mzT1 := sastop (a := 0) hr (by decide) o i e
def sastJ {ins : Instr} {t2 : Nat} {f : Value → Value → Option Value} (hr : mzR2 ins 2 t2 2 f) (o i e : mzG) : mzT1 := sastop (a := 1) hr (by decide) o i e
def sputI {own idx ci k : Nat} {ins : Instr} {t2 : Nat} {f : Value → Value → Option Value} (hl : mzLkP own idx ci k 0) (hr : mzR2 ins 1 t2 1 f) (o e : mzG) : mzT1 := sputop (t := 0) hl hr o e
def sputJ {own idx ci k : Nat} {ins : Instr} {t2 : Nat} {f : Value → Value → Option Value} (hl : mzLkP own idx ci k 1) (hr : mzR2 ins 2 t2 2 f) (o e : mzG) : mzT1 := sputop (t := 1) hl hr o e
theorem w_sastI {ins : Instr} {t2 : Nat} {f : Value → Value → Option Value} (hr : mzR2 ins 1 t2 1 f) (o i e : mzG) {ls : mzL} {M : mzM} {Kn : mzL → mzM → Prop} {Kr : Value → mzM → Prop} {Kb Kc : mzL → mzM → Prop} : (sastI hr o i e).1.2 ls M Kn Kr Kb Kc = (o.1.2.2 ls M (fun v M1 => i.1.2.2 ls M1 (fun j M2 => match v, j with | .ref id, .int i => (M2.1 id).1 = 0 ∧ vp_in i (M2.1 id).2 ∧ e.1.2.2 ls M2 (fun u M3 => M3.1 = M2.1 ∧ (match f (mzald 0 M2 id i.toNatClampNeg) u with | some u2 => Kn ls (mzasto 0 M3 id i.toNatClampNeg u2) | none => False)) | _, _ => False))) := mzrf rfl
theorem w_sastJ {ins : Instr} {t2 : Nat} {f : Value → Value → Option Value} (hr : mzR2 ins 2 t2 2 f) (o i e : mzG) {ls : mzL} {M : mzM} {Kn : mzL → mzM → Prop} {Kr : Value → mzM → Prop} {Kb Kc : mzL → mzM → Prop} : (sastJ hr o i e).1.2 ls M Kn Kr Kb Kc = (o.1.2.2 ls M (fun v M1 => i.1.2.2 ls M1 (fun j M2 => match v, j with | .ref id, .int i => (M2.1 id).1 = 1 ∧ vp_in i (M2.1 id).2 ∧ e.1.2.2 ls M2 (fun u M3 => M3.1 = M2.1 ∧ (match f (mzald 1 M2 id i.toNatClampNeg) u with | some u2 => Kn ls (mzasto 1 M3 id i.toNatClampNeg u2) | none => False)) | _, _ => False))) := mzrf rfl
theorem w_sputI {own idx ci k : Nat} {ins : Instr} {t2 : Nat} {f : Value → Value → Option Value} (hl : mzLkP own idx ci k 0) (hr : mzR2 ins 1 t2 1 f) (o e : mzG) {ls : mzL} {M : mzM} {Kn : mzL → mzM → Prop} {Kr : Value → mzM → Prop} {Kb Kc : mzL → mzM → Prop} : (sputI hl hr o e).1.2 ls M Kn Kr Kb Kc = (o.1.2.2 ls M (fun v M1 => match v with | .ref id => (M1.1 id).1 = ci + 4 ∧ e.1.2.2 ls M1 (fun u M2 => (M2.1 id).1 = ci + 4 ∧ (match f (mzget 0 M1 id k) u with | some u2 => Kn ls (mzput 0 M2 id k u2) | none => False)) | _ => False)) := mzrf rfl
theorem w_sputJ {own idx ci k : Nat} {ins : Instr} {t2 : Nat} {f : Value → Value → Option Value} (hl : mzLkP own idx ci k 1) (hr : mzR2 ins 2 t2 2 f) (o e : mzG) {ls : mzL} {M : mzM} {Kn : mzL → mzM → Prop} {Kr : Value → mzM → Prop} {Kb Kc : mzL → mzM → Prop} : (sputJ hl hr o e).1.2 ls M Kn Kr Kb Kc = (o.1.2.2 ls M (fun v M1 => match v with | .ref id => (M1.1 id).1 = ci + 4 ∧ e.1.2.2 ls M1 (fun u M2 => (M2.1 id).1 = ci + 4 ∧ (match f (mzget 1 M1 id k) u with | some u2 => Kn ls (mzput 1 M2 id k u2) | none => False)) | _ => False)) := mzrf rfl
theorem w_scV (r : mzMt) {own idx ci : Nat} {y : MethodName} (hl : mzLkV own idx ci y) (hy : r.1.1 = y) (as : List mzG) {ls : mzL} {M : mzM} {Kn : mzL → mzM → Prop} {Kr : Value → mzM → Prop} {Kb Kc : mzL → mzM → Prop} : (scV r hl hy as).1.2 ls M Kn Kr Kb Kc = (mzwV r ci as ls M (fun _ M1 => Kn ls M1)) := mzrf rfl
theorem w_scS (r : mzMt) {own idx : Nat} {y : MethodName} (hl : mzLkS own idx y) (hy : r.1.1 = y) (as : List mzG) {ls : mzL} {M : mzM} {Kn : mzL → mzM → Prop} {Kr : Value → mzM → Prop} {Kb Kc : mzL → mzM → Prop} : (scS r hl hy as).1.2 ls M Kn Kr Kb Kc = (mzwS r as ls M (fun _ M1 => Kn ls M1)) := mzrf rfl
theorem w_spop (e : mzG) {ls : mzL} {M : mzM} {Kn : mzL → mzM → Prop} {Kr : Value → mzM → Prop} {Kb Kc : mzL → mzM → Prop} : (spop e).1.2 ls M Kn Kr Kb Kc = (e.1.2.2 ls M (fun _ M1 => Kn ls M1)) := mzrf rfl
theorem w_ssw (e : mzG) (cs : List (Int32 × Nat × mzT1)) (pd : Nat) (sd : mzT1) (px : Nat) {ls : mzL} {M : mzM} {Kn : mzL → mzM → Prop} {Kr : Value → mzM → Prop} {Kb Kc : mzL → mzM → Prop} : (ssw e cs pd sd px).1.2 ls M Kn Kr Kb Kc = (e.1.2.2 ls M (fun v M1 => match v with | .int z => mzwsw cs sd z ls M1 Kn Kr Kb Kc | _ => False)) := mzrf rfl
/-- what a method does -/
def mzdo (r : mzMt) (as : List Value) (M : mzM) (K : Value → mzM → Prop) : Prop := r.1.2.2.2.2.2.2.2 as M K
theorem w_do (r : mzMt) {as : List Value} {M : mzM} {K : Value → mzM → Prop} : r.1.2.2.2.2.2.2.2 as M K = mzdo r as M K := mzrf rfl
theorem w_mk {y : MethodName} {cc : ByteArray} {own nL : Nat} {ret : Option FieldType} {fr lo rk : Nat} {b : mzT1} (ok : mzok1 y cc own nL ret fr lo rk b) {as : List Value} {M : mzM} {K : Value → mzM → Prop} : mzdo (mzmk y cc own nL ret fr lo rk b ok) as M K = ((mzar as).length ≤ nL ∧ b.1.2 (mzini nL as) M (fun _ _ => False) K (fun _ _ => False) (fun _ _ => False)) := mzrf rfl
