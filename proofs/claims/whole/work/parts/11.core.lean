/-! THE SMALL LANGUAGE, 9: switches, arraycopy, a method's contract -/
def mzpcs : List (Int32 × Nat × mzT1) → Nat → Int32 → Nat
  | [], pd, _ => pd
  | a :: r, pd, z => if z = a.1 then a.2.1 else mzpcs r pd z
def mzwsw : List (Int32 × Nat × mzT1) → mzT1 → Int32 → mzsw
  | [], sd, _, ls, M, Kn, Kr, _, Kc => sd.1.2 ls M Kn Kr Kn Kc
  | a :: r, sd, z, ls, M, Kn, Kr, Kb, Kc => (z = a.1 → a.2.2.1.2 ls M Kn Kr Kn Kc) ∧ (¬ z = a.1 → mzwsw r sd z ls M Kn Kr Kb Kc)
/-- every key goes where it should -/
def mzswt (cs : List (Int32 × Nat × mzT1)) (pd : Nat) (pc : Nat) (i : Instr) : Bool := match i with
  | .tableswitch dflt lo hi offs => decide ((pc : Int) + dflt = (pd : Int)) && cs.all (fun c => decide (lo ≤ c.1.toInt ∧ c.1.toInt ≤ hi)) && (List.range (hi + 1 - lo).toNat).all (fun k => decide (offs[k]?.map (fun o => (pc : Int) + o) = some (mzpcs cs pd (Int32.ofInt (lo + k)) : Int)))
  | .lookupswitch dflt ps => decide ((pc : Int) + dflt = (pd : Int)) && (ps.toList.zip (ps.toList.drop 1)).all (fun (a, next) => a.1 < next.1) && cs.all (fun c => (ps.toList.find? (fun q => q.1 == c.1.toInt)).isSome) && ps.toList.all (fun q => decide ((pc : Int) + q.2 = (mzpcs cs pd (Int32.ofInt q.1) : Int)))
  | _ => false
theorem mzpcs_none {cs : List (Int32 × Nat × mzT1)} {pd : Nat} {z : Int32} (h : ∀ c ∈ cs, z ≠ c.1) : mzpcs cs pd z = pd := by
  induction cs with
  | nil => rfl
  | cons a r ih =>
    unfold mzpcs
    rw [if_neg (h a List.mem_cons_self), ih (fun c hc => h c (List.mem_cons_of_mem _ hc))]
theorem mzoff (d k : Int) : ∀ ps : List (Int × Int), Op.lookupswitch.offset ps d k = ((ps.find? (fun q => q.1 == k)).map (fun q => q.2)).getD d := by
  intro ps
  induction ps with
  | nil => rfl
  | cons a r ih =>
    obtain ⟨a, o⟩ := a
    rw [Op.lookupswitch.offset_cons, List.find?_cons]
    by_cases h : a = k
    · have : ((a, o).1 == k) = true := by simpa using h
      rw [if_pos h, this]; rfl
    · have : ((a, o).1 == k) = false := by simpa using h
      rw [if_neg h, this, ih]
theorem mzsw_go {C : mzs} {x : mzCx} (hx : mzok C x) {cs : List (Int32 × Nat × mzT1)} {pd pc len : Nat} {i : Instr} (hd : decode C.1 pc = .ok (i, len)) (h : mzswt cs pd pc i = true) {z : Int32} {H : Heap} {locs : List Loc} {A : Array Slot} {rest : List Value} (g : mzGo x H locs (mzpcs cs pd z) A rest) : mzGo x H locs pc A (.int z :: rest) := by
  unfold mzswt at h
  split at h
  · rename_i dflt lo hi offs
    rw [Bool.and_eq_true, Bool.and_eq_true] at h
    obtain ⟨⟨h1, h2⟩, h3⟩ := h
    by_cases ho : z.toInt < lo ∨ hi < z.toInt
    · refine lv_tableOut hx.1 hx.2.1 hd ho (of_decide_eq_true h1) ?_
      rw [mzpcs_none (fun c hc e => by
        have := of_decide_eq_true (List.all_eq_true.mp h2 c hc)
        rw [← e] at this
        omega)] at g
      exact g
    · have h4 := List.all_eq_true.mp h3 (z.toInt - lo).toNat (by rw [List.mem_range]; omega)
      have h4 := of_decide_eq_true h4
      have e1 : lo + ((z.toInt - lo).toNat : Int) = z.toInt := by omega
      rw [e1, Int32.ofInt_toInt] at h4
      cases ho2 : offs[(z.toInt - lo).toNat]? with
      | none => rw [ho2] at h4; cases h4
      | some off =>
        rw [ho2] at h4
        exact lv_tableIn hx.1 hx.2.1 hd (fun q => ho (Or.inl q)) (fun q => ho (Or.inr q)) ho2 (Option.some.inj h4) g
  · rename_i dflt ps
    rw [Bool.and_eq_true, Bool.and_eq_true, Bool.and_eq_true] at h
    obtain ⟨⟨⟨h1, h2⟩, h3⟩, h4⟩ := h
    cases hf : ps.toList.find? (fun q => q.1 == z.toInt) with
    | none =>
      rw [mzpcs_none (fun c hc e => by
        have := List.all_eq_true.mp h3 c hc
        rw [← e, hf] at this
        cases this)] at g
      exact lv_lookup hx.1 hx.2.1 hd h2 (by rw [mzoff, hf]; rfl) (of_decide_eq_true h1) g
    | some q =>
      have hm := List.mem_of_find?_eq_some hf
      have hk : q.1 = z.toInt := by simpa using List.find?_some hf
      have h5 := of_decide_eq_true (List.all_eq_true.mp h4 q hm)
      rw [hk, Int32.ofInt_toInt] at h5
      exact lv_lookup hx.1 hx.2.1 hd h2 (by rw [mzoff, hf]; rfl) h5 g
  · cases h
def mzcsw : List (Int32 × Nat × mzT1) → mzs → Nat → Nat → Bool
  | [], _, _, _ => true
  | a :: r, C, ex, ct => decide (a.2.2.1.1 C a.2.1 (some ex) ex ct = some ex) && mzcsw r C ex ct
theorem mzcsw_go {C : mzs} {x : mzCx} (hx : mzok C x) {ex ct pd : Nat} {sd : mzT1} (hd : sd.1.1 C pd (some ex) ex ct = some ex) {Kn : mzL → mzM → Prop} {Kr : Value → mzM → Prop} {Kb Kc : mzL → mzM → Prop} (n1 : mzat C x ex Kn) (n3 : mzat C x ct Kc) (n4 : mzend C x Kr) {A : Array Slot} {ls : mzL} {M : mzM} {H : Heap} {locs : List Loc} (h1 : mzlo C x A ls) (h2 : mzhp x M H locs) {z : Int32} : ∀ cs : List (Int32 × Nat × mzT1), mzcsw cs C ex ct = true → mzwsw cs sd z ls M Kn Kr Kb Kc → mzGo x H locs (mzpcs cs pd z) A [] := by
  intro cs
  induction cs with
  | nil => exact fun _ hw => sd.2 C pd _ ex ct ex hd x hx A ls M H locs Kn Kr Kn Kc h1 h2 hw n1 n1 n3 n4
  | cons a r ih =>
    intro hc hw
    unfold mzcsw at hc
    rw [Bool.and_eq_true] at hc
    unfold mzwsw at hw
    unfold mzpcs
    by_cases hz : z = a.1
    · rw [if_pos hz]
      exact a.2.2.2 C a.2.1 _ ex ct ex (of_decide_eq_true hc.1) x hx A ls M H locs Kn Kr Kn Kc h1 h2 (hw.1 hz) n1 n1 n3 n4
    · rw [if_neg hz]
      exact ih hc.2 (hw.2 hz)
def ssw (e : mzG) (cs : List (Int32 × Nat × mzT1)) (pd : Nat) (sd : mzT1) (px : Nat) : mzT1 := ⟨(fun C p0 kn _ ct => match e.1.2.1 C 0 p0 none with
    | none => none
    | some p1 => match decode C.1 p1 with
      | .ok (i, _) => if (mzswt cs pd p1 i && mzcsw cs C (kn.getD px) ct && decide (sd.1.1 C pd (some (kn.getD px)) (kn.getD px) ct = some (kn.getD px)) && decide (e.1.1 = 1)) = true then some (kn.getD px) else none
      | _ => none,
    fun ls M Kn Kr Kb Kc => e.1.2.2 ls M (fun v M1 => match v with
      | .int z => mzwsw cs sd z ls M1 Kn Kr Kb Kc
      | _ => False)), by
  intro C p0 kn bk ct p1 hc x hx A ls M H locs Kn Kr Kb Kc h1 h2 h3 n1 n2 n3 n4
  dsimp only at hc
  split at hc
  · cases hc
  · rename_i q hq
    split at hc
    · rename_i i len hd
      split at hc
      · rename_i hh
        cases hc
        rw [Bool.and_eq_true, Bool.and_eq_true, Bool.and_eq_true] at hh
        obtain ⟨⟨⟨a1, a2⟩, a3⟩, a4⟩ := hh
        refine e.2 C 0 p0 none q hq x hx A ls M H locs [] _ h1 h2 mz0 h3 (fun v M1 H1 locs1 k1 ty1 hh1 => ?_)
        split at k1
        · exact mzsw_go hx hd a1 (mzcsw_go hx (of_decide_eq_true a3) n1 n3 n4 h1 hh1 cs a2 k1)
        · exact k1.elim
      · cases hc
    · cases hc⟩
/-- the body of a method is its contract -/
theorem mzini_sub {ad : Nat → Nat} {nL : Nat} {as : List Value} : ∀ q ∈ mzlv ad (mzini nL as), q ∈ lv_args 0 (as.map (mzv ad)) := by
  have key : ∀ (as : List Value) (n i : Nat) (v : Value) (m : Nat), (mzar as ++ List.replicate m none)[i]? = some (some v) → (n + i, mzv ad v) ∈ lv_args n (as.map (mzv ad)) := by
    intro as
    induction as with
    | nil =>
      intro n i v m h
      simp [mzar, List.getElem?_replicate] at h
    | cons a r ih =>
      intro n i v m h
      have two : a.category = 2 → mzar (a :: r) = some a :: none :: mzar r := by
        intro h2
        cases a <;> first | rfl | (simp [Value.category] at h2; done)
      have one : a.category ≠ 2 → mzar (a :: r) = some a :: mzar r := by
        intro h2
        cases a <;> first | rfl | (exact absurd rfl h2)
      show _ ∈ (n, mzv ad a) :: lv_args (if (mzv ad a).category = 2 then n + 2 else n + 1) (r.map (mzv ad))
      rw [mzv_cat]
      by_cases h2 : a.category = 2
      · rw [two h2] at h
        rw [if_pos h2]
        match i, h with
        | 0, h =>
          have : a = v := by simpa using h
          subst this
          exact List.mem_cons.mpr (Or.inl rfl)
        | 1, h => simp at h
        | i + 2, h =>
          have := ih (n + 2) i v m (by simpa using h)
          rw [show n + 2 + i = n + (i + 2) by omega] at this
          exact List.mem_cons_of_mem _ this
      · rw [one h2] at h
        rw [if_neg h2]
        match i, h with
        | 0, h =>
          have : a = v := by simpa using h
          subst this
          exact List.mem_cons.mpr (Or.inl rfl)
        | i + 1, h =>
          have := ih (n + 1) i v m (by simpa using h)
          rw [show n + 1 + i = n + (i + 1) by omega] at this
          exact List.mem_cons_of_mem _ this
  intro q hq
  obtain ⟨v, h1, h2⟩ := mzlv_mem.mp hq
  have := key as 0 q.1 v _ h1
  rw [Nat.zero_add, ← h2] at this
  exact this
theorem mzar_len {ad : Nat → Nat} : ∀ as : List Value, (lg_sl (as.map (mzv ad))).length = (mzar as).length := by
  intro as
  induction as with
  | nil => rfl
  | cons a r ih =>
    have e : lg_sl ((a :: r).map (mzv ad)) = (if (mzv ad a).category = 2 then [.val (mzv ad a), .second] else [.val (mzv ad a)]) ++ lg_sl (r.map (mzv ad)) := rfl
    rw [e, List.length_append, ih, mzv_cat]
    by_cases h2 : a.category = 2
    · rw [if_pos h2]
      have : mzar (a :: r) = some a :: none :: mzar r := by
        cases a <;> first | rfl | (simp [Value.category] at h2; done)
      rw [this]; simp; omega
    · rw [if_neg h2]
      have : mzar (a :: r) = some a :: mzar r := by
        cases a <;> first | rfl | (exact absurd rfl h2)
      rw [this]; simp; omega
/-- a method out of its body: it answers what its body answers -/
def mzok1 (y : MethodName) (cc : ByteArray) (own nL : Nat) (ret : Option FieldType) (fr lo rk : Nat) (b : mzT1) : Prop :=
  (b.1.1 (cc, own, nL, fr, lo, rk) 0 none 0 0).isSome = true ∧ Jvm.Cond.code y cc nL ret ∈ mzT ∧ (y.cls ≠ "java/lang/invoke/MethodHandle" ∧ y.cls ≠ "java/lang/invoke/VarHandle") ∧ plainName y.cls = true ∧ mzcn own = y.cls ∧ (match rk with
    | 0 => ret = none
    | 1 => ret = some .int
    | 2 => ret = some .long
    | 3 => (∃ n, ret = some (.object n)) ∨ ∃ t, ret = some (.array t)
    | _ => ret = some .boolean)
def mzmk (y : MethodName) (cc : ByteArray) (own nL : Nat) (ret : Option FieldType) (fr lo rk : Nat) (b : mzT1) (ok : mzok1 y cc own nL ret fr lo rk b) : mzMt := ⟨(y, cc, nL, ret, fr, lo, rk, fun as M K => (mzar as).length ≤ nL ∧ b.1.2 (mzini nL as) M (fun _ _ => False) K (fun _ _ => False) (fun _ _ => False)), by
  obtain ⟨hchk, hcode, hy, hpl, hown, hret⟩ := ok
  refine ⟨⟨hcode, hy⟩, ?_⟩
  intro l w as M K hw
  dsimp only at hw ⊢
  obtain ⟨p1, hp1⟩ := Option.isSome_iff_exists.mp hchk
  refine Met.ofW (cc := cc) (maxL := nL) (ret := ret) hpl rfl ?_
  intro p e s m args below meth c s₁ B hml hv
  obtain ⟨rfl, hP, hK, hN, hI, hZ, hdd⟩ := hv
  have hx := B.exec
  have hb := B.bytes
  have hr := B.returns
  have hts := atoms_spec (ws := Jvm.Cond.code y cc nL ret :: mzT) B.pre
  have hcl : s.vm.findClass (mzcn own) = some m.cls := by rw [hown]; exact findClass_of_methodNamed B.named
  have hlocks := B.notSynchronized
  have hX : mzok (cc, own, nL, fr, lo, rk) (w, p, l, e, { frames := fr, cells := 0, slots := 0, locals := lo }, s, m, (as.map (mzv w.2.2.1)).toArray, below, meth, c, MQ below (mzQc w rk K) (as.map (mzv w.2.2.1)).toArray s 0 0 (mzA w)) :=
    ⟨hx, hb, hml, hcl, fun z hz => hts z (List.mem_cons_of_mem _ hz), hN, hK, hI, hZ, ⟨rfl, rfl⟩, hlocks⟩
  have hl := lv_entry (as.map (mzv w.2.2.1)) (n := nL) (by rw [mzar_len]; exact hw.1)
  rw [lg_entry_eq]
  refine b.2 (cc, own, nL, fr, lo, rk) 0 none 0 0 p1 hp1 _ hX _ (mzini nL as) M s.heap [] _ K _ _ (mzlv_mono hl mzini_sub) ⟨hP, va_S.rf, hdd⟩ hw.2 (fun _ _ _ _ _ q => q.elim) (fun _ _ _ _ _ q => q.elim) (fun _ _ _ _ _ q => q.elim) ?_
  intro v M1 H1 locs1 pc A hK1 hh1 hrt hd
  have hq : ∀ t : State, t.heap = H1 → mzQc w rk K (as.map (mzv w.2.2.1)).toArray s (.returned (mzro w.2.2.1 rk v)) t := fun t ht => ⟨⟨v, M1, rfl, hrt, hK1, by rw [ht]; exact hh1.1, hh1.2.2⟩, hh1.2.1.F ht⟩
  have hf : ∀ q ∈ locs1, mzA w q.base := hh1.2.1.2.2
  match rk, hret, hrt, hd, hq with
  | 0, hret, hrt, hd, hq => exact W.vret hx hb (by rw [hr]; exact hret) (fun t ht _ => hq t ht) hf hd
  | 1, hret, hrt, hd, hq =>
    obtain ⟨z, rfl⟩ := hrt
    exact W.iret hx hb (by rw [hr]; exact hret) (fun t ht _ => hq t ht) hf hd
  | 2, hret, hrt, hd, hq =>
    obtain ⟨z, rfl⟩ := hrt
    exact W.lret hx hb (by rw [hr]; exact hret) (fun t ht _ => hq t ht) hf hd
  | 3, hret, hrt, hd, hq =>
    obtain ⟨r, rfl⟩ := hrt
    have hv2 : mzv w.2.2.1 (va_rf r) = .null ∨ ∃ a, mzv w.2.2.1 (va_rf r) = .ref a := by
      cases r with
      | none => exact Or.inl rfl
      | some a => exact Or.inr ⟨_, rfl⟩
    rcases hret with ⟨n, e⟩ | ⟨t, e⟩
    · exact W.aret hx hb (hr.trans e) (Or.inl ⟨n, rfl⟩) hv2 (fun t ht _ => hq t ht) hf hd
    · exact W.aret hx hb (hr.trans e) (Or.inr ⟨t, rfl⟩) hv2 (fun t ht _ => hq t ht) hf hd
  | k + 4, hret, hrt, hd, hq =>
    rcases hrt with rfl | rfl
    · exact W.zret hx hb (hr.trans hret) rfl (fun t ht _ => hq t ht) hf hd
    · exact W.zret hx hb (hr.trans hret) rfl (fun t ht _ => hq t ht) hf hd⟩
