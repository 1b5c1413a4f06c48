/-! the relation; the class's answers by the reference's words -/
def Rl (IR I : Nat → Nat → Int32) (L : Nat → Nat → Int64) (n0 n1 c : Nat) (cc : Nat → Nat) : Prop := rbT IR n0 n1 ∧ cT IR I n0 n1 ∧ cmz IR I L cc (mzq (IR 2) n0).1 (mzq (IR 2) n0).2.1 (mzq (IR 2) n0).2.2.2 ∧ cW (fun p => IR 2 (41 + p)) n1 I ∧ I 5 4 = mzfv0 (IR 2) n0 ∧ I 8 4 = mzfv1 (fun p => IR 2 (41 + p)) n1 ∧ rbN IR c ∧ cN IR c I ∧ rbS IR ∧ cSh IR I ∧ I 0 8 = IR 0 28
theorem Rl_P {IR I : Nat → Nat → Int32} {L : Nat → Nat → Int64} {n0 n1 c : Nat} {cc : Nat → Nat} (h : Rl IR I L n0 n1 c cc) : cP (opX IR n0) (mzq (IR 2) n0).1 (mzq (IR 2) n0).2.1 I L := h.2.2.1.2.2
theorem opX_T (IR : Nat → Nat → Int32) (n0 : Nat) : opT (opX IR n0) (mzq (IR 2) n0).1 (mzq (IR 2) n0).2.1 := opN_T IR _ _ _
def fB : Nat → Prop := fun i => i = 1 ∨ i = 2 ∨ (7 ≤ i ∧ i ≤ 10) ∨ i = 14 ∨ i = 15 ∨ (19 ≤ i ∧ i ≤ 22)
theorem Rl_IR {IR IR' I : Nat → Nat → Int32} {L : Nat → Nat → Int64} {n0 n1 c : Nat} {cc : Nat → Nat} (h : Rl IR I L n0 n1 c cc) (he : ∀ i j, fB i → IR' i j = IR i j) (e17 : IR' 0 17 = IR 0 17) (e28 : IR' 0 28 = IR 0 28) (ho : opX IR' n0 = opX IR n0) : Rl IR' I L n0 n1 c cc := by
  obtain ⟨a1, a2, a3, a4, a5, a6, a7, a8, a9, a10, a11⟩ := h
  have k2 : IR' 2 = IR 2 := funext fun j => he 2 j (by unfold fB; omega)
  have k14 : IR' 14 = IR 14 := funext fun j => he 14 j (by unfold fB; omega)
  have k15 : IR' 15 = IR 15 := funext fun j => he 15 j (by unfold fB; omega)
  have k19 : IR' 19 = IR 19 := funext fun j => he 19 j (by unfold fB; omega)
  have k20 : IR' 20 = IR 20 := funext fun j => he 20 j (by unfold fB; omega)
  have k21 : IR' 21 = IR 21 := funext fun j => he 21 j (by unfold fB; omega)
  have k22 : IR' 22 = IR 22 := funext fun j => he 22 j (by unfold fB; omega)
  have hq : cP (opX IR' n0) (mzq (IR 2) n0).1 (mzq (IR 2) n0).2.1 I L := by rw [ho]; exact a3.2.2
  refine ⟨?_, ?_, ⟨plR_R a3.1 (fun i j x y => he i j (by unfold fB; omega)), ?_, ?_⟩, ?_, ?_, ?_, ?_, ?_, ?_, ?_, a11.trans e28.symm⟩
  · exact ⟨(he 1 0 (by unfold fB; omega)).trans a1.1, a1.2.1, (he 1 1 (by unfold fB; omega)).trans a1.2.2.1, a1.2.2.2⟩
  · unfold cT; rw [k2]; exact a2
  · rw [k2]; exact a3.2.1
  · have : cP (opX IR' n0) (mzq (IR' 2) n0).1 (mzq (IR' 2) n0).2.1 I L := by rw [k2]; exact hq
    exact this
  · rw [k2]; exact a4
  · rw [k2]; exact a5
  · rw [k2]; exact a6
  · exact ⟨e17.trans a7.1, a7.2⟩
  · refine ⟨a8.1, a8.2.1, fun k st x y => ?_, a8.2.2.2⟩
    rw [snk_k k14 k15]; exact a8.2.2.1 k st x y
  · intro s hs
    rw [k21]; exact a9 s hs
  · intro s hs
    have := a10 s hs
    unfold shk at this ⊢
    rw [k19, k20, k21, k22]; exact this
theorem Rl_D {IR IR' I : Nat → Nat → Int32} {L : Nat → Nat → Int64} {n0 n1 c : Nat} {cc : Nat → Nat} (h : Rl IR I L n0 n1 c cc) (he : eqx fD IR IR') : Rl IR' I L n0 n1 c cc :=
  Rl_IR h (fun i j q => he i j (by unfold fB at q; unfold fD fM fW; omega)) (he 0 17 (by unfold fD fM fW; omega)) (he 0 28 (by unfold fD fM fW; omega)) (opX_k he n0)
theorem Rl_S {IR I I' : Nat → Nat → Int32} {L : Nat → Nat → Int64} {n0 n1 c : Nat} {cc : Nat → Nat} (h : Rl IR I L n0 n1 c cc) (he : eqx fS I I') : Rl IR I' L n0 n1 c cc := by
  obtain ⟨a1, a2, a3, a4, a5, a6, a7, a8, a9, a10, a11⟩ := h
  have k : ∀ i j, i ≤ 30 → I' i j = I i j := fun i j h => he i j (by unfold fS; omega)
  refine ⟨a1, ⟨(k _ _ (by omega)).trans a2.1, (k _ _ (by omega)).trans a2.2.1, fun j hj => (k _ _ (by omega)).trans (a2.2.2.1 j hj), fun j hj => (k _ _ (by omega)).trans (a2.2.2.2 j hj)⟩, ⟨plR_I a3.1 (fun i j _ y => k i j (by omega)), cM_of a3.2.1 (k _ _ (by omega)) (k _ _ (by omega)), cP_S a3.2.2 he⟩, cW_S a4 he, (k _ _ (by omega)).trans a5, (k _ _ (by omega)).trans a6, a7, ?_, a9, ?_, (k _ _ (by omega)).trans a11⟩
  · obtain ⟨b1, b2, b3, l, b4, b5, b6⟩ := a8
    refine ⟨(k _ _ (by omega)).trans b1, b2, fun x st hx hs => ?_, l, b4, (k _ _ (by omega)).trans b5, fun x hx hy => (k _ _ (by omega)).trans (b6 x hx hy)⟩
    rw [k 21 x (by omega)]; exact b3 x st hx hs
  · intro s hs
    have := a10 s hs
    unfold shk at this ⊢
    rw [k (23 + 2 * s) 1 (by omega), k (23 + 2 * s) 2 (by omega), show I' (24 + 2 * s) = I (24 + 2 * s) from funext fun j => k _ j (by omega)]
    exact this
theorem Rl_L {IR I : Nat → Nat → Int32} {L L' : Nat → Nat → Int64} {n0 n1 c : Nat} {cc : Nat → Nat} (h : Rl IR I L n0 n1 c cc) (he : ∀ i j, i ≠ 37 → i ≠ 38 → L' i j = L i j) : Rl IR I L' n0 n1 c cc := by
  obtain ⟨a1, a2, a3, a4⟩ := h
  refine ⟨a1, a2, ⟨a3.1, ?_, cP_L a3.2.2 he⟩, a4⟩
  have := a3.2.1
  unfold cM at this ⊢
  rw [he 5 5 (by decide) (by decide), he 5 6 (by decide) (by decide), he 5 7 (by decide) (by decide), he 5 8 (by decide) (by decide)]
  exact this
theorem q_open (IR I : Nat → Nat → Int32) (L : Nat → Nat → Int64) (sw : Bool) (K : Value → mzM → Prop) {n0 n1 c : Nat} {cc : Nat → Nat} (hr : Rl IR I L n0 n1 c cc) (s d : Int32) (hK : K (.int (ansOp IR n0 s d)) (mC I L sw)) : mzdo M_X7_open [.ref 0, .int s, .int d] (mC I L sw) K := by
  unfold ansOp at hK
  rw [(mzq_ok (IR 2) n0).1] at hK
  exact c_open I L sw K (Rl_P hr) s d hK
theorem q_on (IR I : Nat → Nat → Int32) (L : Nat → Nat → Int64) (sw : Bool) (K : Value → mzM → Prop) {n0 n1 c : Nat} {cc : Nat → Nat} (hr : Rl IR I L n0 n1 c cc) (w s what : Int32) (hK : K (.int (ansOn IR n0 n1 w s what)) (mC I L sw)) : mzdo M_X7_on [.ref 0, .int w, .int s, .int what] (mC I L sw) K := by
  unfold ansOn at hK
  rw [(mzq_ok (IR 2) n0).1] at hK
  exact c_on I L sw K (Rl_P hr) hr.2.2.2.1 w s what hK
theorem q_comes (IR I : Nat → Nat → Int32) (L : Nat → Nat → Int64) (sw : Bool) (K : Value → mzM → Prop) {n0 n1 c : Nat} {cc : Nat → Nat} (hr : Rl IR I L n0 n1 c cc) (w d : Int32) (hK : K (.int (ansCm IR n0 n1 w d)) (mC I L sw)) : mzdo M_X7_comes [.ref 0, .int w, .int d] (mC I L sw) K := by
  unfold ansCm at hK
  rw [(mzq_ok (IR 2) n0).1] at hK
  exact c_comes I L sw K (Rl_P hr) hr.2.2.2.1 w d hK
theorem q_meet (IR I : Nat → Nat → Int32) (L : Nat → Nat → Int64) (sw : Bool) (K : Value → mzM → Prop) {n0 n1 c : Nat} {cc : Nat → Nat} (hr : Rl IR I L n0 n1 c cc) (w d : Int32) (hK : K (.int (ansMt IR n0 n1 w d)) (mC I L sw)) : mzdo M_X7_meet [.ref 0, .int w, .int d] (mC I L sw) K := by
  unfold ansMt at hK
  rw [(mzq_ok (IR 2) n0).1] at hK
  exact c_meet I L sw K (Rl_P hr) hr.2.2.2.1 w d hK
theorem q_round (IR I : Nat → Nat → Int32) (L : Nat → Nat → Int64) (sw : Bool) (K : Value → mzM → Prop) {n0 n1 c : Nat} {cc : Nat → Nat} (hr : Rl IR I L n0 n1 c cc) (w : Int32) (hK : K (.int (ansRd IR n0 n1 w)) (mC I L sw)) : mzdo M_X7_round [.ref 0, .int w] (mC I L sw) K := by
  unfold ansRd at hK
  rw [(mzq_ok (IR 2) n0).1] at hK
  exact c_round I L sw K (Rl_P hr) hr.2.2.2.1 w hK
theorem q_trod (IR I : Nat → Nat → Int32) (L : Nat → Nat → Int64) (sw : Bool) (K : Value → mzM → Prop) {n0 n1 c : Nat} {cc : Nat → Nat} (hr : Rl IR I L n0 n1 c cc) (s what : Int32) (hK : K (.int (ansTr IR n0 n1 s what)) (mC I L sw)) : mzdo M_X7_trod [.ref 0, .int s, .int what] (mC I L sw) K := by
  unfold ansTr at hK
  unfold trD at hK
  rw [(mzq_ok (IR 2) n0).1] at hK
  exact c_trod I L sw K (Rl_P hr) hr.2.2.2.1 s what hK
theorem q_child (IR I : Nat → Nat → Int32) (L : Nat → Nat → Int64) (sw : Bool) (K : Value → mzM → Prop) {n0 n1 c : Nat} {cc : Nat → Nat} (hr : Rl IR I L n0 n1 c cc) (seed day steps what : Int32) (hK : K (.int (ansCh IR n0 seed day steps what)) (mC I L sw)) : mzdo M_X7_child [.ref 0, .int seed, .int day, .int steps, .int what] (mC I L sw) K := by
  unfold ansCh at hK
  rw [(mzq_ok (IR 2) n0).1] at hK
  exact c_child I L sw K (Rl_P hr) seed day steps what hK
theorem q_walker (IR I : Nat → Nat → Int32) (L : Nat → Nat → Int64) (sw : Bool) (K : Value → mzM → Prop) {n0 n1 c : Nat} {cc : Nat → Nat} (hr : Rl IR I L n0 n1 c cc) (w what : Int32) (hK : K (.int (ansWk IR n1 w what)) (mC I L sw)) : mzdo M_X7_walker [.ref 0, .int w, .int what] (mC I L sw) K := by
  unfold ansWk at hK
  exact c_walker I L sw K hr.2.2.2.1 w what hK
theorem q_fault (IR I : Nat → Nat → Int32) (L : Nat → Nat → Int64) (sw : Bool) (K : Value → mzM → Prop) {n0 n1 c : Nat} {cc : Nat → Nat} (hr : Rl IR I L n0 n1 c cc) (t : Int32) (hK : K (.int (ansFt IR n0 n1 t)) (mC I L sw)) : mzdo M_X7_fault [.ref 0, .int t] (mC I L sw) K := by
  unfold ansFt at hK
  exact c_fault I L sw K hr.2.2.2.2.1 hr.2.2.2.2.2.1 t hK
theorem q_way (IR I : Nat → Nat → Int32) (L : Nat → Nat → Int64) (sw : Bool) (K : Value → mzM → Prop) {n0 n1 c : Nat} {cc : Nat → Nat} (hr : Rl IR I L n0 n1 c cc) (s a b : Int32) (hK : K (.int (ansWy IR n0 s a b)) (mC I L sw)) : mzdo M_X7_way [.ref 0, .int s, .int a, .int b] (mC I L sw) K := by
  unfold ansWy at hK
  rw [(mzq_ok (IR 2) n0).1] at hK
  exact c_way I L sw K (Rl_P hr) (opX_T IR n0) s a b hK
theorem q_through (IR I : Nat → Nat → Int32) (L : Nat → Nat → Int64) (sw : Bool) (K : Value → mzM → Prop) {n0 n1 c : Nat} {cc : Nat → Nat} (hr : Rl IR I L n0 n1 c cc) (s a b t : Int32) (hK : K (.int (ansTh IR n0 s a b t)) (mC I L sw)) : mzdo M_X7_through [.ref 0, .int s, .int a, .int b, .int t] (mC I L sw) K := by
  unfold ansTh at hK
  rw [(mzq_ok (IR 2) n0).1] at hK
  exact c_through I L sw K (Rl_P hr) (opX_T IR n0) s a b t hK
theorem q_joined (IR I : Nat → Nat → Int32) (L : Nat → Nat → Int64) (sw : Bool) (K : Value → mzM → Prop) {n0 n1 c : Nat} {cc : Nat → Nat} (hr : Rl IR I L n0 n1 c cc) (s a : Int32) (hK : K (.int (ansJo IR n0 s a)) (mC I L sw)) : mzdo M_X7_joined [.ref 0, .int s, .int a] (mC I L sw) K := by
  unfold ansJo at hK
  rw [(mzq_ok (IR 2) n0).1] at hK
  exact c_joined I L sw K (Rl_P hr) (opX_T IR n0) s a hK
theorem q_cut (IR I : Nat → Nat → Int32) (L : Nat → Nat → Int64) (sw : Bool) (K : Value → mzM → Prop) {n0 n1 c : Nat} {cc : Nat → Nat} (hr : Rl IR I L n0 n1 c cc) (s a b : Int32) (hK : K (.int (ansCu IR n0 s a b)) (mC I L sw)) : mzdo M_X7_cut [.ref 0, .int s, .int a, .int b] (mC I L sw) K := by
  unfold ansCu at hK
  rw [(mzq_ok (IR 2) n0).1] at hK
  exact c_cut I L sw K (Rl_P hr) (opX_T IR n0) s a b hK
theorem q_hear (IR I : Nat → Nat → Int32) (L : Nat → Nat → Int64) (sw : Bool) (K : Value → mzM → Prop) {n0 n1 c : Nat} {cc : Nat → Nat} (hr : Rl IR I L n0 n1 c cc) (s a b : Int32) (hK : K (.int (ansHr IR n0 s a b)) (mC I L sw)) : mzdo M_X7_hear [.ref 0, .int s, .int a, .int b] (mC I L sw) K := by
  unfold ansHr at hK
  rw [(mzq_ok (IR 2) n0).1] at hK
  exact c_hear I L sw K (Rl_P hr) (opX_T IR n0) s a b hK
theorem q_guard (IR I : Nat → Nat → Int32) (L : Nat → Nat → Int64) (sw : Bool) (K : Value → mzM → Prop) {n0 n1 c : Nat} {cc : Nat → Nat} (hr : Rl IR I L n0 n1 c cc) (s a b i : Int32) (hK : ∀ I', eqx fS I I' → K (.int (ansGd IR n0 s a b i)) (mC I' L sw)) : mzdo M_X7_guard [.ref 0, .int s, .int a, .int b, .int i] (mC I L sw) K := by
  refine c_guard I L sw K (Rl_P hr) (opX_T IR n0) s a b i (fun I' e => ?_)
  have hk := hK I' e
  unfold ansGd gdA at hk
  rw [(mzq_ok (IR 2) n0).1] at hk
  exact hk
theorem q_stray (IR I : Nat → Nat → Int32) (L : Nat → Nat → Int64) (sw : Bool) (K : Value → mzM → Prop) {n0 n1 c : Nat} {cc : Nat → Nat} (hr : Rl IR I L n0 n1 c cc) (s a n t w : Int32) (hK : ∀ L' sw', (∀ i j, i ≠ 37 → i ≠ 38 → L' i j = L i j) → K (.long (ansSt IR n0 s a n t w)) (mC I L' sw')) : mzdo M_X7_stray [.ref 0, .int s, .int a, .int n, .int t, .int w] (mC I L sw) K := by
  refine c_stray I L sw K (Rl_P hr) s a n t w (fun L' sw' e => ?_)
  have hk := hK L' sw' e
  unfold ansSt chX at hk
  rw [(mzq_ok (IR 2) n0).1] at hk
  exact hk
theorem q_began (IR I : Nat → Nat → Int32) (L : Nat → Nat → Int64) (sw : Bool) (K : Value → mzM → Prop) {n0 n1 c : Nat} {cc : Nat → Nat} (hr : Rl IR I L n0 n1 c cc) (hand i : Int32) (hK : ∀ I', eqx fS I I' → K (.int (ansBg IR n0 c hand i)) (mC I' L sw)) : mzdo M_X7_began [.ref 0, .int hand, .int i] (mC I L sw) K := by
  refine c_began IR I L sw K (Rl_P hr) c hr.2.2.2.2.2.2.2.1 hand i (fun I' e => ?_)
  have hk := hK I' e
  unfold ansBg bgA at hk
  rw [(mzq_ok (IR 2) n0).1] at hk
  exact hk
theorem q_look (IR I : Nat → Nat → Int32) (L : Nat → Nat → Int64) (sw : Bool) (K : Value → mzM → Prop) {n0 n1 c : Nat} {cc : Nat → Nat} (hr : Rl IR I L n0 n1 c cc) (hand steps : Int32) (hK : ∀ I', eqx fS I I' → K (.int (ansLk IR n0 c hand steps)) (mC I' L sw)) : mzdo M_X7_look [.ref 0, .int hand, .int steps] (mC I L sw) K := by
  refine c_look IR I L sw K (Rl_P hr) c hr.2.2.2.2.2.2.2.1 hand steps (fun I' e => ?_)
  have hk := hK I' e
  unfold ansLk at hk
  rw [(mzq_ok (IR 2) n0).1] at hk
  exact hk
theorem q_count (IR I : Nat → Nat → Int32) (L : Nat → Nat → Int64) (sw : Bool) (K : Value → mzM → Prop) {n0 n1 c : Nat} {cc : Nat → Nat} (hr : Rl IR I L n0 n1 c cc) (what : Int32) (hK : K (.int (ansCt IR n0 n1 what)) (mC I L sw)) : mzdo M_X7_count [.ref 0, .int what] (mC I L sw) K := by
  refine c_count I L sw K (Rl_P hr).1 (Rl_P hr).2.1 what ?_
  obtain ⟨a1, a2, a3, a4, a5, a6, a7, a8, a9, a10, a11⟩ := hr
  unfold ansCt at hK
  rw [a4.1, a2.1, a2.2.1, a8.1, a11, show I 12 3 = IR 7 0 from (a3.1 0 (by omega)).2.1.trans (a3.1 0 (by omega)).1.2.1.symm, show I 16 3 = IR 7 1 from (a3.1 1 (by omega)).2.1.trans (a3.1 1 (by omega)).1.2.1.symm, ← (mzq_ok (IR 2) n0).1]
  rw [a1.1, a1.2.2.1, a7.1] at hK
  exact hK
