/-! pairs: a call of the class, then the same of the reference -/
def rel (M1 M2 : mzM) : Prop := ∃ (IR : Nat → Nat → Int32) (LR : Nat → Nat → Int64) (I : Nat → Nat → Int32) (L : Nat → Nat → Int64) (sw : Bool) (n0 n1 c : Nat) (cc : Nat → Nat), M1 = mC I L sw ∧ M2 = mR IR LR ∧ Rl IR I L n0 n1 c cc
theorem rel_i {IR : Nat → Nat → Int32} {LR : Nat → Nat → Int64} {I : Nat → Nat → Int32} {L : Nat → Nat → Int64} {sw : Bool} {n0 n1 c : Nat} {cc : Nat → Nat} (h : Rl IR I L n0 n1 c cc) : rel (mC I L sw) (mR IR LR) := ⟨IR, LR, I, L, sw, n0, n1, c, cc, rfl, rfl, h⟩
def okI (v1 v2 : Value) (M1 M2 : mzM) : Prop := (∃ z : Int32, v1 = .int z ∧ v2 = .int z) ∧ rel M1 M2
def okJ (v1 v2 : Value) (M1 M2 : mzM) : Prop := (∃ z : Int64, v1 = .long z ∧ v2 = .long z) ∧ rel M1 M2
theorem okI_i {z : Int32} {M1 M2 : mzM} (h : rel M1 M2) : okI (.int z) (.int z) M1 M2 := ⟨⟨z, rfl, rfl⟩, h⟩
theorem okJ_i {z : Int64} {M1 M2 : mzM} (h : rel M1 M2) : okJ (.long z) (.long z) M1 M2 := ⟨⟨z, rfl, rfl⟩, h⟩
theorem pr_open (s d : Int32) {M1 M2 : mzM} (h : rel M1 M2) : mzdo M_X7_open [.ref 0, .int s, .int d] M1 (fun v1 N1 => mzdo M_X8_open [.ref 0, .int s, .int d] M2 (fun v2 N2 => okI v1 v2 N1 N2)) := by
  obtain ⟨IR, LR, I, L, sw, n0, n1, c, cc, rfl, rfl, hr⟩ := h
  exact q_open IR I L sw _ hr s d (r_open IR LR _ hr.1 s d (fun IR' e => okI_i (rel_i (Rl_D hr e))))
theorem pr_on (w s what : Int32) {M1 M2 : mzM} (h : rel M1 M2) : mzdo M_X7_on [.ref 0, .int w, .int s, .int what] M1 (fun v1 N1 => mzdo M_X8_on [.ref 0, .int w, .int s, .int what] M2 (fun v2 N2 => okI v1 v2 N1 N2)) := by
  obtain ⟨IR, LR, I, L, sw, n0, n1, c, cc, rfl, rfl, hr⟩ := h
  exact q_on IR I L sw _ hr w s what (r_on IR LR _ hr.1 w s what (fun IR' e => okI_i (rel_i (Rl_D hr e))))
theorem pr_comes (w d : Int32) {M1 M2 : mzM} (h : rel M1 M2) : mzdo M_X7_comes [.ref 0, .int w, .int d] M1 (fun v1 N1 => mzdo M_X8_comes [.ref 0, .int w, .int d] M2 (fun v2 N2 => okI v1 v2 N1 N2)) := by
  obtain ⟨IR, LR, I, L, sw, n0, n1, c, cc, rfl, rfl, hr⟩ := h
  exact q_comes IR I L sw _ hr w d (r_comes IR LR _ hr.1 w d (fun IR' e => okI_i (rel_i (Rl_D hr e))))
theorem pr_meet (w d : Int32) {M1 M2 : mzM} (h : rel M1 M2) : mzdo M_X7_meet [.ref 0, .int w, .int d] M1 (fun v1 N1 => mzdo M_X8_meet [.ref 0, .int w, .int d] M2 (fun v2 N2 => okI v1 v2 N1 N2)) := by
  obtain ⟨IR, LR, I, L, sw, n0, n1, c, cc, rfl, rfl, hr⟩ := h
  exact q_meet IR I L sw _ hr w d (r_meet IR LR _ hr.1 w d (fun IR' e => okI_i (rel_i (Rl_D hr e))))
theorem pr_round (w : Int32) {M1 M2 : mzM} (h : rel M1 M2) : mzdo M_X7_round [.ref 0, .int w] M1 (fun v1 N1 => mzdo M_X8_round [.ref 0, .int w] M2 (fun v2 N2 => okI v1 v2 N1 N2)) := by
  obtain ⟨IR, LR, I, L, sw, n0, n1, c, cc, rfl, rfl, hr⟩ := h
  exact q_round IR I L sw _ hr w (r_round IR LR _ hr.1 w (fun IR' e => okI_i (rel_i (Rl_D hr e))))
theorem pr_trod (s what : Int32) {M1 M2 : mzM} (h : rel M1 M2) : mzdo M_X7_trod [.ref 0, .int s, .int what] M1 (fun v1 N1 => mzdo M_X8_trod [.ref 0, .int s, .int what] M2 (fun v2 N2 => okI v1 v2 N1 N2)) := by
  obtain ⟨IR, LR, I, L, sw, n0, n1, c, cc, rfl, rfl, hr⟩ := h
  exact q_trod IR I L sw _ hr s what (r_trod IR LR _ hr.1 s what (fun IR' e => okI_i (rel_i (Rl_D hr e))))
theorem pr_child (seed day steps what : Int32) {M1 M2 : mzM} (h : rel M1 M2) : mzdo M_X7_child [.ref 0, .int seed, .int day, .int steps, .int what] M1 (fun v1 N1 => mzdo M_X8_child [.ref 0, .int seed, .int day, .int steps, .int what] M2 (fun v2 N2 => okI v1 v2 N1 N2)) := by
  obtain ⟨IR, LR, I, L, sw, n0, n1, c, cc, rfl, rfl, hr⟩ := h
  exact q_child IR I L sw _ hr seed day steps what (r_child IR LR _ hr.1 seed day steps what (fun IR' e => okI_i (rel_i (Rl_D hr e))))
theorem pr_walker (w what : Int32) {M1 M2 : mzM} (h : rel M1 M2) : mzdo M_X7_walker [.ref 0, .int w, .int what] M1 (fun v1 N1 => mzdo M_X8_walker [.ref 0, .int w, .int what] M2 (fun v2 N2 => okI v1 v2 N1 N2)) := by
  obtain ⟨IR, LR, I, L, sw, n0, n1, c, cc, rfl, rfl, hr⟩ := h
  exact q_walker IR I L sw _ hr w what (r_walker IR LR _ hr.1 w what (fun IR' e => okI_i (rel_i (Rl_D hr e))))
theorem pr_fault (t : Int32) {M1 M2 : mzM} (h : rel M1 M2) : mzdo M_X7_fault [.ref 0, .int t] M1 (fun v1 N1 => mzdo M_X8_fault [.ref 0, .int t] M2 (fun v2 N2 => okI v1 v2 N1 N2)) := by
  obtain ⟨IR, LR, I, L, sw, n0, n1, c, cc, rfl, rfl, hr⟩ := h
  exact q_fault IR I L sw _ hr t (r_fault IR LR _ hr.1 t (fun IR' e => okI_i (rel_i (Rl_D hr e))))
theorem pr_count (what : Int32) {M1 M2 : mzM} (h : rel M1 M2) : mzdo M_X7_count [.ref 0, .int what] M1 (fun v1 N1 => mzdo M_X8_count [.ref 0, .int what] M2 (fun v2 N2 => okI v1 v2 N1 N2)) := by
  obtain ⟨IR, LR, I, L, sw, n0, n1, c, cc, rfl, rfl, hr⟩ := h
  exact q_count IR I L sw _ hr what (r_count IR LR _ hr.1 what (fun IR' e => okI_i (rel_i (Rl_D hr e))))
theorem pr_way (s a b : Int32) {M1 M2 : mzM} (h : rel M1 M2) : mzdo M_X7_way [.ref 0, .int s, .int a, .int b] M1 (fun v1 N1 => mzdo M_X8_way [.ref 0, .int s, .int a, .int b] M2 (fun v2 N2 => okI v1 v2 N1 N2)) := by
  obtain ⟨IR, LR, I, L, sw, n0, n1, c, cc, rfl, rfl, hr⟩ := h
  exact q_way IR I L sw _ hr s a b (r_way IR LR _ hr.1 s a b (fun IR' e => okI_i (rel_i (Rl_D hr e))))
theorem pr_through (s a b t : Int32) {M1 M2 : mzM} (h : rel M1 M2) : mzdo M_X7_through [.ref 0, .int s, .int a, .int b, .int t] M1 (fun v1 N1 => mzdo M_X8_through [.ref 0, .int s, .int a, .int b, .int t] M2 (fun v2 N2 => okI v1 v2 N1 N2)) := by
  obtain ⟨IR, LR, I, L, sw, n0, n1, c, cc, rfl, rfl, hr⟩ := h
  exact q_through IR I L sw _ hr s a b t (r_through IR LR _ hr.1 s a b t (fun IR' e => okI_i (rel_i (Rl_D hr e))))
theorem pr_joined (s a : Int32) {M1 M2 : mzM} (h : rel M1 M2) : mzdo M_X7_joined [.ref 0, .int s, .int a] M1 (fun v1 N1 => mzdo M_X8_joined [.ref 0, .int s, .int a] M2 (fun v2 N2 => okI v1 v2 N1 N2)) := by
  obtain ⟨IR, LR, I, L, sw, n0, n1, c, cc, rfl, rfl, hr⟩ := h
  exact q_joined IR I L sw _ hr s a (r_joined IR LR _ hr.1 s a (fun IR' e => okI_i (rel_i (Rl_D hr e))))
theorem pr_cut (s a b : Int32) {M1 M2 : mzM} (h : rel M1 M2) : mzdo M_X7_cut [.ref 0, .int s, .int a, .int b] M1 (fun v1 N1 => mzdo M_X8_cut [.ref 0, .int s, .int a, .int b] M2 (fun v2 N2 => okI v1 v2 N1 N2)) := by
  obtain ⟨IR, LR, I, L, sw, n0, n1, c, cc, rfl, rfl, hr⟩ := h
  exact q_cut IR I L sw _ hr s a b (r_cut IR LR _ hr.1 s a b (fun IR' e => okI_i (rel_i (Rl_D hr e))))
theorem pr_hear (s a b : Int32) {M1 M2 : mzM} (h : rel M1 M2) : mzdo M_X7_hear [.ref 0, .int s, .int a, .int b] M1 (fun v1 N1 => mzdo M_X8_hear [.ref 0, .int s, .int a, .int b] M2 (fun v2 N2 => okI v1 v2 N1 N2)) := by
  obtain ⟨IR, LR, I, L, sw, n0, n1, c, cc, rfl, rfl, hr⟩ := h
  exact q_hear IR I L sw _ hr s a b (r_hear IR LR _ hr.1 s a b (fun IR' e => okI_i (rel_i (Rl_D hr e))))
theorem pr_guard (s a b i : Int32) {M1 M2 : mzM} (h : rel M1 M2) : mzdo M_X7_guard [.ref 0, .int s, .int a, .int b, .int i] M1 (fun v1 N1 => mzdo M_X8_guard [.ref 0, .int s, .int a, .int b, .int i] M2 (fun v2 N2 => okI v1 v2 N1 N2)) := by
  obtain ⟨IR, LR, I, L, sw, n0, n1, c, cc, rfl, rfl, hr⟩ := h
  exact q_guard IR I L sw _ hr s a b i (fun I' e' => r_guard IR LR _ hr.1 s a b i (fun IR' e _ => okI_i (rel_i (Rl_D (Rl_S hr e') e))))
theorem pr_began (hand i : Int32) {M1 M2 : mzM} (h : rel M1 M2) : mzdo M_X7_began [.ref 0, .int hand, .int i] M1 (fun v1 N1 => mzdo M_X8_began [.ref 0, .int hand, .int i] M2 (fun v2 N2 => okI v1 v2 N1 N2)) := by
  obtain ⟨IR, LR, I, L, sw, n0, n1, c, cc, rfl, rfl, hr⟩ := h
  exact q_began IR I L sw _ hr hand i (fun I' e' => r_began IR LR _ hr.1 hr.2.2.2.2.2.2.1 hand i (fun IR' e => okI_i (rel_i (Rl_D (Rl_S hr e') e))))
theorem pr_look (hand steps : Int32) {M1 M2 : mzM} (h : rel M1 M2) : mzdo M_X7_look [.ref 0, .int hand, .int steps] M1 (fun v1 N1 => mzdo M_X8_look [.ref 0, .int hand, .int steps] M2 (fun v2 N2 => okI v1 v2 N1 N2)) := by
  obtain ⟨IR, LR, I, L, sw, n0, n1, c, cc, rfl, rfl, hr⟩ := h
  exact q_look IR I L sw _ hr hand steps (fun I' e' => r_look IR LR _ hr.1 hr.2.2.2.2.2.2.1 hand steps (fun IR' e => okI_i (rel_i (Rl_D (Rl_S hr e') e))))
theorem pr_stray (s a n t w : Int32) {M1 M2 : mzM} (h : rel M1 M2) : mzdo M_X7_stray [.ref 0, .int s, .int a, .int n, .int t, .int w] M1 (fun v1 N1 => mzdo M_X8_stray [.ref 0, .int s, .int a, .int n, .int t, .int w] M2 (fun v2 N2 => okJ v1 v2 N1 N2)) := by
  obtain ⟨IR, LR, I, L, sw, n0, n1, c, cc, rfl, rfl, hr⟩ := h
  exact q_stray IR I L sw _ hr s a n t w (fun L' sw' e' => r_stray IR LR _ hr.1 s a n t w (fun IR' LR' e => okJ_i (rel_i (Rl_D (Rl_L hr e') e))))
theorem pr_digest {M1 M2 : mzM} (h : rel M1 M2) : mzdo M_X7_digest [.ref 0] M1 (fun v1 N1 => mzdo M_X8_digest [.ref 0] M2 (fun v2 N2 => okJ v1 v2 N1 N2)) := by
  obtain ⟨IR, LR, I, L, sw, n0, n1, c, cc, rfl, rfl, hr⟩ := h
  exact q_digest IR I L sw _ hr  (fun I' L' sw' e' l' => r_digest IR LR _ hr.1 hr.2.2.2.2.2.2.1  (fun IR' LR' e => okJ_i (rel_i (Rl_D (Rl_L (Rl_S hr e') l') e))))
