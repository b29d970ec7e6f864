/-! the class's looking at a step; the ways left open -/
section Look
variable (mo : Nat → Nat → Int32) (sz : Int32) (gk : Nat → Nat → Int32) (gl gh : Nat → Nat → Int64) (opn cki : Nat → Int32) (ckl : Nat → Int64) (i : Int32)
theorem p_stepAt (hi0 : 0 ≤ i.toInt) (hi : i.toInt < sz.toInt) (hz : sz.toInt ≤ 24) : s_Pg_stepAt sz i = some i.toNatClampNeg := by
  simp only [s_Pg_stepAt, Int32.lt_iff_toInt_lt, Int32.le_iff_toInt_le, show (0 : Int32).toInt = 0 from rfl, show (24 : Int32).toInt = 24 from rfl]
  rw [if_neg (by omega), if_neg (by omega), if_neg (by omega)]
theorem p_stepAtN (hi0 : 0 ≤ i.toInt) (hi : sz.toInt ≤ i.toInt) : s_Pg_stepAt sz i = none := by
  simp only [s_Pg_stepAt, Int32.lt_iff_toInt_lt, Int32.le_iff_toInt_le, show (0 : Int32).toInt = 0 from rfl]
  rw [if_neg (by omega), if_pos hi]
theorem look_none (hi0 : 0 ≤ i.toInt) (hi : sz.toInt ≤ i.toInt) : s_Ck_lookAt (fun j k => mo k j) sz gk gl gh opn cki ckl i = (-1, gk, gl, gh, opn, upd (upd (upd cki 0 1) 2 1) 3 i, ckl) := by
  unfold s_Ck_lookAt
  rw [p_stepAtN sz i hi0 hi]
  rfl
theorem look_rej (hi0 : 0 ≤ i.toInt) (hi : i.toInt < sz.toInt) (hz : sz.toInt ≤ 24) (r : Int32) (hr : s_Jg_reasonAgainst (fun j k => mo k j) sz gk gl gh i.toNatClampNeg i = r) (h0 : ¬ r = 0) : s_Ck_lookAt (fun j k => mo k j) sz gk gl gh opn cki ckl i = (-1, gk, gl, gh, opn, upd (upd (upd cki 0 1) 2 r) 3 i, ckl) := by
  unfold s_Ck_lookAt
  rw [p_stepAt sz i hi0 hi hz]
  simp only [x_let, hr, h0, if_false, s_Ck_reject]
theorem look_exit (hi0 : 0 ≤ i.toInt) (hi : i.toInt < sz.toInt) (hz : sz.toInt ≤ 24) (hr : s_Jg_reasonAgainst (fun j k => mo k j) sz gk gl gh i.toNatClampNeg i = 0) (h17 : mo 0 i.toNatClampNeg = 17) : s_Ck_lookAt (fun j k => mo k j) sz gk gl gh opn cki ckl i = (x_let (s_Ck_growOutcomes cki ckl (gl 0 0) (gh 0 0)) fun (cki9, ckl9) => (x_let (s_Ck_takeUpLatest (fun j k => mo k j) sz gk gl gh opn) fun (r10, gk10, gl10, gh10, opn10) => (r10, gk10, gl10, gh10, opn10, cki9, ckl9))) := by
  unfold s_Ck_lookAt
  rw [p_stepAt sz i hi0 hi hz]
  simp only [x_let, hr, if_true, h17, s_Gs_lo, s_Gs_hi, show Int32.toNatClampNeg 0 = 0 from rfl]
theorem p_mayJump : s_St_mayJump (fun j k => mo k j) i.toNatClampNeg = if mo 0 i.toNatClampNeg < 10 ∨ 13 < mo 0 i.toNatClampNeg then 0 else 1 := by
  unfold s_St_mayJump
  by_cases c1 : mo 0 i.toNatClampNeg < 10
  · rw [if_pos c1, if_pos (Or.inl c1)]
  · rw [if_neg c1]
    by_cases c2 : 13 < mo 0 i.toNatClampNeg
    · rw [if_pos c2, if_pos (Or.inr c2)]
    · rw [if_neg c2, if_neg (fun h => h.elim c1 c2)]
theorem look_follow (hi0 : 0 ≤ i.toInt) (hi : i.toInt < sz.toInt) (hz : sz.toInt ≤ 24) (hr : s_Jg_reasonAgainst (fun j k => mo k j) sz gk gl gh i.toNatClampNeg i = 0) (h17 : ¬ mo 0 i.toNatClampNeg = 17) (hj : mo 0 i.toNatClampNeg < 10 ∨ 13 < mo 0 i.toNatClampNeg) (G : (Nat → Int32) × (Nat → Int64) × (Nat → Int64)) (hG : s_Ef_follow (fun j k => mo k j) gk gl gh i.toNatClampNeg = p_lift gk gl gh 0 G) : s_Ck_lookAt (fun j k => mo k j) sz gk gl gh opn cki ckl i = (i + 1, va_up gk 0 G.1, va_up gl 0 G.2.1, va_up gh 0 G.2.2, opn, cki, ckl) := by
  unfold s_Ck_lookAt
  rw [p_stepAt sz i hi0 hi hz]
  simp only [x_let, hr, if_true, h17, if_false, p_mayJump, hj, hG, p_lift]
theorem look_fork (hi0 : 0 ≤ i.toInt) (hi : i.toInt < sz.toInt) (hz : sz.toInt ≤ 24) (hr : s_Jg_reasonAgainst (fun j k => mo k j) sz gk gl gh i.toNatClampNeg i = 0) (h17 : ¬ mo 0 i.toNatClampNeg = 17) (hj : ¬ (mo 0 i.toNatClampNeg < 10 ∨ 13 < mo 0 i.toNatClampNeg)) : s_Ck_lookAt (fun j k => mo k j) sz gk gl gh opn cki ckl i = (x_let (s_Ck_fork (fun j k => mo k j) gk gl gh opn i.toNatClampNeg i) fun (r14, gk14, gl14, gh14, opn14) => (r14, gk14, gl14, gh14, opn14, cki, ckl)) := by
  unfold s_Ck_lookAt
  rw [p_stepAt sz i hi0 hi hz]
  simp only [x_let, hr, if_true, h17, if_false, p_mayJump, hj, show ¬ (1 : Int32) = 0 by decide]
theorem p_take_nil : ∀ c : Nat, c ≤ 24 → (∀ j, j < c → opn j = 0) → lp_Ck_takeUpLatest_3 (c + 1) (fun j k => mo k j) sz gk gl gh opn (Int32.ofNat c - 1) = (-1, gk, gl, gh, opn) := by
  intro c
  induction c with
  | zero => intro _ _; unfold lp_Ck_takeUpLatest_3; rw [if_pos (by decide)]
  | succ c ih =>
    intro hc h0
    have e : Int32.ofNat (c + 1) - 1 = Int32.ofNat c := by
      apply Int32.toInt_inj.mp
      rw [Int32.toInt_sub, p_c32 (by omega), p_c32 (by omega), show (1 : Int32).toInt = 1 from rfl, Int.bmod_def]; omega
    have e2 : Int32.ofNat c + (-1) = Int32.ofNat c - 1 := by rw [Int32.sub_eq_add_neg]
    rw [e]
    unfold lp_Ck_takeUpLatest_3
    rw [if_neg (by rw [Int32.lt_iff_toInt_lt, p_c32 (by omega), show (0 : Int32).toInt = 0 from rfl]; omega)]
    simp only [x_let, p_cn (c := c) (by omega), h0 c (by omega), if_true, e2]
    have J := ih (by omega) (fun j hj => h0 j (by omega))
    cases s_Pg_stepAt sz (Int32.ofNat c) with
    | none => exact J
    | some j => exact J
theorem p_take_cons (hz : p_zero gk gl gh) (hsz : sz.toInt ≤ 24) (j : Nat) (hj : (j : Int) < sz.toInt) (ho : ¬ opn j = 0) : ∀ c : Nat, c ≤ 24 → j < c → (∀ e, j < e → e < c → opn e = 0) → lp_Ck_takeUpLatest_3 (c + 1) (fun j k => mo k j) sz gk gl gh opn (Int32.ofNat c - 1) = (mo 4 j, va_up gk 0 (gk (j + 1)), va_up gl 0 (gl (j + 1)), va_up gh 0 (gh (j + 1)), upd opn j 0) := by
  intro c
  induction c with
  | zero => intro _ h _; omega
  | succ c ih =>
    intro hc hjc h0
    have e : Int32.ofNat (c + 1) - 1 = Int32.ofNat c := by
      apply Int32.toInt_inj.mp
      rw [Int32.toInt_sub, p_c32 (by omega), p_c32 (by omega), show (1 : Int32).toInt = 1 from rfl, Int.bmod_def]; omega
    have e2 : Int32.ofNat c + (-1) = Int32.ofNat c - 1 := by rw [Int32.sub_eq_add_neg]
    rw [e]
    unfold lp_Ck_takeUpLatest_3
    rw [if_neg (by rw [Int32.lt_iff_toInt_lt, p_c32 (by omega), show (0 : Int32).toInt = 0 from rfl]; omega)]
    by_cases hjj : j = c
    · subst hjj
      rw [p_stepAt sz (Int32.ofNat j) (by rw [p_c32 (by omega)]; omega) (by rw [p_c32 (by omega)]; omega) hsz]
      simp only [x_let, p_cn (c := j) (by omega), ho, if_false, f_become gk gl gh hz]
      rfl
    · have J := ih (by omega) (by omega) (fun e h1 h2 => h0 e h1 (by omega))
      simp only [x_let, p_cn (c := c) (by omega), h0 c (by omega) (by omega), if_true, e2]
      cases s_Pg_stepAt sz (Int32.ofNat c) with
      | none => exact J
      | some j => exact J
end Look
/-- the ways left open, the latest first -/
def p_open (mo : Nat → Nat → Int32) (sz : Int32) (gk : Nat → Nat → Int32) (gl gh : Nat → Nat → Int64) (pk ps : Nat → Int32) (pl ph : Nat → Int64) (L : List Nat) : Prop := match L with
  | [] => True
  | j :: L => (p_held pk pl ph L.length (gk (j + 1)) (gl (j + 1)) (gh (j + 1)) ∧ ps L.length = mo 4 j ∧ p_gd (gk (j + 1)) (gl (j + 1)) (gh (j + 1)) ∧ ((j : Int) < (mo 4 j).toInt ∧ (mo 4 j).toInt < sz.toInt) ∧ (∀ e ∈ L, e < j)) ∧ p_open mo sz gk gl gh pk ps pl ph L
theorem p_open_len {mo : Nat → Nat → Int32} {sz : Int32} {gk : Nat → Nat → Int32} {gl gh : Nat → Nat → Int64} {pk ps : Nat → Int32} {pl ph : Nat → Int64} : ∀ (L : List Nat) (b : Nat), p_open mo sz gk gl gh pk ps pl ph L → (∀ e ∈ L, e < b) → L.length ≤ b := by
  intro L
  induction L with
  | nil => intro b _ _; exact Nat.zero_le _
  | cons j L ih =>
    intro b h hb
    have := ih j h.2 h.1.2.2.2.2
    have := hb j List.mem_cons_self
    simp only [List.length_cons]; omega
/-- what is above the pile, and the frames of steps not left open, don't matter -/
theorem p_open_ext {mo : Nat → Nat → Int32} {sz : Int32} {gk gk' : Nat → Nat → Int32} {gl gh gl' gh' : Nat → Nat → Int64} {pk ps pk' ps' : Nat → Int32} {pl ph pl' ph' : Nat → Int64} : ∀ (L : List Nat), p_open mo sz gk gl gh pk ps pl ph L → (∀ j ∈ L, gk' (j + 1) = gk (j + 1) ∧ gl' (j + 1) = gl (j + 1) ∧ gh' (j + 1) = gh (j + 1)) → (∀ q, q < 12 * L.length → pk' q = pk q ∧ pl' q = pl q ∧ ph' q = ph q) → (∀ q, q < L.length → ps' q = ps q) → p_open mo sz gk' gl' gh' pk' ps' pl' ph' L := by
  intro L
  induction L with
  | nil => intros; trivial
  | cons j L ih =>
    intro h hg hp hs
    obtain ⟨⟨a, b, c, d, e⟩, f⟩ := h
    simp only [List.length_cons] at hp hs
    obtain ⟨g1, g2, g3⟩ := hg j List.mem_cons_self
    refine ⟨⟨?_, ?_, ?_, d, e⟩, ih f (fun k hk => hg k (List.mem_cons_of_mem _ hk)) (fun q hq => hp q (by omega)) (fun q hq => hs q (by omega))⟩
    · intro k hk
      obtain ⟨q1, q2, q3⟩ := hp (12 * L.length + k) (by omega)
      rw [q1, q2, q3, g1, g2, g3]; exact a k hk
    · rw [hs _ (by omega)]; exact b
    · rw [g1, g2, g3]; exact c
