/-! run: what is there, in the class and in the reference -/
def p_cel (ck : Int32) (cv : Int64) (k : Int32) (lo hi : Int64) : Prop := lo = cv ∧ (((ck = 0 ∨ ck = 1 ∨ ck = 2) ∧ k = ck) ∨ ((3 ≤ ck.toInt ∧ ck.toInt ≤ 8) ∧ k = 3 ∧ hi.toInt = ck.toInt - 3))
def p_cc (rk : Nat → Int32) (rv : Nat → Int64) (mk : Nat → Int32) (mlo mhi : Nat → Int64) : Prop := ∀ j, j < 12 → p_cel (rk j) (rv j) (mk j) (mlo j) (mhi j)
def p_ccG (rk : Nat → Int32) (rv : Nat → Int64) (G : (Nat → Int32) × (Nat → Int64) × (Nat → Int64)) : Prop := p_cc rk rv G.1 G.2.1 G.2.2
theorem cc_know {rk : Nat → Int32} {rv : Nat → Int64} {mk : Nat → Int32} {mlo mhi : Nat → Int64} (h : p_cc rk rv mk mlo mhi) {d ck k : Int32} {cv lo hi : Int64} (hc : p_cel ck cv k lo hi) : p_ccG (upd rk d.toNatClampNeg ck) (vp_updL rv d.toNatClampNeg cv) (s_Md_know mk mlo mhi d k lo hi) := by
  intro j hj
  simp only [s_Md_know]
  by_cases e : j = d.toNatClampNeg
  · subst e; rw [p_upd_self, p_upd_self, p_updL_self, p_updL_self, p_updL_self]; exact hc
  · rw [p_upd_ne _ _ e, p_upd_ne _ _ e, p_updL_ne _ _ e, p_updL_ne _ _ e, p_updL_ne _ _ e]; exact h j hj
theorem cc_val {rk : Nat → Int32} {rv : Nat → Int64} {mk : Nat → Int32} {mlo mhi : Nat → Int64} (h : p_cc rk rv mk mlo mhi) (d : Nat) (v : Int64) : p_cc rk (vp_updL rv d v) mk (vp_updL mlo d v) mhi := by
  intro j hj
  by_cases e : j = d
  · subst e; rw [p_updL_self, p_updL_self]; exact ⟨rfl, (h j hj).2⟩
  · rw [p_updL_ne _ _ e, p_updL_ne _ _ e]; exact h j hj
theorem cc_lo {rk : Nat → Int32} {rv : Nat → Int64} {mk : Nat → Int32} {mlo mhi : Nat → Int64} (h : p_cc rk rv mk mlo mhi) {j : Nat} (hj : j < 12) : mlo j = rv j := (h j hj).1
theorem cc_1 {rk : Nat → Int32} {rv : Nat → Int64} {mk : Nat → Int32} {mlo mhi : Nat → Int64} (h : p_cc rk rv mk mlo mhi) {j : Nat} (hj : j < 12) : mk j = 1 ↔ rk j = 1 := by
  rcases (h j hj).2 with ⟨a, b⟩ | ⟨a, b, -⟩
  · rw [b]
  · rw [b]
    constructor
    · intro h; exact absurd h (by decide)
    · intro h; rw [h] at a; exact absurd a (by decide)
theorem cc_2 {rk : Nat → Int32} {rv : Nat → Int64} {mk : Nat → Int32} {mlo mhi : Nat → Int64} (h : p_cc rk rv mk mlo mhi) {j : Nat} (hj : j < 12) (h2 : rk j = 2) : mk j = 2 := by
  rcases (h j hj).2 with ⟨a, b⟩ | ⟨a, b, -⟩
  · rw [b, h2]
  · rw [h2] at a; exact absurd a (by decide)
theorem cc_3 {rk : Nat → Int32} {rv : Nat → Int64} {mk : Nat → Int32} {mlo mhi : Nat → Int64} (h : p_cc rk rv mk mlo mhi) {j : Nat} (hj : j < 12) (h3 : 3 ≤ (rk j).toInt ∧ (rk j).toInt ≤ 8) : mk j = 3 ∧ (mhi j).toInt = (rk j).toInt - 3 := by
  rcases (h j hj).2 with ⟨a, b⟩ | ⟨a, b, c⟩
  · rcases a with a | a | a <;> rw [a] at h3 <;> exact absurd h3.1 (by decide)
  · exact ⟨b, c⟩
/-! one round of the reference's run -/
section RunRed
variable (mo : Nat → Nat → Int32) (i : Int32) (mi : Nat → Int32) (mk : Nat → Int32) (mlo mhi mm : Nat → Int64) (a1 : Int64) (n : Nat)
theorem r_17 (h : mo 0 i.toNatClampNeg = 17) (h24 : vp_in i 24) : lp_Md_run_70 (n + 1) mo mi mk mlo mhi mm a1 i = (mlo 0, mi, mk, mlo, mhi, mm) ∧ lp_ok_Md_run_70 (n + 1) mo mi mk mlo mhi mm a1 i := by
  unfold lp_Md_run_70 lp_ok_Md_run_70
  rw [if_pos h, if_pos h]
  exact ⟨rfl, h24, trivial⟩
theorem r_0 (h : mo 0 i.toNatClampNeg = 0) (h24 : vp_in i 24) (hd : vp_in (mo 1 i.toNatClampNeg) 12) : lp_Md_run_70 (n + 1) mo mi mk mlo mhi mm a1 i = lp_Md_run_70 n mo (upd mi 4 (mi 4 + 1)) (s_Md_know mk mlo mhi (mo 1 i.toNatClampNeg) 1 (Int32.toInt64 (mo 3 i.toNatClampNeg)) 0).1 (s_Md_know mk mlo mhi (mo 1 i.toNatClampNeg) 1 (Int32.toInt64 (mo 3 i.toNatClampNeg)) 0).2.1 (s_Md_know mk mlo mhi (mo 1 i.toNatClampNeg) 1 (Int32.toInt64 (mo 3 i.toNatClampNeg)) 0).2.2 mm a1 (i + 1) ∧ (lp_ok_Md_run_70 n mo (upd mi 4 (mi 4 + 1)) (s_Md_know mk mlo mhi (mo 1 i.toNatClampNeg) 1 (Int32.toInt64 (mo 3 i.toNatClampNeg)) 0).1 (s_Md_know mk mlo mhi (mo 1 i.toNatClampNeg) 1 (Int32.toInt64 (mo 3 i.toNatClampNeg)) 0).2.1 (s_Md_know mk mlo mhi (mo 1 i.toNatClampNeg) 1 (Int32.toInt64 (mo 3 i.toNatClampNeg)) 0).2.2 mm a1 (i + 1) → lp_ok_Md_run_70 (n + 1) mo mi mk mlo mhi mm a1 i) := by
  constructor
  · conv => lhs; unfold lp_Md_run_70
    simp [h, bk_Md_run_118, bk_Md_run_140, bk_Md_run_158, bk_Md_run_195, bk_Md_run_226, bk_Md_run_243, x_let]
  · intro hk
    unfold lp_ok_Md_run_70
    simp [h, bk_ok_Md_run_118, bk_ok_Md_run_140, bk_ok_Md_run_158, bk_ok_Md_run_195, bk_ok_Md_run_226, bk_ok_Md_run_243, x_let, h24, k_know _ _ _ _ _ _ _ hd, hk]
theorem r_1 (h : mo 0 i.toNatClampNeg = 1) (h24 : vp_in i 24) (hd : vp_in (mo 1 i.toNatClampNeg) 12) (hs : vp_in (mo 2 i.toNatClampNeg) 12) : lp_Md_run_70 (n + 1) mo mi mk mlo mhi mm a1 i = lp_Md_run_70 n mo (upd mi 4 (mi 4 + 1)) (s_Md_copy mk mlo mhi (mo 2 i.toNatClampNeg) (mo 1 i.toNatClampNeg)).1 (s_Md_copy mk mlo mhi (mo 2 i.toNatClampNeg) (mo 1 i.toNatClampNeg)).2.1 (s_Md_copy mk mlo mhi (mo 2 i.toNatClampNeg) (mo 1 i.toNatClampNeg)).2.2 mm a1 (i + 1) ∧ (lp_ok_Md_run_70 n mo (upd mi 4 (mi 4 + 1)) (s_Md_copy mk mlo mhi (mo 2 i.toNatClampNeg) (mo 1 i.toNatClampNeg)).1 (s_Md_copy mk mlo mhi (mo 2 i.toNatClampNeg) (mo 1 i.toNatClampNeg)).2.1 (s_Md_copy mk mlo mhi (mo 2 i.toNatClampNeg) (mo 1 i.toNatClampNeg)).2.2 mm a1 (i + 1) → lp_ok_Md_run_70 (n + 1) mo mi mk mlo mhi mm a1 i) := by
  have kc : k_ok_Md_copy mk mlo mhi (mo 2 i.toNatClampNeg) (mo 1 i.toNatClampNeg) := ⟨hs, ⟨hd, trivial⟩, trivial⟩
  constructor
  · conv => lhs; unfold lp_Md_run_70
    simp [h, bk_Md_run_118, bk_Md_run_140, bk_Md_run_158, bk_Md_run_195, bk_Md_run_226, bk_Md_run_243, x_let]
  · intro hk
    unfold lp_ok_Md_run_70
    simp [h, bk_ok_Md_run_118, bk_ok_Md_run_140, bk_ok_Md_run_158, bk_ok_Md_run_195, bk_ok_Md_run_226, bk_ok_Md_run_243, x_let, h24, kc, hk]
theorem r_29 (h : mo 0 i.toNatClampNeg = 2 ∨ mo 0 i.toNatClampNeg = 3 ∨ mo 0 i.toNatClampNeg = 4 ∨ mo 0 i.toNatClampNeg = 5 ∨ mo 0 i.toNatClampNeg = 6 ∨ mo 0 i.toNatClampNeg = 7 ∨ mo 0 i.toNatClampNeg = 8 ∨ mo 0 i.toNatClampNeg = 9) (h24 : vp_in i 24) (hk0 : k_ok_Md_compute mo mlo i) : lp_Md_run_70 (n + 1) mo mi mk mlo mhi mm a1 i = lp_Md_run_70 n mo (upd mi 4 (mi 4 + 1)) mk (s_Md_compute mo mlo i) mhi mm a1 (i + 1) ∧ (lp_ok_Md_run_70 n mo (upd mi 4 (mi 4 + 1)) mk (s_Md_compute mo mlo i) mhi mm a1 (i + 1) → lp_ok_Md_run_70 (n + 1) mo mi mk mlo mhi mm a1 i) := by
  rcases h with h | h | h | h | h | h | h | h
  all_goals
    constructor
    · conv => lhs; unfold lp_Md_run_70
      simp [h, bk_Md_run_118, bk_Md_run_140, bk_Md_run_158, bk_Md_run_195, bk_Md_run_226, bk_Md_run_243, x_let]
    · intro hk
      unfold lp_ok_Md_run_70
      simp [h, bk_ok_Md_run_118, bk_ok_Md_run_140, bk_ok_Md_run_158, bk_ok_Md_run_195, bk_ok_Md_run_226, bk_ok_Md_run_243, x_let, h24, hk0, hk]
theorem r_1012 (h : mo 0 i.toNatClampNeg = 10 ∨ mo 0 i.toNatClampNeg = 11 ∨ mo 0 i.toNatClampNeg = 12) (h24 : vp_in i 24) (hk0 : k_ok_Md_above mo mk mlo i) : lp_Md_run_70 (n + 1) mo mi mk mlo mhi mm a1 i = lp_Md_run_70 n mo (upd mi 4 (mi 4 + 1)) mk mlo mhi mm a1 (if s_Md_above mo mk mlo i = 0 then i + 1 else mo 4 i.toNatClampNeg) ∧ (lp_ok_Md_run_70 n mo (upd mi 4 (mi 4 + 1)) mk mlo mhi mm a1 (if s_Md_above mo mk mlo i = 0 then i + 1 else mo 4 i.toNatClampNeg) → lp_ok_Md_run_70 (n + 1) mo mi mk mlo mhi mm a1 i) := by
  rcases h with h | h | h
  all_goals
    by_cases c : s_Md_above mo mk mlo i = 0
    · constructor
      · conv => lhs; unfold lp_Md_run_70
        simp [h, bk_Md_run_118, bk_Md_run_140, bk_Md_run_158, bk_Md_run_187, bk_Md_run_195, bk_Md_run_226, bk_Md_run_243, x_let, c]
      · intro hk
        unfold lp_ok_Md_run_70
        simp [c] at hk
        simp [h, bk_ok_Md_run_118, bk_ok_Md_run_140, bk_ok_Md_run_158, bk_ok_Md_run_187, bk_ok_Md_run_195, bk_ok_Md_run_226, bk_ok_Md_run_243, x_let, h24, hk0, hk, c]
    · constructor
      · conv => lhs; unfold lp_Md_run_70
        simp [h, bk_Md_run_118, bk_Md_run_140, bk_Md_run_158, bk_Md_run_187, bk_Md_run_195, bk_Md_run_226, bk_Md_run_243, x_let, c]
      · intro hk
        unfold lp_ok_Md_run_70
        simp [c] at hk
        simp [h, bk_ok_Md_run_118, bk_ok_Md_run_140, bk_ok_Md_run_158, bk_ok_Md_run_187, bk_ok_Md_run_195, bk_ok_Md_run_226, bk_ok_Md_run_243, x_let, h24, hk0, hk, c]
theorem r_13 (h : mo 0 i.toNatClampNeg = 13) (h24 : vp_in i 24) : lp_Md_run_70 (n + 1) mo mi mk mlo mhi mm a1 i = lp_Md_run_70 n mo (upd mi 4 (mi 4 + 1)) mk mlo mhi mm a1 (mo 4 i.toNatClampNeg) ∧ (lp_ok_Md_run_70 n mo (upd mi 4 (mi 4 + 1)) mk mlo mhi mm a1 (mo 4 i.toNatClampNeg) → lp_ok_Md_run_70 (n + 1) mo mi mk mlo mhi mm a1 i) := by
  constructor
  · conv => lhs; unfold lp_Md_run_70
    simp [h, bk_Md_run_118, bk_Md_run_140, bk_Md_run_158, bk_Md_run_187, bk_Md_run_195, bk_Md_run_226, bk_Md_run_243]
  · intro hk
    unfold lp_ok_Md_run_70
    simp [h, bk_ok_Md_run_118, bk_ok_Md_run_140, bk_ok_Md_run_158, bk_ok_Md_run_187, bk_ok_Md_run_195, bk_ok_Md_run_226, bk_ok_Md_run_243, h24, hk]
theorem r_14 (h : mo 0 i.toNatClampNeg = 14) (h24 : vp_in i 24) (hk0 : k_ok_Md_transfer mo mk mlo mhi mm i 1) : lp_Md_run_70 (n + 1) mo mi mk mlo mhi mm a1 i = lp_Md_run_70 n mo (upd mi 4 (mi 4 + 1)) (s_Md_transfer mo mk mlo mhi mm i 1).1 (s_Md_transfer mo mk mlo mhi mm i 1).2.1 (s_Md_transfer mo mk mlo mhi mm i 1).2.2.1 (s_Md_transfer mo mk mlo mhi mm i 1).2.2.2 a1 (i + 1) ∧ (lp_ok_Md_run_70 n mo (upd mi 4 (mi 4 + 1)) (s_Md_transfer mo mk mlo mhi mm i 1).1 (s_Md_transfer mo mk mlo mhi mm i 1).2.1 (s_Md_transfer mo mk mlo mhi mm i 1).2.2.1 (s_Md_transfer mo mk mlo mhi mm i 1).2.2.2 a1 (i + 1) → lp_ok_Md_run_70 (n + 1) mo mi mk mlo mhi mm a1 i) := by
  constructor
  · conv => lhs; unfold lp_Md_run_70
    simp [h, bk_Md_run_118, bk_Md_run_140, bk_Md_run_158, bk_Md_run_195, bk_Md_run_209, bk_Md_run_226, bk_Md_run_243, x_let]
  · intro hk
    unfold lp_ok_Md_run_70
    simp [h, bk_ok_Md_run_118, bk_ok_Md_run_140, bk_ok_Md_run_158, bk_ok_Md_run_195, bk_ok_Md_run_209, bk_ok_Md_run_226, bk_ok_Md_run_243, x_let, h24, hk0, hk]
theorem r_15 (h : mo 0 i.toNatClampNeg = 15) (h24 : vp_in i 24) (hk0 : k_ok_Md_transfer mo mk mlo mhi mm i 0) : lp_Md_run_70 (n + 1) mo mi mk mlo mhi mm a1 i = lp_Md_run_70 n mo (upd mi 4 (mi 4 + 1)) (s_Md_transfer mo mk mlo mhi mm i 0).1 (s_Md_transfer mo mk mlo mhi mm i 0).2.1 (s_Md_transfer mo mk mlo mhi mm i 0).2.2.1 (s_Md_transfer mo mk mlo mhi mm i 0).2.2.2 a1 (i + 1) ∧ (lp_ok_Md_run_70 n mo (upd mi 4 (mi 4 + 1)) (s_Md_transfer mo mk mlo mhi mm i 0).1 (s_Md_transfer mo mk mlo mhi mm i 0).2.1 (s_Md_transfer mo mk mlo mhi mm i 0).2.2.1 (s_Md_transfer mo mk mlo mhi mm i 0).2.2.2 a1 (i + 1) → lp_ok_Md_run_70 (n + 1) mo mi mk mlo mhi mm a1 i) := by
  constructor
  · conv => lhs; unfold lp_Md_run_70
    simp [h, bk_Md_run_118, bk_Md_run_140, bk_Md_run_158, bk_Md_run_195, bk_Md_run_209, bk_Md_run_226, bk_Md_run_243, x_let]
  · intro hk
    unfold lp_ok_Md_run_70
    simp [h, bk_ok_Md_run_118, bk_ok_Md_run_140, bk_ok_Md_run_158, bk_ok_Md_run_195, bk_ok_Md_run_209, bk_ok_Md_run_226, bk_ok_Md_run_243, x_let, h24, hk0, hk]
theorem r_16 (h : mo 0 i.toNatClampNeg = 16) (h24 : vp_in i 24) (hk0 : k_ok_Md_callNow mi mk mlo mhi (mo 3 i.toNatClampNeg)) : lp_Md_run_70 (n + 1) mo mi mk mlo mhi mm a1 i = lp_Md_run_70 n mo (upd (s_Md_callNow mi mk mlo mhi (mo 3 i.toNatClampNeg)).1 4 ((s_Md_callNow mi mk mlo mhi (mo 3 i.toNatClampNeg)).1 4 + 1)) (s_Md_callNow mi mk mlo mhi (mo 3 i.toNatClampNeg)).2.1 (s_Md_callNow mi mk mlo mhi (mo 3 i.toNatClampNeg)).2.2.1 (s_Md_callNow mi mk mlo mhi (mo 3 i.toNatClampNeg)).2.2.2 mm a1 (i + 1) ∧ (lp_ok_Md_run_70 n mo (upd (s_Md_callNow mi mk mlo mhi (mo 3 i.toNatClampNeg)).1 4 ((s_Md_callNow mi mk mlo mhi (mo 3 i.toNatClampNeg)).1 4 + 1)) (s_Md_callNow mi mk mlo mhi (mo 3 i.toNatClampNeg)).2.1 (s_Md_callNow mi mk mlo mhi (mo 3 i.toNatClampNeg)).2.2.1 (s_Md_callNow mi mk mlo mhi (mo 3 i.toNatClampNeg)).2.2.2 mm a1 (i + 1) → lp_ok_Md_run_70 (n + 1) mo mi mk mlo mhi mm a1 i) := by
  constructor
  · conv => lhs; unfold lp_Md_run_70
    simp [h, bk_Md_run_118, bk_Md_run_140, bk_Md_run_158, bk_Md_run_195, bk_Md_run_226, bk_Md_run_243, x_let]
  · intro hk
    unfold lp_ok_Md_run_70
    simp [h, bk_ok_Md_run_118, bk_ok_Md_run_140, bk_ok_Md_run_158, bk_ok_Md_run_195, bk_ok_Md_run_226, bk_ok_Md_run_243, x_let, h24, hk0, hk]
end RunRed
