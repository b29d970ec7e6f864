/-! what is known is true of what is there -/
def p_val (k : Int32) (lo hi : Int64) (ck : Int32) (cv : Int64) : Prop :=
  k = 0 ∨ (k = 1 ∧ ck = 1 ∧ p_btw lo cv hi) ∨ (k = 2 ∧ ck = 2 ∧ p_btw lo cv hi) ∨ (k = 3 ∧ (3 ≤ ck.toInt ∧ ck.toInt ≤ 8) ∧ p_btw lo cv hi) ∨ (k = 4 ∧ cv = 0 ∧ (ck = 1 ∨ (3 ≤ ck.toInt ∧ ck.toInt ≤ 8)))
def p_gam (K : Nat → Int32) (Lo Hi : Nat → Int64) (rk : Nat → Int32) (rv : Nat → Int64) : Prop := ∀ j, j < 12 → p_val (K j) (Lo j) (Hi j) (rk j) (rv j)
def p_gamG (G : (Nat → Int32) × (Nat → Int64) × (Nat → Int64)) (rk : Nat → Int32) (rv : Nat → Int64) : Prop := p_gam G.1 G.2.1 G.2.2 rk rv
theorem v_1 {K : Nat → Int32} {Lo Hi : Nat → Int64} {rk : Nat → Int32} {rv : Nat → Int64} (h : p_gam K Lo Hi rk rv) {j : Nat} (hj : j < 12) (hk : K j = 1) : rk j = 1 ∧ p_btw (Lo j) (rv j) (Hi j) := by
  rcases h j hj with e | ⟨e, a⟩ | ⟨e, a⟩ | ⟨e, a⟩ | ⟨e, a⟩
  · rw [hk] at e; exact absurd e (by decide)
  · exact a
  all_goals (rw [hk] at e; exact absurd e (by decide))
theorem v_2 {K : Nat → Int32} {Lo Hi : Nat → Int64} {rk : Nat → Int32} {rv : Nat → Int64} (h : p_gam K Lo Hi rk rv) {j : Nat} (hj : j < 12) (hk : K j = 2) : rk j = 2 ∧ p_btw (Lo j) (rv j) (Hi j) := by
  rcases h j hj with e | ⟨e, a⟩ | ⟨e, a⟩ | ⟨e, a⟩ | ⟨e, a⟩
  · rw [hk] at e; exact absurd e (by decide)
  · rw [hk] at e; exact absurd e (by decide)
  · exact a
  all_goals (rw [hk] at e; exact absurd e (by decide))
theorem v_3 {K : Nat → Int32} {Lo Hi : Nat → Int64} {rk : Nat → Int32} {rv : Nat → Int64} (h : p_gam K Lo Hi rk rv) {j : Nat} (hj : j < 12) (hk : K j = 3) : (3 ≤ (rk j).toInt ∧ (rk j).toInt ≤ 8) ∧ p_btw (Lo j) (rv j) (Hi j) := by
  rcases h j hj with e | ⟨e, a⟩ | ⟨e, a⟩ | ⟨e, a⟩ | ⟨e, a⟩
  · rw [hk] at e; exact absurd e (by decide)
  · rw [hk] at e; exact absurd e (by decide)
  · rw [hk] at e; exact absurd e (by decide)
  · exact a
  · rw [hk] at e; exact absurd e (by decide)
theorem v_4 {K : Nat → Int32} {Lo Hi : Nat → Int64} {rk : Nat → Int32} {rv : Nat → Int64} (h : p_gam K Lo Hi rk rv) {j : Nat} (hj : j < 12) (hk : K j = 4) : rv j = 0 ∧ (rk j = 1 ∨ (3 ≤ (rk j).toInt ∧ (rk j).toInt ≤ 8)) := by
  rcases h j hj with e | ⟨e, a⟩ | ⟨e, a⟩ | ⟨e, a⟩ | ⟨e, a⟩
  · rw [hk] at e; exact absurd e (by decide)
  · rw [hk] at e; exact absurd e (by decide)
  · rw [hk] at e; exact absurd e (by decide)
  · rw [hk] at e; exact absurd e (by decide)
  · exact a
theorem s_know {K : Nat → Int32} {Lo Hi : Nat → Int64} {rk : Nat → Int32} {rv : Nat → Int64} (h : p_gam K Lo Hi rk rv) {d k ck : Int32} {lo hi cv : Int64} (hv : p_val k lo hi ck cv) : p_gamG (s_Md_know K Lo Hi d k lo hi) (upd rk d.toNatClampNeg ck) (vp_updL rv d.toNatClampNeg cv) := by
  intro j hj
  simp only [s_Md_know]
  by_cases e : j = d.toNatClampNeg
  · subst e; rw [p_upd_self, p_upd_self, p_updL_self, p_updL_self, p_updL_self]; exact hv
  · rw [p_upd_ne _ _ e, p_upd_ne _ _ e, p_updL_ne _ _ e, p_updL_ne _ _ e, p_updL_ne _ _ e]; exact h j hj
/-- where the kind that is there stays -/
theorem s_knowv {K : Nat → Int32} {Lo Hi : Nat → Int64} {rk : Nat → Int32} {rv : Nat → Int64} (h : p_gam K Lo Hi rk rv) {d k : Int32} {lo hi cv : Int64} (hv : p_val k lo hi (rk d.toNatClampNeg) cv) : p_gamG (s_Md_know K Lo Hi d k lo hi) rk (vp_updL rv d.toNatClampNeg cv) := by
  have := s_know h (d := d) hv
  rwa [p_upd_same _ _ rfl] at this
theorem s_knowk {K : Nat → Int32} {Lo Hi : Nat → Int64} {rk : Nat → Int32} {rv : Nat → Int64} (h : p_gam K Lo Hi rk rv) {d k : Int32} {lo hi : Int64} (hv : p_val k lo hi (rk d.toNatClampNeg) (rv d.toNatClampNeg)) : p_gamG (s_Md_know K Lo Hi d k lo hi) rk rv := by
  have := s_knowv h (d := d) hv
  rwa [p_updL_same] at this
theorem v_num {lo x hi : Int64} (h : p_btw lo x hi) : p_val 1 lo hi 1 x := Or.inr (Or.inl ⟨rfl, rfl, h⟩)
theorem s_clear3 {K : Nat → Int32} {Lo Hi : Nat → Int64} {rk : Nat → Int32} {rv : Nat → Int64} (n : Int32) (h : p_gam K Lo Hi rk rv) : p_gamG (lp_Md_callGuess_102 4 K Lo Hi n 1) (upd (upd (upd rk 1 0) 2 0) 3 0) (vp_updL (vp_updL (vp_updL rv 1 0) 2 0) 3 0) := by
  have e : lp_Md_callGuess_102 4 K Lo Hi n 1 = (upd (upd (upd K 1 0) 2 0) 3 0, vp_updL (vp_updL (vp_updL Lo 1 0) 2 0) 3 0, vp_updL (vp_updL (vp_updL Hi 1 0) 2 0) 3 0) := rfl
  rw [e]
  have z : p_val 0 0 0 0 0 := Or.inl rfl
  exact s_know (d := 3) (s_know (d := 2) (s_know (d := 1) h z) z) z
/-- a copy of what is there -/
theorem s_copy {K : Nat → Int32} {Lo Hi : Nat → Int64} {rk : Nat → Int32} {rv : Nat → Int64} (h : p_gam K Lo Hi rk rv) (s d : Int32) (hs : s.toNatClampNeg < 12) : p_gamG (s_Md_copy K Lo Hi s d) (upd rk d.toNatClampNeg (rk s.toNatClampNeg)) (vp_updL rv d.toNatClampNeg (rv s.toNatClampNeg)) := s_know h (h _ hs)
/-! forks, as they are run -/
section Jumps
variable (mo : Nat → Nat → Int32) (i : Int32) (K : Nat → Int32) (Lo Hi : Nat → Int64) (rk : Nat → Int32) (rv : Nat → Int64)
theorem s_jump (sz : Int32) (hwf : p_wf mo sz) (hl : p_let mo i sz K Lo Hi) (hj : ¬ (mo 0 i.toNatClampNeg < 10 ∨ 13 < mo 0 i.toNatClampNeg)) (h : p_gam K Lo Hi rk rv) (hc : ¬ s_Rn_jumps (fun j k => mo k j) rk rv i.toNatClampNeg = 0) : ¬ p_cT mo K Lo Hi i.toNatClampNeg = 0 ∧ p_gamG (p_tgt mo K Lo Hi i.toNatClampNeg) rk rv := by
  obtain ⟨hop, hd, hs, ht⟩ := hwf.1 i.toNatClampNeg
  obtain ⟨l1, l2, l3, l4, l5, l6, l7, l8, l9⟩ := hl
  have hd6 := p_reg hd
  have hs6 := p_reg hs
  have KK := j_kinds mo i K Lo Hi hop l4 l5
  obtain ⟨n1, n2, n3⟩ := p_num1 (mo 3 i.toNatClampNeg)
  simp only [s_Rn_jumps] at hc
  rcases p_op18 hop with h0 | h0 | h0 | h0 | h0 | h0 | h0 | h0 | h0 | h0 | h0 | h0 | h0 | h0 | h0 | h0 | h0 | h0
  all_goals first | (exfalso; apply hj; rw [h0]; decide) | skip
  · rw [if_pos h0] at hc
    by_cases c1 : rk (mo 1 i.toNatClampNeg).toNatClampNeg = 1
    · rw [if_pos c1] at hc
      by_cases c2 : rv (mo 1 i.toNatClampNeg).toNatClampNeg = Int32.toInt64 (mo 3 i.toNatClampNeg)
      · rw [t_10 mo i K Lo Hi h0]
        refine ⟨?_, s_knowk h (by rw [c1, c2]; exact v_num ⟨Int.le_refl _, Int.le_refl _⟩)⟩
        rcases KK.2.2.2.2.1 h0 with k1 | ⟨k4, -⟩
        · rw [p_cT10 mo i K Lo Hi h0 k1]
          have b := (v_1 h (by omega) k1).2
          rw [c2] at b
          rw [if_neg (by rw [Int64.lt_iff_toInt_lt]; have := b.1; omega), if_neg (by rw [Int64.lt_iff_toInt_lt]; have := b.2; omega)]
          decide
        · rw [p_cT10m mo i K Lo Hi h0 k4]; decide
      · rw [if_neg c2] at hc; exact absurd rfl hc
    · rw [if_neg c1] at hc; exact absurd rfl hc
  · rw [if_neg (by rw [h0]; decide), if_pos h0] at hc
    have k1 := KK.2.2.2.1 (by simp [h0])
    obtain ⟨r1, b⟩ := v_1 h (show (mo 1 i.toNatClampNeg).toNatClampNeg < 12 by omega) k1
    by_cases c2 : rv (mo 1 i.toNatClampNeg).toNatClampNeg ≤ Int32.toInt64 (mo 3 i.toNatClampNeg)
    · rw [if_pos c2] at hc; exact absurd rfl hc
    · have c2 := Int64.lt_iff_toInt_lt.mp (Int64.not_le.mp c2)
      refine ⟨?_, ?_⟩
      · rw [p_cT11 mo i K Lo Hi h0, if_neg]
        · decide
        · rw [Int64.le_iff_toInt_le]; have := b.2; omega
      · unfold p_tgt
        rw [if_neg (by rw [h0]; decide), if_pos h0]
        refine s_knowk h (by rw [r1]; refine v_num ⟨?_, b.2⟩; split; exact b.1; rw [n1]; omega)
  · rw [if_neg (by rw [h0]; decide), if_neg (by rw [h0]; decide), if_pos h0] at hc
    have kk := KK.2.2.1 (Or.inr h0)
    obtain ⟨r1, b1⟩ := v_1 h (show (mo 1 i.toNatClampNeg).toNatClampNeg < 12 by omega) kk.1
    obtain ⟨r2, b2⟩ := v_1 h (show (mo 2 i.toNatClampNeg).toNatClampNeg < 12 by omega) kk.2
    by_cases c2 : rv (mo 2 i.toNatClampNeg).toNatClampNeg ≤ rv (mo 1 i.toNatClampNeg).toNatClampNeg
    · rw [if_pos c2] at hc; exact absurd rfl hc
    have c2 := Int64.lt_iff_toInt_lt.mp (Int64.not_le.mp c2)
    have c0 : ¬ mo 1 i.toNatClampNeg = mo 2 i.toNatClampNeg := fun e => by rw [e] at c2; omega
    have ap := p_apart hd hs c0
    have e1 : (1 : Int64).toInt = 1 := rfl
    have q1 := p_r64 (Lo (mo 1 i.toNatClampNeg).toNatClampNeg)
    have q2 := p_r64 (Hi (mo 2 i.toNatClampNeg).toNatClampNeg)
    obtain ⟨x1, x2⟩ := b1
    obtain ⟨y1, y2⟩ := b2
    have m1 : (Hi (mo 2 i.toNatClampNeg).toNatClampNeg - 1).toInt = (Hi (mo 2 i.toNatClampNeg).toNatClampNeg).toInt - 1 := by rw [p_sub64 (by rw [e1]; omega), e1]
    have m2 : (Lo (mo 1 i.toNatClampNeg).toNatClampNeg + 1).toInt = (Lo (mo 1 i.toNatClampNeg).toNatClampNeg).toInt + 1 := by rw [p_add64 (by rw [e1]; omega), e1]
    refine ⟨?_, ?_⟩
    · rw [p_cT12 mo i K Lo Hi h0, if_neg c0, if_neg]
      · decide
      · rw [Int64.le_iff_toInt_le]; omega
    · unfold p_tgt
      rw [if_neg (by rw [h0]; decide), if_neg (by rw [h0]; decide), if_pos h0]
      simp only [x_let]
      refine s_knowk (s_knowk h ?_) ?_
      · rw [r1]; refine v_num ⟨x1, ?_⟩; split
        · rw [m1]; omega
        · exact x2
      · rw [r2]; refine v_num ⟨?_, y2⟩
        simp only [s_Md_know, p_updL_ne _ _ ap.symm]
        split
        · exact y1
        · rw [m2]; omega
  · refine ⟨by rw [p_cT13 mo i K Lo Hi h0]; decide, ?_⟩
    unfold p_tgt
    rw [if_neg (by rw [h0]; decide), if_neg (by rw [h0]; decide), if_neg (by rw [h0]; decide)]
    exact h
theorem s_pass (sz : Int32) (hwf : p_wf mo sz) (hl : p_let mo i sz K Lo Hi) (hj : ¬ (mo 0 i.toNatClampNeg < 10 ∨ 13 < mo 0 i.toNatClampNeg)) (h : p_gam K Lo Hi rk rv) (hc : s_Rn_jumps (fun j k => mo k j) rk rv i.toNatClampNeg = 0) : ¬ p_cO mo K Lo Hi i.toNatClampNeg = 0 ∧ p_gamG (p_on mo K Lo Hi i.toNatClampNeg) rk rv := by
  obtain ⟨hop, hd, hs, ht⟩ := hwf.1 i.toNatClampNeg
  obtain ⟨l1, l2, l3, l4, l5, l6, l7, l8, l9⟩ := hl
  have hd6 := p_reg hd
  have hs6 := p_reg hs
  have KK := j_kinds mo i K Lo Hi hop l4 l5
  obtain ⟨n1, n2, n3⟩ := p_num1 (mo 3 i.toNatClampNeg)
  simp only [s_Rn_jumps] at hc
  rcases p_op18 hop with h0 | h0 | h0 | h0 | h0 | h0 | h0 | h0 | h0 | h0 | h0 | h0 | h0 | h0 | h0 | h0 | h0 | h0
  all_goals first | (exfalso; apply hj; rw [h0]; decide) | skip
  · rw [if_pos h0] at hc
    rcases KK.2.2.2.2.1 h0 with k1 | ⟨k4, nz⟩
    · obtain ⟨r1, x1, x2⟩ := v_1 h (show (mo 1 i.toNatClampNeg).toNatClampNeg < 12 by omega) k1
      rw [if_pos r1] at hc
      by_cases c2 : rv (mo 1 i.toNatClampNeg).toNatClampNeg = Int32.toInt64 (mo 3 i.toNatClampNeg)
      · rw [if_pos c2] at hc; exact absurd hc (by decide)
      · have q : ∀ x : Int64, x = Int32.toInt64 (mo 3 i.toNatClampNeg) ↔ x.toInt = (mo 3 i.toNatClampNeg).toInt := fun x => by rw [← Int64.toInt_inj, n3]
        rw [q] at c2
        refine ⟨?_, ?_⟩
        · rw [p_cO10 mo i K Lo Hi h0 k1]
          by_cases c3 : Lo (mo 1 i.toNatClampNeg).toNatClampNeg = Int32.toInt64 (mo 3 i.toNatClampNeg)
          · by_cases c4 : Hi (mo 1 i.toNatClampNeg).toNatClampNeg = Int32.toInt64 (mo 3 i.toNatClampNeg)
            · exfalso; rw [q] at c3 c4; omega
            · rw [if_pos c3, if_neg c4]; decide
          · rw [if_neg c3]; decide
        · unfold p_on
          rw [if_pos h0, if_neg (by rw [k1]; decide)]
          refine s_knowk h ?_
          rw [r1]
          refine v_num ⟨?_, ?_⟩
          · split
            · next c3 => rw [n1]; rw [q] at c3; omega
            · exact x1
          · split
            · next c3 => rw [n2]; rw [q] at c3; omega
            · exact x2
    · obtain ⟨v0, r⟩ := v_4 h (show (mo 1 i.toNatClampNeg).toNatClampNeg < 12 by omega) k4
      rcases r with r1 | r1
      · rw [if_pos r1, if_pos (by rw [v0, nz]; rfl)] at hc; exact absurd hc (by decide)
      · refine ⟨by rw [p_cO10m mo i K Lo Hi h0 k4]; decide, ?_⟩
        unfold p_on
        rw [if_pos h0, if_pos k4]
        refine s_knowk h (Or.inr (Or.inr (Or.inr (Or.inl ⟨rfl, r1, ?_⟩))))
        rw [v0]; exact ⟨Int.le_refl _, Int.le_refl _⟩
  · rw [if_neg (by rw [h0]; decide), if_pos h0] at hc
    have k1 := KK.2.2.2.1 (by simp [h0])
    obtain ⟨r1, x1, x2⟩ := v_1 h (show (mo 1 i.toNatClampNeg).toNatClampNeg < 12 by omega) k1
    by_cases c2 : rv (mo 1 i.toNatClampNeg).toNatClampNeg ≤ Int32.toInt64 (mo 3 i.toNatClampNeg)
    · have c2 := Int64.le_iff_toInt_le.mp c2
      refine ⟨?_, ?_⟩
      · rw [p_cO11 mo i K Lo Hi h0, if_neg]
        · decide
        · rw [Int64.lt_iff_toInt_lt]; omega
      · unfold p_on
        rw [if_neg (by rw [h0]; decide), if_pos h0]
        refine s_knowk h (by rw [r1]; refine v_num ⟨x1, ?_⟩; split; exact c2; exact x2)
    · rw [if_neg c2] at hc; exact absurd hc (by decide)
  · rw [if_neg (by rw [h0]; decide), if_neg (by rw [h0]; decide), if_pos h0] at hc
    have kk := KK.2.2.1 (Or.inr h0)
    obtain ⟨r1, x1, x2⟩ := v_1 h (show (mo 1 i.toNatClampNeg).toNatClampNeg < 12 by omega) kk.1
    obtain ⟨r2, y1, y2⟩ := v_1 h (show (mo 2 i.toNatClampNeg).toNatClampNeg < 12 by omega) kk.2
    by_cases c2 : rv (mo 2 i.toNatClampNeg).toNatClampNeg ≤ rv (mo 1 i.toNatClampNeg).toNatClampNeg
    · have c2 := Int64.le_iff_toInt_le.mp c2
      by_cases c0 : mo 1 i.toNatClampNeg = mo 2 i.toNatClampNeg
      · refine ⟨by rw [p_cO12 mo i K Lo Hi h0, if_pos c0]; decide, ?_⟩
        rw [o_12e mo i K Lo Hi h0 c0]; exact h
      have ap := p_apart hd hs c0
      refine ⟨?_, ?_⟩
      · rw [p_cO12 mo i K Lo Hi h0, if_neg c0, if_neg]
        · decide
        · rw [Int64.lt_iff_toInt_lt]; omega
      · unfold p_on
        rw [if_neg (by rw [h0]; decide), if_neg (by rw [h0]; decide), if_pos ⟨h0, c0⟩]
        simp only [x_let]
        refine s_knowk (s_knowk h ?_) ?_
        · rw [r1]; refine v_num ⟨?_, x2⟩; split
          · exact x1
          · omega
        · rw [r2]; refine v_num ⟨y1, ?_⟩
          simp only [s_Md_know, p_updL_ne _ _ ap.symm]
          split
          · omega
          · exact y2
    · rw [if_neg c2] at hc; exact absurd hc (by decide)
  · rw [if_neg (by rw [h0]; decide), if_neg (by rw [h0]; decide), if_neg (by rw [h0]; decide)] at hc
    exact absurd hc (by decide)
end Jumps
