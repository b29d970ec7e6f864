/-! kinds of a step that is let through; what is known stays well made -/
theorem p_two {a b : Prop} [Decidable a] [Decidable b] (h : (if a then (if b then (0 : Int32) else 1) else 1) = 0) : a ∧ b := by
  by_cases x : a <;> by_cases y : b <;> simp [x, y] at h ⊢
theorem j_kinds (mo : Nat → Nat → Int32) (i : Int32) (K : Nat → Int32) (Lo Hi : Nat → Int64) (hop : 0 ≤ (mo 0 i.toNatClampNeg).toInt ∧ (mo 0 i.toNatClampNeg).toInt ≤ 17) (hn : s_Md_wrongNumber mo i = 0) (hk : s_Md_wrongKind mo K Lo Hi i = 0) :
    (mo 0 i.toNatClampNeg = 2 → K (mo 1 i.toNatClampNeg).toNatClampNeg = 1 ∨ K (mo 1 i.toNatClampNeg).toNatClampNeg = 2 ∨ K (mo 1 i.toNatClampNeg).toNatClampNeg = 3) ∧
    (mo 0 i.toNatClampNeg = 3 → (K (mo 1 i.toNatClampNeg).toNatClampNeg = 1 ∨ K (mo 1 i.toNatClampNeg).toNatClampNeg = 2 ∨ K (mo 1 i.toNatClampNeg).toNatClampNeg = 3) ∧ K (mo 2 i.toNatClampNeg).toNatClampNeg = 1) ∧
    ((mo 0 i.toNatClampNeg = 4 ∨ mo 0 i.toNatClampNeg = 12) → K (mo 1 i.toNatClampNeg).toNatClampNeg = 1 ∧ K (mo 2 i.toNatClampNeg).toNatClampNeg = 1) ∧
    ((mo 0 i.toNatClampNeg = 5 ∨ mo 0 i.toNatClampNeg = 6 ∨ mo 0 i.toNatClampNeg = 7 ∨ mo 0 i.toNatClampNeg = 8 ∨ mo 0 i.toNatClampNeg = 9 ∨ mo 0 i.toNatClampNeg = 11) → K (mo 1 i.toNatClampNeg).toNatClampNeg = 1) ∧
    (mo 0 i.toNatClampNeg = 10 → K (mo 1 i.toNatClampNeg).toNatClampNeg = 1 ∨ (K (mo 1 i.toNatClampNeg).toNatClampNeg = 4 ∧ mo 3 i.toNatClampNeg = 0)) ∧
    (mo 0 i.toNatClampNeg = 16 → mo 3 i.toNatClampNeg = 1 → K 1 = 1) ∧
    (mo 0 i.toNatClampNeg = 16 → mo 3 i.toNatClampNeg = 2 → K 1 = 1 ∧ K 2 = 1) ∧
    (mo 0 i.toNatClampNeg = 17 → K 0 = 1) := by
  unfold s_Md_wrongKind at hk
  simp only [s_Md_place, bk_Md_wrongKind_87, bk_Md_wrongKind_115, bk_Md_wrongKind_324, x_let] at hk
  refine ⟨fun h => ?_, fun h => ?_, fun h => ?_, fun h => ?_, fun h => ?_, fun h h3 => ?_, fun h h3 => ?_, fun h => ?_⟩
  · simp [h] at hk
    by_cases k1 : K (mo 1 i.toNatClampNeg).toNatClampNeg = 1
    · exact Or.inl k1
    by_cases k2 : K (mo 1 i.toNatClampNeg).toNatClampNeg = 2
    · exact Or.inr (Or.inl k2)
    by_cases k3 : K (mo 1 i.toNatClampNeg).toNatClampNeg = 3
    · exact Or.inr (Or.inr k3)
    simp [k1, k2, k3] at hk
  · simp [h] at hk
    by_cases s1 : K (mo 2 i.toNatClampNeg).toNatClampNeg = 1
    · refine ⟨?_, s1⟩
      by_cases k1 : K (mo 1 i.toNatClampNeg).toNatClampNeg = 1
      · exact Or.inl k1
      by_cases k2 : K (mo 1 i.toNatClampNeg).toNatClampNeg = 2
      · exact Or.inr (Or.inl k2)
      by_cases k3 : K (mo 1 i.toNatClampNeg).toNatClampNeg = 3
      · exact Or.inr (Or.inr k3)
      simp [k1, k2, k3] at hk
    · exfalso
      by_cases k1 : K (mo 1 i.toNatClampNeg).toNatClampNeg = 1
      · simp [k1, s1] at hk
      by_cases k2 : K (mo 1 i.toNatClampNeg).toNatClampNeg = 2
      · simp [k2, s1] at hk
      by_cases k3 : K (mo 1 i.toNatClampNeg).toNatClampNeg = 3
      · simp [k3, s1] at hk
      simp [k1, k2, k3] at hk
  · rcases h with h | h
    · simp [h] at hk; exact p_two hk
    · simp [h] at hk; exact p_two hk
  · rcases h with h | h | h | h | h | h
    all_goals (simp [h] at hk; exact hk)
  · simp [h] at hk
    by_cases k1 : K (mo 1 i.toNatClampNeg).toNatClampNeg = 1
    · exact Or.inl k1
    · simp [k1] at hk; exact Or.inr (p_two hk)
  · simp [h, h3] at hk; exact hk
  · simp [h, h3] at hk; exact p_two hk
  · simp [h] at hk; exact hk
def p_ok1 (k : Int32) (lo hi : Int64) : Prop := k = 0 ∨ (k = 1 ∧ lo.toInt ≤ hi.toInt) ∨ ((k = 2 ∨ k = 3) ∧ (-100 ≤ lo.toInt ∧ lo.toInt ≤ hi.toInt ∧ hi.toInt ≤ 100)) ∨ k = 4
def p_gdG (G : (Nat → Int32) × (Nat → Int64) × (Nat → Int64)) : Prop := p_gd G.1 G.2.1 G.2.2
theorem g_know {K : Nat → Int32} {Lo Hi : Nat → Int64} (hg : p_gd K Lo Hi) {d k : Int32} {lo hi : Int64} (h : p_ok1 k lo hi) : p_gdG (s_Md_know K Lo Hi d k lo hi) := by
  intro j hj
  show p_ok1 (upd K d.toNatClampNeg k j) (vp_updL Lo d.toNatClampNeg lo j) (vp_updL Hi d.toNatClampNeg hi j)
  by_cases e : j = d.toNatClampNeg
  · subst e; rw [p_upd_self, p_updL_self, p_updL_self]; exact h
  · rw [p_upd_ne _ _ e, p_updL_ne _ _ e, p_updL_ne _ _ e]; exact hg j hj
theorem g_range {lo hi : Int64} (h : lo.toInt ≤ hi.toInt) : p_ok1 1 lo hi := Or.inr (Or.inl ⟨rfl, h⟩)
theorem p_btw_le {lo x hi : Int64} (h : p_btw lo x hi) : lo.toInt ≤ hi.toInt := Int.le_trans h.1 h.2
theorem p_btw_self {lo hi : Int64} (h : lo.toInt ≤ hi.toInt) : p_btw lo lo hi := ⟨Int.le_refl _, h⟩
theorem p_gd1 {K : Nat → Int32} {Lo Hi : Nat → Int64} (h : p_gd K Lo Hi) {k : Nat} (hk : k < 12) (h1 : K k = 1) : (Lo k).toInt ≤ (Hi k).toInt := by
  rcases h k hk with e | ⟨-, e⟩ | ⟨e | e, -⟩ | e
  · rw [h1] at e; exact absurd e (by decide)
  · exact e
  · rw [h1] at e; exact absurd e (by decide)
  · rw [h1] at e; exact absurd e (by decide)
  · rw [h1] at e; exact absurd e (by decide)
theorem g_clear3 {K : Nat → Int32} {Lo Hi : Nat → Int64} (n : Int32) (hg : p_gd K Lo Hi) : p_gdG (lp_Md_callGuess_102 4 K Lo Hi n 1) := by
  have z : p_ok1 0 0 0 := Or.inl rfl
  have e : lp_Md_callGuess_102 4 K Lo Hi n 1 = (upd (upd (upd K 1 0) 2 0) 3 0, vp_updL (vp_updL (vp_updL Lo 1 0) 2 0) 3 0, vp_updL (vp_updL (vp_updL Hi 1 0) 2 0) 3 0) := rfl
  rw [e]
  exact g_know (d := 3) (g_know (d := 2) (g_know (d := 1) hg z) z) z
theorem g_max {a b c d : Int64} (h1 : a.toInt ≤ c.toInt) (h2 : b.toInt ≤ d.toInt) : (if a ≤ b then b else a).toInt ≤ (if c ≤ d then d else c).toInt := by
  by_cases x : a ≤ b <;> by_cases y : c ≤ d <;> simp only [x, y, if_true, if_false] <;> simp only [Int64.le_iff_toInt_le] at x y <;> omega
theorem p_guess2 (K : Nat → Int32) (Lo Hi : Nat → Int64) : s_Md_callGuess K Lo Hi 2 = x_let (s_Md_know K Lo Hi 0 1 (if Lo 1 ≤ Lo 2 then Lo 2 else Lo 1) (if Hi 1 ≤ Hi 2 then Hi 2 else Hi 1)) fun (a, b, c) => lp_Md_callGuess_102 4 a b c 2 1 := by
  unfold s_Md_callGuess bk_Md_callGuess_14 bk_Md_callGuess_27 bk_Md_callGuess_100
  simp only [show ¬ (2 : Int32) = 0 by decide, show ¬ (2 : Int32) = 1 by decide, if_false, if_true, show Int32.toNatClampNeg 1 = 1 from rfl, show Int32.toNatClampNeg 2 = 2 from rfl, x_let]
  by_cases x : Lo 1 ≤ Lo 2 <;> by_cases y : Hi 1 ≤ Hi 2 <;> simp only [x, y, if_true, if_false]
theorem p_guess0 (K : Nat → Int32) (Lo Hi : Nat → Int64) : s_Md_callGuess K Lo Hi 0 = x_let (s_Md_know K Lo Hi 0 1 0 99) fun (a, b, c) => lp_Md_callGuess_102 4 a b c 0 1 := rfl
theorem p_guess1 (K : Nat → Int32) (Lo Hi : Nat → Int64) : s_Md_callGuess K Lo Hi 1 = x_let (s_Md_know K Lo Hi 0 4 0 0) fun (a, b, c) => lp_Md_callGuess_102 4 a b c 1 1 := rfl
theorem g_fol (mo : Nat → Nat → Int32) (i : Int32) (K : Nat → Int32) (Lo Hi : Nat → Int64) (sz : Int32) (hwf : p_wf mo sz) (hi0 : 0 ≤ i.toInt) (hg : p_gd K Lo Hi) (hl : p_let mo i sz K Lo Hi) (hj : ¬ mo 0 i.toNatClampNeg = 17) (hj2 : mo 0 i.toNatClampNeg < 10 ∨ 13 < mo 0 i.toNatClampNeg) : p_gdG (p_fol mo K Lo Hi i) := by
  obtain ⟨hop, hd, hs, ht⟩ := hwf.1 i.toNatClampNeg
  have hz := hwf.2
  obtain ⟨l1, l2, l3, l4, l5, l6, l7, l8, l9⟩ := hl
  have h24 : vp_in i 24 := vp_in_iff.mpr (by omega)
  have hd6 := p_reg hd
  have hs6 := p_reg hs
  have P := j_place0 mo i hd hs K Lo Hi hg l7
  have N := j_number0 mo i l4
  have KK := j_kinds mo i K Lo Hi hop l4 l5
  have nb := p_r32 (mo 3 i.toNatClampNeg)
  have mov : ∀ a b : Int64, a.toInt ≤ b.toInt → (K (mo 1 i.toNatClampNeg).toNatClampNeg = 1 ∨ K (mo 1 i.toNatClampNeg).toNatClampNeg = 2 ∨ K (mo 1 i.toNatClampNeg).toNatClampNeg = 3) → ((K (mo 1 i.toNatClampNeg).toNatClampNeg = 2 ∨ K (mo 1 i.toNatClampNeg).toNatClampNeg = 3) → -100 ≤ (Lo (mo 1 i.toNatClampNeg).toNatClampNeg).toInt + a.toInt ∧ (Hi (mo 1 i.toNatClampNeg).toNatClampNeg).toInt + b.toInt ≤ 100) → p_gdG (s_Md_move K Lo Hi (mo 1 i.toNatClampNeg) a b) := by
    intro a b hab hk hp
    rcases hk with hk | hk
    · obtain ⟨lo, hi, e, q⟩ := c_move K Lo Hi (mo 1 i.toNatClampNeg) a b hk
      rw [e]
      exact g_know hg (g_range (p_btw_le (q _ _ (p_btw_self (p_gd1 hg (by omega) hk)) (p_btw_self hab))))
    · obtain ⟨b1, b2, b3⟩ := p_gd_place hg (by omega) hk
      have hp := hp hk
      obtain ⟨e, e1, e2⟩ := c_moveP K Lo Hi (mo 1 i.toNatClampNeg) a b hp.1 hp.2 (by omega)
      rw [e]
      exact g_know hg (Or.inr (Or.inr (Or.inl ⟨hk, by omega, by omega, by omega⟩)))
  have ari : ∀ (op : Int32) (F : Int64 → Int64), K (mo 1 i.toNatClampNeg).toNatClampNeg = 1 → (∃ lo hi, s_Md_arithmetic K Lo Hi op (mo 1 i.toNatClampNeg) (Int32.toInt64 (mo 3 i.toNatClampNeg)) = s_Md_know K Lo Hi (mo 1 i.toNatClampNeg) 1 lo hi ∧ ∀ x, p_btw (Lo (mo 1 i.toNatClampNeg).toNatClampNeg) x (Hi (mo 1 i.toNatClampNeg).toNatClampNeg) → p_btw lo (F x) hi) → p_gdG (s_Md_arithmetic K Lo Hi op (mo 1 i.toNatClampNeg) (Int32.toInt64 (mo 3 i.toNatClampNeg))) := by
    intro op F hk ⟨lo, hi, e, q⟩
    rw [e]
    exact g_know hg (g_range (p_btw_le (q _ (p_btw_self (p_gd1 hg (by omega) hk)))))
  unfold p_fol
  rcases p_op18 hop with h | h | h | h | h | h | h | h | h | h | h | h | h | h | h | h | h | h
  all_goals first | (exact absurd h hj) | (rw [h] at hj2; exact absurd hj2 (by decide)) | skip
  · rw [if_pos h]; exact g_know hg (g_range (Int.le_refl _))
  · rw [if_neg (by rw [h]; decide), if_pos h]; exact g_know hg (hg _ (by omega))
  · rw [if_neg (by rw [h]; decide), if_neg (by rw [h]; decide), if_pos h]
    exact mov _ _ (Int.le_refl _) (KK.1 h) (fun hq => by rw [Int32.toInt_toInt64]; exact P.1 h hq)
  · rw [if_neg (by rw [h]; decide), if_neg (by rw [h]; decide), if_neg (by rw [h]; decide), if_pos h]
    exact mov _ _ (p_gd1 hg (by omega) (KK.2.1 h).2) (KK.2.1 h).1 (fun hq => P.2.1 h hq)
  · rw [if_neg (by rw [h]; decide), if_neg (by rw [h]; decide), if_neg (by rw [h]; decide), if_neg (by rw [h]; decide), if_pos h]
    have k := KK.2.2.1 (Or.inl h)
    obtain ⟨lo, hi, e, q⟩ := c_sub K Lo Hi (mo 1 i.toNatClampNeg) (mo 2 i.toNatClampNeg)
    rw [e]
    exact g_know hg (g_range (p_btw_le (q _ _ (p_btw_self (p_gd1 hg (by omega) k.1)) (p_btw_self (p_gd1 hg (by omega) k.2)))))
  · simp only [h, show ¬ (5 : Int32) = 0 by decide, show ¬ (5 : Int32) = 1 by decide, show ¬ (5 : Int32) = 2 by decide, show ¬ (5 : Int32) = 3 by decide, show ¬ (5 : Int32) = 4 by decide, show (5 : Int32) < 10 by decide, if_true, if_false]
    exact ari 5 _ (KK.2.2.2.1 (by simp [h])) (c_mul K Lo Hi _ _ (by rw [Int32.toInt_toInt64]; omega))
  · simp only [h, show ¬ (6 : Int32) = 0 by decide, show ¬ (6 : Int32) = 1 by decide, show ¬ (6 : Int32) = 2 by decide, show ¬ (6 : Int32) = 3 by decide, show ¬ (6 : Int32) = 4 by decide, show (6 : Int32) < 10 by decide, if_true, if_false]
    exact ari 6 _ (KK.2.2.2.1 (by simp [h])) (c_and K Lo Hi _ _)
  · simp only [h, show ¬ (7 : Int32) = 0 by decide, show ¬ (7 : Int32) = 1 by decide, show ¬ (7 : Int32) = 2 by decide, show ¬ (7 : Int32) = 3 by decide, show ¬ (7 : Int32) = 4 by decide, show (7 : Int32) < 10 by decide, if_true, if_false]
    exact ari 7 _ (KK.2.2.2.1 (by simp [h])) (c_shift K Lo Hi _ _)
  · simp only [h, show ¬ (8 : Int32) = 0 by decide, show ¬ (8 : Int32) = 1 by decide, show ¬ (8 : Int32) = 2 by decide, show ¬ (8 : Int32) = 3 by decide, show ¬ (8 : Int32) = 4 by decide, show (8 : Int32) < 10 by decide, if_true, if_false]
    exact ari 8 _ (KK.2.2.2.1 (by simp [h])) (c_div K Lo Hi _ _ (p_n64 (N.2.1 h)))
  · simp only [h, show ¬ (9 : Int32) = 0 by decide, show ¬ (9 : Int32) = 1 by decide, show ¬ (9 : Int32) = 2 by decide, show ¬ (9 : Int32) = 3 by decide, show ¬ (9 : Int32) = 4 by decide, show (9 : Int32) < 10 by decide, if_true, if_false]
    exact ari 9 _ (KK.2.2.2.1 (by simp [h])) (c_neg K Lo Hi _ _)
  · simp only [h, show ¬ (14 : Int32) = 0 by decide, show ¬ (14 : Int32) = 1 by decide, show ¬ (14 : Int32) = 2 by decide, show ¬ (14 : Int32) = 3 by decide, show ¬ (14 : Int32) = 4 by decide, show ¬ (14 : Int32) < 10 by decide, if_true, if_false]
    rcases j_kind14 mo i _ _ _ h l5 with h3 | h2
    · unfold s_Md_load
      simp only [h3, if_true, x_let]
      exact g_know hg (g_range (p_btw_le (p_btw_any 0)))
    · obtain ⟨f, l, q1, q2, q3, q4⟩ := p_reach hg (by omega) h2 (mo 3 i.toNatClampNeg) (P.2.2.1 h h2)
      obtain ⟨lo, hi, e, r1, r2⟩ := c_load mo i f l K Lo Hi h2 q3 q4 q1 q2
      rw [e]
      refine g_know hg ?_
      by_cases hfl : f = l
      · obtain ⟨s1, s2⟩ := r2 hfl
        rw [s1, s2]
        exact hg _ (by omega)
      · have F := (j_cells mo (fun _ => K) (fun _ => Lo) (fun _ => Hi) i hd hs h24 hg l5 l7).2.2 l8 h h2 f (by omega) (by omega) (by omega)
        have k1 : K (6 + f) = 1 := by
          rcases F.2 with F | F
          · have := congrArg Int64.toInt F
            rw [q3, q4] at this; omega
          · exact F
        rw [k1]
        have := r1 f (by omega) (by omega)
        have := p_gd1 hg (k := 6 + f) (by omega) k1
        exact g_range (by omega)
  · simp only [h, show ¬ (15 : Int32) = 0 by decide, show ¬ (15 : Int32) = 1 by decide, show ¬ (15 : Int32) = 2 by decide, show ¬ (15 : Int32) = 3 by decide, show ¬ (15 : Int32) = 4 by decide, show ¬ (15 : Int32) < 10 by decide, show ¬ (15 : Int32) = 14 by decide, if_true, if_false]
    rcases j_kind15 mo i _ _ _ h l5 with ⟨h3, -⟩ | ⟨h2, -⟩
    · unfold s_Md_store
      simp only [h3, if_true]
      exact hg
    · obtain ⟨f, l, q1, q2, q3, q4⟩ := p_reach hg (by omega) h2 (mo 3 i.toNatClampNeg) (P.2.2.2.2.1 h h2)
      rcases c_store mo i f l K Lo Hi hs6 h2 q3 q4 q1 q2 with ⟨r1, e⟩ | ⟨r1, Lo', Hi', e, r2, r3⟩
      · rw [e]; exact g_know hg (hg _ (by omega))
      · rw [e]
        intro j hj
        show p_ok1 (K j) (Lo' j) (Hi' j)
        by_cases he : ∃ e, f ≤ e ∧ e ≤ l ∧ j = 6 + e
        · obtain ⟨e, e1, e2, e3⟩ := he
          subst e3
          have kk := (j_store mo (fun _ => K) (fun _ => Lo) (fun _ => Hi) i hd h24 hg l5).2.2 l6 h h2 (fun hq => by have hq : Lo _ = Hi _ := hq; rw [hq] at q3; omega) e (by omega) (by omega) (by omega)
          rcases kk with kk | kk
          · exact Or.inl kk
          · have kk : K (6 + e) = 1 := kk
            have a := r3 e e1 e2
            have b := p_gd1 hg hj kk
            exact Or.inr (Or.inl ⟨kk, by omega⟩)
        · obtain ⟨a, b⟩ := r2 j he
          rw [a, b]; exact hg j hj
  · simp only [h, show ¬ (16 : Int32) = 0 by decide, show ¬ (16 : Int32) = 1 by decide, show ¬ (16 : Int32) = 2 by decide, show ¬ (16 : Int32) = 3 by decide, show ¬ (16 : Int32) = 4 by decide, show ¬ (16 : Int32) < 10 by decide, show ¬ (16 : Int32) = 14 by decide, show ¬ (16 : Int32) = 15 by decide, if_false]
    rcases N.2.2 h with n0 | n0 | n0
    · rw [n0, p_guess0]
      exact g_clear3 _ (g_know hg (g_range (by decide)))
    · rw [n0, p_guess1]
      exact g_clear3 _ (g_know hg (Or.inr (Or.inr (Or.inr rfl))))
    · rw [n0, p_guess2]
      have k := KK.2.2.2.2.2.2.1 h n0
      exact g_clear3 _ (g_know hg (g_range (g_max (p_gd1 hg (by omega) k.1) (p_gd1 hg (by omega) k.2))))
