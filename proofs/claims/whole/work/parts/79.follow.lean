/-! what comes of a step that doesn't jump: class and reference -/
section Follow
variable (mo : Nat → Nat → Int32) (i : Int32)
theorem p_n64 {x : Int32} (h : ¬ x = 0) : ¬ Int32.toInt64 x = 0 := fun h2 => h (Int32.toInt_inj.mp (by have := congrArg Int64.toInt h2; rw [Int32.toInt_toInt64] at this; exact this))
/-- the cells that a load or a store of the frame reaches -/
theorem p_reach {K : Nat → Int32} {Lo Hi : Nat → Int64} (hg : p_gd K Lo Hi) {k : Nat} (hk : k < 12) (h2 : K k = 2) (n : Int32) (h : 0 ≤ (Lo k).toInt + n.toInt ∧ (Hi k).toInt + n.toInt ≤ 5) : ∃ f l : Nat, f ≤ l ∧ l ≤ 5 ∧ (Lo k + Int32.toInt64 n).toInt = (f : Int) ∧ (Hi k + Int32.toInt64 n).toInt = (l : Int) := by
  obtain ⟨b1, b2, b3⟩ := p_gd_place hg hk (Or.inl h2)
  have ex := p_off n (x := Lo k) (by omega)
  have ey := p_off n (x := Hi k) (by omega)
  exact ⟨((Lo k).toInt + n.toInt).toNat, ((Hi k).toInt + n.toInt).toNat, by omega, by omega, by omega, by omega⟩
theorem e_follow (gk : Nat → Nat → Int32) (gl gh : Nat → Nat → Int64) (sz : Int32) (hwf : p_wf mo sz) (hi0 : 0 ≤ i.toInt) (hg : p_gd (gk 0) (gl 0) (gh 0)) (hl : p_let mo i sz (gk 0) (gl 0) (gh 0)) (hj : ¬ mo 0 i.toNatClampNeg = 17) (hj2 : mo 0 i.toNatClampNeg < 10 ∨ 13 < mo 0 i.toNatClampNeg) : s_Ef_follow (fun j k => mo k j) gk gl gh i.toNatClampNeg = p_lift gk gl gh 0 (p_fol mo (gk 0) (gl 0) (gh 0) i) := by
  obtain ⟨hop, hd, hs, ht⟩ := hwf.1 i.toNatClampNeg
  have hz := hwf.2
  obtain ⟨l1, l2, l3, l4, l5, l6, l7, l8, l9⟩ := hl
  have h24 : vp_in i 24 := vp_in_iff.mpr (by omega)
  have hd6 := p_reg hd
  have hs6 := p_reg hs
  have P := j_place0 mo i hd hs (gk 0) (gl 0) (gh 0) hg l7
  have N := j_number0 mo i l4
  unfold s_Ef_follow p_fol
  rcases p_op18 hop with h | h | h | h | h | h | h | h | h | h | h | h | h | h | h | h | h | h
  · simp only [h, if_true, x_let, e_setRange]
  · simp only [h, if_true, if_false, show ¬ (1 : Int32) = 0 by decide, x_let, e_copy]
  · simp only [h, if_true, if_false, show ¬ (2 : Int32) = 0 by decide, show ¬ (2 : Int32) = 1 by decide, x_let, e_move]
  · simp only [h, if_true, if_false, show ¬ (3 : Int32) = 0 by decide, show ¬ (3 : Int32) = 1 by decide, show ¬ (3 : Int32) = 2 by decide, x_let, e_move, s_Gs_lo, s_Gs_hi]
  · simp only [h, if_true, if_false, show ¬ (4 : Int32) = 0 by decide, show ¬ (4 : Int32) = 1 by decide, show ¬ (4 : Int32) = 2 by decide, show ¬ (4 : Int32) = 3 by decide, x_let, e_subtract, s_Gs_lo, s_Gs_hi]
  · simp [h, x_let, e_multiply]
  · simp [h, x_let, e_mask]
  · simp [h, x_let, e_shift, s_Gs_lo, s_Gs_hi]
  · simp [h, x_let, e_divide gk gl gh _ _ (p_n64 (N.2.1 h))]
  · simp [h, x_let, e_negate gk gl gh _ (Int32.toInt64 (mo 3 i.toNatClampNeg))]
  · rw [h] at hj2; exact absurd hj2 (by decide)
  · rw [h] at hj2; exact absurd hj2 (by decide)
  · rw [h] at hj2; exact absurd hj2 (by decide)
  · rw [h] at hj2; exact absurd hj2 (by decide)
  · have hx : s_Ef_load (fun j k => mo k j) gk gl gh i.toNatClampNeg = p_lift gk gl gh 0 (s_Md_load mo (gk 0) (gl 0) (gh 0) i) := by
      rcases j_kind14 mo i _ _ _ h l5 with h3 | h2
      · unfold s_Ef_load s_Md_load
        simp only [x_let, s_Gs_kind, h3, if_true, show ¬ (3 : Int32) = 2 by decide, if_false, e_setAny]
      · obtain ⟨f, l, q1, q2, q3, q4⟩ := p_reach hg (by omega) h2 (mo 3 i.toNatClampNeg) (P.2.2.1 h h2)
        refine e_load mo gk gl gh i f l hd6 h2 q3 q4 q1 q2 (fun hfl => ?_)
        have F := (j_cells mo gk gl gh i hd hs h24 hg l5 l7).2.2 l8 h h2 f (by omega) (by omega) (by omega)
        rcases F.2 with F | F
        · have := congrArg Int64.toInt F
          rw [q3, q4] at this; omega
        · exact F
    simp [h, x_let, hx]
  · have hx : s_Ef_store (fun j k => mo k j) gk gl gh i.toNatClampNeg = p_lift gk gl gh 0 (s_Md_store mo (gk 0) (gl 0) (gh 0) i) := by
      rcases j_kind15 mo i _ _ _ h l5 with ⟨h3, -⟩ | ⟨h2, -⟩
      · unfold s_Ef_store s_Md_store
        simp only [x_let, s_Gs_kind, h3, if_true, show ¬ (3 : Int32) = 2 by decide, if_false, p_lift_id]
      · obtain ⟨f, l, q1, q2, q3, q4⟩ := p_reach hg (by omega) h2 (mo 3 i.toNatClampNeg) (P.2.2.2.2.1 h h2)
        refine e_store mo i f l gk gl gh hs6 h2 q3 q4 q1 q2 (fun hfl => ?_)
        intro e he1 he2
        refine (j_store mo gk gl gh i hd h24 hg l5).2.2 l6 h h2 (fun hq => ?_) e (by omega) (by omega) (by omega)
        rw [hq] at q3; omega
    simp [h, x_let, hx]
  · simp [h, x_let, e_call gk gl gh _ (N.2.2 h)]
  · exact absurd h hj
theorem k_know (K : Nat → Int32) (Lo Hi : Nat → Int64) (a k : Int32) (lo hi : Int64) (ha : vp_in a 12) : k_ok_Md_know K Lo Hi a k lo hi := ⟨ha, trivial⟩
theorem k_move (K : Nat → Int32) (Lo Hi : Nat → Int64) (a : Int32) (lo hi : Int64) (ha : vp_in a 12) : k_ok_Md_move K Lo Hi a lo hi := by
  unfold k_ok_Md_move bk_ok_Md_move_27 k_ok_Md_anything k_ok_Md_know
  simp only [ha, x_let, and_self, ite_self]
theorem k_subtract (K : Nat → Int32) (Lo Hi : Nat → Int64) (a b : Int32) (ha : vp_in a 12) (hb : vp_in b 12) : k_ok_Md_subtract K Lo Hi a b := by
  unfold k_ok_Md_subtract bk_ok_Md_subtract_84 k_ok_Md_anything k_ok_Md_know
  simp only [ha, hb, and_self, ite_self]
theorem k_arith (K : Nat → Int32) (Lo Hi : Nat → Int64) (o a : Int32) (n : Int64) (ha : vp_in a 12) (hn : o = 8 → ¬ n = 0) : k_ok_Md_arithmetic K Lo Hi o a n := by
  unfold k_ok_Md_arithmetic bk_ok_Md_arithmetic_65 bk_ok_Md_arithmetic_70 bk_ok_Md_arithmetic_82 bk_ok_Md_arithmetic_104 bk_ok_Md_arithmetic_135 bk_ok_Md_arithmetic_148 k_ok_Md_and k_ok_Md_spread k_ok_Md_anything k_ok_Md_know
  by_cases h8 : o = 8
  · simp only [ha, x_let, and_self, ite_self, hn h8, not_false_eq_true]
  · simp only [ha, x_let, and_self, ite_self, h8, if_false]
theorem k_guess (K : Nat → Int32) (Lo Hi : Nat → Int64) (n : Int32) : k_ok_Md_callGuess K Lo Hi n := by
  have z : ∀ k : Nat, k < 12 → vp_in (Int32.ofNat k) 12 := fun k hk => p_vinc hk (by omega)
  have L : ∀ K Lo Hi, lp_ok_Md_callGuess_102 4 K Lo Hi n 1 := by
    intro K Lo Hi
    have z1 : vp_in 1 12 := z 1 (by omega)
    have z2 : vp_in 2 12 := z 2 (by omega)
    have z3 : vp_in 3 12 := z 3 (by omega)
    simp [lp_ok_Md_callGuess_102, k_ok_Md_know, z1, z2, z3, x_let]
  unfold k_ok_Md_callGuess bk_ok_Md_callGuess_14 bk_ok_Md_callGuess_27 bk_ok_Md_callGuess_100 k_ok_Md_know
  have z0 : vp_in 0 12 := z 0 (by omega)
  simp only [z0, x_let, L, and_self, ite_self]
theorem e_goOn (mi : Nat → Int32) (ml : Nat → Int64) (K : Nat → Int32) (Lo Hi : Nat → Int64) (pk ps : Nat → Int32) (pl ph : Nat → Int64) (hop : 0 ≤ (mo 0 i.toNatClampNeg).toInt ∧ (mo 0 i.toNatClampNeg).toInt ≤ 17) (hj : ¬ mo 0 i.toNatClampNeg = 17) (hj2 : mo 0 i.toNatClampNeg < 10 ∨ 13 < mo 0 i.toNatClampNeg) : s_Md_goOn mo mi ml K Lo Hi pk ps pl ph i = (1, upd mi 10 (i + 1), ml, (p_fol mo K Lo Hi i).1, (p_fol mo K Lo Hi i).2.1, (p_fol mo K Lo Hi i).2.2, pk, ps, pl, ph) := by
  rcases p_op18 hop with h | h | h | h | h | h | h | h | h | h | h | h | h | h | h | h | h | h
  all_goals first | (exact absurd h hj) | (rw [h] at hj2; exact absurd hj2 (by decide)) | simp [h, s_Md_goOn, p_fol, bk_Md_goOn_45, bk_Md_goOn_61, bk_Md_goOn_85, bk_Md_goOn_117, bk_Md_goOn_133, bk_Md_goOn_157, bk_Md_goOn_174, bk_Md_goOn_190, bk_Md_goOn_201, bk_Md_goOn_212, bk_Md_goOn_228, x_let]
theorem k_goOn (mi : Nat → Int32) (ml : Nat → Int64) (K : Nat → Int32) (Lo Hi : Nat → Int64) (pk ps : Nat → Int32) (pl ph : Nat → Int64) (sz : Int32) (hwf : p_wf mo sz) (hi0 : 0 ≤ i.toInt) (hg : p_gd K Lo Hi) (hl : p_let mo i sz K Lo Hi) (hj : ¬ mo 0 i.toNatClampNeg = 17) (hj2 : mo 0 i.toNatClampNeg < 10 ∨ 13 < mo 0 i.toNatClampNeg) : k_ok_Md_goOn mo mi ml K Lo Hi pk ps pl ph i := by
  obtain ⟨hop, hd, hs, ht⟩ := hwf.1 i.toNatClampNeg
  have hz := hwf.2
  obtain ⟨l1, l2, l3, l4, l5, l6, l7, l8, l9⟩ := hl
  have h24 : vp_in i 24 := vp_in_iff.mpr (by omega)
  have hd12 : vp_in (mo 1 i.toNatClampNeg) 12 := vp_in_iff.mpr (by omega)
  have hs12 : vp_in (mo 2 i.toNatClampNeg) 12 := vp_in_iff.mpr (by omega)
  have hd6 := p_reg hd
  have hs6 := p_reg hs
  have P := j_place0 mo i hd hs K Lo Hi hg l7
  have N := j_number0 mo i l4
  have k14 : mo 0 i.toNatClampNeg = 14 → k_ok_Md_load mo K Lo Hi i := by
    intro h
    rcases j_kind14 mo i _ _ _ h l5 with h3 | h2
    · unfold k_ok_Md_load
      simp only [h3, if_true]
      exact ⟨h24, hs12, ⟨⟨hd12, trivial⟩, trivial⟩, trivial⟩
    · obtain ⟨f, l, q1, q2, q3, q4⟩ := p_reach hg (by omega) h2 (mo 3 i.toNatClampNeg) (P.2.2.1 h h2)
      exact k_load mo i f l h24 hd6 hd12 hs12 K Lo Hi h2 q3 q4 q1 q2
  have k15 : mo 0 i.toNatClampNeg = 15 → k_ok_Md_store mo K Lo Hi i := by
    intro h
    rcases j_kind15 mo i _ _ _ h l5 with ⟨h3, -⟩ | ⟨h2, -⟩
    · unfold k_ok_Md_store
      simp only [h3, if_true]
      exact ⟨h24, hd12, trivial⟩
    · obtain ⟨f, l, q1, q2, q3, q4⟩ := p_reach hg (by omega) h2 (mo 3 i.toNatClampNeg) (P.2.2.2.2.1 h h2)
      exact k_store mo i f l K Lo Hi h24 hd12 hs12 h2 q3 q4 q1 q2
  have kc : k_ok_Md_copy K Lo Hi (mo 2 i.toNatClampNeg) (mo 1 i.toNatClampNeg) := ⟨hs12, ⟨hd12, trivial⟩, trivial⟩
  rcases p_op18 hop with h | h | h | h | h | h | h | h | h | h | h | h | h | h | h | h | h | h
  all_goals first | (exact absurd h hj) | (rw [h] at hj2; exact absurd hj2 (by decide)) | skip
  · simp [h, k_ok_Md_goOn, bk_ok_Md_goOn_45, bk_ok_Md_goOn_61, bk_ok_Md_goOn_85, bk_ok_Md_goOn_117, bk_ok_Md_goOn_133, bk_ok_Md_goOn_157, bk_ok_Md_goOn_174, bk_ok_Md_goOn_190, bk_ok_Md_goOn_201, bk_ok_Md_goOn_212, bk_ok_Md_goOn_228, x_let, h24, k_know _ _ _ _ _ _ _ hd12]
  · simp [h, k_ok_Md_goOn, bk_ok_Md_goOn_45, bk_ok_Md_goOn_61, bk_ok_Md_goOn_85, bk_ok_Md_goOn_117, bk_ok_Md_goOn_133, bk_ok_Md_goOn_157, bk_ok_Md_goOn_174, bk_ok_Md_goOn_190, bk_ok_Md_goOn_201, bk_ok_Md_goOn_212, bk_ok_Md_goOn_228, x_let, h24, kc]
  · simp [h, k_ok_Md_goOn, bk_ok_Md_goOn_45, bk_ok_Md_goOn_61, bk_ok_Md_goOn_85, bk_ok_Md_goOn_117, bk_ok_Md_goOn_133, bk_ok_Md_goOn_157, bk_ok_Md_goOn_174, bk_ok_Md_goOn_190, bk_ok_Md_goOn_201, bk_ok_Md_goOn_212, bk_ok_Md_goOn_228, x_let, h24, k_move _ _ _ _ _ _ hd12]
  · simp [h, k_ok_Md_goOn, bk_ok_Md_goOn_45, bk_ok_Md_goOn_61, bk_ok_Md_goOn_85, bk_ok_Md_goOn_117, bk_ok_Md_goOn_133, bk_ok_Md_goOn_157, bk_ok_Md_goOn_174, bk_ok_Md_goOn_190, bk_ok_Md_goOn_201, bk_ok_Md_goOn_212, bk_ok_Md_goOn_228, x_let, h24, hs12, k_move _ _ _ _ _ _ hd12]
  · simp [h, k_ok_Md_goOn, bk_ok_Md_goOn_45, bk_ok_Md_goOn_61, bk_ok_Md_goOn_85, bk_ok_Md_goOn_117, bk_ok_Md_goOn_133, bk_ok_Md_goOn_157, bk_ok_Md_goOn_174, bk_ok_Md_goOn_190, bk_ok_Md_goOn_201, bk_ok_Md_goOn_212, bk_ok_Md_goOn_228, x_let, h24, k_subtract _ _ _ _ _ hd12 hs12]
  · simp [h, k_ok_Md_goOn, bk_ok_Md_goOn_45, bk_ok_Md_goOn_61, bk_ok_Md_goOn_85, bk_ok_Md_goOn_117, bk_ok_Md_goOn_133, bk_ok_Md_goOn_157, bk_ok_Md_goOn_174, bk_ok_Md_goOn_190, bk_ok_Md_goOn_201, bk_ok_Md_goOn_212, bk_ok_Md_goOn_228, x_let, h24, k_arith K Lo Hi 5 _ _ hd12 (fun h => absurd h (by decide))]
  · simp [h, k_ok_Md_goOn, bk_ok_Md_goOn_45, bk_ok_Md_goOn_61, bk_ok_Md_goOn_85, bk_ok_Md_goOn_117, bk_ok_Md_goOn_133, bk_ok_Md_goOn_157, bk_ok_Md_goOn_174, bk_ok_Md_goOn_190, bk_ok_Md_goOn_201, bk_ok_Md_goOn_212, bk_ok_Md_goOn_228, x_let, h24, k_arith K Lo Hi 6 _ _ hd12 (fun h => absurd h (by decide))]
  · simp [h, k_ok_Md_goOn, bk_ok_Md_goOn_45, bk_ok_Md_goOn_61, bk_ok_Md_goOn_85, bk_ok_Md_goOn_117, bk_ok_Md_goOn_133, bk_ok_Md_goOn_157, bk_ok_Md_goOn_174, bk_ok_Md_goOn_190, bk_ok_Md_goOn_201, bk_ok_Md_goOn_212, bk_ok_Md_goOn_228, x_let, h24, k_arith K Lo Hi 7 _ _ hd12 (fun h => absurd h (by decide))]
  · simp [h, k_ok_Md_goOn, bk_ok_Md_goOn_45, bk_ok_Md_goOn_61, bk_ok_Md_goOn_85, bk_ok_Md_goOn_117, bk_ok_Md_goOn_133, bk_ok_Md_goOn_157, bk_ok_Md_goOn_174, bk_ok_Md_goOn_190, bk_ok_Md_goOn_201, bk_ok_Md_goOn_212, bk_ok_Md_goOn_228, x_let, h24, k_arith K Lo Hi 8 _ _ hd12 (fun _ => p_n64 (N.2.1 h))]
  · simp [h, k_ok_Md_goOn, bk_ok_Md_goOn_45, bk_ok_Md_goOn_61, bk_ok_Md_goOn_85, bk_ok_Md_goOn_117, bk_ok_Md_goOn_133, bk_ok_Md_goOn_157, bk_ok_Md_goOn_174, bk_ok_Md_goOn_190, bk_ok_Md_goOn_201, bk_ok_Md_goOn_212, bk_ok_Md_goOn_228, x_let, h24, k_arith K Lo Hi 9 _ _ hd12 (fun h => absurd h (by decide))]
  · simp [h, k_ok_Md_goOn, bk_ok_Md_goOn_45, bk_ok_Md_goOn_61, bk_ok_Md_goOn_85, bk_ok_Md_goOn_117, bk_ok_Md_goOn_133, bk_ok_Md_goOn_157, bk_ok_Md_goOn_174, bk_ok_Md_goOn_190, bk_ok_Md_goOn_201, bk_ok_Md_goOn_212, bk_ok_Md_goOn_228, x_let, h24, k14 h]
  · simp [h, k_ok_Md_goOn, bk_ok_Md_goOn_45, bk_ok_Md_goOn_61, bk_ok_Md_goOn_85, bk_ok_Md_goOn_117, bk_ok_Md_goOn_133, bk_ok_Md_goOn_157, bk_ok_Md_goOn_174, bk_ok_Md_goOn_190, bk_ok_Md_goOn_201, bk_ok_Md_goOn_212, bk_ok_Md_goOn_228, x_let, h24, k15 h]
  · simp [h, k_ok_Md_goOn, bk_ok_Md_goOn_45, bk_ok_Md_goOn_61, bk_ok_Md_goOn_85, bk_ok_Md_goOn_117, bk_ok_Md_goOn_133, bk_ok_Md_goOn_157, bk_ok_Md_goOn_174, bk_ok_Md_goOn_190, bk_ok_Md_goOn_201, bk_ok_Md_goOn_212, bk_ok_Md_goOn_228, x_let, h24, k_guess]
end Follow
