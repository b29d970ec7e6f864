/-! small things for the checker's loop -/
def p_zG (G : (Nat → Int32) × (Nat → Int64) × (Nat → Int64)) : Prop := p_z G.1 G.2.1 G.2.2
theorem z_know {K : Nat → Int32} {Lo Hi : Nat → Int64} (hz : p_z K Lo Hi) {d : Int32} (hd : d.toNatClampNeg < 12) (k : Int32) (lo hi : Int64) : p_zG (s_Md_know K Lo Hi d k lo hi) := by
  intro j hj
  simp only [s_Md_know, p_upd_ne _ _ (show j ≠ d.toNatClampNeg by omega), p_updL_ne _ _ (show j ≠ d.toNatClampNeg by omega)]
  exact hz j hj
theorem z_clear3 {K : Nat → Int32} {Lo Hi : Nat → Int64} (n : Int32) (hz : p_z K Lo Hi) : p_zG (lp_Md_callGuess_102 4 K Lo Hi n 1) := by
  have e : lp_Md_callGuess_102 4 K Lo Hi n 1 = (upd (upd (upd K 1 0) 2 0) 3 0, vp_updL (vp_updL (vp_updL Lo 1 0) 2 0) 3 0, vp_updL (vp_updL (vp_updL Hi 1 0) 2 0) 3 0) := rfl
  rw [e]
  exact z_know (d := 3) (z_know (d := 2) (z_know (d := 1) hz (by decide) 0 0 0) (by decide) 0 0 0) (by decide) 0 0 0
theorem z_fol (mo : Nat → Nat → Int32) (i : Int32) (K : Nat → Int32) (Lo Hi : Nat → Int64) (sz : Int32) (hwf : p_wf mo sz) (hg : p_gd K Lo Hi) (hl : p_let mo i sz K Lo Hi) (hj : ¬ mo 0 i.toNatClampNeg = 17) (hj2 : mo 0 i.toNatClampNeg < 10 ∨ 13 < mo 0 i.toNatClampNeg) (hz : p_z K Lo Hi) : p_zG (p_fol mo K Lo Hi i) := by
  obtain ⟨hop, hd, hs, ht⟩ := hwf.1 i.toNatClampNeg
  obtain ⟨l1, l2, l3, l4, l5, l6, l7, l8, l9⟩ := hl
  have hd6 := p_reg hd
  have hs6 := p_reg hs
  have P := j_place0 mo i hd hs K Lo Hi hg l7
  have N := j_number0 mo i l4
  have nb := p_r32 (mo 3 i.toNatClampNeg)
  have mov : ∀ a b : Int64, p_zG (s_Md_move K Lo Hi (mo 1 i.toNatClampNeg) a b) := by
    intro a b
    unfold s_Md_move bk_Md_move_27
    simp only [x_let]
    repeat' split
    all_goals exact z_know hz (by omega) _ _ _
  unfold p_fol
  rcases p_op18 hop with h | h | h | h | h | h | h | h | h | h | h | h | h | h | h | h | h | h
  all_goals first | (exact absurd h hj) | (rw [h] at hj2; exact absurd hj2 (by decide)) | skip
  · rw [if_pos h]; exact z_know hz (by omega) _ _ _
  · rw [if_neg (by rw [h]; decide), if_pos h]; exact z_know hz (by omega) _ _ _
  · rw [if_neg (by rw [h]; decide), if_neg (by rw [h]; decide), if_pos h]; exact mov _ _
  · rw [if_neg (by rw [h]; decide), if_neg (by rw [h]; decide), if_neg (by rw [h]; decide), if_pos h]; exact mov _ _
  · rw [if_neg (by rw [h]; decide), if_neg (by rw [h]; decide), if_neg (by rw [h]; decide), if_neg (by rw [h]; decide), if_pos h]
    obtain ⟨lo, hi, e, q⟩ := c_sub K Lo Hi (mo 1 i.toNatClampNeg) (mo 2 i.toNatClampNeg)
    rw [e]; exact z_know hz (by omega) _ _ _
  · simp only [h, show ¬ (5 : Int32) = 0 by decide, show ¬ (5 : Int32) = 1 by decide, show ¬ (5 : Int32) = 2 by decide, show ¬ (5 : Int32) = 3 by decide, show ¬ (5 : Int32) = 4 by decide, show (5 : Int32) < 10 by decide, if_true, if_false]
    obtain ⟨lo, hi, e, q⟩ := c_mul K Lo Hi (mo 1 i.toNatClampNeg) (Int32.toInt64 (mo 3 i.toNatClampNeg)) (by rw [Int32.toInt_toInt64]; omega)
    rw [e]; exact z_know hz (by omega) _ _ _
  · simp only [h, show ¬ (6 : Int32) = 0 by decide, show ¬ (6 : Int32) = 1 by decide, show ¬ (6 : Int32) = 2 by decide, show ¬ (6 : Int32) = 3 by decide, show ¬ (6 : Int32) = 4 by decide, show (6 : Int32) < 10 by decide, if_true, if_false]
    obtain ⟨lo, hi, e, q⟩ := c_and K Lo Hi (mo 1 i.toNatClampNeg) (Int32.toInt64 (mo 3 i.toNatClampNeg))
    rw [e]; exact z_know hz (by omega) _ _ _
  · simp only [h, show ¬ (7 : Int32) = 0 by decide, show ¬ (7 : Int32) = 1 by decide, show ¬ (7 : Int32) = 2 by decide, show ¬ (7 : Int32) = 3 by decide, show ¬ (7 : Int32) = 4 by decide, show (7 : Int32) < 10 by decide, if_true, if_false]
    obtain ⟨lo, hi, e, q⟩ := c_shift K Lo Hi (mo 1 i.toNatClampNeg) (mo 3 i.toNatClampNeg)
    rw [e]; exact z_know hz (by omega) _ _ _
  · simp only [h, show ¬ (8 : Int32) = 0 by decide, show ¬ (8 : Int32) = 1 by decide, show ¬ (8 : Int32) = 2 by decide, show ¬ (8 : Int32) = 3 by decide, show ¬ (8 : Int32) = 4 by decide, show (8 : Int32) < 10 by decide, if_true, if_false]
    obtain ⟨lo, hi, e, q⟩ := c_div K Lo Hi (mo 1 i.toNatClampNeg) (Int32.toInt64 (mo 3 i.toNatClampNeg)) (p_n64 (N.2.1 h))
    rw [e]; exact z_know hz (by omega) _ _ _
  · simp only [h, show ¬ (9 : Int32) = 0 by decide, show ¬ (9 : Int32) = 1 by decide, show ¬ (9 : Int32) = 2 by decide, show ¬ (9 : Int32) = 3 by decide, show ¬ (9 : Int32) = 4 by decide, show (9 : Int32) < 10 by decide, if_true, if_false]
    obtain ⟨lo, hi, e, q⟩ := c_neg K Lo Hi (mo 1 i.toNatClampNeg) (Int32.toInt64 (mo 3 i.toNatClampNeg))
    rw [e]; exact z_know hz (by omega) _ _ _
  · simp only [h, show ¬ (14 : Int32) = 0 by decide, show ¬ (14 : Int32) = 1 by decide, show ¬ (14 : Int32) = 2 by decide, show ¬ (14 : Int32) = 3 by decide, show ¬ (14 : Int32) = 4 by decide, show ¬ (14 : Int32) < 10 by decide, if_true, if_false]
    rcases j_kind14 mo i _ _ _ h l5 with h3 | h2
    · unfold s_Md_load
      simp only [h3, if_true, x_let]
      exact z_know hz (by omega) _ _ _
    · obtain ⟨f, l, q1, q2, q3, q4⟩ := p_reach hg (by omega) h2 (mo 3 i.toNatClampNeg) (P.2.2.1 h h2)
      obtain ⟨lo, hi, e, r1, r2⟩ := c_load mo i f l K Lo Hi h2 q3 q4 q1 q2
      rw [e]; exact z_know hz (by omega) _ _ _
  · simp only [h, show ¬ (15 : Int32) = 0 by decide, show ¬ (15 : Int32) = 1 by decide, show ¬ (15 : Int32) = 2 by decide, show ¬ (15 : Int32) = 3 by decide, show ¬ (15 : Int32) = 4 by decide, show ¬ (15 : Int32) < 10 by decide, show ¬ (15 : Int32) = 14 by decide, if_true, if_false]
    rcases j_kind15 mo i _ _ _ h l5 with ⟨h3, -⟩ | ⟨h2, -⟩
    · unfold s_Md_store
      simp only [h3, if_true]
      exact hz
    · obtain ⟨f, l, q1, q2, q3, q4⟩ := p_reach hg (by omega) h2 (mo 3 i.toNatClampNeg) (P.2.2.2.2.1 h h2)
      rcases c_store mo i f l K Lo Hi hs6 h2 q3 q4 q1 q2 with ⟨r1, e⟩ | ⟨r1, Lo', Hi', e, r2, r3⟩
      · rw [e]; exact z_know hz (by rw [p_cn (by omega)]; omega) _ _ _
      · rw [e]
        intro j hj
        obtain ⟨a, b⟩ := r2 j (fun ⟨e, e1, e2, e3⟩ => by omega)
        show K j = 0 ∧ Lo' j = 0 ∧ Hi' j = 0
        rw [a, b]; exact hz j hj
  · simp only [h, show ¬ (16 : Int32) = 0 by decide, show ¬ (16 : Int32) = 1 by decide, show ¬ (16 : Int32) = 2 by decide, show ¬ (16 : Int32) = 3 by decide, show ¬ (16 : Int32) = 4 by decide, show ¬ (16 : Int32) < 10 by decide, show ¬ (16 : Int32) = 14 by decide, show ¬ (16 : Int32) = 15 by decide, if_false]
    rcases N.2.2 h with n0 | n0 | n0
    · rw [n0, p_guess0]; exact z_clear3 _ (z_know hz (by decide) _ _ _)
    · rw [n0, p_guess1]; exact z_clear3 _ (z_know hz (by decide) _ _ _)
    · rw [n0, p_guess2]; exact z_clear3 _ (z_know hz (by decide) _ _ _)
theorem z_tgt (mo : Nat → Nat → Int32) (i : Int32) (K : Nat → Int32) (Lo Hi : Nat → Int64) (sz : Int32) (hwf : p_wf mo sz) (hz : p_z K Lo Hi) : p_zG (p_tgt mo K Lo Hi i.toNatClampNeg) := by
  obtain ⟨hop, hd, hs, ht⟩ := hwf.1 i.toNatClampNeg
  have hd6 := p_reg hd
  have hs6 := p_reg hs
  unfold p_tgt
  split
  · exact z_know hz (by omega) _ _ _
  split
  · exact z_know hz (by omega) _ _ _
  split
  · simp only [x_let]; exact z_know (z_know hz (by omega) _ _ _) (by omega) _ _ _
  · exact hz
theorem z_on (mo : Nat → Nat → Int32) (i : Int32) (K : Nat → Int32) (Lo Hi : Nat → Int64) (sz : Int32) (hwf : p_wf mo sz) (hz : p_z K Lo Hi) : p_zG (p_on mo K Lo Hi i.toNatClampNeg) := by
  obtain ⟨hop, hd, hs, ht⟩ := hwf.1 i.toNatClampNeg
  have hd6 := p_reg hd
  have hs6 := p_reg hs
  unfold p_on
  split
  · split
    · exact z_know hz (by omega) _ _ _
    · exact z_know hz (by omega) _ _ _
  split
  · exact z_know hz (by omega) _ _ _
  split
  · simp only [x_let]; exact z_know (z_know hz (by omega) _ _ _) (by omega) _ _ _
  · exact hz
theorem p_N {c : Prop} [Decidable c] {a b : Int32} (ha : a ≤ 0 → a = 0) (hb : b ≤ 0 → b = 0) : (if c then a else b) ≤ 0 → (if c then a else b) = 0 := by
  split <;> assumption
theorem j_range (mo : Nat → Nat → Int32) (mi : Nat → Int32) (K : Nat → Int32) (Lo Hi : Nat → Int64) (i : Int32) : s_Md_reasonAt mo mi K Lo Hi i ≤ 0 ↔ s_Md_reasonAt mo mi K Lo Hi i = 0 := by
  constructor
  · unfold s_Md_reasonAt bk_Md_reasonAt_52
    simp only [x_let]
    repeat' (first | decide | refine p_N ?_ ?_)
  · intro h; rw [h]; decide
theorem p_safe_mono (mo : Nat → Nat → Int32) (sz : Int32) : ∀ (n : Nat) (K : Nat → Int32) (Lo Hi : Nat → Int64) (i : Int32), p_safe mo sz n K Lo Hi i → p_safe mo sz (n + 1) K Lo Hi i := by
  intro n
  induction n with
  | zero => intro K Lo Hi i h; exact absurd h (by simp [p_safe])
  | succ n ih =>
    intro K Lo Hi i h
    unfold p_safe at h ⊢
    refine ⟨h.1, ?_⟩
    have h := h.2
    by_cases c1 : mo 0 i.toNatClampNeg = 17
    · rw [if_pos c1]; trivial
    rw [if_neg c1] at h ⊢
    by_cases c2 : mo 0 i.toNatClampNeg < 10 ∨ 13 < mo 0 i.toNatClampNeg
    · rw [if_pos c2] at h ⊢; exact ih _ _ _ _ h
    · rw [if_neg c2] at h ⊢
      exact ⟨fun q => ih _ _ _ _ (h.1 q), fun q => ih _ _ _ _ (h.2 q)⟩
theorem p_safe_le (mo : Nat → Nat → Int32) (sz : Int32) {n m : Nat} (h : n ≤ m) (K : Nat → Int32) (Lo Hi : Nat → Int64) (i : Int32) (hs : p_safe mo sz n K Lo Hi i) : p_safe mo sz m K Lo Hi i := by
  induction h with
  | refl => exact hs
  | step _ ih => exact p_safe_mono mo sz _ _ _ _ _ ih
/-! the reference's steps that jump, and its end of a way -/
section GoOn
variable (mo : Nat → Nat → Int32) (i : Int32) (mi : Nat → Int32) (ml : Nat → Int64) (K : Nat → Int32) (Lo Hi : Nat → Int64) (pk ps : Nat → Int32) (pl ph : Nat → Int64)
theorem g_jump (hop : mo 0 i.toNatClampNeg = 10 ∨ mo 0 i.toNatClampNeg = 11 ∨ mo 0 i.toNatClampNeg = 12) : s_Md_goOn mo mi ml K Lo Hi pk ps pl ph i = (x_let (s_Md_branch mo (upd mi 10 (i + 1)) K Lo Hi pk ps pl ph i) fun (mi', K', L', H', pk', ps', pl', ph') => (1, mi', ml, K', L', H', pk', ps', pl', ph')) := by
  rcases hop with h | h | h
  all_goals simp [h, s_Md_goOn, bk_Md_goOn_45, bk_Md_goOn_61, bk_Md_goOn_85, bk_Md_goOn_117, bk_Md_goOn_133, bk_Md_goOn_157, bk_Md_goOn_174, bk_Md_goOn_190, bk_Md_goOn_201, bk_Md_goOn_212, bk_Md_goOn_228, x_let]
theorem gk_jump (hop : mo 0 i.toNatClampNeg = 10 ∨ mo 0 i.toNatClampNeg = 11 ∨ mo 0 i.toNatClampNeg = 12) (h24 : vp_in i 24) (hk : k_ok_Md_branch mo (upd mi 10 (i + 1)) K Lo Hi pk ps pl ph i) : k_ok_Md_goOn mo mi ml K Lo Hi pk ps pl ph i := by
  rcases hop with h | h | h
  all_goals simp [h, h24, hk, k_ok_Md_goOn, bk_ok_Md_goOn_45, bk_ok_Md_goOn_61, bk_ok_Md_goOn_85, bk_ok_Md_goOn_117, bk_ok_Md_goOn_133, bk_ok_Md_goOn_157, bk_ok_Md_goOn_174, bk_ok_Md_goOn_190, bk_ok_Md_goOn_201, bk_ok_Md_goOn_212, bk_ok_Md_goOn_228, x_let]
theorem g_go (h : mo 0 i.toNatClampNeg = 13) : s_Md_goOn mo mi ml K Lo Hi pk ps pl ph i = (1, upd (upd mi 10 (i + 1)) 10 (mo 4 i.toNatClampNeg), ml, K, Lo, Hi, pk, ps, pl, ph) := by
  simp [h, s_Md_goOn, bk_Md_goOn_45, bk_Md_goOn_61, bk_Md_goOn_85, bk_Md_goOn_117, bk_Md_goOn_133, bk_Md_goOn_157, bk_Md_goOn_174, bk_Md_goOn_190, bk_Md_goOn_201, bk_Md_goOn_212, bk_Md_goOn_228]
theorem gk_go (h : mo 0 i.toNatClampNeg = 13) (h24 : vp_in i 24) : k_ok_Md_goOn mo mi ml K Lo Hi pk ps pl ph i := by
  simp [h, h24, k_ok_Md_goOn, bk_ok_Md_goOn_45, bk_ok_Md_goOn_61, bk_ok_Md_goOn_85, bk_ok_Md_goOn_117, bk_ok_Md_goOn_133, bk_ok_Md_goOn_157, bk_ok_Md_goOn_174, bk_ok_Md_goOn_190, bk_ok_Md_goOn_201, bk_ok_Md_goOn_212, bk_ok_Md_goOn_228]
theorem g_exit (h : mo 0 i.toNatClampNeg = 17) : s_Md_goOn mo mi ml K Lo Hi pk ps pl ph i = bk_Md_goOn_228 (upd mi 10 (i + 1)) ml K Lo Hi pk ps pl ph i 17 := by
  simp [h, s_Md_goOn, bk_Md_goOn_45, bk_Md_goOn_61, bk_Md_goOn_85, bk_Md_goOn_117, bk_Md_goOn_133, bk_Md_goOn_157, bk_Md_goOn_174, bk_Md_goOn_190, bk_Md_goOn_201, bk_Md_goOn_212]
theorem gk_exit (h : mo 0 i.toNatClampNeg = 17) (h24 : vp_in i 24) (hk : bk_ok_Md_goOn_228 (upd mi 10 (i + 1)) ml K Lo Hi pk ps pl ph i 17) : k_ok_Md_goOn mo mi ml K Lo Hi pk ps pl ph i := by
  simp [h, h24, hk, k_ok_Md_goOn, bk_ok_Md_goOn_45, bk_ok_Md_goOn_61, bk_ok_Md_goOn_85, bk_ok_Md_goOn_117, bk_ok_Md_goOn_133, bk_ok_Md_goOn_157, bk_ok_Md_goOn_174, bk_ok_Md_goOn_190, bk_ok_Md_goOn_201, bk_ok_Md_goOn_212]
end GoOn
/-- the end of a way: what may come out -/
theorem p_leave (mi : Nat → Int32) (ml : Nat → Int64) (Lo Hi : Nat → Int64) (cki : Nat → Int32) (ckl : Nat → Int64) (h8 : cki 4 = mi 8) (h0 : ckl 0 = ml 0) (h1 : ckl 1 = ml 1) : ∃ ml' ckl', s_Md_leave mi ml Lo Hi = (upd mi 8 1, ml') ∧ s_Ck_growOutcomes cki ckl (Lo 0) (Hi 0) = (upd cki 4 1, ckl') ∧ ckl' 0 = ml' 0 ∧ ckl' 1 = ml' 1 := by
  unfold s_Md_leave bk_Md_leave_21 bk_Md_leave_31 bk_Md_leave_52 s_Ck_growOutcomes
  simp only [show Int32.toNatClampNeg 0 = 0 from rfl, h8]
  by_cases c : mi 8 = 0
  · simp only [c, if_true]
    exact ⟨_, _, rfl, rfl, by simp [vp_updL], by simp [vp_updL]⟩
  · simp only [c, if_false]
    have e1 : ∀ v, vp_updL ckl 0 v 1 = ml 1 := fun v => by rw [p_updL_ne _ _ (by decide), h1]
    have e2 : ∀ v, vp_updL ml 0 v 1 = ml 1 := fun v => by rw [p_updL_ne _ _ (by decide)]
    simp only [h0, e1, e2]
    by_cases c1 : ml 0 ≤ Lo 0 <;> by_cases c2 : Hi 0 ≤ ml 1 <;> simp only [c1, c2, if_true, if_false]
    all_goals refine ⟨_, _, rfl, rfl, ?_, ?_⟩
    all_goals simp only [vp_updL, if_true, show ¬ (0 : Nat) = 1 by decide, show ¬ (1 : Nat) = 0 by decide, if_false, p_min, p_max, c1, c2]
