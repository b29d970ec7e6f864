/-! forks: the reference -/
section Branch
variable (mo : Nat → Nat → Int32) (i : Int32) (K : Nat → Int32) (Lo Hi : Nat → Int64)
theorem t_10 (h : mo 0 i.toNatClampNeg = 10) : p_tgt mo K Lo Hi i.toNatClampNeg = s_Md_know K Lo Hi (mo 1 i.toNatClampNeg) 1 (Int32.toInt64 (mo 3 i.toNatClampNeg)) (Int32.toInt64 (mo 3 i.toNatClampNeg)) := by
  unfold p_tgt; rw [if_pos h]
theorem t_11 (h : mo 0 i.toNatClampNeg = 11) (k1 : K (mo 1 i.toNatClampNeg).toNatClampNeg = 1) : p_tgt mo K Lo Hi i.toNatClampNeg = (K, (if Int32.toInt64 (mo 3 i.toNatClampNeg) < Lo (mo 1 i.toNatClampNeg).toNatClampNeg then Lo else vp_updL Lo (mo 1 i.toNatClampNeg).toNatClampNeg (Int32.toInt64 (mo 3 i.toNatClampNeg) + 1)), Hi) := by
  unfold p_tgt
  rw [if_neg (by rw [h]; decide), if_pos h]
  simp only [s_Md_know, p_upd_same _ _ k1, p_updL_same]
  obtain ⟨n1, n2, n3⟩ := p_num1 (mo 3 i.toNatClampNeg)
  by_cases c : Int32.toInt64 (mo 3 i.toNatClampNeg) < Lo (mo 1 i.toNatClampNeg).toNatClampNeg
  · rw [if_pos c]
    by_cases c2 : Int32.toInt64 (mo 3 i.toNatClampNeg) + 1 < Lo (mo 1 i.toNatClampNeg).toNatClampNeg
    · rw [if_pos c2, p_updL_same]
    · rw [if_neg c2]
      have c := Int64.lt_iff_toInt_lt.mp c
      have c2 := Int64.le_iff_toInt_le.mp (Int64.not_lt.mp c2)
      have e : Int32.toInt64 (mo 3 i.toNatClampNeg) + 1 = Lo (mo 1 i.toNatClampNeg).toNatClampNeg := Int64.toInt_inj.mp (by rw [n1] at c2 ⊢; rw [n3] at c; omega)
      rw [e, p_updL_same]
  · rw [if_neg c, if_neg]
    intro c2
    apply c
    rw [Int64.lt_iff_toInt_lt] at c2 ⊢
    rw [n1] at c2; rw [n3]; omega
theorem t_12 (h : mo 0 i.toNatClampNeg = 12) (kd : K (mo 1 i.toNatClampNeg).toNatClampNeg = 1) (ks : K (mo 2 i.toNatClampNeg).toNatClampNeg = 1) (ap : (mo 1 i.toNatClampNeg).toNatClampNeg ≠ (mo 2 i.toNatClampNeg).toNatClampNeg) : p_tgt mo K Lo Hi i.toNatClampNeg = (K, (if Lo (mo 1 i.toNatClampNeg).toNatClampNeg + 1 ≤ Lo (mo 2 i.toNatClampNeg).toNatClampNeg then Lo else vp_updL Lo (mo 2 i.toNatClampNeg).toNatClampNeg (Lo (mo 1 i.toNatClampNeg).toNatClampNeg + 1)), (if Hi (mo 1 i.toNatClampNeg).toNatClampNeg ≤ Hi (mo 2 i.toNatClampNeg).toNatClampNeg - 1 then Hi else vp_updL Hi (mo 1 i.toNatClampNeg).toNatClampNeg (Hi (mo 2 i.toNatClampNeg).toNatClampNeg - 1))) := by
  unfold p_tgt
  rw [if_neg (by rw [h]; decide), if_neg (by rw [h]; decide), if_pos h]
  simp only [x_let, s_Md_know, p_upd_same _ _ kd, p_upd_same _ _ ks, p_updL_same, p_min, p_max]
  refine Prod.ext rfl (Prod.ext ?_ ?_)
  · by_cases c : Lo (mo 1 i.toNatClampNeg).toNatClampNeg + 1 ≤ Lo (mo 2 i.toNatClampNeg).toNatClampNeg
    · simp only [c, if_true, p_updL_same]
    · simp only [c, if_false]
  · have e : ∀ v, vp_updL (vp_updL Hi (mo 1 i.toNatClampNeg).toNatClampNeg v) (mo 2 i.toNatClampNeg).toNatClampNeg (Hi (mo 2 i.toNatClampNeg).toNatClampNeg) = vp_updL Hi (mo 1 i.toNatClampNeg).toNatClampNeg v := by
      intro v
      have := p_updL_same (vp_updL Hi (mo 1 i.toNatClampNeg).toNatClampNeg v) (mo 2 i.toNatClampNeg).toNatClampNeg
      rwa [p_updL_ne _ _ ap.symm] at this
    simp only [e]
    by_cases c : Hi (mo 1 i.toNatClampNeg).toNatClampNeg ≤ Hi (mo 2 i.toNatClampNeg).toNatClampNeg - 1
    · simp only [c, if_true, p_updL_same]
    · simp only [c, if_false]
theorem o_10 (h : mo 0 i.toNatClampNeg = 10) (k1 : K (mo 1 i.toNatClampNeg).toNatClampNeg = 1) : p_on mo K Lo Hi i.toNatClampNeg = (K, (if Lo (mo 1 i.toNatClampNeg).toNatClampNeg = Int32.toInt64 (mo 3 i.toNatClampNeg) then vp_updL Lo (mo 1 i.toNatClampNeg).toNatClampNeg (Int32.toInt64 (mo 3 i.toNatClampNeg) + 1) else Lo), (if Hi (mo 1 i.toNatClampNeg).toNatClampNeg = Int32.toInt64 (mo 3 i.toNatClampNeg) then vp_updL Hi (mo 1 i.toNatClampNeg).toNatClampNeg (Int32.toInt64 (mo 3 i.toNatClampNeg) - 1) else Hi)) := by
  unfold p_on
  rw [if_pos h, if_neg (by rw [k1]; decide)]
  simp only [s_Md_know, p_upd_same _ _ k1]
  by_cases c1 : Lo (mo 1 i.toNatClampNeg).toNatClampNeg = Int32.toInt64 (mo 3 i.toNatClampNeg) <;> by_cases c2 : Hi (mo 1 i.toNatClampNeg).toNatClampNeg = Int32.toInt64 (mo 3 i.toNatClampNeg) <;> simp only [c1, c2, if_true, if_false, p_updL_same]
theorem o_11 (h : mo 0 i.toNatClampNeg = 11) (k1 : K (mo 1 i.toNatClampNeg).toNatClampNeg = 1) : p_on mo K Lo Hi i.toNatClampNeg = (K, Lo, (if Hi (mo 1 i.toNatClampNeg).toNatClampNeg ≤ Int32.toInt64 (mo 3 i.toNatClampNeg) then Hi else vp_updL Hi (mo 1 i.toNatClampNeg).toNatClampNeg (Int32.toInt64 (mo 3 i.toNatClampNeg)))) := by
  unfold p_on
  rw [if_neg (by rw [h]; decide), if_pos h]
  simp only [s_Md_know, p_upd_same _ _ k1, p_updL_same, p_min]
  by_cases c1 : Hi (mo 1 i.toNatClampNeg).toNatClampNeg ≤ Int32.toInt64 (mo 3 i.toNatClampNeg) <;> simp only [c1, if_true, if_false, p_updL_same]
theorem o_12 (h : mo 0 i.toNatClampNeg = 12) (hne : ¬ mo 1 i.toNatClampNeg = mo 2 i.toNatClampNeg) (kd : K (mo 1 i.toNatClampNeg).toNatClampNeg = 1) (ks : K (mo 2 i.toNatClampNeg).toNatClampNeg = 1) (ap : (mo 1 i.toNatClampNeg).toNatClampNeg ≠ (mo 2 i.toNatClampNeg).toNatClampNeg) : p_on mo K Lo Hi i.toNatClampNeg = (K, (if Lo (mo 2 i.toNatClampNeg).toNatClampNeg ≤ Lo (mo 1 i.toNatClampNeg).toNatClampNeg then Lo else vp_updL Lo (mo 1 i.toNatClampNeg).toNatClampNeg (Lo (mo 2 i.toNatClampNeg).toNatClampNeg)), (if Hi (mo 2 i.toNatClampNeg).toNatClampNeg ≤ Hi (mo 1 i.toNatClampNeg).toNatClampNeg then Hi else vp_updL Hi (mo 2 i.toNatClampNeg).toNatClampNeg (Hi (mo 1 i.toNatClampNeg).toNatClampNeg))) := by
  unfold p_on
  rw [if_neg (by rw [h]; decide), if_neg (by rw [h]; decide), if_pos ⟨h, hne⟩]
  simp only [x_let, s_Md_know, p_upd_same _ _ kd, p_upd_same _ _ ks, p_updL_same, p_min, p_max]
  refine Prod.ext rfl (Prod.ext ?_ ?_)
  · have e : ∀ v, vp_updL (vp_updL Lo (mo 1 i.toNatClampNeg).toNatClampNeg v) (mo 2 i.toNatClampNeg).toNatClampNeg (Lo (mo 2 i.toNatClampNeg).toNatClampNeg) = vp_updL Lo (mo 1 i.toNatClampNeg).toNatClampNeg v := by
      intro v
      have := p_updL_same (vp_updL Lo (mo 1 i.toNatClampNeg).toNatClampNeg v) (mo 2 i.toNatClampNeg).toNatClampNeg
      rwa [p_updL_ne _ _ ap.symm] at this
    simp only [e]
    by_cases c : Lo (mo 2 i.toNatClampNeg).toNatClampNeg ≤ Lo (mo 1 i.toNatClampNeg).toNatClampNeg
    · simp only [c, if_true, p_updL_same]
    · simp only [c, if_false]
  · by_cases c : Hi (mo 2 i.toNatClampNeg).toNatClampNeg ≤ Hi (mo 1 i.toNatClampNeg).toNatClampNeg
    · simp only [c, if_true, p_updL_same]
    · simp only [c, if_false]
theorem o_12e (h : mo 0 i.toNatClampNeg = 12) (he : mo 1 i.toNatClampNeg = mo 2 i.toNatClampNeg) : p_on mo K Lo Hi i.toNatClampNeg = (K, Lo, Hi) := by
  unfold p_on
  rw [if_neg (by rw [h]; decide), if_neg (by rw [h]; decide), if_neg (fun x => x.2 he)]
/-- the frame that may be pushed -/
def p_T : (Nat → Int32) × (Nat → Int64) × (Nat → Int64) := if p_cT mo K Lo Hi i.toNatClampNeg = 0 then (K, Lo, Hi) else p_tgt mo K Lo Hi i.toNatClampNeg
theorem b_first (mi : Nat → Int32) (pk ps : Nat → Int32) (pl ph : Nat → Int64) (sz : Int32) (hwf : p_wf mo sz) (hl : p_let mo i sz K Lo Hi) (hop : mo 0 i.toNatClampNeg = 10 ∨ mo 0 i.toNatClampNeg = 11 ∨ mo 0 i.toNatClampNeg = 12) (h24 : vp_in i 24) :
    s_Md_branch mo mi K Lo Hi pk ps pl ph i = bk_Md_branch_327 mo mi (p_T mo i K Lo Hi).1 (p_T mo i K Lo Hi).2.1 (p_T mo i K Lo Hi).2.2 pk ps pl ph i (mo 0 i.toNatClampNeg) (mo 1 i.toNatClampNeg) (mo 2 i.toNatClampNeg) (K (mo 1 i.toNatClampNeg).toNatClampNeg) (Int32.toInt64 (mo 3 i.toNatClampNeg)) (Lo (mo 1 i.toNatClampNeg).toNatClampNeg) (Hi (mo 1 i.toNatClampNeg).toNatClampNeg) (Lo (mo 2 i.toNatClampNeg).toNatClampNeg) (Hi (mo 2 i.toNatClampNeg).toNatClampNeg) (p_cT mo K Lo Hi i.toNatClampNeg) (p_cO mo K Lo Hi i.toNatClampNeg) ∧
    (bk_ok_Md_branch_327 mo mi (p_T mo i K Lo Hi).1 (p_T mo i K Lo Hi).2.1 (p_T mo i K Lo Hi).2.2 pk ps pl ph i (mo 0 i.toNatClampNeg) (mo 1 i.toNatClampNeg) (mo 2 i.toNatClampNeg) (K (mo 1 i.toNatClampNeg).toNatClampNeg) (Int32.toInt64 (mo 3 i.toNatClampNeg)) (Lo (mo 1 i.toNatClampNeg).toNatClampNeg) (Hi (mo 1 i.toNatClampNeg).toNatClampNeg) (Lo (mo 2 i.toNatClampNeg).toNatClampNeg) (Hi (mo 2 i.toNatClampNeg).toNatClampNeg) (p_cT mo K Lo Hi i.toNatClampNeg) (p_cO mo K Lo Hi i.toNatClampNeg) → k_ok_Md_branch mo mi K Lo Hi pk ps pl ph i) := by
  obtain ⟨hop', hd, hs, ht⟩ := hwf.1 i.toNatClampNeg
  obtain ⟨l1, l2, l3, l4, l5, l6, l7, l8, l9⟩ := hl
  have KK := j_kinds mo i K Lo Hi hop' l4 l5
  have hd12 : vp_in (mo 1 i.toNatClampNeg) 12 := vp_in_iff.mpr (by omega)
  have hs12 : vp_in (mo 2 i.toNatClampNeg) 12 := vp_in_iff.mpr (by omega)
  have one : ¬ (1 : Int32) = 0 := by decide
  unfold p_T k_ok_Md_branch s_Md_branch
  rcases hop with h | h | h
  · rcases KK.2.2.2.2.1 h with k1 | ⟨k4, n0⟩
    · rw [p_cT10 mo i K Lo Hi h k1, p_cO10 mo i K Lo Hi h k1, t_10 mo i K Lo Hi h]
      simp only [bk_Md_branch_111, bk_Md_branch_130, bk_ok_Md_branch_111, bk_ok_Md_branch_130, x_let, h, k1, if_true]
      by_cases c1 : Int32.toInt64 (mo 3 i.toNatClampNeg) < Lo (mo 1 i.toNatClampNeg).toNatClampNeg <;> by_cases c2 : Hi (mo 1 i.toNatClampNeg).toNatClampNeg < Int32.toInt64 (mo 3 i.toNatClampNeg) <;> by_cases c3 : Lo (mo 1 i.toNatClampNeg).toNatClampNeg = Int32.toInt64 (mo 3 i.toNatClampNeg) <;> by_cases c4 : Hi (mo 1 i.toNatClampNeg).toNatClampNeg = Int32.toInt64 (mo 3 i.toNatClampNeg)
      all_goals first | replace c1 := eq_false c1 | replace c1 := eq_true c1
      all_goals first | replace c2 := eq_false c2 | replace c2 := eq_true c2
      all_goals first | replace c3 := eq_false c3 | replace c3 := eq_true c3
      all_goals first | replace c4 := eq_false c4 | replace c4 := eq_true c4
      all_goals simp only [c1, c2, c3, c4, if_true, if_false, one]
      all_goals first | exact ⟨trivial, fun hh => ⟨h24, hd12, hs12, hh⟩⟩ | exact ⟨trivial, fun hh => ⟨h24, hd12, hs12, ⟨hd12, trivial⟩, hh⟩⟩
    · rw [p_cT10m mo i K Lo Hi h k4, p_cO10m mo i K Lo Hi h k4, t_10 mo i K Lo Hi h]
      simp only [bk_Md_branch_155, bk_ok_Md_branch_155, x_let, h, k4, if_true, if_false, one, show ¬ (4 : Int32) = 1 by decide, n0, show Int32.toInt64 0 = 0 from rfl]
      exact ⟨trivial, fun hh => ⟨h24, hd12, hs12, ⟨hd12, trivial⟩, hh⟩⟩
  · have k1 := KK.2.2.2.1 (by simp [h])
    rw [p_cT11 mo i K Lo Hi h, p_cO11 mo i K Lo Hi h, t_11 mo i K Lo Hi h k1]
    simp only [bk_Md_branch_155, bk_ok_Md_branch_155, h, if_true, if_false, one, show ¬ (11 : Int32) = 10 by decide]
    by_cases c1 : Hi (mo 1 i.toNatClampNeg).toNatClampNeg ≤ Int32.toInt64 (mo 3 i.toNatClampNeg) <;> by_cases c2 : Int32.toInt64 (mo 3 i.toNatClampNeg) < Lo (mo 1 i.toNatClampNeg).toNatClampNeg <;> simp only [c1, c2, if_true, if_false, one] <;> first | exact ⟨trivial, fun hh => ⟨h24, hd12, hs12, hh⟩⟩ | exact ⟨trivial, fun hh => ⟨h24, hd12, hs12, hd12, hh⟩⟩
  · have kk := KK.2.2.1 (Or.inr h)
    rw [p_cT12 mo i K Lo Hi h, p_cO12 mo i K Lo Hi h]
    by_cases c0 : mo 1 i.toNatClampNeg = mo 2 i.toNatClampNeg
    · simp only [bk_Md_branch_155, bk_ok_Md_branch_155, h, if_true, if_false, one, show ¬ (12 : Int32) = 10 by decide, show ¬ (12 : Int32) = 11 by decide, c0]
      exact ⟨trivial, fun hh => ⟨h24, hs12, hs12, hh⟩⟩
    · rw [t_12 mo i K Lo Hi h kk.1 kk.2 (p_apart hd hs c0)]
      simp only [bk_Md_branch_155, bk_ok_Md_branch_155, bk_Md_branch_301, bk_ok_Md_branch_301, h, if_true, if_false, one, show ¬ (12 : Int32) = 10 by decide, show ¬ (12 : Int32) = 11 by decide, c0]
      by_cases c1 : Hi (mo 2 i.toNatClampNeg).toNatClampNeg ≤ Lo (mo 1 i.toNatClampNeg).toNatClampNeg <;> by_cases c2 : Hi (mo 1 i.toNatClampNeg).toNatClampNeg < Lo (mo 2 i.toNatClampNeg).toNatClampNeg <;> by_cases c3 : Hi (mo 1 i.toNatClampNeg).toNatClampNeg ≤ Hi (mo 2 i.toNatClampNeg).toNatClampNeg - 1 <;> by_cases c4 : Lo (mo 1 i.toNatClampNeg).toNatClampNeg + 1 ≤ Lo (mo 2 i.toNatClampNeg).toNatClampNeg <;> simp only [c1, c2, c3, c4, if_true, if_false, one] <;> first | exact ⟨trivial, fun hh => ⟨h24, hd12, hs12, hh⟩⟩ | exact ⟨trivial, fun hh => ⟨h24, hd12, hs12, hd12, hh⟩⟩ | exact ⟨trivial, fun hh => ⟨h24, hd12, hs12, hs12, hh⟩⟩ | exact ⟨trivial, fun hh => ⟨h24, hd12, hs12, hd12, hs12, hh⟩⟩
end Branch
