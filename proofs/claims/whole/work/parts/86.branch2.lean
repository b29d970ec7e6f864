/-! forks: the reference, to its end -/
section Branch2
variable (mo : Nat → Nat → Int32) (i : Int32) (K : Nat → Int32) (Lo Hi : Nat → Int64)
/-- T differs from what is known at two registers only, and not in the second's kind -/
def p_diff (T : (Nat → Int32) × (Nat → Int64) × (Nat → Int64)) : Prop := ∀ k, k ≠ (mo 1 i.toNatClampNeg).toNatClampNeg → T.1 k = K k ∧ (k ≠ (mo 2 i.toNatClampNeg).toNatClampNeg → T.2.1 k = Lo k ∧ T.2.2 k = Hi k)
theorem p_diff_T (sz : Int32) (hwf : p_wf mo sz) (hl : p_let mo i sz K Lo Hi) (hop : mo 0 i.toNatClampNeg = 10 ∨ mo 0 i.toNatClampNeg = 11 ∨ mo 0 i.toNatClampNeg = 12) : p_diff mo i K Lo Hi (p_T mo i K Lo Hi) := by
  obtain ⟨hop', hd, hs, ht⟩ := hwf.1 i.toNatClampNeg
  obtain ⟨l1, l2, l3, l4, l5, l6, l7, l8, l9⟩ := hl
  have KK := j_kinds mo i K Lo Hi hop' l4 l5
  intro k hk
  unfold p_T
  by_cases c : p_cT mo K Lo Hi i.toNatClampNeg = 0
  · rw [if_pos c]; exact ⟨rfl, fun _ => ⟨rfl, rfl⟩⟩
  · rw [if_neg c]
    rcases hop with h | h | h
    · rw [t_10 mo i K Lo Hi h]
      simp only [s_Md_know, p_upd_ne _ _ hk, p_updL_ne _ _ hk]
      exact ⟨trivial, fun _ => ⟨trivial, trivial⟩⟩
    · rw [t_11 mo i K Lo Hi h (KK.2.2.2.1 (by simp [h]))]
      refine ⟨rfl, fun _ => ⟨?_, rfl⟩⟩
      simp only
      split
      · rfl
      · exact p_updL_ne _ _ hk
    · have kk := KK.2.2.1 (Or.inr h)
      rw [p_cT12 mo i K Lo Hi h] at c
      by_cases c0 : mo 1 i.toNatClampNeg = mo 2 i.toNatClampNeg
      · rw [if_pos c0] at c; exact absurd rfl c
      rw [t_12 mo i K Lo Hi h kk.1 kk.2 (p_apart hd hs c0)]
      refine ⟨rfl, fun hk2 => ⟨?_, ?_⟩⟩
      · simp only
        split
        · rfl
        · exact p_updL_ne _ _ hk2
      · simp only
        split
        · rfl
        · exact p_updL_ne _ _ hk
theorem b_back (mi : Nat → Int32) (pk ps : Nat → Int32) (pl ph : Nat → Int64) (x2 x17 : Int32) (x6 : Int64) (T : (Nat → Int32) × (Nat → Int64) × (Nat → Int64)) (hd : 0 ≤ (mo 1 i.toNatClampNeg).toInt ∧ (mo 1 i.toNatClampNeg).toInt ≤ 5) (hs : 0 ≤ (mo 2 i.toNatClampNeg).toInt ∧ (mo 2 i.toNatClampNeg).toInt ≤ 5) (hT : p_diff mo i K Lo Hi T) :
    bk_Md_branch_342 mi T.1 T.2.1 T.2.2 pk ps pl ph i x2 (mo 1 i.toNatClampNeg) (mo 2 i.toNatClampNeg) (K (mo 1 i.toNatClampNeg).toNatClampNeg) x6 (Lo (mo 1 i.toNatClampNeg).toNatClampNeg) (Hi (mo 1 i.toNatClampNeg).toNatClampNeg) (Lo (mo 2 i.toNatClampNeg).toNatClampNeg) (Hi (mo 2 i.toNatClampNeg).toNatClampNeg) x17 = bk_Md_branch_376 mi K Lo Hi pk ps pl ph i x2 (mo 1 i.toNatClampNeg) (mo 2 i.toNatClampNeg) (K (mo 1 i.toNatClampNeg).toNatClampNeg) x6 (Lo (mo 1 i.toNatClampNeg).toNatClampNeg) (Hi (mo 1 i.toNatClampNeg).toNatClampNeg) (Lo (mo 2 i.toNatClampNeg).toNatClampNeg) (Hi (mo 2 i.toNatClampNeg).toNatClampNeg) x17 ∧
    (bk_ok_Md_branch_376 mi K Lo Hi pk ps pl ph i x2 (mo 1 i.toNatClampNeg) (mo 2 i.toNatClampNeg) (K (mo 1 i.toNatClampNeg).toNatClampNeg) x6 (Lo (mo 1 i.toNatClampNeg).toNatClampNeg) (Hi (mo 1 i.toNatClampNeg).toNatClampNeg) (Lo (mo 2 i.toNatClampNeg).toNatClampNeg) (Hi (mo 2 i.toNatClampNeg).toNatClampNeg) x17 → bk_ok_Md_branch_342 mi T.1 T.2.1 T.2.2 pk ps pl ph i x2 (mo 1 i.toNatClampNeg) (mo 2 i.toNatClampNeg) (K (mo 1 i.toNatClampNeg).toNatClampNeg) x6 (Lo (mo 1 i.toNatClampNeg).toNatClampNeg) (Hi (mo 1 i.toNatClampNeg).toNatClampNeg) (Lo (mo 2 i.toNatClampNeg).toNatClampNeg) (Hi (mo 2 i.toNatClampNeg).toNatClampNeg) x17) := by
  have hd12 : vp_in (mo 1 i.toNatClampNeg) 12 := vp_in_iff.mpr (by omega)
  have hs12 : vp_in (mo 2 i.toNatClampNeg) 12 := vp_in_iff.mpr (by omega)
  unfold bk_Md_branch_342 bk_ok_Md_branch_342
  simp only [x_let]
  by_cases c0 : mo 1 i.toNatClampNeg = mo 2 i.toNatClampNeg
  · have e1 : (s_Md_know T.1 T.2.1 T.2.2 (mo 1 i.toNatClampNeg) (K (mo 1 i.toNatClampNeg).toNatClampNeg) (Lo (mo 1 i.toNatClampNeg).toNatClampNeg) (Hi (mo 1 i.toNatClampNeg).toNatClampNeg)) = (K, Lo, Hi) := by
      unfold s_Md_know
      refine Prod.ext ?_ (Prod.ext ?_ ?_) <;> funext k <;> by_cases hk : k = (mo 1 i.toNatClampNeg).toNatClampNeg
      · subst hk; exact p_upd_self _ _ _
      · exact (p_upd_ne _ _ hk).trans (hT k hk).1
      · subst hk; exact p_updL_self _ _ _
      · exact (p_updL_ne _ _ hk).trans ((hT k hk).2 (by rw [← c0]; exact hk)).1
      · subst hk; exact p_updL_self _ _ _
      · exact (p_updL_ne _ _ hk).trans ((hT k hk).2 (by rw [← c0]; exact hk)).2
    rw [e1, if_pos c0, if_pos c0]
    exact ⟨rfl, fun h => ⟨⟨hd12, trivial⟩, h⟩⟩
  · have ap := p_apart hd hs c0
    have e1 : s_Md_know (s_Md_know T.1 T.2.1 T.2.2 (mo 1 i.toNatClampNeg) (K (mo 1 i.toNatClampNeg).toNatClampNeg) (Lo (mo 1 i.toNatClampNeg).toNatClampNeg) (Hi (mo 1 i.toNatClampNeg).toNatClampNeg)).1 (s_Md_know T.1 T.2.1 T.2.2 (mo 1 i.toNatClampNeg) (K (mo 1 i.toNatClampNeg).toNatClampNeg) (Lo (mo 1 i.toNatClampNeg).toNatClampNeg) (Hi (mo 1 i.toNatClampNeg).toNatClampNeg)).2.1 (s_Md_know T.1 T.2.1 T.2.2 (mo 1 i.toNatClampNeg) (K (mo 1 i.toNatClampNeg).toNatClampNeg) (Lo (mo 1 i.toNatClampNeg).toNatClampNeg) (Hi (mo 1 i.toNatClampNeg).toNatClampNeg)).2.2 (mo 2 i.toNatClampNeg) ((s_Md_know T.1 T.2.1 T.2.2 (mo 1 i.toNatClampNeg) (K (mo 1 i.toNatClampNeg).toNatClampNeg) (Lo (mo 1 i.toNatClampNeg).toNatClampNeg) (Hi (mo 1 i.toNatClampNeg).toNatClampNeg)).1 (mo 2 i.toNatClampNeg).toNatClampNeg) (Lo (mo 2 i.toNatClampNeg).toNatClampNeg) (Hi (mo 2 i.toNatClampNeg).toNatClampNeg) = (K, Lo, Hi) := by
      simp only [s_Md_know, p_upd_ne _ _ ap.symm, (hT _ ap.symm).1]
      refine Prod.ext ?_ (Prod.ext ?_ ?_) <;> funext k <;> by_cases hk2 : k = (mo 2 i.toNatClampNeg).toNatClampNeg
      · subst hk2; exact p_upd_self _ _ _
      · refine (p_upd_ne _ _ hk2).trans ?_
        by_cases hk : k = (mo 1 i.toNatClampNeg).toNatClampNeg
        · subst hk; exact p_upd_self _ _ _
        · exact (p_upd_ne _ _ hk).trans (hT k hk).1
      · subst hk2; exact p_updL_self _ _ _
      · refine (p_updL_ne _ _ hk2).trans ?_
        by_cases hk : k = (mo 1 i.toNatClampNeg).toNatClampNeg
        · subst hk; exact p_updL_self _ _ _
        · exact (p_updL_ne _ _ hk).trans ((hT k hk).2 hk2).1
      · subst hk2; exact p_updL_self _ _ _
      · refine (p_updL_ne _ _ hk2).trans ?_
        by_cases hk : k = (mo 1 i.toNatClampNeg).toNatClampNeg
        · subst hk; exact p_updL_self _ _ _
        · exact (p_updL_ne _ _ hk).trans ((hT k hk).2 hk2).2
    rw [if_neg c0, if_neg c0, e1]
    exact ⟨rfl, fun h => ⟨⟨hd12, trivial⟩, hs12, ⟨hs12, trivial⟩, h⟩⟩
theorem b_on (mi : Nat → Int32) (pk ps : Nat → Int32) (pl ph : Nat → Int64) (sz x17 : Int32) (hwf : p_wf mo sz) (hl : p_let mo i sz K Lo Hi) (hop : mo 0 i.toNatClampNeg = 10 ∨ mo 0 i.toNatClampNeg = 11 ∨ mo 0 i.toNatClampNeg = 12) (h17 : ¬ x17 = 0) :
    bk_Md_branch_376 mi K Lo Hi pk ps pl ph i (mo 0 i.toNatClampNeg) (mo 1 i.toNatClampNeg) (mo 2 i.toNatClampNeg) (K (mo 1 i.toNatClampNeg).toNatClampNeg) (Int32.toInt64 (mo 3 i.toNatClampNeg)) (Lo (mo 1 i.toNatClampNeg).toNatClampNeg) (Hi (mo 1 i.toNatClampNeg).toNatClampNeg) (Lo (mo 2 i.toNatClampNeg).toNatClampNeg) (Hi (mo 2 i.toNatClampNeg).toNatClampNeg) x17 = (upd mi 10 (i + 1), (p_on mo K Lo Hi i.toNatClampNeg).1, (p_on mo K Lo Hi i.toNatClampNeg).2.1, (p_on mo K Lo Hi i.toNatClampNeg).2.2, pk, ps, pl, ph) ∧
    bk_ok_Md_branch_376 mi K Lo Hi pk ps pl ph i (mo 0 i.toNatClampNeg) (mo 1 i.toNatClampNeg) (mo 2 i.toNatClampNeg) (K (mo 1 i.toNatClampNeg).toNatClampNeg) (Int32.toInt64 (mo 3 i.toNatClampNeg)) (Lo (mo 1 i.toNatClampNeg).toNatClampNeg) (Hi (mo 1 i.toNatClampNeg).toNatClampNeg) (Lo (mo 2 i.toNatClampNeg).toNatClampNeg) (Hi (mo 2 i.toNatClampNeg).toNatClampNeg) x17 := by
  obtain ⟨hop', hd, hs, ht⟩ := hwf.1 i.toNatClampNeg
  obtain ⟨l1, l2, l3, l4, l5, l6, l7, l8, l9⟩ := hl
  have KK := j_kinds mo i K Lo Hi hop' l4 l5
  have hd12 : vp_in (mo 1 i.toNatClampNeg) 12 := vp_in_iff.mpr (by omega)
  have hs12 : vp_in (mo 2 i.toNatClampNeg) 12 := vp_in_iff.mpr (by omega)
  rcases hop with h | h | h
  · rcases KK.2.2.2.2.1 h with k1 | ⟨k4, n0⟩
    · rw [o_10 mo i K Lo Hi h k1]
      by_cases c3 : Lo (mo 1 i.toNatClampNeg).toNatClampNeg = Int32.toInt64 (mo 3 i.toNatClampNeg) <;> by_cases c4 : Hi (mo 1 i.toNatClampNeg).toNatClampNeg = Int32.toInt64 (mo 3 i.toNatClampNeg)
      all_goals first | replace c3 := eq_false c3 | replace c3 := eq_true c3
      all_goals first | replace c4 := eq_false c4 | replace c4 := eq_true c4
      all_goals simp [bk_Md_branch_376, bk_Md_branch_416, bk_Md_branch_446, bk_Md_branch_466, bk_Md_branch_488, bk_Md_branch_516, bk_ok_Md_branch_376, bk_ok_Md_branch_416, bk_ok_Md_branch_446, bk_ok_Md_branch_466, bk_ok_Md_branch_488, bk_ok_Md_branch_516, h17, h, k1, c3, c4, hd12]
    · have e : p_on mo K Lo Hi i.toNatClampNeg = s_Md_know K Lo Hi (mo 1 i.toNatClampNeg) 3 0 0 := by
        unfold p_on; rw [if_pos h, if_pos k4]
      rw [e]
      simp [bk_Md_branch_376, bk_Md_branch_416, bk_Md_branch_446, bk_Md_branch_466, bk_Md_branch_488, bk_Md_branch_516, bk_ok_Md_branch_376, bk_ok_Md_branch_416, bk_ok_Md_branch_446, bk_ok_Md_branch_466, bk_ok_Md_branch_488, bk_ok_Md_branch_516, h17, h, k4, hd12, x_let, k_ok_Md_know]
  · have k1 := KK.2.2.2.1 (by simp [h])
    rw [o_11 mo i K Lo Hi h k1]
    by_cases c3 : Hi (mo 1 i.toNatClampNeg).toNatClampNeg ≤ Int32.toInt64 (mo 3 i.toNatClampNeg)
    all_goals first | replace c3 := eq_false c3 | replace c3 := eq_true c3
    all_goals simp only [bk_Md_branch_376, bk_Md_branch_416, bk_Md_branch_446, bk_Md_branch_466, bk_Md_branch_488, bk_Md_branch_516, bk_ok_Md_branch_376, bk_ok_Md_branch_416, bk_ok_Md_branch_446, bk_ok_Md_branch_466, bk_ok_Md_branch_488, bk_ok_Md_branch_516, h17, h, c3, hd12, if_true, if_false, show ¬ (11 : Int32) = 10 by decide, show ¬ (11 : Int32) = 12 by decide, and_self, reduceIte]
  · by_cases c0 : mo 1 i.toNatClampNeg = mo 2 i.toNatClampNeg
    · rw [o_12e mo i K Lo Hi h c0]
      simp only [bk_Md_branch_376, bk_Md_branch_416, bk_Md_branch_446, bk_Md_branch_466, bk_Md_branch_488, bk_Md_branch_516, bk_ok_Md_branch_376, bk_ok_Md_branch_416, bk_ok_Md_branch_446, bk_ok_Md_branch_466, bk_ok_Md_branch_488, bk_ok_Md_branch_516, h17, h, c0, if_true, if_false, show ¬ (12 : Int32) = 10 by decide, show ¬ (12 : Int32) = 11 by decide, and_self, reduceIte]
    · have kk := KK.2.2.1 (Or.inr h)
      rw [o_12 mo i K Lo Hi h c0 kk.1 kk.2 (p_apart hd hs c0)]
      by_cases c3 : Lo (mo 2 i.toNatClampNeg).toNatClampNeg ≤ Lo (mo 1 i.toNatClampNeg).toNatClampNeg <;> by_cases c4 : Hi (mo 2 i.toNatClampNeg).toNatClampNeg ≤ Hi (mo 1 i.toNatClampNeg).toNatClampNeg
      all_goals first | replace c3 := eq_false c3 | replace c3 := eq_true c3
      all_goals first | replace c4 := eq_false c4 | replace c4 := eq_true c4
      all_goals simp only [bk_Md_branch_376, bk_Md_branch_416, bk_Md_branch_446, bk_Md_branch_466, bk_Md_branch_488, bk_Md_branch_516, bk_ok_Md_branch_376, bk_ok_Md_branch_416, bk_ok_Md_branch_446, bk_ok_Md_branch_466, bk_ok_Md_branch_488, bk_ok_Md_branch_516, h17, h, c0, c3, c4, hd12, hs12, if_true, if_false, show ¬ (12 : Int32) = 10 by decide, show ¬ (12 : Int32) = 11 by decide, and_self, reduceIte]
/-- the three ways of a fork -/
theorem b_branch (mi : Nat → Int32) (m : Nat) (hm : m < 30) (h9 : mi 9 = Int32.ofNat m) (pk ps : Nat → Int32) (pl ph : Nat → Int64) (sz : Int32) (hwf : p_wf mo sz) (hi0 : 0 ≤ i.toInt) (hz : p_z K Lo Hi) (hzT : p_z (p_tgt mo K Lo Hi i.toNatClampNeg).1 (p_tgt mo K Lo Hi i.toNatClampNeg).2.1 (p_tgt mo K Lo Hi i.toNatClampNeg).2.2) (hg : p_gd K Lo Hi) (hl : p_let mo i sz K Lo Hi) (hop : mo 0 i.toNatClampNeg = 10 ∨ mo 0 i.toNatClampNeg = 11 ∨ mo 0 i.toNatClampNeg = 12) :
    k_ok_Md_branch mo mi K Lo Hi pk ps pl ph i ∧
    ((¬ p_cO mo K Lo Hi i.toNatClampNeg = 0 ∧ p_cT mo K Lo Hi i.toNatClampNeg = 0 ∧ s_Md_branch mo mi K Lo Hi pk ps pl ph i = (upd mi 10 (i + 1), (p_on mo K Lo Hi i.toNatClampNeg).1, (p_on mo K Lo Hi i.toNatClampNeg).2.1, (p_on mo K Lo Hi i.toNatClampNeg).2.2, pk, ps, pl, ph)) ∨
     (¬ p_cO mo K Lo Hi i.toNatClampNeg = 0 ∧ ¬ p_cT mo K Lo Hi i.toNatClampNeg = 0 ∧ ∃ pk' pl' ph', s_Md_branch mo mi K Lo Hi pk ps pl ph i = (upd (upd mi 9 (Int32.ofNat (m + 1))) 10 (i + 1), (p_on mo K Lo Hi i.toNatClampNeg).1, (p_on mo K Lo Hi i.toNatClampNeg).2.1, (p_on mo K Lo Hi i.toNatClampNeg).2.2, pk', upd ps m (mo 4 i.toNatClampNeg), pl', ph') ∧ p_held pk' pl' ph' m (p_tgt mo K Lo Hi i.toNatClampNeg).1 (p_tgt mo K Lo Hi i.toNatClampNeg).2.1 (p_tgt mo K Lo Hi i.toNatClampNeg).2.2 ∧ ∀ q, q < 12 * m → pk' q = pk q ∧ pl' q = pl q ∧ ph' q = ph q) ∨
     (p_cO mo K Lo Hi i.toNatClampNeg = 0 ∧ ¬ p_cT mo K Lo Hi i.toNatClampNeg = 0 ∧ ∃ pk' pl' ph', s_Md_branch mo mi K Lo Hi pk ps pl ph i = (upd mi 10 (mo 4 i.toNatClampNeg), (p_tgt mo K Lo Hi i.toNatClampNeg).1, (p_tgt mo K Lo Hi i.toNatClampNeg).2.1, (p_tgt mo K Lo Hi i.toNatClampNeg).2.2, pk', upd ps m (mo 4 i.toNatClampNeg), pl', ph') ∧ ∀ q, q < 12 * m → pk' q = pk q ∧ pl' q = pl q ∧ ph' q = ph q)) := by
  obtain ⟨hop', hd, hs, ht⟩ := hwf.1 i.toNatClampNeg
  have hsz := hwf.2
  have h24 : vp_in i 24 := vp_in_iff.mpr (by have := hl.1; omega)
  obtain ⟨B1, B2⟩ := b_first mo i K Lo Hi mi pk ps pl ph sz hwf hl hop h24
  have D := p_diff_T mo i K Lo Hi sz hwf hl hop
  unfold bk_Md_branch_327 at B1
  unfold bk_ok_Md_branch_327 at B2
  by_cases cT : p_cT mo K Lo Hi i.toNatClampNeg = 0
  · have cO : ¬ p_cO mo K Lo Hi i.toNatClampNeg = 0 := by
      have l := hl
      obtain ⟨l1, l2, l3, l4, l5, l6, l7, l8, l9⟩ := hl
      have hd6 := p_reg hd
      have hs6 := p_reg hs
      have KK := j_kinds mo i K Lo Hi hop' l4 l5
      rcases hop with h | h | h
      · rcases KK.2.2.2.2.1 h with k1 | ⟨k4, n0⟩
        · rw [p_cT10 mo i K Lo Hi h k1] at cT
          rw [p_cO10 mo i K Lo Hi h k1]
          intro hh
          by_cases c3 : Lo (mo 1 i.toNatClampNeg).toNatClampNeg = Int32.toInt64 (mo 3 i.toNatClampNeg)
          · by_cases c4 : Hi (mo 1 i.toNatClampNeg).toNatClampNeg = Int32.toInt64 (mo 3 i.toNatClampNeg)
            · rw [c3, c4] at cT
              simp at cT
            · rw [if_pos c3, if_neg c4] at hh; exact absurd hh (by decide)
          · rw [if_neg c3] at hh; exact absurd hh (by decide)
        · rw [p_cO10m mo i K Lo Hi h k4]; decide
      · rw [p_cT11 mo i K Lo Hi h] at cT
        rw [p_cO11 mo i K Lo Hi h]
        have kd := p_gd1 hg (k := (mo 1 i.toNatClampNeg).toNatClampNeg) (by omega) (KK.2.2.2.1 (by simp [h]))
        by_cases c3 : Hi (mo 1 i.toNatClampNeg).toNatClampNeg ≤ Int32.toInt64 (mo 3 i.toNatClampNeg)
        · rw [if_neg]
          · decide
          · rw [Int64.lt_iff_toInt_lt]; rw [Int64.le_iff_toInt_le] at c3; omega
        · rw [if_neg c3] at cT; exact absurd cT (by decide)
      · rw [p_cT12 mo i K Lo Hi h] at cT
        rw [p_cO12 mo i K Lo Hi h]
        by_cases c0 : mo 1 i.toNatClampNeg = mo 2 i.toNatClampNeg
        · rw [if_pos c0]; decide
        have kk := KK.2.2.1 (Or.inr h)
        have kd := p_gd1 hg (k := (mo 1 i.toNatClampNeg).toNatClampNeg) (by omega) kk.1
        have ks := p_gd1 hg (k := (mo 2 i.toNatClampNeg).toNatClampNeg) (by omega) kk.2
        rw [if_neg c0] at cT ⊢
        by_cases c3 : Hi (mo 2 i.toNatClampNeg).toNatClampNeg ≤ Lo (mo 1 i.toNatClampNeg).toNatClampNeg
        · rw [if_neg]
          · decide
          · rw [Int64.lt_iff_toInt_lt]; rw [Int64.le_iff_toInt_le] at c3; omega
        · rw [if_neg c3] at cT; exact absurd cT (by decide)
    rw [if_pos cT] at B1 B2
    obtain ⟨R1, R2⟩ := b_back mo i K Lo Hi mi pk ps pl ph (mo 0 i.toNatClampNeg) (p_cO mo K Lo Hi i.toNatClampNeg) (Int32.toInt64 (mo 3 i.toNatClampNeg)) _ hd hs D
    obtain ⟨O1, O2⟩ := b_on mo i K Lo Hi mi pk ps pl ph sz (p_cO mo K Lo Hi i.toNatClampNeg) hwf hl hop cO
    exact ⟨B2 (R2 O2), Or.inl ⟨cO, cT, B1.trans (R1.trans O1)⟩⟩
  · rw [if_neg cT] at B1 B2
    obtain ⟨pok, pk', pl', ph', P1, P2, P3⟩ := p_push mi m hm h9 (p_T mo i K Lo Hi).1 (p_T mo i K Lo Hi).2.1 (p_T mo i K Lo Hi).2.2 ps (mo 4 i.toNatClampNeg) 13 0 pk pl ph (by omega) (by omega)
    have P1' : s_Md_push mi (p_T mo i K Lo Hi).1 (p_T mo i K Lo Hi).2.1 (p_T mo i K Lo Hi).2.2 pk ps pl ph (mo 4 i.toNatClampNeg) = (upd mi 9 (Int32.ofNat (m + 1)), pk', upd ps m (mo 4 i.toNatClampNeg), pl', ph') := P1
    have pok' : k_ok_Md_push mi (p_T mo i K Lo Hi).1 (p_T mo i K Lo Hi).2.1 (p_T mo i K Lo Hi).2.2 pk ps pl ph (mo 4 i.toNatClampNeg) := pok
    rw [P1'] at B1 B2
    simp only [x_let] at B1 B2
    have eT : p_T mo i K Lo Hi = p_tgt mo K Lo Hi i.toNatClampNeg := if_neg cT
    have H : p_held pk' pl' ph' m (p_tgt mo K Lo Hi i.toNatClampNeg).1 (p_tgt mo K Lo Hi i.toNatClampNeg).2.1 (p_tgt mo K Lo Hi i.toNatClampNeg).2.2 := by
      intro k hk
      rw [← eT]
      exact P2 k (Nat.zero_le _) hk
    obtain ⟨R1, R2⟩ := b_back mo i K Lo Hi (upd mi 9 (Int32.ofNat (m + 1))) pk' (upd ps m (mo 4 i.toNatClampNeg)) pl' ph' (mo 0 i.toNatClampNeg) (p_cO mo K Lo Hi i.toNatClampNeg) (Int32.toInt64 (mo 3 i.toNatClampNeg)) _ hd hs D
    have P3' : ∀ q, q < 12 * m → pk' q = pk q ∧ pl' q = pl q ∧ ph' q = ph q := fun q hq => P3 q (by omega)
    by_cases cO : p_cO mo K Lo Hi i.toNatClampNeg = 0
    · have e376 : bk_Md_branch_376 (upd mi 9 (Int32.ofNat (m + 1))) K Lo Hi pk' (upd ps m (mo 4 i.toNatClampNeg)) pl' ph' i (mo 0 i.toNatClampNeg) (mo 1 i.toNatClampNeg) (mo 2 i.toNatClampNeg) (K (mo 1 i.toNatClampNeg).toNatClampNeg) (Int32.toInt64 (mo 3 i.toNatClampNeg)) (Lo (mo 1 i.toNatClampNeg).toNatClampNeg) (Hi (mo 1 i.toNatClampNeg).toNatClampNeg) (Lo (mo 2 i.toNatClampNeg).toNatClampNeg) (Hi (mo 2 i.toNatClampNeg).toNatClampNeg) (p_cO mo K Lo Hi i.toNatClampNeg) = (x_let (s_Md_pop (upd mi 9 (Int32.ofNat (m + 1))) K Lo Hi pk' (upd ps m (mo 4 i.toNatClampNeg)) pl' ph') fun (a, b, c, d) => (a, b, c, d, pk', upd ps m (mo 4 i.toNatClampNeg), pl', ph')) := by
        unfold bk_Md_branch_376; rw [if_pos cO]
      obtain ⟨Q1, Q2⟩ := p_pop (upd mi 9 (Int32.ofNat (m + 1))) m hm (p_upd_self _ _ _) pk' (upd ps m (mo 4 i.toNatClampNeg)) pl' ph' K _ Lo Hi _ _ hz hzT H
      refine ⟨B2 ⟨h24, pok', R2 ?_⟩, Or.inr (Or.inr ⟨cO, cT, pk', pl', ph', ?_, P3'⟩)⟩
      · unfold bk_ok_Md_branch_376; rw [if_pos cO]; exact ⟨Q1, trivial⟩
      · rw [B1, R1, e376, Q2]
        simp only [x_let, p_upd_upd, p_upd_self, p_upd_same mi 9 h9]
    · obtain ⟨O1, O2⟩ := b_on mo i K Lo Hi (upd mi 9 (Int32.ofNat (m + 1))) pk' (upd ps m (mo 4 i.toNatClampNeg)) pl' ph' sz (p_cO mo K Lo Hi i.toNatClampNeg) hwf hl hop cO
      exact ⟨B2 ⟨h24, pok', R2 O2⟩, Or.inr (Or.inl ⟨cO, cT, pk', pl', ph', B1.trans (R1.trans O1), H, P3'⟩)⟩
end Branch2
