/-! forks: the class -/
section Fork
variable (mo : Nat → Nat → Int32) (gk : Nat → Nat → Int32) (gl gh : Nat → Nat → Int64)
theorem f_cT (j o : Nat) : s_Fk_leadsToTarget (fun j k => mo k j) gk gl gh j o = p_cT mo (gk o) (gl o) (gh o) j := rfl
theorem f_cO (j o : Nat) : s_Fk_leadsOn (fun j k => mo k j) gk gl gh j o = p_cO mo (gk o) (gl o) (gh o) j := rfl
theorem f_tgt (j o : Nat) : s_Fk_goToTarget (fun j k => mo k j) gk gl gh j o = p_lift gk gl gh o (p_tgt mo (gk o) (gl o) (gh o) j) := by
  unfold s_Fk_goToTarget p_tgt
  by_cases h10 : mo 0 j = 10
  · simp only [h10, if_true, x_let, e_setRange]
  by_cases h11 : mo 0 j = 11
  · simp only [h10, h11, if_true, if_false, x_let, e_setRange, s_Gs_lo, s_Gs_hi, show ¬ (11 : Int32) = 10 by decide]
    rfl
  by_cases h12 : mo 0 j = 12
  · simp only [h12, if_true, if_false, x_let, e_setRange, s_Gs_lo, s_Gs_hi, show ¬ (12 : Int32) = 10 by decide, show ¬ (12 : Int32) = 11 by decide, p_lift, p_va_self, p_va_va]
    rfl
  · simp only [h10, h11, h12, if_false, p_lift, p_va_id]
theorem f_on (j o : Nat) : s_Fk_goOn (fun j k => mo k j) gk gl gh j o = p_lift gk gl gh o (p_on mo (gk o) (gl o) (gh o) j) := by
  unfold s_Fk_goOn p_on
  by_cases h10 : mo 0 j = 10
  · simp only [h10, if_true, x_let, s_Fk_isMaybe, s_Gs_kind, s_Gs_lo, s_Gs_hi, e_setRange, e_set]
    by_cases k4 : gk o (mo 1 j).toNatClampNeg = 4
    · simp only [k4, if_true, show ¬ (1 : Int32) = 0 by decide, if_false]
    · simp only [k4, if_false, if_true]
      by_cases e1 : gl o (mo 1 j).toNatClampNeg = Int32.toInt64 (mo 3 j) <;> by_cases e2 : gh o (mo 1 j).toNatClampNeg = Int32.toInt64 (mo 3 j) <;> simp only [e1, e2, if_true, if_false]
  by_cases h11 : mo 0 j = 11
  · simp only [h11, if_true, if_false, x_let, e_setRange, s_Gs_lo, s_Gs_hi, show ¬ (11 : Int32) = 10 by decide]
    rfl
  by_cases h12 : mo 0 j = 12
  · by_cases hds : mo 1 j = mo 2 j
    · simp only [h12, hds, if_true, if_false, show ¬ (12 : Int32) = 10 by decide, show ¬ (12 : Int32) = 11 by decide, not_true, and_false, p_lift, p_va_id]
    · simp only [h12, hds, if_true, if_false, x_let, e_setRange, s_Gs_lo, s_Gs_hi, show ¬ (12 : Int32) = 10 by decide, show ¬ (12 : Int32) = 11 by decide, p_lift, p_va_self, p_va_va, not_false_eq_true, and_self]
      rfl
  · simp only [h10, h11, h12, if_false, p_lift, p_va_id, false_and]
theorem p_cpy {α : Type} (f g : Nat → α) (h : ∀ k, 12 ≤ k → f k = g k) : va_cpy f g 0 0 (Int32.toNatClampNeg 12) = f := by
  funext k
  simp only [va_cpy, show Int32.toNatClampNeg 12 = 12 from rfl]
  by_cases hk : k < 12
  · rw [if_pos (by omega)]; congr 1; omega
  · rw [if_neg (by omega), h k (by omega)]
def p_zero (gk : Nat → Nat → Int32) (gl gh : Nat → Nat → Int64) : Prop := ∀ j k, 12 ≤ k → gk j k = 0 ∧ gl j k = 0 ∧ gh j k = 0
theorem f_become (hz : p_zero gk gl gh) (a b : Nat) : s_Gs_become gk gl gh a b = (va_up gk a (gk b), va_up gl a (gl b), va_up gh a (gh b)) := by
  unfold s_Gs_become
  rw [p_cpy (gk b) (gk a) (fun k hk => by rw [(hz b k hk).1, (hz a k hk).1]), p_cpy (gl b) (gl a) (fun k hk => by rw [(hz b k hk).2.1, (hz a k hk).2.1]), p_cpy (gh b) (gh a) (fun k hk => by rw [(hz b k hk).2.2, (hz a k hk).2.2])]
theorem f_fork (hz : p_zero gk gl gh) (opn : Nat → Int32) (i : Int32) : s_Ck_fork (fun j k => mo k j) gk gl gh opn i.toNatClampNeg i =
    (if p_cO mo (gk 0) (gl 0) (gh 0) i.toNatClampNeg = 0 then (mo 4 i.toNatClampNeg, va_up gk 0 (p_tgt mo (gk 0) (gl 0) (gh 0) i.toNatClampNeg).1, va_up gl 0 (p_tgt mo (gk 0) (gl 0) (gh 0) i.toNatClampNeg).2.1, va_up gh 0 (p_tgt mo (gk 0) (gl 0) (gh 0) i.toNatClampNeg).2.2, opn)
     else if p_cT mo (gk 0) (gl 0) (gh 0) i.toNatClampNeg = 0 then (i + 1, va_up gk 0 (p_on mo (gk 0) (gl 0) (gh 0) i.toNatClampNeg).1, va_up gl 0 (p_on mo (gk 0) (gl 0) (gh 0) i.toNatClampNeg).2.1, va_up gh 0 (p_on mo (gk 0) (gl 0) (gh 0) i.toNatClampNeg).2.2, opn)
     else (i + 1, va_up (va_up gk (i.toNatClampNeg + 1) (p_tgt mo (gk 0) (gl 0) (gh 0) i.toNatClampNeg).1) 0 (p_on mo (gk 0) (gl 0) (gh 0) i.toNatClampNeg).1, va_up (va_up gl (i.toNatClampNeg + 1) (p_tgt mo (gk 0) (gl 0) (gh 0) i.toNatClampNeg).2.1) 0 (p_on mo (gk 0) (gl 0) (gh 0) i.toNatClampNeg).2.1, va_up (va_up gh (i.toNatClampNeg + 1) (p_tgt mo (gk 0) (gl 0) (gh 0) i.toNatClampNeg).2.2) 0 (p_on mo (gk 0) (gl 0) (gh 0) i.toNatClampNeg).2.2, upd opn i.toNatClampNeg 1)) := by
  unfold s_Ck_fork
  have n0 : (0 : Nat) ≠ i.toNatClampNeg + 1 := by omega
  simp only [x_let, f_cT, f_cO, f_tgt, f_on, f_become gk gl gh hz, p_lift, p_va_self, p_va_va, p_va_ne _ _ n0]
  by_cases h1 : p_cO mo (gk 0) (gl 0) (gh 0) i.toNatClampNeg = 0
  · simp only [h1, if_true]
  · by_cases h2 : p_cT mo (gk 0) (gl 0) (gh 0) i.toNatClampNeg = 0
    · simp only [h1, h2, if_true, if_false]
    · simp only [h1, h2, if_false]; rfl
end Fork
/-! where a way leads, what is known there stays well made -/
section Fork2
variable (mo : Nat → Nat → Int32) (i : Int32) (K : Nat → Int32) (Lo Hi : Nat → Int64)
theorem p_cT10 (h : mo 0 i.toNatClampNeg = 10) (k1 : K (mo 1 i.toNatClampNeg).toNatClampNeg = 1) : p_cT mo K Lo Hi i.toNatClampNeg = if Int32.toInt64 (mo 3 i.toNatClampNeg) < Lo (mo 1 i.toNatClampNeg).toNatClampNeg then 0 else if Hi (mo 1 i.toNatClampNeg).toNatClampNeg < Int32.toInt64 (mo 3 i.toNatClampNeg) then 0 else 1 := by
  simp [p_cT, s_Fk_leadsToTarget, s_Fk_isMaybe, s_Gs_kind, s_Gs_lo, s_Gs_hi, x_let, h, k1]
  rfl
theorem p_cO10 (h : mo 0 i.toNatClampNeg = 10) (k1 : K (mo 1 i.toNatClampNeg).toNatClampNeg = 1) : p_cO mo K Lo Hi i.toNatClampNeg = if Lo (mo 1 i.toNatClampNeg).toNatClampNeg = Int32.toInt64 (mo 3 i.toNatClampNeg) then (if Hi (mo 1 i.toNatClampNeg).toNatClampNeg = Int32.toInt64 (mo 3 i.toNatClampNeg) then 0 else 1) else 1 := by
  simp [p_cO, s_Fk_leadsOn, s_Fk_isMaybe, s_Gs_kind, s_Gs_lo, s_Gs_hi, x_let, h, k1]
  rfl
theorem p_cT10m (h : mo 0 i.toNatClampNeg = 10) (k1 : K (mo 1 i.toNatClampNeg).toNatClampNeg = 4) : p_cT mo K Lo Hi i.toNatClampNeg = 1 := by
  simp [p_cT, s_Fk_leadsToTarget, s_Fk_isMaybe, s_Gs_kind, x_let, h, k1]
theorem p_cO10m (h : mo 0 i.toNatClampNeg = 10) (k1 : K (mo 1 i.toNatClampNeg).toNatClampNeg = 4) : p_cO mo K Lo Hi i.toNatClampNeg = 1 := by
  simp [p_cO, s_Fk_leadsOn, s_Fk_isMaybe, s_Gs_kind, x_let, h, k1]
theorem p_cT11 (h : mo 0 i.toNatClampNeg = 11) : p_cT mo K Lo Hi i.toNatClampNeg = if Hi (mo 1 i.toNatClampNeg).toNatClampNeg ≤ Int32.toInt64 (mo 3 i.toNatClampNeg) then 0 else 1 := by
  simp [p_cT, s_Fk_leadsToTarget, s_Gs_hi, x_let, h]
  rfl
theorem p_cO11 (h : mo 0 i.toNatClampNeg = 11) : p_cO mo K Lo Hi i.toNatClampNeg = if Int32.toInt64 (mo 3 i.toNatClampNeg) < Lo (mo 1 i.toNatClampNeg).toNatClampNeg then 0 else 1 := by
  simp [p_cO, s_Fk_leadsOn, s_Gs_lo, x_let, h]
  rfl
theorem p_cT12 (h : mo 0 i.toNatClampNeg = 12) : p_cT mo K Lo Hi i.toNatClampNeg = if mo 1 i.toNatClampNeg = mo 2 i.toNatClampNeg then 0 else if Hi (mo 2 i.toNatClampNeg).toNatClampNeg ≤ Lo (mo 1 i.toNatClampNeg).toNatClampNeg then 0 else 1 := by
  simp [p_cT, s_Fk_leadsToTarget, s_Gs_lo, s_Gs_hi, x_let, h]
  rfl
theorem p_cO12 (h : mo 0 i.toNatClampNeg = 12) : p_cO mo K Lo Hi i.toNatClampNeg = if mo 1 i.toNatClampNeg = mo 2 i.toNatClampNeg then 1 else if Hi (mo 1 i.toNatClampNeg).toNatClampNeg < Lo (mo 2 i.toNatClampNeg).toNatClampNeg then 0 else 1 := by
  simp [p_cO, s_Fk_leadsOn, s_Gs_lo, s_Gs_hi, x_let, h]
  rfl
theorem p_cT13 (h : mo 0 i.toNatClampNeg = 13) : p_cT mo K Lo Hi i.toNatClampNeg = 1 := by
  simp [p_cT, s_Fk_leadsToTarget, h]
theorem p_cO13 (h : mo 0 i.toNatClampNeg = 13) : p_cO mo K Lo Hi i.toNatClampNeg = 0 := by
  simp [p_cO, s_Fk_leadsOn, h]
theorem p_num1 (n : Int32) : (Int32.toInt64 n + 1).toInt = n.toInt + 1 ∧ (Int32.toInt64 n - 1).toInt = n.toInt - 1 ∧ (Int32.toInt64 n).toInt = n.toInt := by
  have := p_r32 n
  have e1 : (1 : Int64).toInt = 1 := rfl
  refine ⟨?_, ?_, Int32.toInt_toInt64 n⟩
  · rw [p_add64 (by rw [Int32.toInt_toInt64, e1]; omega), Int32.toInt_toInt64, e1]
  · rw [p_sub64 (by rw [Int32.toInt_toInt64, e1]; omega), Int32.toInt_toInt64, e1]
/-- registers that differ lie apart -/
theorem p_apart {x y : Int32} (hx : 0 ≤ x.toInt ∧ x.toInt ≤ 5) (hy : 0 ≤ y.toInt ∧ y.toInt ≤ 5) (h : ¬ x = y) : x.toNatClampNeg ≠ y.toNatClampNeg := by
  intro e
  apply h
  apply Int32.toInt_inj.mp
  have e : x.toInt.toNat = y.toInt.toNat := e
  omega
theorem g_tgt (sz : Int32) (hwf : p_wf mo sz) (hg : p_gd K Lo Hi) (hl : p_let mo i sz K Lo Hi) (hj : ¬ (mo 0 i.toNatClampNeg < 10 ∨ 13 < mo 0 i.toNatClampNeg)) (hc : ¬ p_cT mo K Lo Hi i.toNatClampNeg = 0) : p_gdG (p_tgt mo K Lo Hi i.toNatClampNeg) := by
  obtain ⟨hop, hd, hs, ht⟩ := hwf.1 i.toNatClampNeg
  obtain ⟨l1, l2, l3, l4, l5, l6, l7, l8, l9⟩ := hl
  have hd6 := p_reg hd
  have hs6 := p_reg hs
  have KK := j_kinds mo i K Lo Hi hop l4 l5
  obtain ⟨n1, n2, n3⟩ := p_num1 (mo 3 i.toNatClampNeg)
  unfold p_tgt
  rcases p_op18 hop with h | h | h | h | h | h | h | h | h | h | h | h | h | h | h | h | h | h
  all_goals first | (exfalso; apply hj; rw [h]; decide) | skip
  · rw [if_pos h]; exact g_know hg (g_range (Int.le_refl _))
  · rw [if_neg (by rw [h]; decide), if_pos h]
    rw [p_cT11 mo i K Lo Hi h] at hc
    have k1 := p_gd1 hg (k := (mo 1 i.toNatClampNeg).toNatClampNeg) (by omega) (KK.2.2.2.1 (by simp [h]))
    refine g_know hg (g_range ?_)
    by_cases c1 : Hi (mo 1 i.toNatClampNeg).toNatClampNeg ≤ Int32.toInt64 (mo 3 i.toNatClampNeg)
    · rw [if_pos c1] at hc; exact absurd rfl hc
    · have c1 := Int64.lt_iff_toInt_lt.mp (Int64.not_le.mp c1)
      rw [n3] at c1
      by_cases c2 : Int32.toInt64 (mo 3 i.toNatClampNeg) + 1 < Lo (mo 1 i.toNatClampNeg).toNatClampNeg
      · rw [if_pos c2]; exact k1
      · rw [if_neg c2, n1]; omega
  · rw [if_neg (by rw [h]; decide), if_neg (by rw [h]; decide), if_pos h]
    rw [p_cT12 mo i K Lo Hi h] at hc
    have kk := KK.2.2.1 (Or.inr h)
    have kd := p_gd1 hg (k := (mo 1 i.toNatClampNeg).toNatClampNeg) (by omega) kk.1
    have ks := p_gd1 hg (k := (mo 2 i.toNatClampNeg).toNatClampNeg) (by omega) kk.2
    by_cases c0 : mo 1 i.toNatClampNeg = mo 2 i.toNatClampNeg
    · rw [if_pos c0] at hc; exact absurd rfl hc
    rw [if_neg c0] at hc
    by_cases c1 : Hi (mo 2 i.toNatClampNeg).toNatClampNeg ≤ Lo (mo 1 i.toNatClampNeg).toNatClampNeg
    · rw [if_pos c1] at hc; exact absurd rfl hc
    have c1 := Int64.lt_iff_toInt_lt.mp (Int64.not_le.mp c1)
    have r1 := p_r64 (Lo (mo 1 i.toNatClampNeg).toNatClampNeg)
    have r2 := p_r64 (Hi (mo 2 i.toNatClampNeg).toNatClampNeg)
    have e1 : (1 : Int64).toInt = 1 := rfl
    have m1 : (Hi (mo 2 i.toNatClampNeg).toNatClampNeg - 1).toInt = (Hi (mo 2 i.toNatClampNeg).toNatClampNeg).toInt - 1 := by rw [p_sub64 (by rw [e1]; omega), e1]
    have m2 : (Lo (mo 1 i.toNatClampNeg).toNatClampNeg + 1).toInt = (Lo (mo 1 i.toNatClampNeg).toNatClampNeg).toInt + 1 := by rw [p_add64 (by rw [e1]; omega), e1]
    have ap := p_apart hd hs c0
    simp only [x_let]
    refine g_know (g_know hg (g_range ?_)) (g_range ?_)
    · split
      · rw [m1]; omega
      · exact kd
    · simp only [s_Md_know, p_updL_ne _ _ ap.symm]
      split
      · exact ks
      · rw [m2]; omega
  · rw [if_neg (by rw [h]; decide), if_neg (by rw [h]; decide), if_neg (by rw [h]; decide)]; exact hg
theorem g_on (sz : Int32) (hwf : p_wf mo sz) (hg : p_gd K Lo Hi) (hl : p_let mo i sz K Lo Hi) (hj : ¬ (mo 0 i.toNatClampNeg < 10 ∨ 13 < mo 0 i.toNatClampNeg)) (hc : ¬ p_cO mo K Lo Hi i.toNatClampNeg = 0) : p_gdG (p_on mo K Lo Hi i.toNatClampNeg) := by
  obtain ⟨hop, hd, hs, ht⟩ := hwf.1 i.toNatClampNeg
  obtain ⟨l1, l2, l3, l4, l5, l6, l7, l8, l9⟩ := hl
  have hd6 := p_reg hd
  have hs6 := p_reg hs
  have KK := j_kinds mo i K Lo Hi hop l4 l5
  obtain ⟨n1, n2, n3⟩ := p_num1 (mo 3 i.toNatClampNeg)
  unfold p_on
  rcases p_op18 hop with h | h | h | h | h | h | h | h | h | h | h | h | h | h | h | h | h | h
  all_goals first | (exfalso; apply hj; rw [h]; decide) | skip
  · rw [if_pos h]
    rcases KK.2.2.2.2.1 h with k1 | ⟨k4, -⟩
    · rw [if_neg (by rw [k1]; decide)]
      rw [p_cO10 mo i K Lo Hi h k1] at hc
      have kd := p_gd1 hg (k := (mo 1 i.toNatClampNeg).toNatClampNeg) (by omega) k1
      refine g_know hg (g_range ?_)
      have q : ∀ x : Int64, x = Int32.toInt64 (mo 3 i.toNatClampNeg) ↔ x.toInt = (mo 3 i.toNatClampNeg).toInt := fun x => by rw [← Int64.toInt_inj, n3]
      by_cases c1 : Lo (mo 1 i.toNatClampNeg).toNatClampNeg = Int32.toInt64 (mo 3 i.toNatClampNeg)
      · rw [if_pos c1] at hc ⊢
        by_cases c2 : Hi (mo 1 i.toNatClampNeg).toNatClampNeg = Int32.toInt64 (mo 3 i.toNatClampNeg)
        · rw [if_pos c2] at hc; exact absurd rfl hc
        · rw [if_neg c2, n1]
          rw [q] at c1 c2; omega
      · rw [if_neg c1]
        by_cases c2 : Hi (mo 1 i.toNatClampNeg).toNatClampNeg = Int32.toInt64 (mo 3 i.toNatClampNeg)
        · rw [if_pos c2, n2]
          rw [q] at c1 c2; omega
        · rw [if_neg c2]; exact kd
    · rw [if_pos k4]
      exact g_know hg (Or.inr (Or.inr (Or.inl ⟨Or.inr rfl, by decide, by decide, by decide⟩)))
  · rw [if_neg (by rw [h]; decide), if_pos h]
    rw [p_cO11 mo i K Lo Hi h] at hc
    have k1 := p_gd1 hg (k := (mo 1 i.toNatClampNeg).toNatClampNeg) (by omega) (KK.2.2.2.1 (by simp [h]))
    refine g_know hg (g_range ?_)
    by_cases c1 : Int32.toInt64 (mo 3 i.toNatClampNeg) < Lo (mo 1 i.toNatClampNeg).toNatClampNeg
    · rw [if_pos c1] at hc; exact absurd rfl hc
    · have c1 := Int64.le_iff_toInt_le.mp (Int64.not_lt.mp c1)
      split
      · exact c1
      · exact k1
  · rw [if_neg (by rw [h]; decide), if_neg (by rw [h]; decide)]
    by_cases c0 : mo 1 i.toNatClampNeg = mo 2 i.toNatClampNeg
    · rw [if_neg (fun x => x.2 c0)]; exact hg
    rw [if_pos ⟨h, c0⟩]
    rw [p_cO12 mo i K Lo Hi h, if_neg c0] at hc
    have kk := KK.2.2.1 (Or.inr h)
    have kd := p_gd1 hg (k := (mo 1 i.toNatClampNeg).toNatClampNeg) (by omega) kk.1
    have ks := p_gd1 hg (k := (mo 2 i.toNatClampNeg).toNatClampNeg) (by omega) kk.2
    by_cases c1 : Hi (mo 1 i.toNatClampNeg).toNatClampNeg < Lo (mo 2 i.toNatClampNeg).toNatClampNeg
    · rw [if_pos c1] at hc; exact absurd rfl hc
    have c1 := Int64.le_iff_toInt_le.mp (Int64.not_lt.mp c1)
    have ap := p_apart hd hs c0
    simp only [x_let]
    refine g_know (g_know hg (g_range ?_)) (g_range ?_)
    · split
      · exact kd
      · exact c1
    · simp only [s_Md_know, p_updL_ne _ _ ap.symm]
      split
      · exact c1
      · exact ks
  · rw [p_cO13 mo i K Lo Hi h] at hc; exact absurd rfl hc
end Fork2
