/-! the judge's loops -/
/-- what may be known of a slot -/
def p_gd (K : Nat → Int32) (Lo Hi : Nat → Int64) : Prop := ∀ k, k < 12 → K k = 0 ∨ (K k = 1 ∧ (Lo k).toInt ≤ (Hi k).toInt) ∨ ((K k = 2 ∨ K k = 3) ∧ (-100 ≤ (Lo k).toInt ∧ (Lo k).toInt ≤ (Hi k).toInt ∧ (Hi k).toInt ≤ 100)) ∨ K k = 4
theorem p_gd_le1 {K : Nat → Int32} {Lo Hi : Nat → Int64} (h : p_gd K Lo Hi) {k : Nat} (hk : k < 12) : K k ≤ 1 ↔ K k = 0 ∨ K k = 1 := by
  rcases h k hk with e | ⟨e, -⟩ | ⟨e | e, -⟩ | e <;> rw [e] <;> decide
theorem p_gd_place {K : Nat → Int32} {Lo Hi : Nat → Int64} (h : p_gd K Lo Hi) {k : Nat} (hk : k < 12) (hp : K k = 2 ∨ K k = 3) : -100 ≤ (Lo k).toInt ∧ (Lo k).toInt ≤ (Hi k).toInt ∧ (Hi k).toInt ≤ 100 := by
  rcases h k hk with e | ⟨e, -⟩ | ⟨-, e⟩ | e
  · rcases hp with p | p <;> rw [e] at p <;> exact absurd p (by decide)
  · rcases hp with p | p <;> rw [e] at p <;> exact absurd p (by decide)
  · exact e
  · rcases hp with p | p <;> rw [e] at p <;> exact absurd p (by decide)
theorem p_add64 {x y : Int64} (h : -9223372036854775808 ≤ x.toInt + y.toInt ∧ x.toInt + y.toInt < 9223372036854775808) : (x + y).toInt = x.toInt + y.toInt := by
  rw [Int64.toInt_add, Int.bmod_def]; omega
theorem p_sub64 {x y : Int64} (h : -9223372036854775808 ≤ x.toInt - y.toInt ∧ x.toInt - y.toInt < 9223372036854775808) : (x - y).toInt = x.toInt - y.toInt := by
  rw [Int64.toInt_sub, Int.bmod_def]; omega
theorem p_r32 (x : Int32) : -2147483648 ≤ x.toInt ∧ x.toInt < 2147483648 := ⟨by have := Int32.minValue_le_toInt x; simpa using this, by have := Int32.toInt_lt x; omega⟩
theorem p_r64 (x : Int64) : -9223372036854775808 ≤ x.toInt ∧ x.toInt < 9223372036854775808 := ⟨by have := Int64.minValue_le_toInt x; simpa using this, by have := Int64.toInt_lt x; omega⟩
theorem p_off {x : Int64} (n : Int32) (h : -100 ≤ x.toInt ∧ x.toInt ≤ 100) : (x + Int32.toInt64 n).toInt = x.toInt + n.toInt := by
  have := p_r32 n
  rw [p_add64 (by rw [Int32.toInt_toInt64]; omega), Int32.toInt_toInt64]
section Loops
variable (mo : Nat → Nat → Int32) (gk : Nat → Nat → Int32) (gl gh : Nat → Nat → Int64) (i : Int32)
theorem p_so_class (x y : Int64) : ∀ n c : Nat, c + n ≤ 900 → 6 < c + n → (lp_Jg_storesOverNoRange_77 n gk i.toNatClampNeg x y (Int32.ofNat c) = 0 ∧ ∀ e : Nat, c ≤ e → e < 6 → x.toInt ≤ e → e ≤ y.toInt → gk 0 (6 + e) = 0 ∨ gk 0 (6 + e) = 1) ∨ (lp_Jg_storesOverNoRange_77 n gk i.toNatClampNeg x y (Int32.ofNat c) = 1 ∧ ∃ e : Nat, e < 6 ∧ x.toInt ≤ e ∧ e ≤ y.toInt ∧ ¬ (gk 0 (6 + e) = 0 ∨ gk 0 (6 + e) = 1)) := by
  intro n
  induction n with
  | zero => intro c h1 h2; exact Or.inl ⟨rfl, fun e h3 h4 => by omega⟩
  | succ n ih =>
    intro c h1 h2
    unfold lp_Jg_storesOverNoRange_77
    simp only [p_le6 (c := c) (by omega), p_c1, p_c6, s_Gs_isEmpty, s_Gs_isRange, x_let, p_cn (c := 6 + c) (by omega), Int64.lt_iff_toInt_lt, Int32.toInt_toInt64, p_c32 (c := c) (by omega)]
    by_cases h6 : 6 ≤ c
    · rw [if_pos h6]; exact Or.inl ⟨rfl, fun e h3 h4 => by omega⟩
    rw [if_neg h6]
    have J := ih (c + 1) (by omega) (by omega)
    have skip : (¬ (x.toInt ≤ c ∧ (c : Int) ≤ y.toInt) ∨ gk 0 (6 + c) = 0 ∨ gk 0 (6 + c) = 1) → ((lp_Jg_storesOverNoRange_77 n gk i.toNatClampNeg x y (Int32.ofNat (c + 1)) = 0 ∧ ∀ e : Nat, c ≤ e → e < 6 → x.toInt ≤ e → e ≤ y.toInt → gk 0 (6 + e) = 0 ∨ gk 0 (6 + e) = 1) ∨ (lp_Jg_storesOverNoRange_77 n gk i.toNatClampNeg x y (Int32.ofNat (c + 1)) = 1 ∧ ∃ e : Nat, e < 6 ∧ x.toInt ≤ e ∧ e ≤ y.toInt ∧ ¬ (gk 0 (6 + e) = 0 ∨ gk 0 (6 + e) = 1))) := by
      intro hs
      rcases J with ⟨j1, j2⟩ | ⟨j1, j2⟩
      · refine Or.inl ⟨j1, fun e h3 h4 h5 h7 => ?_⟩
        by_cases he : e = c
        · subst he
          rcases hs with hs | hs
          · omega
          · exact hs
        · exact j2 e (by omega) h4 h5 h7
      · exact Or.inr ⟨j1, j2⟩
    by_cases h7 : (c : Int) < x.toInt
    · rw [if_pos h7]; exact skip (Or.inl (by omega))
    rw [if_neg h7]
    by_cases h8 : y.toInt < (c : Int)
    · rw [if_pos h8]; exact skip (Or.inl (by omega))
    rw [if_neg h8]
    by_cases h9 : gk 0 (6 + c) = 0
    · simp only [h9, if_true, show ¬ (1 : Int32) = 0 by decide, if_false]
      exact skip (Or.inr (Or.inl h9))
    by_cases h10 : gk 0 (6 + c) = 1
    · simp only [h10, show ¬ (1 : Int32) = 0 by decide, if_true, if_false]
      exact skip (Or.inr (Or.inr h10))
    · simp only [h9, h10, if_true, if_false]
      exact Or.inr ⟨trivial, c, by omega, by omega, by omega, fun h => h.elim h9 h10⟩
theorem p_so_model (K : Nat → Int32) (Lo Hi : Nat → Int64) (hg : p_gd K Lo Hi) (d : Int32) (y : Int64) (hy : Hi d.toNatClampNeg + Int32.toInt64 (mo 3 i.toNatClampNeg) = y) (hyb : y.toInt < 9000000000000) : ∀ (n : Nat) (x : Int64), -9000000000000 ≤ x.toInt → y.toInt < x.toInt + n → (lp_Md_wrongStore_61 n mo K Hi i d x = 0 ∧ ∀ e : Nat, e < 6 → x.toInt ≤ e → e ≤ y.toInt → K (6 + e) = 0 ∨ K (6 + e) = 1) ∨ (lp_Md_wrongStore_61 n mo K Hi i d x = 1 ∧ ∃ e : Nat, e < 6 ∧ x.toInt ≤ e ∧ e ≤ y.toInt ∧ ¬ (K (6 + e) = 0 ∨ K (6 + e) = 1)) := by
  intro n
  induction n with
  | zero => intro x h1 h2; exact Or.inl ⟨rfl, fun e h3 h4 h5 => by omega⟩
  | succ n ih =>
    intro x h1 h2
    unfold lp_Md_wrongStore_61
    simp only [x_let, hy, Int64.lt_iff_toInt_lt]
    by_cases h3 : y.toInt < x.toInt
    · rw [if_pos h3]; exact Or.inl ⟨rfl, fun e h4 h5 h6 => by omega⟩
    rw [if_neg h3]
    have e1 : (x + 1).toInt = x.toInt + 1 := by rw [p_add64 (by rw [show (1 : Int64).toInt = 1 from rfl]; omega)]; rfl
    have J := ih (x + 1) (by omega) (by omega)
    rw [e1] at J
    have skip : (∀ e : Nat, e < 6 → x.toInt = e → K (6 + e) = 0 ∨ K (6 + e) = 1) → ((lp_Md_wrongStore_61 n mo K Hi i d (x + 1) = 0 ∧ ∀ e : Nat, e < 6 → x.toInt ≤ e → e ≤ y.toInt → K (6 + e) = 0 ∨ K (6 + e) = 1) ∨ (lp_Md_wrongStore_61 n mo K Hi i d (x + 1) = 1 ∧ ∃ e : Nat, e < 6 ∧ x.toInt ≤ e ∧ e ≤ y.toInt ∧ ¬ (K (6 + e) = 0 ∨ K (6 + e) = 1))) := by
      intro hs
      rcases J with ⟨j1, j2⟩ | ⟨j1, e, j2, j3, j4, j5⟩
      · refine Or.inl ⟨j1, fun e h4 h5 h6 => ?_⟩
        by_cases he : x.toInt = e
        · exact hs e h4 he
        · exact j2 e h4 (by omega) h6
      · exact Or.inr ⟨j1, e, j2, by omega, j4, j5⟩
    simp only [s_Md_in, Int64.lt_iff_toInt_lt, show (0 : Int64).toInt = 0 from rfl, show (5 : Int64).toInt = 5 from rfl]
    by_cases h4 : x.toInt < 0
    · simp only [h4, if_true]; exact skip (fun e h5 h6 => by omega)
    by_cases h5 : 5 < x.toInt
    · simp only [h4, h5, if_true, if_false]; exact skip (fun e h5 h6 => by omega)
    simp only [h4, h5, if_false, show ¬ (1 : Int32) = 0 by decide]
    obtain ⟨c, hc⟩ : ∃ c : Nat, x.toInt = (c : Int) := ⟨x.toInt.toNat, by omega⟩
    rw [p_toI hc (by omega), p_c6, p_cn (by omega)]
    have hle := p_gd_le1 hg (k := 6 + c) (by omega)
    by_cases h6 : K (6 + c) = 0 ∨ K (6 + c) = 1
    · rw [if_pos (hle.mpr h6)]
      exact skip (fun e h7 h8 => by have : e = c := by omega
                                    rw [this]; exact h6)
    · rw [if_neg (fun h => h6 (hle.mp h))]
      exact Or.inr ⟨rfl, c, by omega, by omega, by omega, h6⟩
theorem p_so_ok (K : Nat → Int32) (Hi : Nat → Int64) (d : Int32) (hd : vp_in d 12) (h24 : vp_in i 24) (y : Int64) (hy : Hi d.toNatClampNeg + Int32.toInt64 (mo 3 i.toNatClampNeg) = y) (hyb : y.toInt < 9000000000000) : ∀ (n : Nat) (x : Int64), -9000000000000 ≤ x.toInt → y.toInt + 1 < x.toInt + n → (∀ e : Nat, e < 6 → True) → x.toInt ≤ y.toInt + 1 → lp_ok_Md_wrongStore_61 n mo K Hi i d x := by
  intro n
  induction n with
  | zero => intro x h1 h2 _ h3; omega
  | succ n ih =>
    intro x h1 h2 _ h3
    unfold lp_ok_Md_wrongStore_61
    simp only [x_let, hy, Int64.lt_iff_toInt_lt]
    refine ⟨hd, h24, ?_⟩
    by_cases h4 : y.toInt < x.toInt
    · rw [if_pos h4]; trivial
    rw [if_neg h4]
    have e1 : (x + 1).toInt = x.toInt + 1 := by rw [p_add64 (by rw [show (1 : Int64).toInt = 1 from rfl]; omega)]; rfl
    have J := ih (x + 1) (by omega) (by omega) (fun _ _ => trivial) (by omega)
    simp only [s_Md_in, Int64.lt_iff_toInt_lt, show (0 : Int64).toInt = 0 from rfl, show (5 : Int64).toInt = 5 from rfl]
    by_cases h4 : x.toInt < 0
    · simp only [h4, if_true]; exact J
    by_cases h5 : 5 < x.toInt
    · simp only [h4, h5, if_true, if_false]; exact J
    simp only [h4, h5, if_false, show ¬ (1 : Int32) = 0 by decide]
    obtain ⟨c, hc⟩ : ∃ c : Nat, x.toInt = (c : Int) := ⟨x.toInt.toNat, by omega⟩
    rw [p_toI hc (by omega), p_c6]
    refine ⟨p_vinc (by omega) (by omega), ?_⟩
    split
    · exact J
    · trivial
/-- a cell fits a load of the cells from x to y -/
def p_fit (K : Nat → Int32) (x y : Int64) (e : Nat) : Prop := ¬ K (6 + e) = 0 ∧ (x = y ∨ K (6 + e) = 1)
theorem p_lu_class (x y : Int64) : ∀ n c : Nat, c + n ≤ 900 → 6 < c + n → (lp_Jg_loadsUnfitCell_66 n gk i.toNatClampNeg x y (Int32.ofNat c) = 0 ∧ ∀ e : Nat, c ≤ e → e < 6 → x.toInt ≤ e → e ≤ y.toInt → p_fit (gk 0) x y e) ∨ (lp_Jg_loadsUnfitCell_66 n gk i.toNatClampNeg x y (Int32.ofNat c) = 1 ∧ ∃ e : Nat, e < 6 ∧ x.toInt ≤ e ∧ e ≤ y.toInt ∧ ¬ p_fit (gk 0) x y e) := by
  intro n
  induction n with
  | zero => intro c h1 h2; exact Or.inl ⟨rfl, fun e h3 h4 => by omega⟩
  | succ n ih =>
    intro c h1 h2
    unfold lp_Jg_loadsUnfitCell_66
    simp only [p_le6 (c := c) (by omega), p_c1, p_c6, s_Gs_isEmpty, s_Gs_isRange, x_let, p_cn (c := 6 + c) (by omega), Int64.lt_iff_toInt_lt, Int32.toInt_toInt64, p_c32 (c := c) (by omega), show ¬ (1 : Int32) = 0 by decide, if_true, if_false]
    by_cases h6 : 6 ≤ c
    · rw [if_pos h6]; exact Or.inl ⟨rfl, fun e h3 h4 => by omega⟩
    rw [if_neg h6]
    have J := ih (c + 1) (by omega) (by omega)
    have skip : (¬ (x.toInt ≤ c ∧ (c : Int) ≤ y.toInt) ∨ p_fit (gk 0) x y c) → ((lp_Jg_loadsUnfitCell_66 n gk i.toNatClampNeg x y (Int32.ofNat (c + 1)) = 0 ∧ ∀ e : Nat, c ≤ e → e < 6 → x.toInt ≤ e → e ≤ y.toInt → p_fit (gk 0) x y e) ∨ (lp_Jg_loadsUnfitCell_66 n gk i.toNatClampNeg x y (Int32.ofNat (c + 1)) = 1 ∧ ∃ e : Nat, e < 6 ∧ x.toInt ≤ e ∧ e ≤ y.toInt ∧ ¬ p_fit (gk 0) x y e)) := by
      intro hs
      rcases J with ⟨j1, j2⟩ | ⟨j1, j2⟩
      · refine Or.inl ⟨j1, fun e h3 h4 h5 h7 => ?_⟩
        by_cases he : e = c
        · subst he
          rcases hs with hs | hs
          · omega
          · exact hs
        · exact j2 e (by omega) h4 h5 h7
      · exact Or.inr ⟨j1, j2⟩
    by_cases hr : x.toInt ≤ c ∧ (c : Int) ≤ y.toInt
    · simp only [show ¬ (c : Int) < x.toInt by omega, show ¬ y.toInt < (c : Int) by omega, if_false]
      by_cases hxy : x = y
      · rw [if_pos hxy]
        by_cases h0 : gk 0 (6 + c) = 0
        · rw [if_neg (by rw [if_pos h0]; decide)]
          exact Or.inr ⟨rfl, c, by omega, hr.1, hr.2, fun h => h.1 h0⟩
        · rw [if_pos (by rw [if_neg h0])]
          exact skip (Or.inr ⟨h0, Or.inl hxy⟩)
      · rw [if_neg hxy]
        by_cases h0 : gk 0 (6 + c) = 1
        · rw [if_neg (by rw [if_pos h0]; decide)]
          exact skip (Or.inr ⟨by rw [h0]; decide, Or.inr h0⟩)
        · rw [if_pos (by rw [if_neg h0])]
          exact Or.inr ⟨rfl, c, by omega, hr.1, hr.2, fun h => h.2.elim hxy h0⟩
    · have S := skip (Or.inl hr)
      by_cases h7 : (c : Int) < x.toInt
      · simp only [h7, if_true, ite_self]; exact S
      · simp only [h7, show y.toInt < (c : Int) by omega, if_true, if_false, ite_self]; exact S
theorem p_lu_model (K : Nat → Int32) (Lo Hi : Nat → Int64) (s : Int32) (x0 y : Int64) (hy : Hi s.toNatClampNeg + Int32.toInt64 (mo 3 i.toNatClampNeg) = y) (hxy : Lo s.toNatClampNeg = Hi s.toNatClampNeg ↔ x0 = y) (hl : y.toInt ≤ 5) (hs : vp_in s 12) (h24 : vp_in i 24) : ∀ (n : Nat) (x : Int64), x0.toInt ≤ x.toInt → 0 ≤ x.toInt → x.toInt ≤ y.toInt + 1 → y.toInt + 1 < x.toInt + n → lp_ok_Md_wrongCells_45 n mo K Lo Hi i s x ∧ ((lp_Md_wrongCells_45 n mo K Lo Hi i s x = 0 ∧ ∀ e : Nat, e < 6 → x.toInt ≤ e → e ≤ y.toInt → p_fit K x0 y e) ∨ (lp_Md_wrongCells_45 n mo K Lo Hi i s x = 1 ∧ ∃ e : Nat, e < 6 ∧ x0.toInt ≤ e ∧ e ≤ y.toInt ∧ ¬ p_fit K x0 y e)) := by
  intro n
  induction n with
  | zero => intro x h0 h1 h2 h3; omega
  | succ n ih =>
    intro x h0 h1 h2 h3
    unfold lp_Md_wrongCells_45 lp_ok_Md_wrongCells_45
    simp only [hy, Int64.lt_iff_toInt_lt]
    by_cases h4 : y.toInt < x.toInt
    · simp only [h4, if_true]
      exact ⟨⟨hs, h24, trivial⟩, Or.inl ⟨trivial, fun e h5 h6 h7 => by omega⟩⟩
    simp only [h4, if_false]
    have e1 : (x + 1).toInt = x.toInt + 1 := by rw [p_add64 (by rw [show (1 : Int64).toInt = 1 from rfl]; omega)]; rfl
    obtain ⟨Jok, J⟩ := ih (x + 1) (by omega) (by omega) (by omega) (by omega)
    rw [e1] at J
    obtain ⟨c, hc⟩ : ∃ c : Nat, x.toInt = (c : Int) := ⟨x.toInt.toNat, by omega⟩
    rw [p_toI hc (by omega), p_c6]
    simp only [p_cn (c := 6 + c) (by omega)]
    have hv : vp_in (Int32.ofNat (6 + c)) 12 := p_vinc (by omega) (by omega)
    have skip : p_fit K x0 y c → ((lp_Md_wrongCells_45 n mo K Lo Hi i s (x + 1) = 0 ∧ ∀ e : Nat, e < 6 → x.toInt ≤ e → e ≤ y.toInt → p_fit K x0 y e) ∨ (lp_Md_wrongCells_45 n mo K Lo Hi i s (x + 1) = 1 ∧ ∃ e : Nat, e < 6 ∧ x0.toInt ≤ e ∧ e ≤ y.toInt ∧ ¬ p_fit K x0 y e)) := by
      intro hs
      rcases J with ⟨j1, j2⟩ | ⟨j1, j2⟩
      · refine Or.inl ⟨j1, fun e h4 h5 h6 => ?_⟩
        by_cases he : e = c
        · rw [he]; exact hs
        · exact j2 e h4 (by omega) h6
      · exact Or.inr ⟨j1, j2⟩
    by_cases k0 : K (6 + c) = 0
    · simp only [k0, if_true]
      exact ⟨⟨hs, h24, hv, trivial⟩, Or.inr ⟨trivial, c, by omega, by omega, by omega, fun h => h.1 k0⟩⟩
    by_cases kxy : Lo s.toNatClampNeg = Hi s.toNatClampNeg
    · simp only [k0, kxy, if_true, if_false]
      exact ⟨⟨hs, h24, hv, Jok⟩, skip ⟨k0, Or.inl (hxy.mp kxy)⟩⟩
    by_cases k1 : K (6 + c) = 1
    · simp only [k0, kxy, k1, if_true, if_false]
      exact ⟨⟨hs, h24, hv, by simpa using Jok⟩, by simpa using skip ⟨k0, Or.inr k1⟩⟩
    · simp only [k0, kxy, k1, if_false]
      exact ⟨⟨hs, h24, hv, trivial⟩, Or.inr ⟨trivial, c, by omega, by omega, by omega, fun h => h.2.elim (fun h => kxy (hxy.mpr h)) k1⟩⟩
end Loops
