/-! the judge -/
theorem p_op18 {x : Int32} (h : 0 ≤ x.toInt ∧ x.toInt ≤ 17) : x = 0 ∨ x = 1 ∨ x = 2 ∨ x = 3 ∨ x = 4 ∨ x = 5 ∨ x = 6 ∨ x = 7 ∨ x = 8 ∨ x = 9 ∨ x = 10 ∨ x = 11 ∨ x = 12 ∨ x = 13 ∨ x = 14 ∨ x = 15 ∨ x = 16 ∨ x = 17 := by
  have e : ∀ k : Nat, k ≤ 17 → x.toInt = (k : Int) → x = Int32.ofNat k := fun k hk hx => Int32.toInt_inj.mp (by rw [hx, p_c32 (by omega)])
  have h2 : x.toInt = ((0 : Nat) : Int) ∨ x.toInt = ((1 : Nat) : Int) ∨ x.toInt = ((2 : Nat) : Int) ∨ x.toInt = ((3 : Nat) : Int) ∨ x.toInt = ((4 : Nat) : Int) ∨ x.toInt = ((5 : Nat) : Int) ∨ x.toInt = ((6 : Nat) : Int) ∨ x.toInt = ((7 : Nat) : Int) ∨ x.toInt = ((8 : Nat) : Int) ∨ x.toInt = ((9 : Nat) : Int) ∨ x.toInt = ((10 : Nat) : Int) ∨ x.toInt = ((11 : Nat) : Int) ∨ x.toInt = ((12 : Nat) : Int) ∨ x.toInt = ((13 : Nat) : Int) ∨ x.toInt = ((14 : Nat) : Int) ∨ x.toInt = ((15 : Nat) : Int) ∨ x.toInt = ((16 : Nat) : Int) ∨ x.toInt = ((17 : Nat) : Int) := by omega
  rcases h2 with h | h | h | h | h | h | h | h | h | h | h | h | h | h | h | h | h | h
  all_goals (have e2 := e _ (by omega) h; subst e2; decide)
section Judge
variable (mo : Nat → Nat → Int32) (gk : Nat → Nat → Int32) (gl gh : Nat → Nat → Int64) (i : Int32)
theorem j_empties (hop : 0 ≤ (mo 0 i.toNatClampNeg).toInt ∧ (mo 0 i.toNatClampNeg).toInt ≤ 17) : s_Jg_usesEmpty (fun j k => mo k j) gk i.toNatClampNeg = s_Md_empties mo (gk 0) i := by
  unfold s_Jg_usesEmpty s_Md_empties
  simp only [s_St_usesD, s_St_usesS, s_Gs_isEmpty, x_let, s_Md_usesD, s_Md_usesS, bk_Md_empties_104, bk_Md_empties_113, bk_Md_empties_35]
  rcases p_op18 hop with h | h | h | h | h | h | h | h | h | h | h | h | h | h | h | h | h | h
  all_goals simp [h]
  all_goals (repeat' split)
  all_goals first | rfl | (exfalso; simp_all; done) | simp_all
theorem j_number (hop : 0 ≤ (mo 0 i.toNatClampNeg).toInt ∧ (mo 0 i.toNatClampNeg).toInt ≤ 17) : s_Jg_hasBadNumber (fun j k => mo k j) i.toNatClampNeg = s_Md_wrongNumber mo i := by
  unfold s_Jg_hasBadNumber s_Md_wrongNumber bk_Md_wrongNumber_30 bk_Md_wrongNumber_45
  simp only [x_let, p_in64, Int32.lt_iff_toInt_lt, Int32.le_iff_toInt_le, show (0 : Int64).toInt = 0 from rfl, show (63 : Int64).toInt = 63 from rfl, show (2 : Int64).toInt = 2 from rfl, show (0 : Int32).toInt = 0 from rfl, show (63 : Int32).toInt = 63 from rfl, show (2 : Int32).toInt = 2 from rfl]
  rcases p_op18 hop with h | h | h | h | h | h | h | h | h | h | h | h | h | h | h | h | h | h
  all_goals simp [h]
  all_goals (repeat' split)
  all_goals first | rfl | omega | (exfalso; omega) | (exfalso; simp_all; done) | (exfalso; simp_all; omega)
theorem p_num012 {x : Int32} (h : 0 ≤ x.toInt ∧ x.toInt ≤ 2) : x = 0 ∨ x = 1 ∨ x = 2 := by
  rcases p_op18 (x := x) (by omega) with h1 | h1 | h1 | h1 | h1 | h1 | h1 | h1 | h1 | h1 | h1 | h1 | h1 | h1 | h1 | h1 | h1 | h1
  all_goals first | (exact Or.inl h1) | (exact Or.inr (Or.inl h1)) | (exact Or.inr (Or.inr h1)) | (exfalso; subst h1; revert h; decide)
/-- what the numbers' test leaves -/
theorem j_number0 (h : s_Md_wrongNumber mo i = 0) : (mo 0 i.toNatClampNeg = 7 → 0 ≤ (mo 3 i.toNatClampNeg).toInt ∧ (mo 3 i.toNatClampNeg).toInt ≤ 63) ∧ (mo 0 i.toNatClampNeg = 8 → ¬ mo 3 i.toNatClampNeg = 0) ∧ (mo 0 i.toNatClampNeg = 16 → mo 3 i.toNatClampNeg = 0 ∨ mo 3 i.toNatClampNeg = 1 ∨ mo 3 i.toNatClampNeg = 2) := by
  revert h
  unfold s_Md_wrongNumber bk_Md_wrongNumber_30 bk_Md_wrongNumber_45
  simp only [x_let, p_in64, show (0 : Int64).toInt = 0 from rfl, show (63 : Int64).toInt = 63 from rfl, show (2 : Int64).toInt = 2 from rfl]
  intro h
  refine ⟨fun h7 => ?_, fun h8 => ?_, fun h16 => ?_⟩
  · simp [h7] at h; omega
  · simp [h8] at h; exact h
  · simp [h16] at h; exact p_num012 h
theorem j_kind (hop : 0 ≤ (mo 0 i.toNatClampNeg).toInt ∧ (mo 0 i.toNatClampNeg).toInt ≤ 17) (hn : s_Md_wrongNumber mo i = 0) : s_Jg_hasWrongKind (fun j k => mo k j) gk gl gh i.toNatClampNeg = s_Md_wrongKind mo (gk 0) (gl 0) (gh 0) i := by
  have hn16 := (j_number0 mo i hn).2.2
  unfold s_Jg_hasWrongKind s_Md_wrongKind
  simp only [s_Jg_isRangeOrPlace, s_Jg_isMaybeMissing, s_Jg_callsWithWrongKind, s_Jg_storesWrongKind, s_Jg_isOneCellOfFrame, s_Gs_isRange, s_Gs_isPlace, s_Gs_kind, s_Gs_lo, s_Gs_hi, s_St_usesD, s_St_usesS, x_let, bk_Md_wrongKind_87, bk_Md_wrongKind_115, bk_Md_wrongKind_266, bk_Md_wrongKind_324, s_Md_place]
  by_cases h16 : mo 0 i.toNatClampNeg = 16
  · rcases hn16 h16 with h3 | h3 | h3
    all_goals simp [h16, h3]
    all_goals (repeat' split)
    all_goals first | rfl | (exfalso; simp_all; done) | simp_all
  by_cases hl : gl 0 (mo 1 i.toNatClampNeg).toNatClampNeg = gh 0 (mo 1 i.toNatClampNeg).toNatClampNeg
  all_goals rcases p_op18 hop with h | h | h | h | h | h | h | h | h | h | h | h | h | h | h | h | h | h
  all_goals first | (exact absurd h h16) | simp [h, hl]
  all_goals (repeat' split)
  all_goals first | rfl | (exfalso; simp_all; done) | simp_all
end Judge
