/-! wraps -/
theorem p_neg_msb (x : Int64) : (0 ≤ x) ↔ x.toBitVec.msb = false := by
  rw [Int64.le_iff_toInt_le, show (0 : Int64).toInt = 0 from rfl, BitVec.msb_eq_toInt, decide_eq_false_iff_not]
  show 0 ≤ x.toInt ↔ ¬ x.toInt < 0
  omega
theorem p_msb (x : Int64) : x.toBitVec.msb = decide (x.toInt < 0) := by
  rw [BitVec.msb_eq_toInt]; rfl
theorem p_ovf (a b : Int64) : 0 ≤ ((a ^^^ (a + b)) &&& (b ^^^ (a + b))) ↔ (-9223372036854775808 ≤ a.toInt + b.toInt ∧ a.toInt + b.toInt < 9223372036854775808) := by
  have e : (((a ^^^ (a + b)) &&& (b ^^^ (a + b))).toBitVec).msb = ((a.toBitVec.msb ^^ (a + b).toBitVec.msb) && (b.toBitVec.msb ^^ (a + b).toBitVec.msb)) := by
    rw [Int64.toBitVec_and, BitVec.msb_and, Int64.toBitVec_xor, Int64.toBitVec_xor, BitVec.msb_xor, BitVec.msb_xor]
  rw [p_neg_msb, e, p_msb, p_msb, p_msb]
  have ha := p_r64 a
  have hb := p_r64 b
  have hs : (a + b).toInt = (a.toInt + b.toInt).bmod (2 ^ 64) := Int64.toInt_add a b
  rw [Int.bmod_def] at hs
  by_cases h1 : a.toInt < 0 <;> by_cases h2 : b.toInt < 0 <;> by_cases h3 : (a + b).toInt < 0 <;> simp only [h1, h2, h3, decide_true, decide_false, Bool.xor_true, Bool.xor_false, Bool.not_true, Bool.not_false, Bool.and_true, Bool.and_false, Bool.false_and, true_iff, false_iff, Bool.true_eq_false] <;> omega
theorem p_ovf0 (a b : Int64) : s_Md_overflows a b = if -9223372036854775808 ≤ a.toInt + b.toInt ∧ a.toInt + b.toInt < 9223372036854775808 then 0 else 1 := by
  unfold s_Md_overflows
  by_cases h : 0 ≤ ((a ^^^ (a + b)) &&& (b ^^^ (a + b)))
  · rw [if_pos h, if_pos ((p_ovf a b).mp h)]
  · rw [if_neg h, if_neg (fun h2 => h ((p_ovf a b).mpr h2))]
theorem p_dovf (a b : Int64) : 0 ≤ ((a ^^^ b) &&& (a ^^^ (a - b))) ↔ (-9223372036854775808 ≤ a.toInt - b.toInt ∧ a.toInt - b.toInt < 9223372036854775808) := by
  have e : (((a ^^^ b) &&& (a ^^^ (a - b))).toBitVec).msb = ((a.toBitVec.msb ^^ b.toBitVec.msb) && (a.toBitVec.msb ^^ (a - b).toBitVec.msb)) := by
    rw [Int64.toBitVec_and, BitVec.msb_and, Int64.toBitVec_xor, Int64.toBitVec_xor, BitVec.msb_xor, BitVec.msb_xor]
  rw [p_neg_msb, e, p_msb, p_msb, p_msb]
  have ha := p_r64 a
  have hb := p_r64 b
  have hs : (a - b).toInt = (a.toInt - b.toInt).bmod (2 ^ 64) := Int64.toInt_sub a b
  rw [Int.bmod_def] at hs
  by_cases h1 : a.toInt < 0 <;> by_cases h2 : b.toInt < 0 <;> by_cases h3 : (a - b).toInt < 0 <;> simp only [h1, h2, h3, decide_true, decide_false, Bool.xor_true, Bool.xor_false, Bool.not_true, Bool.not_false, Bool.and_true, Bool.and_false, Bool.false_and, true_iff, false_iff, Bool.true_eq_false] <;> omega
section Judge2
variable (mo : Nat → Nat → Int32) (gk : Nat → Nat → Int32) (gl gh : Nat → Nat → Int64) (i : Int32)
theorem p_reg {x : Int32} (h : 0 ≤ x.toInt ∧ x.toInt ≤ 5) : x.toNatClampNeg < 6 := by
  show x.toInt.toNat < 6; omega
/-- what is left when a store's kinds are right -/
theorem j_kind15 (K : Nat → Int32) (Lo Hi : Nat → Int64) (h15 : mo 0 i.toNatClampNeg = 15) (hk : s_Md_wrongKind mo K Lo Hi i = 0) : (K (mo 1 i.toNatClampNeg).toNatClampNeg = 3 ∧ K (mo 2 i.toNatClampNeg).toNatClampNeg = 1) ∨ (K (mo 1 i.toNatClampNeg).toNatClampNeg = 2 ∧ (Lo (mo 1 i.toNatClampNeg).toNatClampNeg = Hi (mo 1 i.toNatClampNeg).toNatClampNeg ∨ K (mo 2 i.toNatClampNeg).toNatClampNeg = 1)) := by
  unfold s_Md_wrongKind at hk
  simp only [s_Md_place, bk_Md_wrongKind_266, x_let] at hk
  simp [h15] at hk
  by_cases h2 : K (mo 1 i.toNatClampNeg).toNatClampNeg = 2
  · simp [h2] at hk; exact Or.inr ⟨h2, by by_cases hl : Lo (mo 1 i.toNatClampNeg).toNatClampNeg = Hi (mo 1 i.toNatClampNeg).toNatClampNeg; exact Or.inl hl; exact Or.inr (hk hl)⟩
  · by_cases h3 : K (mo 1 i.toNatClampNeg).toNatClampNeg = 3
    · simp [h3] at hk; exact Or.inl ⟨h3, hk⟩
    · simp [h2, h3] at hk
theorem j_kind14 (K : Nat → Int32) (Lo Hi : Nat → Int64) (h14 : mo 0 i.toNatClampNeg = 14) (hk : s_Md_wrongKind mo K Lo Hi i = 0) : K (mo 2 i.toNatClampNeg).toNatClampNeg = 3 ∨ K (mo 2 i.toNatClampNeg).toNatClampNeg = 2 := by
  unfold s_Md_wrongKind at hk
  simp only [s_Md_place, x_let] at hk
  simp [h14] at hk
  by_cases h2 : K (mo 2 i.toNatClampNeg).toNatClampNeg = 2
  · exact Or.inr h2
  · by_cases h3 : K (mo 2 i.toNatClampNeg).toNatClampNeg = 3
    · exact Or.inl h3
    · simp [h2, h3] at hk
theorem j_store (hd : 0 ≤ (mo 1 i.toNatClampNeg).toInt ∧ (mo 1 i.toNatClampNeg).toInt ≤ 5) (h24 : vp_in i 24) (hg : p_gd (gk 0) (gl 0) (gh 0)) (hk : s_Md_wrongKind mo (gk 0) (gl 0) (gh 0) i = 0) : s_Jg_storesOverNoRange (fun j k => mo k j) gk gl gh i.toNatClampNeg = s_Md_wrongStore mo (gk 0) (gl 0) (gh 0) i ∧ k_ok_Md_wrongStore mo (gk 0) (gl 0) (gh 0) i ∧ (s_Md_wrongStore mo (gk 0) (gl 0) (gh 0) i = 0 → mo 0 i.toNatClampNeg = 15 → gk 0 (mo 1 i.toNatClampNeg).toNatClampNeg = 2 → ¬ gl 0 (mo 1 i.toNatClampNeg).toNatClampNeg = gh 0 (mo 1 i.toNatClampNeg).toNatClampNeg → ∀ e : Nat, e < 6 → (gl 0 (mo 1 i.toNatClampNeg).toNatClampNeg + Int32.toInt64 (mo 3 i.toNatClampNeg)).toInt ≤ e → e ≤ (gh 0 (mo 1 i.toNatClampNeg).toNatClampNeg + Int32.toInt64 (mo 3 i.toNatClampNeg)).toInt → gk 0 (6 + e) = 0 ∨ gk 0 (6 + e) = 1) := by
  have hd6 := p_reg hd
  have hd12 : vp_in (mo 1 i.toNatClampNeg) 12 := vp_in_iff.mpr (by omega)
  unfold s_Jg_storesOverNoRange s_Md_wrongStore k_ok_Md_wrongStore
  simp only [x_let, s_Gs_kind, s_Jg_isOneCellOfFrame, s_Gs_lo, s_Gs_hi]
  by_cases h15 : mo 0 i.toNatClampNeg = 15
  · rcases j_kind15 mo i _ _ _ h15 hk with ⟨h3, -⟩ | ⟨h2, -⟩
    · simp [h15, h3, h24, hd12]
    · by_cases hl : gl 0 (mo 1 i.toNatClampNeg).toNatClampNeg = gh 0 (mo 1 i.toNatClampNeg).toNatClampNeg
      · simp [h15, h2, hl, h24, hd12]
      · simp only [h15, h2, hl, if_true, if_false, show ¬ (2 : Int32) = 3 by decide]
        obtain ⟨b1, b2, b3⟩ := p_gd_place hg (by omega) (Or.inl h2)
        have ex := p_off (mo 3 i.toNatClampNeg) (x := gl 0 (mo 1 i.toNatClampNeg).toNatClampNeg) (by omega)
        have ey := p_off (mo 3 i.toNatClampNeg) (x := gh 0 (mo 1 i.toNatClampNeg).toNatClampNeg) (by omega)
        have hr := p_r32 (mo 3 i.toNatClampNeg)
        have C := p_so_class gk i (gl 0 (mo 1 i.toNatClampNeg).toNatClampNeg + Int32.toInt64 (mo 3 i.toNatClampNeg)) (gh 0 (mo 1 i.toNatClampNeg).toNatClampNeg + Int32.toInt64 (mo 3 i.toNatClampNeg)) 7 0 (by omega) (by omega)
        have M := p_so_model mo i (gk 0) (gl 0) (gh 0) hg (mo 1 i.toNatClampNeg) _ rfl (by omega) 250 (gl 0 (mo 1 i.toNatClampNeg).toNatClampNeg + Int32.toInt64 (mo 3 i.toNatClampNeg)) (by omega) (by omega)
        refine ⟨?_, ⟨h24, hd12, p_so_ok mo i (gk 0) (gh 0) (mo 1 i.toNatClampNeg) hd12 h24 _ rfl (by omega) 250 _ (by omega) (by omega) (fun _ _ => trivial) (by omega)⟩, ?_⟩
        · rcases C with ⟨c1, c2⟩ | ⟨c1, e, c2, c3, c4, c5⟩ <;> rcases M with ⟨m1, m2⟩ | ⟨m1, e', m2, m3, m4, m5⟩
          · exact c1.trans m1.symm
          · exact absurd (c2 e' (by omega) m2 m3 m4) m5
          · exact absurd (m2 e c2 c3 c4) c5
          · exact c1.trans m1.symm
        · intro h0 _ _ _ e he1 he2 he3
          rcases M with ⟨m1, m2⟩ | ⟨m1, -⟩
          · exact m2 e he1 he2 he3
          · rw [m1] at h0; exact absurd h0 (by decide)
  · simp [h15, h24]
/-- a place moved by what lies between a and b stays near -/
theorem p_mv (lo hi a b : Int64) (hl : -100 ≤ lo.toInt ∧ lo.toInt ≤ 100) (hh : -100 ≤ hi.toInt ∧ hi.toInt ≤ 100) :
    (if lo + a < -100 then (1 : Int32) else if 100 < lo + a then 1 else if hi + b < -100 then 1 else if hi + b ≤ 100 then 0 else 1) = (if (-100 ≤ lo.toInt + a.toInt ∧ lo.toInt + a.toInt ≤ 100) ∧ (-100 ≤ hi.toInt + b.toInt ∧ hi.toInt + b.toInt ≤ 100) then 0 else 1) := by
  simp only [Int64.lt_iff_toInt_lt, Int64.le_iff_toInt_le, Int64.toInt_add, show (-100 : Int64).toInt = -100 from rfl, show (100 : Int64).toInt = 100 from rfl, Int.bmod_def]
  have ha := p_r64 a
  have hb := p_r64 b
  repeat' split
  all_goals first | rfl | (exfalso; omega)
theorem p_mv2 (lo hi a b : Int64) (hl : -100 ≤ lo.toInt ∧ lo.toInt ≤ 100) (hh : -100 ≤ hi.toInt ∧ hi.toInt ≤ 100) :
    (if s_Md_overflows lo a = 0 then (if s_Md_overflows hi b = 0 then (if s_Md_in (lo + a) (-100) 100 = 0 then (1 : Int32) else if s_Md_in (hi + b) (-100) 100 = 0 then 1 else 0) else 1) else 1) = (if (-100 ≤ lo.toInt + a.toInt ∧ lo.toInt + a.toInt ≤ 100) ∧ (-100 ≤ hi.toInt + b.toInt ∧ hi.toInt + b.toInt ≤ 100) then 0 else 1) := by
  have ha := p_r64 a
  have hb := p_r64 b
  simp only [p_ovf0]
  by_cases h1 : -9223372036854775808 ≤ lo.toInt + a.toInt ∧ lo.toInt + a.toInt < 9223372036854775808
  · by_cases h2 : -9223372036854775808 ≤ hi.toInt + b.toInt ∧ hi.toInt + b.toInt < 9223372036854775808
    · simp only [h1, h2, and_self, if_true]
      simp only [s_Md_in, Int64.lt_iff_toInt_lt, p_add64 h1, p_add64 h2, show (-100 : Int64).toInt = -100 from rfl, show (100 : Int64).toInt = 100 from rfl]
      by_cases h3 : lo.toInt + a.toInt < -100
      · simp only [h3, if_true]; rw [if_neg (by omega)]
      by_cases h4 : 100 < lo.toInt + a.toInt
      · simp only [h3, h4, if_true, if_false]; rw [if_neg (by omega)]
      by_cases h5 : hi.toInt + b.toInt < -100
      · simp only [h3, h4, h5, if_true, if_false, show ¬ (1 : Int32) = 0 by decide]; rw [if_neg (by omega)]
      by_cases h6 : 100 < hi.toInt + b.toInt
      · simp only [h3, h4, h5, h6, if_true, if_false, show ¬ (1 : Int32) = 0 by decide]; rw [if_neg (by omega)]
      simp only [h3, h4, h5, h6, if_false, show ¬ (1 : Int32) = 0 by decide]; rw [if_pos (by omega)]
    · simp only [h1, h2, and_self, if_true, if_false, show ¬ (1 : Int32) = 0 by decide]; rw [if_neg (by omega)]
  · simp only [h1, if_false, show ¬ (1 : Int32) = 0 by decide]; rw [if_neg (by omega)]
theorem p_ms (lo hi a c : Int64) (hl : -100 ≤ lo.toInt ∧ lo.toInt ≤ 100) (hh : -100 ≤ hi.toInt ∧ hi.toInt ≤ 100) (hlh : lo.toInt ≤ hi.toInt) (n : Int32) (ha : a = Int32.toInt64 n) (m : Int64) (hc : c.toInt = m.toInt + 1) :
    (if lo + a < 0 then (1 : Int32) else if hi + a < c then 0 else 1) = (if s_Md_in (lo + a) 0 m = 0 then 1 else if s_Md_in (hi + a) 0 m = 0 then 1 else 0) := by
  subst ha
  simp only [s_Md_in, Int64.lt_iff_toInt_lt, p_off n hl, p_off n hh, hc, show (0 : Int64).toInt = 0 from rfl]
  by_cases h1 : lo.toInt + n.toInt < 0
  · simp only [h1, if_true]
  by_cases h2 : hi.toInt + n.toInt < m.toInt + 1
  · simp only [h1, h2, if_true, if_false, show ¬ m.toInt < lo.toInt + n.toInt by omega, show ¬ m.toInt < hi.toInt + n.toInt by omega, show ¬ hi.toInt + n.toInt < 0 by omega, show ¬ (1 : Int32) = 0 by decide]
  · simp only [h1, h2, if_true, if_false, show m.toInt < hi.toInt + n.toInt by omega, show ¬ hi.toInt + n.toInt < 0 by omega]
    simp
theorem j_place (hop : 0 ≤ (mo 0 i.toNatClampNeg).toInt ∧ (mo 0 i.toNatClampNeg).toInt ≤ 17) (hd : 0 ≤ (mo 1 i.toNatClampNeg).toInt ∧ (mo 1 i.toNatClampNeg).toInt ≤ 5) (hs : 0 ≤ (mo 2 i.toNatClampNeg).toInt ∧ (mo 2 i.toNatClampNeg).toInt ≤ 5) (h24 : vp_in i 24) (hg : p_gd (gk 0) (gl 0) (gh 0)) (hk : s_Md_wrongKind mo (gk 0) (gl 0) (gh 0) i = 0) : s_Jg_goesOutside (fun j k => mo k j) gk gl gh i.toNatClampNeg = s_Md_wrongPlace mo (gk 0) (gl 0) (gh 0) i ∧ k_ok_Md_wrongPlace mo (gk 0) (gl 0) (gh 0) i := by
  have hd6 := p_reg hd
  have hs6 := p_reg hs
  have hd12 : vp_in (mo 1 i.toNatClampNeg) 12 := vp_in_iff.mpr (by omega)
  have hs12 : vp_in (mo 2 i.toNatClampNeg) 12 := vp_in_iff.mpr (by omega)
  have h14 := j_kind14 mo i (gk 0) (gl 0) (gh 0)
  have h15 := j_kind15 mo i (gk 0) (gl 0) (gh 0)
  unfold s_Jg_goesOutside s_Md_wrongPlace k_ok_Md_wrongPlace
  simp only [s_Jg_movesTooFar, s_Jg_missesCells, s_Gs_isPlace, s_Gs_kind, s_Gs_lo, s_Gs_hi, x_let, bk_Md_wrongPlace_32, bk_Md_wrongPlace_164, bk_Md_wrongPlace_178, bk_ok_Md_wrongPlace_32, bk_ok_Md_wrongPlace_164, bk_ok_Md_wrongPlace_178, s_Md_place, k_ok_Md_place]
  rcases p_op18 hop with h | h | h | h | h | h | h | h | h | h | h | h | h | h | h | h | h | h
  · simp [h, h24]
  · simp [h, h24]
  · by_cases hp : gk 0 (mo 1 i.toNatClampNeg).toNatClampNeg = 2 ∨ gk 0 (mo 1 i.toNatClampNeg).toNatClampNeg = 3
    · obtain ⟨b1, b2, b3⟩ := p_gd_place hg (by omega) hp
      have e : (if gk 0 (mo 1 i.toNatClampNeg).toNatClampNeg = 2 then (1 : Int32) else if gk 0 (mo 1 i.toNatClampNeg).toNatClampNeg = 3 then 1 else 0) = 1 := by rcases hp with hp | hp <;> simp [hp]
      simp only [h, e, if_true, if_false, show ¬ (1 : Int32) = 0 by decide]
      exact ⟨(p_mv _ _ _ _ (by omega) (by omega)).trans (p_mv2 _ _ _ _ (by omega) (by omega)).symm, h24, ⟨hd12, trivial⟩, h24, hd12, trivial⟩
    · have e : (if gk 0 (mo 1 i.toNatClampNeg).toNatClampNeg = 2 then (1 : Int32) else if gk 0 (mo 1 i.toNatClampNeg).toNatClampNeg = 3 then 1 else 0) = 0 := by rw [if_neg (fun h => hp (Or.inl h)), if_neg (fun h => hp (Or.inr h))]
      simp [h, e, h24, hd12]
  · by_cases hp : gk 0 (mo 1 i.toNatClampNeg).toNatClampNeg = 2 ∨ gk 0 (mo 1 i.toNatClampNeg).toNatClampNeg = 3
    · obtain ⟨b1, b2, b3⟩ := p_gd_place hg (by omega) hp
      have e : (if gk 0 (mo 1 i.toNatClampNeg).toNatClampNeg = 2 then (1 : Int32) else if gk 0 (mo 1 i.toNatClampNeg).toNatClampNeg = 3 then 1 else 0) = 1 := by rcases hp with hp | hp <;> simp [hp]
      simp only [h, e, if_true, if_false, show ¬ (1 : Int32) = 0 by decide, show ¬ (3 : Int32) = 2 by decide]
      exact ⟨(p_mv _ _ _ _ (by omega) (by omega)).trans (p_mv2 _ _ _ _ (by omega) (by omega)).symm, h24, ⟨hd12, trivial⟩, hs12, hd12, trivial⟩
    · have e : (if gk 0 (mo 1 i.toNatClampNeg).toNatClampNeg = 2 then (1 : Int32) else if gk 0 (mo 1 i.toNatClampNeg).toNatClampNeg = 3 then 1 else 0) = 0 := by rw [if_neg (fun h => hp (Or.inl h)), if_neg (fun h => hp (Or.inr h))]
      simp [h, e, h24, hd12]
  · simp [h, h24]
  · simp [h, h24]
  · simp [h, h24]
  · simp [h, h24]
  · simp [h, h24]
  · simp [h, h24]
  · simp [h, h24]
  · simp [h, h24]
  · simp [h, h24]
  · simp [h, h24]
  · rcases h14 h hk with hp | hp
    · obtain ⟨b1, b2, b3⟩ := p_gd_place hg (by omega) (Or.inr hp)
      simp only [h, hp, if_true, if_false, show ¬ (14 : Int32) = 2 by decide, show ¬ (14 : Int32) = 3 by decide, show ¬ (3 : Int32) = 2 by decide]
      exact ⟨p_ms _ _ _ _ (by omega) (by omega) b2 _ rfl _ rfl, h24, hs12, h24, trivial⟩
    · obtain ⟨b1, b2, b3⟩ := p_gd_place hg (by omega) (Or.inl hp)
      simp only [h, hp, if_true, if_false, show ¬ (14 : Int32) = 2 by decide, show ¬ (14 : Int32) = 3 by decide, show ¬ (2 : Int32) = 3 by decide]
      exact ⟨p_ms _ _ _ _ (by omega) (by omega) b2 _ rfl _ rfl, h24, hs12, h24, trivial⟩
  · rcases h15 h hk with ⟨hp, -⟩ | ⟨hp, -⟩
    · obtain ⟨b1, b2, b3⟩ := p_gd_place hg (by omega) (Or.inr hp)
      simp only [h, hp, if_true, if_false, show ¬ (15 : Int32) = 2 by decide, show ¬ (15 : Int32) = 3 by decide, show ¬ (15 : Int32) = 14 by decide, show ¬ (3 : Int32) = 2 by decide]
      exact ⟨p_ms _ _ _ _ (by omega) (by omega) b2 _ rfl _ rfl, h24, hd12, h24, trivial⟩
    · obtain ⟨b1, b2, b3⟩ := p_gd_place hg (by omega) (Or.inl hp)
      simp only [h, hp, if_true, if_false, show ¬ (15 : Int32) = 2 by decide, show ¬ (15 : Int32) = 3 by decide, show ¬ (15 : Int32) = 14 by decide, show ¬ (2 : Int32) = 3 by decide]
      exact ⟨p_ms _ _ _ _ (by omega) (by omega) b2 _ rfl _ rfl, h24, hd12, h24, trivial⟩
  · simp [h, h24]
  · simp [h, h24]
/-- what the places' test leaves -/
theorem j_place0 (hd : 0 ≤ (mo 1 i.toNatClampNeg).toInt ∧ (mo 1 i.toNatClampNeg).toInt ≤ 5) (hs : 0 ≤ (mo 2 i.toNatClampNeg).toInt ∧ (mo 2 i.toNatClampNeg).toInt ≤ 5) (K : Nat → Int32) (Lo Hi : Nat → Int64) (hg : p_gd K Lo Hi) (hp : s_Md_wrongPlace mo K Lo Hi i = 0) :
    (mo 0 i.toNatClampNeg = 2 → (K (mo 1 i.toNatClampNeg).toNatClampNeg = 2 ∨ K (mo 1 i.toNatClampNeg).toNatClampNeg = 3) → -100 ≤ (Lo (mo 1 i.toNatClampNeg).toNatClampNeg).toInt + (mo 3 i.toNatClampNeg).toInt ∧ (Hi (mo 1 i.toNatClampNeg).toNatClampNeg).toInt + (mo 3 i.toNatClampNeg).toInt ≤ 100) ∧
    (mo 0 i.toNatClampNeg = 3 → (K (mo 1 i.toNatClampNeg).toNatClampNeg = 2 ∨ K (mo 1 i.toNatClampNeg).toNatClampNeg = 3) → -100 ≤ (Lo (mo 1 i.toNatClampNeg).toNatClampNeg).toInt + (Lo (mo 2 i.toNatClampNeg).toNatClampNeg).toInt ∧ (Hi (mo 1 i.toNatClampNeg).toNatClampNeg).toInt + (Hi (mo 2 i.toNatClampNeg).toNatClampNeg).toInt ≤ 100) ∧
    (mo 0 i.toNatClampNeg = 14 → K (mo 2 i.toNatClampNeg).toNatClampNeg = 2 → 0 ≤ (Lo (mo 2 i.toNatClampNeg).toNatClampNeg).toInt + (mo 3 i.toNatClampNeg).toInt ∧ (Hi (mo 2 i.toNatClampNeg).toNatClampNeg).toInt + (mo 3 i.toNatClampNeg).toInt ≤ 5) ∧
    (mo 0 i.toNatClampNeg = 14 → K (mo 2 i.toNatClampNeg).toNatClampNeg = 3 → 0 ≤ (Lo (mo 2 i.toNatClampNeg).toNatClampNeg).toInt + (mo 3 i.toNatClampNeg).toInt ∧ (Hi (mo 2 i.toNatClampNeg).toNatClampNeg).toInt + (mo 3 i.toNatClampNeg).toInt ≤ 1) ∧
    (mo 0 i.toNatClampNeg = 15 → K (mo 1 i.toNatClampNeg).toNatClampNeg = 2 → 0 ≤ (Lo (mo 1 i.toNatClampNeg).toNatClampNeg).toInt + (mo 3 i.toNatClampNeg).toInt ∧ (Hi (mo 1 i.toNatClampNeg).toNatClampNeg).toInt + (mo 3 i.toNatClampNeg).toInt ≤ 5) ∧
    (mo 0 i.toNatClampNeg = 15 → K (mo 1 i.toNatClampNeg).toNatClampNeg = 3 → 0 ≤ (Lo (mo 1 i.toNatClampNeg).toNatClampNeg).toInt + (mo 3 i.toNatClampNeg).toInt ∧ (Hi (mo 1 i.toNatClampNeg).toNatClampNeg).toInt + (mo 3 i.toNatClampNeg).toInt ≤ 1) := by
  have hd6 := p_reg hd
  have hs6 := p_reg hs
  have ms0 : ∀ (lo hi : Int64) (n : Int32) (m : Int64), (-100 ≤ lo.toInt ∧ lo.toInt ≤ 100) → (-100 ≤ hi.toInt ∧ hi.toInt ≤ 100) → (if s_Md_in (lo + Int32.toInt64 n) 0 m = 0 then (1 : Int32) else if s_Md_in (hi + Int32.toInt64 n) 0 m = 0 then 1 else 0) = 0 → 0 ≤ lo.toInt + n.toInt ∧ hi.toInt + n.toInt ≤ m.toInt := by
    intro lo hi n m h1 h2 h
    simp only [s_Md_in, Int64.lt_iff_toInt_lt, p_off n h1, p_off n h2, show (0 : Int64).toInt = 0 from rfl] at h
    by_cases h3 : lo.toInt + n.toInt < 0
    · simp [h3] at h
    by_cases h4 : m.toInt < hi.toInt + n.toInt
    · exfalso
      simp only [h3, h4, if_false, if_true, ite_self] at h
      simp at h
    · omega
  unfold s_Md_wrongPlace at hp
  simp only [x_let, bk_Md_wrongPlace_32, bk_Md_wrongPlace_164, bk_Md_wrongPlace_178, s_Md_place] at hp
  refine ⟨fun h hq => ?_, fun h hq => ?_, fun h hq => ?_, fun h hq => ?_, fun h hq => ?_, fun h hq => ?_⟩
  · obtain ⟨b1, b2, b3⟩ := p_gd_place hg (by omega) hq
    have e : (if K (mo 1 i.toNatClampNeg).toNatClampNeg = 2 then (1 : Int32) else if K (mo 1 i.toNatClampNeg).toNatClampNeg = 3 then 1 else 0) = 1 := by rcases hq with hp | hp <;> simp [hp]
    simp only [h, e, if_true, if_false, show ¬ (1 : Int32) = 0 by decide] at hp
    rw [p_mv2 _ _ _ _ (by omega) (by omega)] at hp
    rw [Int32.toInt_toInt64] at hp
    by_cases hc : (-100 ≤ (Lo (mo 1 i.toNatClampNeg).toNatClampNeg).toInt + (mo 3 i.toNatClampNeg).toInt ∧ (Lo (mo 1 i.toNatClampNeg).toNatClampNeg).toInt + (mo 3 i.toNatClampNeg).toInt ≤ 100) ∧ (-100 ≤ (Hi (mo 1 i.toNatClampNeg).toNatClampNeg).toInt + (mo 3 i.toNatClampNeg).toInt ∧ (Hi (mo 1 i.toNatClampNeg).toNatClampNeg).toInt + (mo 3 i.toNatClampNeg).toInt ≤ 100)
    · exact ⟨hc.1.1, hc.2.2⟩
    · rw [if_neg hc] at hp; exact absurd hp (by decide)
  · obtain ⟨b1, b2, b3⟩ := p_gd_place hg (by omega) hq
    have e : (if K (mo 1 i.toNatClampNeg).toNatClampNeg = 2 then (1 : Int32) else if K (mo 1 i.toNatClampNeg).toNatClampNeg = 3 then 1 else 0) = 1 := by rcases hq with hp | hp <;> simp [hp]
    simp only [h, e, if_true, if_false, show ¬ (1 : Int32) = 0 by decide, show ¬ (3 : Int32) = 2 by decide] at hp
    rw [p_mv2 _ _ _ _ (by omega) (by omega)] at hp
    by_cases hc : (-100 ≤ (Lo (mo 1 i.toNatClampNeg).toNatClampNeg).toInt + (Lo (mo 2 i.toNatClampNeg).toNatClampNeg).toInt ∧ (Lo (mo 1 i.toNatClampNeg).toNatClampNeg).toInt + (Lo (mo 2 i.toNatClampNeg).toNatClampNeg).toInt ≤ 100) ∧ (-100 ≤ (Hi (mo 1 i.toNatClampNeg).toNatClampNeg).toInt + (Hi (mo 2 i.toNatClampNeg).toNatClampNeg).toInt ∧ (Hi (mo 1 i.toNatClampNeg).toNatClampNeg).toInt + (Hi (mo 2 i.toNatClampNeg).toNatClampNeg).toInt ≤ 100)
    · exact ⟨hc.1.1, hc.2.2⟩
    · rw [if_neg hc] at hp; exact absurd hp (by decide)
  · obtain ⟨b1, b2, b3⟩ := p_gd_place hg (by omega) (Or.inl hq)
    simp only [h, hq, if_true, if_false, show ¬ (14 : Int32) = 2 by decide, show ¬ (14 : Int32) = 3 by decide, show ¬ (2 : Int32) = 3 by decide] at hp
    exact ms0 _ _ _ 5 (by omega) (by omega) hp
  · obtain ⟨b1, b2, b3⟩ := p_gd_place hg (by omega) (Or.inr hq)
    simp only [h, hq, if_true, if_false, show ¬ (14 : Int32) = 2 by decide, show ¬ (14 : Int32) = 3 by decide, show ¬ (2 : Int32) = 3 by decide] at hp
    exact ms0 _ _ _ 1 (by omega) (by omega) hp
  · obtain ⟨b1, b2, b3⟩ := p_gd_place hg (by omega) (Or.inl hq)
    simp only [h, hq, if_true, if_false, show ¬ (15 : Int32) = 2 by decide, show ¬ (15 : Int32) = 3 by decide, show ¬ (15 : Int32) = 14 by decide, show ¬ (2 : Int32) = 3 by decide] at hp
    exact ms0 _ _ _ 5 (by omega) (by omega) hp
  · obtain ⟨b1, b2, b3⟩ := p_gd_place hg (by omega) (Or.inr hq)
    simp only [h, hq, if_true, if_false, show ¬ (15 : Int32) = 2 by decide, show ¬ (15 : Int32) = 3 by decide, show ¬ (15 : Int32) = 14 by decide, show ¬ (2 : Int32) = 3 by decide] at hp
    exact ms0 _ _ _ 1 (by omega) (by omega) hp
end Judge2
