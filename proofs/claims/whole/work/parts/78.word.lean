/-! the judge's word -/
section Judge3
variable (mo : Nat → Nat → Int32) (gk : Nat → Nat → Int32) (gl gh : Nat → Nat → Int64) (i : Int32)
theorem j_cells (hd : 0 ≤ (mo 1 i.toNatClampNeg).toInt ∧ (mo 1 i.toNatClampNeg).toInt ≤ 5) (hs : 0 ≤ (mo 2 i.toNatClampNeg).toInt ∧ (mo 2 i.toNatClampNeg).toInt ≤ 5) (h24 : vp_in i 24) (hg : p_gd (gk 0) (gl 0) (gh 0)) (hk : s_Md_wrongKind mo (gk 0) (gl 0) (gh 0) i = 0) (hp : s_Md_wrongPlace mo (gk 0) (gl 0) (gh 0) i = 0) : s_Jg_loadsUnfitCell (fun j k => mo k j) gk gl gh i.toNatClampNeg = s_Md_wrongCells mo (gk 0) (gl 0) (gh 0) i ∧ k_ok_Md_wrongCells mo (gk 0) (gl 0) (gh 0) i ∧ (s_Md_wrongCells mo (gk 0) (gl 0) (gh 0) i = 0 → mo 0 i.toNatClampNeg = 14 → gk 0 (mo 2 i.toNatClampNeg).toNatClampNeg = 2 → ∀ e : Nat, e < 6 → (gl 0 (mo 2 i.toNatClampNeg).toNatClampNeg + Int32.toInt64 (mo 3 i.toNatClampNeg)).toInt ≤ e → e ≤ (gh 0 (mo 2 i.toNatClampNeg).toNatClampNeg + Int32.toInt64 (mo 3 i.toNatClampNeg)).toInt → p_fit (gk 0) (gl 0 (mo 2 i.toNatClampNeg).toNatClampNeg + Int32.toInt64 (mo 3 i.toNatClampNeg)) (gh 0 (mo 2 i.toNatClampNeg).toNatClampNeg + Int32.toInt64 (mo 3 i.toNatClampNeg)) e) := by
  have hs6 := p_reg hs
  have hs12 : vp_in (mo 2 i.toNatClampNeg) 12 := vp_in_iff.mpr (by omega)
  have P := j_place0 mo i hd hs (gk 0) (gl 0) (gh 0) hg hp
  unfold s_Jg_loadsUnfitCell s_Md_wrongCells k_ok_Md_wrongCells
  simp only [x_let, s_Gs_kind, s_Gs_lo, s_Gs_hi]
  by_cases h14 : mo 0 i.toNatClampNeg = 14
  · rcases j_kind14 mo i _ _ _ h14 hk with h3 | h2
    · simp [h14, h3, h24, hs12]
    · simp only [h14, h2, if_true, if_false, show ¬ (2 : Int32) = 3 by decide]
      obtain ⟨b1, b2, b3⟩ := p_gd_place hg (by omega) (Or.inl h2)
      have q := P.2.2.1 h14 h2
      have ex := p_off (mo 3 i.toNatClampNeg) (x := gl 0 (mo 2 i.toNatClampNeg).toNatClampNeg) (by omega)
      have ey := p_off (mo 3 i.toNatClampNeg) (x := gh 0 (mo 2 i.toNatClampNeg).toNatClampNeg) (by omega)
      have C := p_lu_class gk i (gl 0 (mo 2 i.toNatClampNeg).toNatClampNeg + Int32.toInt64 (mo 3 i.toNatClampNeg)) (gh 0 (mo 2 i.toNatClampNeg).toNatClampNeg + Int32.toInt64 (mo 3 i.toNatClampNeg)) 7 0 (by omega) (by omega)
      obtain ⟨Mok, M⟩ := p_lu_model mo i (gk 0) (gl 0) (gh 0) (mo 2 i.toNatClampNeg) (gl 0 (mo 2 i.toNatClampNeg).toNatClampNeg + Int32.toInt64 (mo 3 i.toNatClampNeg)) _ rfl (by
        constructor
        · intro h; rw [h]
        · intro h
          have h := congrArg Int64.toInt h
          rw [ex, ey] at h
          exact Int64.toInt_inj.mp (by omega)) (by omega) hs12 h24 8 _ (Int.le_refl _) (by omega) (by omega) (by omega)
      refine ⟨?_, ⟨h24, hs12, Mok⟩, ?_⟩
      · rcases C with ⟨c1, c2⟩ | ⟨c1, e, c2, c3, c4, c5⟩ <;> rcases M with ⟨m1, m2⟩ | ⟨m1, e', m2, m3, m4, m5⟩
        · exact c1.trans m1.symm
        · exact absurd (c2 e' (by omega) m2 m3 m4) m5
        · exact absurd (m2 e c2 c3 c4) c5
        · exact c1.trans m1.symm
      · intro h0 _ _ e he1 he2 he3
        rcases M with ⟨m1, m2⟩ | ⟨m1, -⟩
        · exact m2 e he1 he2 he3
        · rw [m1] at h0; exact absurd h0 (by decide)
  · simp [h14, h24]
theorem k_empties (K : Nat → Int32) (hd : vp_in (mo 1 i.toNatClampNeg) 12) (hs : vp_in (mo 2 i.toNatClampNeg) 12) (h24 : vp_in i 24) : k_ok_Md_empties mo K i := by
  unfold k_ok_Md_empties
  simp only [bk_ok_Md_empties_104, bk_ok_Md_empties_113, bk_ok_Md_empties_35, x_let]
  refine ⟨h24, ?_⟩
  repeat' (first | split | exact trivial | exact h24 | exact hd | exact hs | constructor)
theorem k_number (h24 : vp_in i 24) : k_ok_Md_wrongNumber mo i := by
  unfold k_ok_Md_wrongNumber
  simp only [bk_ok_Md_wrongNumber_30, bk_ok_Md_wrongNumber_45, x_let]
  refine ⟨h24, ?_⟩
  repeat' (first | split | exact trivial | exact h24 | constructor)
theorem k_kind (K : Nat → Int32) (Lo Hi : Nat → Int64) (hd : vp_in (mo 1 i.toNatClampNeg) 12) (hs : vp_in (mo 2 i.toNatClampNeg) 12) (h24 : vp_in i 24) : k_ok_Md_wrongKind mo K Lo Hi i := by
  unfold k_ok_Md_wrongKind
  simp only [bk_ok_Md_wrongKind_87, bk_ok_Md_wrongKind_115, bk_ok_Md_wrongKind_266, bk_ok_Md_wrongKind_324, k_ok_Md_place, x_let]
  simp only [hd, hs, h24, and_self, ite_self]
/-- a step that is let through -/
def p_let (sz : Int32) (K : Nat → Int32) (Lo Hi : Nat → Int64) : Prop :=
  i.toInt < sz.toInt ∧ ((10 ≤ (mo 0 i.toNatClampNeg).toInt ∧ (mo 0 i.toNatClampNeg).toInt ≤ 13) → i.toInt < (mo 4 i.toNatClampNeg).toInt ∧ (mo 4 i.toNatClampNeg).toInt < sz.toInt) ∧ s_Md_empties mo K i = 0 ∧ s_Md_wrongNumber mo i = 0 ∧ s_Md_wrongKind mo K Lo Hi i = 0 ∧ s_Md_wrongStore mo K Lo Hi i = 0 ∧ s_Md_wrongPlace mo K Lo Hi i = 0 ∧ s_Md_wrongCells mo K Lo Hi i = 0 ∧ (mo 0 i.toNatClampNeg = 16 → mo 3 i.toNatClampNeg = 1 → 0 ≤ (Lo 1).toInt ∧ (Hi 1).toInt ≤ 7)
theorem j_let (mi : Nat → Int32) (K : Nat → Int32) (Lo Hi : Nat → Int64) (h : s_Md_reasonAt mo mi K Lo Hi i = 0) : p_let mo i (mi 0) K Lo Hi := by
  unfold s_Md_reasonAt bk_Md_reasonAt_52 at h
  simp only [x_let, p_in64, Int32.lt_iff_toInt_lt, Int32.le_iff_toInt_le, show (10 : Int64).toInt = 10 from rfl, show (13 : Int64).toInt = 13 from rfl] at h
  by_cases h1 : (mi 0).toInt ≤ i.toInt
  · rw [if_pos h1] at h; exact absurd h (by decide)
  rw [if_neg h1] at h
  have B : ∀ X : Int32, X = 0 → X = (if s_Md_empties mo K i = 0 then (if s_Md_wrongNumber mo i = 0 then (if s_Md_wrongKind mo K Lo Hi i = 0 then (if s_Md_wrongStore mo K Lo Hi i = 0 then (if s_Md_wrongPlace mo K Lo Hi i = 0 then (if s_Md_wrongCells mo K Lo Hi i = 0 then (if mo 0 i.toNatClampNeg = 16 then (if mo 3 i.toNatClampNeg = 1 then (if Lo (Int32.toNatClampNeg 1) < 0 then 7 else if (Hi (Int32.toNatClampNeg 1)) ≤ 7 then 0 else 7) else 0) else 0) else 6) else 5) else 4) else 4) else 3) else 2) → s_Md_empties mo K i = 0 ∧ s_Md_wrongNumber mo i = 0 ∧ s_Md_wrongKind mo K Lo Hi i = 0 ∧ s_Md_wrongStore mo K Lo Hi i = 0 ∧ s_Md_wrongPlace mo K Lo Hi i = 0 ∧ s_Md_wrongCells mo K Lo Hi i = 0 ∧ (mo 0 i.toNatClampNeg = 16 → mo 3 i.toNatClampNeg = 1 → 0 ≤ (Lo 1).toInt ∧ (Hi 1).toInt ≤ 7) := by
    intro X h0 hX
    rw [h0] at hX
    by_cases e1 : s_Md_empties mo K i = 0
    · by_cases e2 : s_Md_wrongNumber mo i = 0
      · by_cases e3 : s_Md_wrongKind mo K Lo Hi i = 0
        · by_cases e4 : s_Md_wrongStore mo K Lo Hi i = 0
          · by_cases e5 : s_Md_wrongPlace mo K Lo Hi i = 0
            · by_cases e6 : s_Md_wrongCells mo K Lo Hi i = 0
              · refine ⟨e1, e2, e3, e4, e5, e6, fun h16 h31 => ?_⟩
                simp only [e1, e2, e3, e4, e5, e6, h16, h31, if_true, Int64.lt_iff_toInt_lt, Int64.le_iff_toInt_le, show (0 : Int64).toInt = 0 from rfl, show (7 : Int64).toInt = 7 from rfl, show Int32.toNatClampNeg 1 = 1 from rfl] at hX
                by_cases l1 : (Lo 1).toInt < 0
                · rw [if_pos l1] at hX; exact absurd hX (by decide)
                · rw [if_neg l1] at hX
                  by_cases l2 : (Hi 1).toInt ≤ 7
                  · omega
                  · rw [if_neg l2] at hX; exact absurd hX (by decide)
              · simp [e1, e2, e3, e4, e5, e6] at hX
            · simp [e1, e2, e3, e4, e5] at hX
          · simp [e1, e2, e3, e4] at hX
        · simp [e1, e2, e3] at hX
      · simp [e1, e2] at hX
    · simp [e1] at hX
  by_cases h2 : 10 ≤ (mo 0 i.toNatClampNeg).toInt ∧ (mo 0 i.toNatClampNeg).toInt ≤ 13
  · rw [if_pos h2, if_neg (by decide)] at h
    by_cases h3 : (mi 0).toInt ≤ (mo 4 i.toNatClampNeg).toInt
    · rw [if_pos h3] at h; exact absurd h (by decide)
    rw [if_neg h3] at h
    by_cases h4 : i.toInt < (mo 4 i.toNatClampNeg).toInt
    · rw [if_pos h4] at h
      refine ⟨by omega, fun _ => by omega, B _ h ?_⟩
      simp only [Int64.lt_iff_toInt_lt, Int64.le_iff_toInt_le]
    · rw [if_neg h4] at h; exact absurd h (by decide)
  · rw [if_neg h2, if_pos rfl] at h
    refine ⟨by omega, fun h3 => absurd h3 h2, B _ h ?_⟩
    simp only [Int64.lt_iff_toInt_lt, Int64.le_iff_toInt_le]
theorem j_reason (sz : Int32) (mi : Nat → Int32) (hmi : mi 0 = sz) (hwf : p_wf mo sz) (hi0 : 0 ≤ i.toInt) (hi : i.toInt < sz.toInt) (hg : p_gd (gk 0) (gl 0) (gh 0)) : s_Jg_reasonAgainst (fun j k => mo k j) sz gk gl gh i.toNatClampNeg i = s_Md_reasonAt mo mi (gk 0) (gl 0) (gh 0) i ∧ k_ok_Md_reasonAt mo mi (gk 0) (gl 0) (gh 0) i := by
  subst hmi
  obtain ⟨hop, hd, hs, ht⟩ := hwf.1 i.toNatClampNeg
  have hz := hwf.2
  have h24 : vp_in i 24 := vp_in_iff.mpr (by omega)
  have hd12 : vp_in (mo 1 i.toNatClampNeg) 12 := vp_in_iff.mpr (by omega)
  have hs12 : vp_in (mo 2 i.toNatClampNeg) 12 := vp_in_iff.mpr (by omega)
  have A : s_Jg_lacksTarget (fun j k => mo k j) (mi 0) i.toNatClampNeg i = 0 → s_Jg_reasonAgainst (fun j k => mo k j) (mi 0) gk gl gh i.toNatClampNeg i = bk_Md_reasonAt_52 mo (gk 0) (gl 0) (gh 0) i ∧ bk_ok_Md_reasonAt_52 mo (gk 0) (gl 0) (gh 0) i := by
    intro hlt
    unfold s_Jg_reasonAgainst bk_Md_reasonAt_52 bk_ok_Md_reasonAt_52
    simp only [x_let, hlt, if_true, j_empties mo gk i hop, j_number mo i hop]
    have k1 := k_empties mo i (gk 0) hd12 hs12 h24
    have k2 := k_number mo i h24
    have k3 := k_kind mo i (gk 0) (gl 0) (gh 0) hd12 hs12 h24
    by_cases e1 : s_Md_empties mo (gk 0) i = 0
    · by_cases e2 : s_Md_wrongNumber mo i = 0
      · simp only [e1, e2, if_true, j_kind mo gk gl gh i hop e2]
        by_cases e3 : s_Md_wrongKind mo (gk 0) (gl 0) (gh 0) i = 0
        · obtain ⟨s1, s2, -⟩ := j_store mo gk gl gh i hd h24 hg e3
          obtain ⟨q1, q2⟩ := j_place mo gk gl gh i hop hd hs h24 hg e3
          simp only [e3, if_true, s1, q1]
          by_cases e4 : s_Md_wrongStore mo (gk 0) (gl 0) (gh 0) i = 0
          · by_cases e5 : s_Md_wrongPlace mo (gk 0) (gl 0) (gh 0) i = 0
            · obtain ⟨c1, c2, -⟩ := j_cells mo gk gl gh i hd hs h24 hg e3 e5
              simp only [e4, e5, if_true, c1]
              by_cases e6 : s_Md_wrongCells mo (gk 0) (gl 0) (gh 0) i = 0
              · simp only [e6, if_true, s_Jg_findsNoRow, s_St_isCallOf, s_Gs_lo, s_Gs_hi, x_let]
                refine ⟨?_, k1, k2, k3, s2, q2, c2, h24, trivial⟩
                by_cases h16 : mo 0 i.toNatClampNeg = 16
                · by_cases h31 : mo 3 i.toNatClampNeg = 1
                  · simp only [h16, h31, if_true, show ¬ (1 : Int32) = 0 by decide, if_false]
                    by_cases l1 : gl 0 (Int32.toNatClampNeg 1) < 0
                    · simp only [l1, if_true]; rfl
                    · by_cases l2 : gh 0 (Int32.toNatClampNeg 1) ≤ 7
                      · simp only [l1, l2, if_true, if_false]
                      · simp only [l1, l2, if_false]; rfl
                  · simp only [h16, h31, if_true, if_false]
                · simp only [h16, if_true, if_false]
              · simp only [e6, if_false]
                exact ⟨trivial, k1, k2, k3, s2, q2, c2, trivial⟩
            · simp only [e4, e5, if_true, if_false]
              exact ⟨trivial, k1, k2, k3, s2, q2, trivial⟩
          · simp only [e4, if_false]
            exact ⟨trivial, k1, k2, k3, s2, trivial⟩
        · simp only [e3, if_false]
          exact ⟨trivial, k1, k2, k3, trivial⟩
      · simp only [e1, e2, if_true, if_false]
        exact ⟨trivial, k1, k2, trivial⟩
    · simp only [e1, if_false]
      exact ⟨trivial, k1, trivial⟩
  have A1 : s_Jg_lacksTarget (fun j k => mo k j) (mi 0) i.toNatClampNeg i = 1 → s_Jg_reasonAgainst (fun j k => mo k j) (mi 0) gk gl gh i.toNatClampNeg i = 1 := by
    intro hlt
    unfold s_Jg_reasonAgainst
    simp only [x_let, hlt, if_false, show ¬ (1 : Int32) = 0 by decide]
  unfold s_Md_reasonAt k_ok_Md_reasonAt
  simp only [x_let, p_in64, Int32.lt_iff_toInt_lt, Int32.le_iff_toInt_le, show (10 : Int64).toInt = 10 from rfl, show (13 : Int64).toInt = 13 from rfl]
  simp only [show ¬ (mi 0).toInt ≤ i.toInt by omega, if_false]
  unfold s_Jg_lacksTarget at A A1
  simp only [s_St_mayJump, x_let, s_Pg_size, Int32.lt_iff_toInt_lt, Int32.le_iff_toInt_le, show (10 : Int32).toInt = 10 from rfl, show (13 : Int32).toInt = 13 from rfl] at A A1
  by_cases h2 : 10 ≤ (mo 0 i.toNatClampNeg).toInt ∧ (mo 0 i.toNatClampNeg).toInt ≤ 13
  · have m1 : ¬ (if (mo 0 i.toNatClampNeg).toInt < 10 then (0 : Int32) else if 13 < (mo 0 i.toNatClampNeg).toInt then 0 else 1) = 0 := by
      rw [if_neg (by omega), if_neg (by omega)]; decide
    simp only [h2, and_self, if_true, show ¬ (1 : Int32) = 0 by decide, if_false]
    rw [if_neg m1] at A A1
    by_cases h3 : (mi 0).toInt ≤ (mo 4 i.toNatClampNeg).toInt
    · simp only [h3, if_true]
      refine ⟨A1 ?_, h24, trivial⟩
      by_cases h4 : (mo 4 i.toNatClampNeg).toInt ≤ i.toInt
      · rw [if_pos h4]
      · rw [if_neg h4, if_neg (by omega)]
    · simp only [h3, if_false]
      by_cases h4 : i.toInt < (mo 4 i.toNatClampNeg).toInt
      · simp only [h4, if_true]
        rw [if_neg (by omega), if_pos (by omega)] at A
        exact ⟨(A rfl).1, h24, (A rfl).2⟩
      · simp only [h4, if_false]
        rw [if_pos (by omega)] at A1
        exact ⟨A1 rfl, h24, trivial⟩
  · have m0 : (if (mo 0 i.toNatClampNeg).toInt < 10 then (0 : Int32) else if 13 < (mo 0 i.toNatClampNeg).toInt then 0 else 1) = 0 := by
      by_cases l1 : (mo 0 i.toNatClampNeg).toInt < 10
      · rw [if_pos l1]
      · rw [if_neg l1, if_pos (by omega)]
    rw [if_pos m0] at A
    simp only [h2, if_false, if_true]
    exact ⟨(A rfl).1, h24, (A rfl).2⟩
end Judge3
