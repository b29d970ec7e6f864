/-! the seven easy arms -/
theorem p_mono5 {n : Nat} {x : Int32} (h : 0 ≤ x.toInt ∧ x.toInt ≤ 24 * (n : Int)) : 0 ≤ x.toInt ∧ x.toInt ≤ 24 * ((n + 1 : Nat) : Int) := ⟨h.1, by omega⟩
theorem p_n32 {x : Int32} {k : Nat} (h : 0 ≤ x.toInt ∧ x.toInt ≤ k) : (x.toNatClampNeg : Int) = x.toInt := by
  show (x.toInt.toNat : Int) = x.toInt
  omega
/-- the row of the step that is written -/
def p_wr (mo : Nat → Nat → Int32) (i : Nat) (a b c d e : Int32) : Nat → Nat → Int32 := fun k j => if j = i then (if k = 0 then a else if k = 1 then b else if k = 2 then c else if k = 3 then d else if k = 4 then e else mo k j) else mo k j
theorem p_set_wr (mo : Nat → Nat → Int32) (mi : Nat → Int32) (i a b c d e : Int32) : s_Md_set mo mi i a b c d e = (p_wr mo i.toNatClampNeg a b c d e, upd mi 7 0) := by
  unfold s_Md_set
  refine Prod.ext ?_ rfl
  funext k j
  simp only [p_wr, va_up]
  by_cases h : j = i.toNatClampNeg
  · subst h
    by_cases h0 : k = 0; · subst h0; simp [upd]
    by_cases h1 : k = 1; · subst h1; simp [upd]
    by_cases h2 : k = 2; · subst h2; simp [upd]
    by_cases h3 : k = 3; · subst h3; simp [upd]
    by_cases h4 : k = 4; · subst h4; simp [upd]
    simp [upd, h0, h1, h2, h3, h4]
  · by_cases h0 : k = 0; · subst h0; simp [upd, h]
    by_cases h1 : k = 1; · subst h1; simp [upd, h]
    by_cases h2 : k = 2; · subst h2; simp [upd, h]
    by_cases h3 : k = 3; · subst h3; simp [upd, h]
    by_cases h4 : k = 4; · subst h4; simp [upd, h]
    simp [upd, h0, h1, h2, h3, h4, h]
theorem p_write_wr (mo : Nat → Nat → Int32) (psz i a b c d e : Int32) (h0 : 0 ≤ i.toInt) (h1 : i.toInt < psz.toInt) (h2 : psz.toInt ≤ 24) : s_Pg_write (fun j k => mo k j) psz i a b c d e = fun j k => p_wr mo i.toNatClampNeg a b c d e k j := by
  have e0 : s_Pg_stepAt psz i = some i.toNatClampNeg := by
    simp only [s_Pg_stepAt, Int32.lt_iff_toInt_lt, Int32.le_iff_toInt_le, show (0 : Int32).toInt = 0 from rfl, show (24 : Int32).toInt = 24 from rfl]
    rw [if_neg (by omega), if_neg (by omega), if_neg (by omega)]
  unfold s_Pg_write
  rw [e0]
  simp only [x_let]
  funext j k
  simp only [p_wr, va_up]
  by_cases h : j = i.toNatClampNeg
  · subst h
    by_cases h0 : k = 0; · subst h0; simp [upd]
    by_cases h1 : k = 1; · subst h1; simp [upd]
    by_cases h2 : k = 2; · subst h2; simp [upd]
    by_cases h3 : k = 3; · subst h3; simp [upd]
    by_cases h4 : k = 4; · subst h4; simp [upd]
    simp [upd, h0, h1, h2, h3, h4]
  · simp [h]
theorem p_wf_wr {mo : Nat → Nat → Int32} {sz sz' : Int32} {i : Nat} {a b c d e : Int32} (h : p_wf mo sz) (hs : 0 ≤ sz'.toInt ∧ sz'.toInt ≤ 24) (hf : (0 ≤ a.toInt ∧ a.toInt ≤ 17) ∧ (0 ≤ b.toInt ∧ b.toInt ≤ 5) ∧ (0 ≤ c.toInt ∧ c.toInt ≤ 5) ∧ (0 ≤ e.toInt ∧ e.toInt ≤ 23)) : p_wf (p_wr mo i a b c d e) sz' := by
  refine ⟨fun j => ?_, hs⟩
  by_cases hj : j = i
  · subst hj
    simpa [p_wr] using hf
  · simpa [p_wr, hj] using h.1 j
theorem p_arm0 (n : Nat) (stp : Nat → Nat → Int32) (psz : Int32) (gk : Nat → Nat → Int32) (gl : Nat → Nat → Int64) (gh : Nat → Nat → Int64) (opn : Nat → Int32) (cki : Nat → Int32) (ckl : Nat → Int64) (mp : Nat → Nat → Int64) (rk : Nat → Int32) (rv : Nat → Int64) (ri : Nat → Int32) (chk : Int32) (mo : Nat → Nat → Int32) (mi : Nat → Int32) (ml : Nat → Int64) (mk : Nat → Int32) (mlo : Nat → Int64) (mhi : Nat → Int64) (pk : Nat → Int32) (ps : Nat → Int32) (pl : Nat → Int64) (ph : Nat → Int64) (mm : Nat → Int64) (out : Nat → Int64) (a1 a2 a3 a4 a5 : Int32)
    (h : p_I n ((stp, psz, gk, gl, gh, opn, cki, ckl, mp, rk, rv, ri, chk), (mo, mi, ml, mk, mlo, mhi, pk, ps, pl, ph, mm), out)) : law_ok_0 (p_I (n + 1)) stp psz gk gl gh opn cki ckl mp rk rv ri chk mo mi ml mk mlo mhi pk ps pl ph mm out a1 a2 a3 a4 a5 := by
  obtain ⟨⟨e1, e2, e3, hwf⟩, hc, hm, hz, hn, ha⟩ := h
  simp only at e1 e2 e3 hwf hc hm hz hn ha
  subst e1 e2 e3
  have hn' := p_mono5 hn
  have hs := hwf.2
  unfold law_ok_0
  simp only [s_Lw_add, s_CM_add, s_Md_add, k_ok_Md_add, p_allows_fits, x_let, s_Md_thrown, k_ok_Md_set, s_Pg_size, s_Pg_grow]
  by_cases hf : (0 ≤ a1.toInt ∧ a1.toInt ≤ 17) ∧ (0 ≤ a2.toInt ∧ a2.toInt ≤ 5) ∧ (0 ≤ a3.toInt ∧ a3.toInt ≤ 5) ∧ (0 ≤ a5.toInt ∧ a5.toInt ≤ 23)
  · have hff : s_Md_fits a1 a2 a3 a5 = 1 := by rw [p_fits, if_pos hf]
    simp only [hff, p_bad1, show ¬ (1 : Int32) = 0 by decide, if_false, if_true]
    by_cases h24 : mi 0 < 24
    · have h24' : (mi 0).toInt < 24 := Int32.lt_iff_toInt_lt.mp h24
      have hne : ¬ mi 0 = 24 := fun h => by rw [h] at h24'; exact absurd h24' (by decide)
      have hnl : ¬ (24 : Int32) ≤ mi 0 := fun h => by have := Int32.le_iff_toInt_le.mp h; simp at this; omega
      have e1 : (mi 0 + 1).toInt = (mi 0).toInt + 1 := by
        rw [Int32.toInt_add, show (1 : Int32).toInt = 1 from rfl, Int.bmod_def]; omega
      have e2 : mi 0 + 1 - 1 = mi 0 := by
        apply Int32.toInt_inj.mp
        rw [Int32.toInt_sub, e1, show (1 : Int32).toInt = 1 from rfl, Int.bmod_def]; omega
      simp only [h24, hnl, if_true, if_false, upd, show ¬ (0 : Nat) = 6 by decide, hne, p_set_wr, e2, show ¬ (6 : Nat) = 0 by decide, show ¬ (6 : Nat) = 7 by decide, show ¬ (0 : Nat) = 7 by decide]
      rw [p_write_wr mo _ _ _ _ _ _ _ hs.1 (by omega) (by omega)]
      refine ⟨trivial, ⟨⟨vp_in_iff.mpr ⟨hs.1, by omega⟩, trivial⟩, trivial⟩, trivial, ?_⟩
      have hv : vp_updL out (Int32.toNatClampNeg 0) (mi 0).toInt64 (Int32.toNatClampNeg 0) = (mi 0).toInt64 := by simp [vp_updL]
      rw [if_pos hv]
      refine ⟨⟨rfl, rfl, rfl, p_wf_wr hwf ?_ hf⟩, hc, hm, hz, hn', fun h => absurd rfl h⟩
      show 0 ≤ (mi 0 + 1).toInt ∧ (mi 0 + 1).toInt ≤ 24
      omega
    · have h24' : (mi 0) = 24 := by
        apply Int32.toInt_inj.mp
        have h25 : ¬ (mi 0).toInt < (24 : Int32).toInt := fun h => h24 (Int32.lt_iff_toInt_lt.mpr h)
        rw [show (24 : Int32).toInt = 24 from rfl] at h25 ⊢
        omega
      simp only [if_false, upd, show ¬ (0 : Nat) = 6 by decide, h24', if_true, show ¬ "java/lang/IllegalStateException" = "java/lang/IllegalArgumentException" by decide, show ¬ (24 : Int32) < 24 by decide]
      refine ⟨trivial, trivial, trivial, ?_⟩
      simp only [show ¬ (2 : Int32) = 0 by decide, if_false]
      exact ⟨⟨rfl, h24'.symm, rfl, hwf⟩, hc, hm, hz, hn', ha⟩
  · have hff : s_Md_fits a1 a2 a3 a5 = 0 := by rw [p_fits, if_neg hf]
    simp only [hff, p_bad0, show ¬ (1 : Int32) = 0 by decide, if_false, if_true]
    refine ⟨trivial, trivial, trivial, ?_⟩
    simp only [upd, if_true]
    exact ⟨⟨rfl, rfl, rfl, hwf⟩, hc, hm, hz, hn', ha⟩
section Arms
variable (n : Nat) (stp : Nat → Nat → Int32) (psz : Int32) (gk : Nat → Nat → Int32) (gl : Nat → Nat → Int64) (gh : Nat → Nat → Int64) (opn : Nat → Int32) (cki : Nat → Int32) (ckl : Nat → Int64) (mp : Nat → Nat → Int64) (rk : Nat → Int32) (rv : Nat → Int64) (ri : Nat → Int32) (chk : Int32) (mo : Nat → Nat → Int32) (mi : Nat → Int32) (ml : Nat → Int64) (mk : Nat → Int32) (mlo : Nat → Int64) (mhi : Nat → Int64) (pk : Nat → Int32) (ps : Nat → Int32) (pl : Nat → Int64) (ph : Nat → Int64) (mm : Nat → Int64) (out : Nat → Int64)
theorem p_arm1 (a1 a2 a3 a4 a5 a6 : Int32) (h : p_I n ((stp, psz, gk, gl, gh, opn, cki, ckl, mp, rk, rv, ri, chk), (mo, mi, ml, mk, mlo, mhi, pk, ps, pl, ph, mm), out)) : law_ok_1 (p_I (n + 1)) stp psz gk gl gh opn cki ckl mp rk rv ri chk mo mi ml mk mlo mhi pk ps pl ph mm out a1 a2 a3 a4 a5 a6 := by
  obtain ⟨⟨e1, e2, e3, hwf⟩, hc, hm, hz, hn, ha⟩ := h
  simp only at e1 e2 e3 hwf hc hm hz hn ha
  subst e1 e2 e3
  have hn' := p_mono5 hn
  have hs := hwf.2
  unfold law_ok_1
  simp only [s_Lw_put, s_CM_put, s_Md_put, k_ok_Md_put, p_allows_fits, x_let, s_Md_thrown, k_ok_Md_set, s_Pg_size, p_in64]
  by_cases hf : (0 ≤ a2.toInt ∧ a2.toInt ≤ 17) ∧ (0 ≤ a3.toInt ∧ a3.toInt ≤ 5) ∧ (0 ≤ a4.toInt ∧ a4.toInt ≤ 5) ∧ (0 ≤ a6.toInt ∧ a6.toInt ≤ 23)
  · have hff : s_Md_fits a2 a3 a4 a6 = 1 := by rw [p_fits, if_pos hf]
    have e1 : (mi 0 - 1).toInt = (mi 0).toInt - 1 := by
      rw [Int32.toInt_sub, show (1 : Int32).toInt = 1 from rfl, Int.bmod_def]; omega
    simp only [hff, p_bad1, show ¬ (1 : Int32) = 0 by decide, if_false, if_true, upd, show ¬ (0 : Nat) = 6 by decide, Int32.toInt_toInt64, e1, show (0 : Int64).toInt = 0 from rfl, Int32.lt_iff_toInt_lt, show (0 : Int32).toInt = 0 from rfl]
    by_cases h1 : 0 ≤ a1.toInt ∧ a1.toInt ≤ (mi 0).toInt - 1
    · simp only [h1, if_true, and_self, show ¬ a1.toInt < 0 by omega, show a1.toInt < (mi 0).toInt by omega, if_false, show ¬ (1 : Int32) = 0 by decide, p_set_wr, show ¬ (6 : Nat) = 7 by decide, upd]
      rw [p_write_wr mo _ _ _ _ _ _ _ h1.1 (by omega) (by omega)]
      refine ⟨trivial, ⟨⟨vp_in_iff.mpr ⟨h1.1, by omega⟩, trivial⟩, trivial⟩, trivial, ?_⟩
      exact ⟨⟨rfl, rfl, rfl, p_wf_wr hwf hs hf⟩, hc, hm, hz, hn', fun h => absurd rfl h⟩
    · simp only [h1, if_true, if_false]
      refine ⟨trivial, trivial, trivial, ?_⟩
      by_cases h2 : a1.toInt < 0
      · simp only [h2, if_true, show ¬ "java/util/NoSuchElementException" = "java/lang/IllegalArgumentException" by decide, if_false]
        exact ⟨⟨rfl, rfl, rfl, hwf⟩, hc, hm, hz, hn', ha⟩
      · simp only [h2, show ¬ a1.toInt < (mi 0).toInt by omega, if_false, show ¬ "java/util/NoSuchElementException" = "java/lang/IllegalArgumentException" by decide, if_true]
        exact ⟨⟨rfl, rfl, rfl, hwf⟩, hc, hm, hz, hn', ha⟩
  · have hff : s_Md_fits a2 a3 a4 a6 = 0 := by rw [p_fits, if_neg hf]
    simp only [hff, p_bad0, show ¬ (1 : Int32) = 0 by decide, if_false, if_true, upd]
    refine ⟨trivial, trivial, trivial, ?_⟩
    exact ⟨⟨rfl, rfl, rfl, hwf⟩, hc, hm, hz, hn', ha⟩
theorem p_arm2 (a1 : Int32) (h : p_I n ((stp, psz, gk, gl, gh, opn, cki, ckl, mp, rk, rv, ri, chk), (mo, mi, ml, mk, mlo, mhi, pk, ps, pl, ph, mm), out)) : law_ok_2 (p_I (n + 1)) stp psz gk gl gh opn cki ckl mp rk rv ri chk mo mi ml mk mlo mhi pk ps pl ph mm out a1 := by
  obtain ⟨⟨e1, e2, e3, hwf⟩, hc, hm, hz, hn, ha⟩ := h
  simp only at e1 e2 e3 hwf hc hm hz hn ha
  subst e1 e2 e3
  have hn' := p_mono5 hn
  have hs := hwf.2
  unfold law_ok_2
  simp only [s_Lw_cut, s_CM_cut, s_Md_cut, x_let, s_Md_thrown, s_Pg_size, s_Pg_shorten, p_in64, Int32.lt_iff_toInt_lt, Int32.le_iff_toInt_le, show (0 : Int32).toInt = 0 from rfl, show (0 : Int64).toInt = 0 from rfl, Int32.toInt_toInt64]
  by_cases h1 : 0 ≤ a1.toInt ∧ a1.toInt ≤ (mi 0).toInt
  · simp only [h1, and_self, if_true, if_false, show ¬ a1.toInt < 0 by omega, p_bad1, upd, show ¬ (6 : Nat) = 7 by decide, show ¬ (6 : Nat) = 0 by decide]
    refine ⟨trivial, trivial, trivial, ?_⟩
    exact ⟨⟨rfl, rfl, rfl, hwf.1, (by omega : 0 ≤ a1.toInt ∧ a1.toInt ≤ 24)⟩, hc, hm, hz, hn', fun h => absurd rfl h⟩
  · simp only [h1, if_true, if_false, p_bad0, upd, show ¬ (1 : Int32) = 0 by decide]
    refine ⟨trivial, trivial, trivial, ?_⟩
    by_cases h2 : a1.toInt < 0
    · simp only [h2, if_true]
      exact ⟨⟨rfl, rfl, rfl, hwf⟩, hc, hm, hz, hn', ha⟩
    · simp only [h2, show ¬ a1.toInt ≤ (mi 0).toInt by omega, if_false, if_true]
      exact ⟨⟨rfl, rfl, rfl, hwf⟩, hc, hm, hz, hn', ha⟩
theorem p_inMap (a b : Int32) : s_CM_isInMap a b = if (0 ≤ a.toInt ∧ a.toInt ≤ 5) ∧ 0 ≤ b.toInt ∧ b.toInt ≤ 1 then 1 else 0 := by
  simp only [s_CM_isInMap, Int32.lt_iff_toInt_lt, Int32.le_iff_toInt_le, show (0 : Int32).toInt = 0 from rfl, show (6 : Int32).toInt = 6 from rfl, show (2 : Int32).toInt = 2 from rfl]
  repeat' split
  all_goals first | rfl | (exfalso; omega)
theorem p_ix (a b : Int32) (h : (0 ≤ a.toInt ∧ a.toInt ≤ 5) ∧ 0 ≤ b.toInt ∧ b.toInt ≤ 1) : vp_in (a * 2 + b) 12 ∧ (a * 2 + b).toNatClampNeg = 2 * a.toNatClampNeg + b.toNatClampNeg ∧ a.toNatClampNeg < 6 ∧ b.toNatClampNeg < 2 := by
  have e1 : (a * 2).toInt = 2 * a.toInt := by rw [Int32.toInt_mul, show (2 : Int32).toInt = 2 from rfl, Int.bmod_def]; omega
  have e2 : (a * 2 + b).toInt = 2 * a.toInt + b.toInt := by rw [Int32.toInt_add, e1, Int.bmod_def]; omega
  refine ⟨vp_in_iff.mpr (by omega), ?_, ?_, ?_⟩
  · show (a * 2 + b).toInt.toNat = 2 * a.toInt.toNat + b.toInt.toNat
    omega
  · show a.toInt.toNat < 6
    omega
  · show b.toInt.toNat < 2
    omega
theorem p_arm5 (a1 a2 : Int32) (h : p_I n ((stp, psz, gk, gl, gh, opn, cki, ckl, mp, rk, rv, ri, chk), (mo, mi, ml, mk, mlo, mhi, pk, ps, pl, ph, mm), out)) : law_ok_5 (p_I (n + 1)) stp psz gk gl gh opn cki ckl mp rk rv ri chk mo mi ml mk mlo mhi pk ps pl ph mm out a1 a2 := by
  obtain ⟨⟨e1, e2, e3, hwf⟩, hc, hm, hz, hn, ha⟩ := h
  simp only at e1 e2 e3 hwf hc hm hz hn ha
  subst e1 e2 e3
  have hn' := p_mono5 hn
  have hs := hwf.2
  unfold law_ok_5
  simp only [s_Lw_row, s_CM_row, s_Md_row, k_ok_Md_row, s_Rn_mapCell, x_let, s_Md_thrown, p_in64, p_inMap, show (0 : Int64).toInt = 0 from rfl, show (5 : Int64).toInt = 5 from rfl, show (1 : Int64).toInt = 1 from rfl]
  by_cases h1 : 0 ≤ a1.toInt ∧ a1.toInt ≤ 5
  · by_cases h2 : 0 ≤ a2.toInt ∧ a2.toInt ≤ 1
    · obtain ⟨i1, i2, i3, i4⟩ := p_ix a1 a2 ⟨h1, h2⟩
      simp only [h1, h2, and_self, if_true, if_false, p_bad1, upd, show ¬ (1 : Int32) = 0 by decide]
      refine ⟨trivial, ⟨i1, trivial⟩, trivial, ?_⟩
      rw [if_pos]
      · exact ⟨⟨rfl, rfl, rfl, hwf⟩, hc, hm, hz, hn', ha⟩
      · rw [i2, ← hm _ _ i3 i4]
        simp [vp_updL]
    · simp only [h1, h2, and_self, and_false, if_true, if_false, p_bad0, upd, show ¬ (1 : Int32) = 0 by decide]
      exact ⟨trivial, trivial, trivial, ⟨rfl, rfl, rfl, hwf⟩, hc, hm, hz, hn', ha⟩
  · simp only [h1, false_and, if_true, if_false, p_bad0, upd, show ¬ (1 : Int32) = 0 by decide]
    exact ⟨trivial, trivial, trivial, ⟨rfl, rfl, rfl, hwf⟩, hc, hm, hz, hn', ha⟩
theorem p_map_upd {mp : Nat → Nat → Int64} {mm : Nat → Int64} (hm : ∀ r c, r < 6 → c < 2 → mp r c = mm (2 * r + c)) (a b : Nat) (hb : b < 2) (v : Int64) : ∀ r c, r < 6 → c < 2 → va_up mp a (vp_updL (mp a) b v) r c = vp_updL mm (2 * a + b) v (2 * r + c) := by
  intro r c hr hc
  simp only [va_up]
  by_cases h : r = a
  · subst h
    simp only [if_true, vp_updL]
    by_cases h2 : c = b
    · subst h2; simp
    · rw [if_neg h2, if_neg (by omega), hm _ _ hr hc]
  · rw [if_neg h]
    simp only [vp_updL]
    rw [if_neg (by omega), hm _ _ hr hc]
theorem p_arm6 (a1 a2 a3 a4 : Int32) (h : p_I n ((stp, psz, gk, gl, gh, opn, cki, ckl, mp, rk, rv, ri, chk), (mo, mi, ml, mk, mlo, mhi, pk, ps, pl, ph, mm), out)) : law_ok_6 (p_I (n + 1)) stp psz gk gl gh opn cki ckl mp rk rv ri chk mo mi ml mk mlo mhi pk ps pl ph mm out a1 a2 a3 a4 := by
  obtain ⟨⟨e1, e2, e3, hwf⟩, hc, hm, hz, hn, ha⟩ := h
  simp only at e1 e2 e3 hwf hc hm hz hn ha
  subst e1 e2 e3
  have hn' := p_mono5 hn
  have hs := hwf.2
  unfold law_ok_6
  generalize ((Int32.toInt64 a3 <<< (Int32.toInt64 32 &&& 63)) ||| (Int32.toInt64 a4 &&& 4294967295)) = v
  simp only [s_Lw_fill, s_CM_fill, s_Md_fill, k_ok_Md_fill, s_Rn_setMapCell, x_let, s_Md_thrown, p_in64, p_inMap, show (0 : Int64).toInt = 0 from rfl, show (5 : Int64).toInt = 5 from rfl, show (1 : Int64).toInt = 1 from rfl]
  by_cases h1 : 0 ≤ a1.toInt ∧ a1.toInt ≤ 5
  · by_cases h2 : 0 ≤ a2.toInt ∧ a2.toInt ≤ 1
    · obtain ⟨i1, i2, i3, i4⟩ := p_ix a1 a2 ⟨h1, h2⟩
      simp only [h1, h2, and_self, if_true, if_false, p_bad1, upd, show ¬ (1 : Int32) = 0 by decide]
      refine ⟨trivial, ⟨i1, trivial⟩, trivial, ?_⟩
      rw [i2]
      exact ⟨⟨rfl, rfl, rfl, hwf⟩, hc, p_map_upd hm _ _ i4 v, hz, hn', ha⟩
    · simp only [h1, h2, and_self, and_false, if_true, if_false, p_bad0, upd, show ¬ (1 : Int32) = 0 by decide]
      exact ⟨trivial, trivial, trivial, ⟨rfl, rfl, rfl, hwf⟩, hc, hm, hz, hn', ha⟩
  · simp only [h1, false_and, if_true, if_false, p_bad0, upd, show ¬ (1 : Int32) = 0 by decide]
    exact ⟨trivial, trivial, trivial, ⟨rfl, rfl, rfl, hwf⟩, hc, hm, hz, hn', ha⟩
theorem p_arm7 (a1 : Int32) (h : p_I n ((stp, psz, gk, gl, gh, opn, cki, ckl, mp, rk, rv, ri, chk), (mo, mi, ml, mk, mlo, mhi, pk, ps, pl, ph, mm), out)) : law_ok_7 (p_I (n + 1)) stp psz gk gl gh opn cki ckl mp rk rv ri chk mo mi ml mk mlo mhi pk ps pl ph mm out a1 := by
  obtain ⟨⟨e1, e2, e3, hwf⟩, hc, hm, hz, hn, ha⟩ := h
  simp only at e1 e2 e3 hwf hc hm hz hn ha
  subst e1 e2 e3
  have hn' := p_mono5 hn
  have hs := hwf.2
  obtain ⟨c1, c2, c3, c4, c5, c6, c7⟩ := hc
  unfold law_ok_7
  by_cases h1 : a1 = 0
  · simp only [h1, if_true, s_Lw_outcome, s_CM_outcome, s_Md_outcome, x_let, s_Md_thrown, s_Ck_least, s_Ck_greatest]
    by_cases h7 : mi 7 = 0
    · simp only [h7, upd, if_true, if_false, show ¬ (7 : Nat) = 6 by decide, show ¬ (1 : Int32) = 0 by decide]
      exact ⟨trivial, trivial, trivial, ⟨rfl, rfl, h7.symm, hwf⟩, ⟨c1, c2, c3, c4, c5, c6, c7⟩, hm, hz, hn', ha⟩
    · simp only [h7, upd, if_true, if_false, show ¬ (7 : Nat) = 6 by decide, vp_updL]
      refine ⟨trivial, trivial, trivial, ?_⟩
      rw [if_pos c6]
      exact ⟨⟨rfl, rfl, rfl, hwf⟩, ⟨c1, c2, c3, c4, c5, c6, c7⟩, hm, hz, hn', ha⟩
  · simp only [h1, if_false, s_Lw_outcome, s_CM_outcome, s_Md_outcome, x_let, s_Md_thrown, s_Ck_least, s_Ck_greatest]
    by_cases h7 : mi 7 = 0
    · simp only [h7, upd, if_true, if_false, show ¬ (7 : Nat) = 6 by decide, show ¬ (1 : Int32) = 0 by decide]
      exact ⟨trivial, trivial, trivial, ⟨rfl, rfl, h7.symm, hwf⟩, ⟨c1, c2, c3, c4, c5, c6, c7⟩, hm, hz, hn', ha⟩
    · simp only [h7, upd, if_true, if_false, show ¬ (7 : Nat) = 6 by decide, show ¬ (1 : Int32) = 0 by decide, vp_updL]
      refine ⟨trivial, trivial, trivial, ?_⟩
      rw [if_pos c7]
      exact ⟨⟨rfl, rfl, rfl, hwf⟩, ⟨c1, c2, c3, c4, c5, c6, c7⟩, hm, hz, hn', ha⟩
theorem p_arm8 (a1 : Int32) (h : p_I n ((stp, psz, gk, gl, gh, opn, cki, ckl, mp, rk, rv, ri, chk), (mo, mi, ml, mk, mlo, mhi, pk, ps, pl, ph, mm), out)) : law_ok_8 (p_I (n + 1)) stp psz gk gl gh opn cki ckl mp rk rv ri chk mo mi ml mk mlo mhi pk ps pl ph mm out a1 := by
  obtain ⟨⟨e1, e2, e3, hwf⟩, hc, hm, hz, hn, ha⟩ := h
  simp only at e1 e2 e3 hwf hc hm hz hn ha
  subst e1 e2 e3
  have hn' := p_mono5 hn
  have hs := hwf.2
  obtain ⟨c1, c2, c3, c4, c5, c6, c7⟩ := hc
  have J : p_I (n + 1) (((fun j k => mo k j), mi 0, gk, gl, gh, opn, cki, ckl, mp, rk, rv, ri, mi 7), (mo, upd mi 6 0, ml, mk, mlo, mhi, pk, ps, pl, ph, mm), out) := ⟨⟨rfl, rfl, rfl, hwf⟩, ⟨c1, c2, c3, c4, c5, c6, c7⟩, hm, hz, hn', ha⟩
  unfold law_ok_8
  refine ⟨trivial, trivial, ?_⟩
  have e : s_Md_count mi a1 = (s_CM_count (mi 0) cki ri (mi 7) a1, upd mi 6 0) := by
    unfold s_Md_count s_CM_count
    simp only [x_let, s_Pg_size, s_Ck_reason, s_Ck_rejectedAt, s_Ck_looked, s_Rn_stepsRun, s_Rn_countCalls, upd, c1, c2, c3, c4, c5]
    repeat' split
    all_goals first | rfl | (exfalso; simp_all; done)
  rw [e]
  simp only [x_let, if_true]
  exact J
end Arms
