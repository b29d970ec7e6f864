/-! run: steps that reach out -/
theorem p_x5 {v : Int64} {n : Int32} {c : Nat} (hv : -100 ≤ v.toInt ∧ v.toInt ≤ 100) (hc : v.toInt + n.toInt = (c : Int)) (h5 : c ≤ 5) : Int64.toInt32 v + n = Int32.ofNat c ∧ (v + Int32.toInt64 n).toInt = (c : Int) := by
  have e : (Int64.toInt32 v).toInt = v.toInt := by rw [Int64.toInt_toInt32, Int.bmod_def]; omega
  refine ⟨?_, by rw [p_off n hv, hc]⟩
  apply Int32.toInt_inj.mp
  rw [Int32.toInt_add, e, hc, p_c32 (by omega), Int.bmod_def]; omega
section Reach
variable (mo : Nat → Nat → Int32) (i : Int32) (sz : Int32) (K : Nat → Int32) (Lo Hi : Nat → Int64) (rk : Nat → Int32) (rv : Nat → Int64) (mi mk : Nat → Int32) (mlo mhi mm : Nat → Int64) (mp : Nat → Nat → Int64) (ri : Nat → Int32)
/-- a row's cell, in both -/
theorem p_row {r : Nat} {kk : Int32} {hi : Int64} {c : Nat} (hk : kk.toInt = (r : Int) + 3) (hr : r ≤ 5) (hh : hi.toInt = (r : Int)) (hc : c ≤ 1) : s_CM_isInMap (kk - 3) (Int32.ofNat c) = 1 ∧ (kk - 3).toNatClampNeg = r ∧ vp_in (Int64.toInt32 hi * 2 + Int32.ofNat c) 12 ∧ (Int64.toInt32 hi * 2 + Int32.ofNat c).toNatClampNeg = 2 * r + c := by
  have e1 : (kk - 3).toInt = (r : Int) := by rw [Int32.toInt_sub, hk, show (3 : Int32).toInt = 3 from rfl, Int.bmod_def]; omega
  have e2 : (kk - 3).toNatClampNeg = r := by
    show (kk - 3).toInt.toNat = r
    rw [e1]; rfl
  have e3 : Int64.toInt32 hi = Int32.ofNat r := p_toI hh (by omega)
  have ix := p_ix (Int32.ofNat r) (Int32.ofNat c) ⟨by rw [p_c32 (by omega)]; omega, by rw [p_c32 (by omega)]; omega⟩
  rw [p_cn (by omega), p_cn (by omega)] at ix
  refine ⟨?_, e2, by rw [e3]; exact ix.1, by rw [e3]; exact ix.2.1⟩
  rw [p_inMap, e1, p_c32 (by omega), if_pos (by omega)]
theorem s_load (a1 : Int64) (hwf : p_wf mo sz) (hi0 : 0 ≤ i.toInt) (hg : p_gd K Lo Hi) (hl : p_let mo i sz K Lo Hi) (h0 : mo 0 i.toNatClampNeg = 14) (h : p_gam K Lo Hi rk rv) (hcc : p_cc rk rv mk mlo mhi) (hz : p_z mk mlo mhi) (hm : ∀ r c, r < 6 → c < 2 → mp r c = mm (2 * r + c)) :
    ∃ rk' rv' mk' mlo' mhi', s_Rn_reachOut (fun j k => mo k j) mp rk rv ri i.toNatClampNeg = (mp, rk', rv', ri) ∧ k_ok_Md_transfer mo mk mlo mhi mm i 1 ∧ s_Md_transfer mo mk mlo mhi mm i 1 = (mk', mlo', mhi', mm) ∧ p_gamG (p_fol mo K Lo Hi i) rk' rv' ∧ p_cc rk' rv' mk' mlo' mhi' ∧ p_z mk' mlo' mhi' := by
  obtain ⟨hop, hd, hs, ht⟩ := hwf.1 i.toNatClampNeg
  have hsz := hwf.2
  obtain ⟨l1, l2, l3, l4, l5, l6, l7, l8, l9⟩ := hl
  have h24 : vp_in i 24 := vp_in_iff.mpr (by omega)
  have hd6 := p_reg hd
  have hs6 := p_reg hs
  have hd12 : vp_in (mo 1 i.toNatClampNeg) 12 := vp_in_iff.mpr (by omega)
  have hs12 : vp_in (mo 2 i.toNatClampNeg) 12 := vp_in_iff.mpr (by omega)
  have P := j_place0 mo i hd hs K Lo Hi hg l7
  have es : mlo (mo 2 i.toNatClampNeg).toNatClampNeg = rv (mo 2 i.toNatClampNeg).toNatClampNeg := cc_lo hcc (by omega)
  have hf : p_fol mo K Lo Hi i = s_Md_load mo K Lo Hi i := by unfold p_fol; simp [h0]
  rw [hf]
  rcases j_kind14 mo i _ _ _ h0 l5 with h3 | h2
  · obtain ⟨r1, x1, x2⟩ := v_3 h (show (mo 2 i.toNatClampNeg).toNatClampNeg < 12 by omega) h3
    obtain ⟨m3, mh⟩ := cc_3 hcc (show (mo 2 i.toNatClampNeg).toNatClampNeg < 12 by omega) r1
    obtain ⟨b1, b2, b3⟩ := p_gd_place hg (k := (mo 2 i.toNatClampNeg).toNatClampNeg) (by omega) (Or.inr h3)
    have q := P.2.2.2.1 h0 h3
    obtain ⟨c, hc⟩ : ∃ c : Nat, (rv (mo 2 i.toNatClampNeg).toNatClampNeg).toInt + (mo 3 i.toNatClampNeg).toInt = (c : Int) := ⟨((rv (mo 2 i.toNatClampNeg).toNatClampNeg).toInt + (mo 3 i.toNatClampNeg).toInt).toNat, by omega⟩
    obtain ⟨r, hr⟩ : ∃ r : Nat, (rk (mo 2 i.toNatClampNeg).toNatClampNeg).toInt = (r : Int) + 3 := ⟨((rk (mo 2 i.toNatClampNeg).toNatClampNeg).toInt - 3).toNat, by omega⟩
    obtain ⟨y1, y2⟩ := p_x5 (v := rv (mo 2 i.toNatClampNeg).toNatClampNeg) (n := mo 3 i.toNatClampNeg) (c := c) (by omega) hc (by omega)
    obtain ⟨w1, w2, w3, w4⟩ := p_row (kk := rk (mo 2 i.toNatClampNeg).toNatClampNeg) (hi := mhi (mo 2 i.toNatClampNeg).toNatClampNeg) (c := c) hr (by omega) (by omega) (by omega)
    have ne2 : ¬ rk (mo 2 i.toNatClampNeg).toNatClampNeg = 2 := fun e => by rw [e] at r1; exact absurd r1.1 (by decide)
    refine ⟨upd rk (mo 1 i.toNatClampNeg).toNatClampNeg 1, vp_updL rv (mo 1 i.toNatClampNeg).toNatClampNeg (mp r c), (s_Md_know mk mlo mhi (mo 1 i.toNatClampNeg) 1 (mm (2 * r + c)) 0).1, (s_Md_know mk mlo mhi (mo 1 i.toNatClampNeg) 1 (mm (2 * r + c)) 0).2.1, (s_Md_know mk mlo mhi (mo 1 i.toNatClampNeg) 1 (mm (2 * r + c)) 0).2.2, ?_, ?_, ?_, ?_, ?_, ?_⟩
    · simp only [s_Rn_reachOut, h0, if_true, x_let, s_Rn_load, ne2, if_false, s_Rn_mapCell, p_toI y2 (show c ≤ 1000 by omega), w1, w2, p_cn (c := c) (by omega), show ¬ (1 : Int32) = 0 by decide, s_Rn_set]
    · simp only [k_ok_Md_transfer, show ¬ (1 : Int32) = 0 by decide, if_false, m3, if_true, es, y1]
      exact ⟨h24, hs12, w3, ⟨hd12, trivial⟩, trivial⟩
    · simp only [s_Md_transfer, show ¬ (1 : Int32) = 0 by decide, if_false, m3, if_true, es, y1, w4, x_let]
    · unfold s_Md_load
      simp only [h3, if_true, x_let]
      exact s_know h (v_num (p_btw_any _))
    · exact cc_know hcc ⟨(hm r c (by omega) (by omega)).symm, Or.inl ⟨Or.inr (Or.inl rfl), rfl⟩⟩
    · exact z_know hz (by omega) _ _ _
  · obtain ⟨r1, x1, x2⟩ := v_2 h (show (mo 2 i.toNatClampNeg).toNatClampNeg < 12 by omega) h2
    have m2 := cc_2 hcc (show (mo 2 i.toNatClampNeg).toNatClampNeg < 12 by omega) r1
    obtain ⟨b1, b2, b3⟩ := p_gd_place hg (k := (mo 2 i.toNatClampNeg).toNatClampNeg) (by omega) (Or.inl h2)
    have q := P.2.2.1 h0 h2
    obtain ⟨f, l, q1, q2, q3, q4⟩ := p_reach hg (by omega) h2 (mo 3 i.toNatClampNeg) q
    have q3' := q3
    have q4' := q4
    rw [p_off _ (by omega)] at q3' q4'
    obtain ⟨c, hc⟩ : ∃ c : Nat, (rv (mo 2 i.toNatClampNeg).toNatClampNeg).toInt + (mo 3 i.toNatClampNeg).toInt = (c : Int) := ⟨((rv (mo 2 i.toNatClampNeg).toNatClampNeg).toInt + (mo 3 i.toNatClampNeg).toInt).toNat, by omega⟩
    obtain ⟨y1, y2⟩ := p_x5 (v := rv (mo 2 i.toNatClampNeg).toNatClampNeg) (n := mo 3 i.toNatClampNeg) (c := c) (by omega) hc (by omega)
    refine ⟨upd rk (mo 1 i.toNatClampNeg).toNatClampNeg (rk (6 + c)), vp_updL rv (mo 1 i.toNatClampNeg).toNatClampNeg (rv (6 + c)), (s_Md_copy mk mlo mhi (Int32.ofNat (6 + c)) (mo 1 i.toNatClampNeg)).1, (s_Md_copy mk mlo mhi (Int32.ofNat (6 + c)) (mo 1 i.toNatClampNeg)).2.1, (s_Md_copy mk mlo mhi (Int32.ofNat (6 + c)) (mo 1 i.toNatClampNeg)).2.2, ?_, ?_, ?_, ?_, ?_, ?_⟩
    · have n1 : ¬ rv (mo 2 i.toNatClampNeg).toNatClampNeg + Int32.toInt64 (mo 3 i.toNatClampNeg) < 0 := by rw [Int64.lt_iff_toInt_lt, y2, show (0 : Int64).toInt = 0 from rfl]; omega
      have n2 : ¬ 6 ≤ rv (mo 2 i.toNatClampNeg).toNatClampNeg + Int32.toInt64 (mo 3 i.toNatClampNeg) := by rw [Int64.le_iff_toInt_le, y2, show (6 : Int64).toInt = 6 from rfl]; omega
      simp only [s_Rn_reachOut, h0, if_true, x_let, s_Rn_load, r1, if_false, n1, n2, p_toI y2 (show c ≤ 1000 by omega), p_c6, p_cn (c := 6 + c) (by omega), s_Rn_set]
    · simp only [k_ok_Md_transfer, show ¬ (1 : Int32) = 0 by decide, if_false, m2, show ¬ (2 : Int32) = 3 by decide, es, y1, bk_ok_Md_transfer_99, p_c6]
      exact ⟨h24, hs12, hs12, ⟨p_vinc (by omega) (by omega), ⟨hd12, trivial⟩, trivial⟩, trivial⟩
    · simp only [s_Md_transfer, show ¬ (1 : Int32) = 0 by decide, if_false, m2, show ¬ (2 : Int32) = 3 by decide, es, y1, bk_Md_transfer_99, p_c6, x_let]
    · obtain ⟨lo, hi, e, t1, t2⟩ := c_load mo i f l K Lo Hi h2 q3 q4 q1 q2
      rw [e]
      refine s_know h ?_
      by_cases hfl : f = l
      · have hcf : c = f := by omega
        obtain ⟨u1, u2⟩ := t2 hfl
        rw [u1, u2, hcf]; exact h _ (by omega)
      · have kk : ∀ e : Nat, f ≤ e → e ≤ l → K (6 + e) = 1 := by
          intro e he1 he2
          have F := (j_cells mo (fun _ => K) (fun _ => Lo) (fun _ => Hi) i hd hs h24 hg l5 l7).2.2 l8 h0 h2 e (by omega) (by omega) (by omega)
          rcases F.2 with F | F
          · have := congrArg Int64.toInt F
            rw [q3, q4] at this; omega
          · exact F
        obtain ⟨u1, u2, u3⟩ := v_1 h (show 6 + c < 12 by omega) (kk c (by omega) (by omega))
        have u4 := t1 c (by omega) (by omega)
        rw [kk f (by omega) (by omega), u1]
        exact v_num ⟨by omega, by omega⟩
    · unfold s_Md_copy
      simp only [x_let, p_cn (c := 6 + c) (by omega)]
      exact cc_know hcc (hcc _ (by omega))
    · exact z_know hz (by omega) _ _ _
theorem s_stor (a1 : Int64) (hwf : p_wf mo sz) (hi0 : 0 ≤ i.toInt) (hg : p_gd K Lo Hi) (hl : p_let mo i sz K Lo Hi) (h0 : mo 0 i.toNatClampNeg = 15) (h : p_gam K Lo Hi rk rv) (hcc : p_cc rk rv mk mlo mhi) (hz : p_z mk mlo mhi) (hm : ∀ r c, r < 6 → c < 2 → mp r c = mm (2 * r + c)) :
    ∃ mp' rk' rv' mk' mlo' mhi' mm', s_Rn_reachOut (fun j k => mo k j) mp rk rv ri i.toNatClampNeg = (mp', rk', rv', ri) ∧ k_ok_Md_transfer mo mk mlo mhi mm i 0 ∧ s_Md_transfer mo mk mlo mhi mm i 0 = (mk', mlo', mhi', mm') ∧ p_gamG (p_fol mo K Lo Hi i) rk' rv' ∧ p_cc rk' rv' mk' mlo' mhi' ∧ p_z mk' mlo' mhi' ∧ (∀ r c, r < 6 → c < 2 → mp' r c = mm' (2 * r + c)) := by
  obtain ⟨hop, hd, hs, ht⟩ := hwf.1 i.toNatClampNeg
  have hsz := hwf.2
  obtain ⟨l1, l2, l3, l4, l5, l6, l7, l8, l9⟩ := hl
  have h24 : vp_in i 24 := vp_in_iff.mpr (by omega)
  have hd6 := p_reg hd
  have hs6 := p_reg hs
  have hd12 : vp_in (mo 1 i.toNatClampNeg) 12 := vp_in_iff.mpr (by omega)
  have hs12 : vp_in (mo 2 i.toNatClampNeg) 12 := vp_in_iff.mpr (by omega)
  have P := j_place0 mo i hd hs K Lo Hi hg l7
  have ed : mlo (mo 1 i.toNatClampNeg).toNatClampNeg = rv (mo 1 i.toNatClampNeg).toNatClampNeg := cc_lo hcc (by omega)
  have es : mlo (mo 2 i.toNatClampNeg).toNatClampNeg = rv (mo 2 i.toNatClampNeg).toNatClampNeg := cc_lo hcc (by omega)
  have hf : p_fol mo K Lo Hi i = s_Md_store mo K Lo Hi i := by unfold p_fol; simp [h0]
  rw [hf]
  rcases j_kind15 mo i _ _ _ h0 l5 with ⟨h3, -⟩ | ⟨h2, hks⟩
  · obtain ⟨r1, x1, x2⟩ := v_3 h (show (mo 1 i.toNatClampNeg).toNatClampNeg < 12 by omega) h3
    obtain ⟨m3, mh⟩ := cc_3 hcc (show (mo 1 i.toNatClampNeg).toNatClampNeg < 12 by omega) r1
    obtain ⟨b1, b2, b3⟩ := p_gd_place hg (k := (mo 1 i.toNatClampNeg).toNatClampNeg) (by omega) (Or.inr h3)
    have q := P.2.2.2.2.2 h0 h3
    obtain ⟨c, hc⟩ : ∃ c : Nat, (rv (mo 1 i.toNatClampNeg).toNatClampNeg).toInt + (mo 3 i.toNatClampNeg).toInt = (c : Int) := ⟨((rv (mo 1 i.toNatClampNeg).toNatClampNeg).toInt + (mo 3 i.toNatClampNeg).toInt).toNat, by omega⟩
    obtain ⟨r, hr⟩ : ∃ r : Nat, (rk (mo 1 i.toNatClampNeg).toNatClampNeg).toInt = (r : Int) + 3 := ⟨((rk (mo 1 i.toNatClampNeg).toNatClampNeg).toInt - 3).toNat, by omega⟩
    obtain ⟨y1, y2⟩ := p_x5 (v := rv (mo 1 i.toNatClampNeg).toNatClampNeg) (n := mo 3 i.toNatClampNeg) (c := c) (by omega) hc (by omega)
    obtain ⟨w1, w2, w3, w4⟩ := p_row (kk := rk (mo 1 i.toNatClampNeg).toNatClampNeg) (hi := mhi (mo 1 i.toNatClampNeg).toNatClampNeg) (c := c) hr (by omega) (by omega) (by omega)
    have ne2 : ¬ rk (mo 1 i.toNatClampNeg).toNatClampNeg = 2 := fun e => by rw [e] at r1; exact absurd r1.1 (by decide)
    refine ⟨va_up mp r (vp_updL (mp r) c (rv (mo 2 i.toNatClampNeg).toNatClampNeg)), rk, rv, mk, mlo, mhi, vp_updL mm (2 * r + c) (rv (mo 2 i.toNatClampNeg).toNatClampNeg), ?_, ?_, ?_, ?_, hcc, hz, p_map_upd hm _ _ (by omega) _⟩
    · simp only [s_Rn_reachOut, h0, if_true, x_let, s_Rn_store, ne2, if_false, s_Rn_setMapCell, p_toI y2 (show c ≤ 1000 by omega), w1, w2, p_cn (c := c) (by omega), show ¬ (1 : Int32) = 0 by decide, show ¬ (15 : Int32) = 14 by decide]
    · simp only [k_ok_Md_transfer, if_true, m3, bk_ok_Md_transfer_99, ed, y1]
      exact ⟨h24, hd12, hd12, hs12, w3, trivial⟩
    · simp only [s_Md_transfer, if_true, m3, bk_Md_transfer_99, ed, es, y1, w4]
    · unfold s_Md_store
      simp only [h3, if_true]
      exact h
  · obtain ⟨r1, x1, x2⟩ := v_2 h (show (mo 1 i.toNatClampNeg).toNatClampNeg < 12 by omega) h2
    have m2 := cc_2 hcc (show (mo 1 i.toNatClampNeg).toNatClampNeg < 12 by omega) r1
    obtain ⟨b1, b2, b3⟩ := p_gd_place hg (k := (mo 1 i.toNatClampNeg).toNatClampNeg) (by omega) (Or.inl h2)
    have q := P.2.2.2.2.1 h0 h2
    obtain ⟨f, l, q1, q2, q3, q4⟩ := p_reach hg (by omega) h2 (mo 3 i.toNatClampNeg) q
    have q3' := q3
    have q4' := q4
    rw [p_off _ (by omega)] at q3' q4'
    obtain ⟨c, hc⟩ : ∃ c : Nat, (rv (mo 1 i.toNatClampNeg).toNatClampNeg).toInt + (mo 3 i.toNatClampNeg).toInt = (c : Int) := ⟨((rv (mo 1 i.toNatClampNeg).toNatClampNeg).toInt + (mo 3 i.toNatClampNeg).toInt).toNat, by omega⟩
    obtain ⟨y1, y2⟩ := p_x5 (v := rv (mo 1 i.toNatClampNeg).toNatClampNeg) (n := mo 3 i.toNatClampNeg) (c := c) (by omega) hc (by omega)
    refine ⟨mp, upd rk (6 + c) (rk (mo 2 i.toNatClampNeg).toNatClampNeg), vp_updL rv (6 + c) (rv (mo 2 i.toNatClampNeg).toNatClampNeg), (s_Md_copy mk mlo mhi (mo 2 i.toNatClampNeg) (Int32.ofNat (6 + c))).1, (s_Md_copy mk mlo mhi (mo 2 i.toNatClampNeg) (Int32.ofNat (6 + c))).2.1, (s_Md_copy mk mlo mhi (mo 2 i.toNatClampNeg) (Int32.ofNat (6 + c))).2.2, mm, ?_, ?_, ?_, ?_, ?_, ?_, hm⟩
    · have n1 : ¬ rv (mo 1 i.toNatClampNeg).toNatClampNeg + Int32.toInt64 (mo 3 i.toNatClampNeg) < 0 := by rw [Int64.lt_iff_toInt_lt, y2, show (0 : Int64).toInt = 0 from rfl]; omega
      have n2 : ¬ 6 ≤ rv (mo 1 i.toNatClampNeg).toNatClampNeg + Int32.toInt64 (mo 3 i.toNatClampNeg) := by rw [Int64.le_iff_toInt_le, y2, show (6 : Int64).toInt = 6 from rfl]; omega
      simp only [s_Rn_reachOut, h0, if_true, x_let, s_Rn_store, r1, if_false, n1, n2, p_toI y2 (show c ≤ 1000 by omega), p_c6, p_cn (c := 6 + c) (by omega), s_Rn_set, show ¬ (15 : Int32) = 14 by decide]
    · simp only [k_ok_Md_transfer, if_true, m2, show ¬ (2 : Int32) = 3 by decide, if_false, ed, y1, bk_ok_Md_transfer_99, p_c6]
      exact ⟨h24, hd12, hd12, ⟨hs12, ⟨p_vinc (by omega) (by omega), trivial⟩, trivial⟩, trivial⟩
    · simp only [s_Md_transfer, if_true, m2, show ¬ (2 : Int32) = 3 by decide, if_false, ed, y1, bk_Md_transfer_99, p_c6, x_let]
    · rcases c_store mo i f l K Lo Hi hs6 h2 q3 q4 q1 q2 with ⟨t1, e⟩ | ⟨t1, Lo', Hi', e, t2, t3⟩
      · have hcf : c = f := by omega
        rw [e, hcf]
        have := s_copy h (mo 2 i.toNatClampNeg) (Int32.ofNat (6 + f)) (by omega)
        rw [p_cn (by omega)] at this
        exact this
      · rw [e]
        have lne : ¬ Lo (mo 1 i.toNatClampNeg).toNatClampNeg = Hi (mo 1 i.toNatClampNeg).toNatClampNeg := fun hq => by rw [hq] at q3; omega
        have ks : K (mo 2 i.toNatClampNeg).toNatClampNeg = 1 := by
          rcases hks with hks | hks
          · exact absurd hks lne
          · exact hks
        obtain ⟨u1, u2, u3⟩ := v_1 h (show (mo 2 i.toNatClampNeg).toNatClampNeg < 12 by omega) ks
        intro j hj
        show p_val (K j) (Lo' j) (Hi' j) (upd rk (6 + c) (rk (mo 2 i.toNatClampNeg).toNatClampNeg) j) (vp_updL rv (6 + c) (rv (mo 2 i.toNatClampNeg).toNatClampNeg) j)
        by_cases he : ∃ e, f ≤ e ∧ e ≤ l ∧ j = 6 + e
        · obtain ⟨e, e1, e2, e3⟩ := he
          subst e3
          have kk := (j_store mo (fun _ => K) (fun _ => Lo) (fun _ => Hi) i hd h24 hg l5).2.2 l6 h0 h2 lne e (by omega) (by omega) (by omega)
          rcases kk with kk | kk
          · exact Or.inl kk
          · have kk : K (6 + e) = 1 := kk
            obtain ⟨s1, s2, s3⟩ := t3 e e1 e2
            rw [kk]
            by_cases hec : 6 + e = 6 + c
            · rw [hec, p_upd_self, p_updL_self, ← hec]
              obtain ⟨s4, s5⟩ := s3 (by rw [kk]; decide)
              rw [u1]; exact v_num ⟨by omega, by omega⟩
            · rw [p_upd_ne _ _ hec, p_updL_ne _ _ hec]
              obtain ⟨v1, v2, v3⟩ := v_1 h hj kk
              rw [v1]; exact v_num ⟨by omega, by omega⟩
        · obtain ⟨a, b⟩ := t2 j he
          have hec : j ≠ 6 + c := fun hh => he ⟨c, by omega, by omega, hh⟩
          rw [a, b, p_upd_ne _ _ hec, p_updL_ne _ _ hec]; exact h j hj
    · have := cc_know (d := Int32.ofNat (6 + c)) hcc (hcc (mo 2 i.toNatClampNeg).toNatClampNeg (by omega))
      rw [p_cn (by omega)] at this
      exact this
    · exact z_know hz (by rw [p_cn (by omega)]; omega) _ _ _
theorem p_mod {x : Int32} (h : 0 ≤ x.toInt) : 0 ≤ (x - x / 100 * 100).toInt ∧ (x - x / 100 * 100).toInt ≤ 99 := by
  have b := p_r32 x
  have e1 : (x / 100).toInt = x.toInt / 100 := by
    rw [Int32.toInt_div, show (100 : Int32).toInt = 100 from rfl, Int.tdiv_eq_ediv_of_nonneg h, Int.bmod_def]; omega
  have e2 : (x / 100 * 100).toInt = x.toInt / 100 * 100 := by
    rw [Int32.toInt_mul, e1, show (100 : Int32).toInt = 100 from rfl, Int.bmod_def]; omega
  rw [Int32.toInt_sub, e2, Int.bmod_def]; omega
theorem s_calln (hwf : p_wf mo sz) (hi0 : 0 ≤ i.toInt) (hg : p_gd K Lo Hi) (hl : p_let mo i sz K Lo Hi) (h0 : mo 0 i.toNatClampNeg = 16) (h : p_gam K Lo Hi rk rv) (hcc : p_cc rk rv mk mlo mhi) (hz : p_z mk mlo mhi) (h5 : ri 1 = mi 5) (hn : 0 ≤ (mi 5).toInt ∧ (mi 5).toInt ≤ 100000) :
    ∃ rk' rv' ri' mi' mk' mlo' mhi', s_Rn_reachOut (fun j k => mo k j) mp rk rv ri i.toNatClampNeg = (mp, rk', rv', ri') ∧ k_ok_Md_callNow mi mk mlo mhi (mo 3 i.toNatClampNeg) ∧ s_Md_callNow mi mk mlo mhi (mo 3 i.toNatClampNeg) = (mi', mk', mlo', mhi') ∧ p_gamG (p_fol mo K Lo Hi i) rk' rv' ∧ p_cc rk' rv' mk' mlo' mhi' ∧ p_z mk' mlo' mhi' ∧ (ri' 0 = ri 0 ∧ ri' 1 = mi' 5) ∧ (∀ k, k ≠ 5 → mi' k = mi k) ∧ (0 ≤ (mi' 5).toInt ∧ (mi' 5).toInt ≤ (mi 5).toInt + 1) := by
  obtain ⟨hop, hd, hs, ht⟩ := hwf.1 i.toNatClampNeg
  obtain ⟨l1, l2, l3, l4, l5, l6, l7, l8, l9⟩ := hl
  have N := j_number0 mo i l4
  have KK := j_kinds mo i K Lo Hi hop l4 l5
  have hf : p_fol mo K Lo Hi i = s_Md_callGuess K Lo Hi (mo 3 i.toNatClampNeg) := by unfold p_fol; simp [h0]
  rw [hf]
  have one : Int32.toNatClampNeg 1 = 1 := rfl
  have two : Int32.toNatClampNeg 2 = 2 := rfl
  have zero : Int32.toNatClampNeg 0 = 0 := rfl
  have three : Int32.toNatClampNeg 3 = 3 := rfl
  have z : ∀ k : Nat, k < 12 → vp_in (Int32.ofNat k) 12 := fun k hk => p_vinc hk (by omega)
  have z0 : vp_in 0 12 := z 0 (by omega)
  have L : ∀ mi K Lo Hi (a : Int32), lp_Md_callNow_109 4 mi K Lo Hi a 1 = (mi, upd (upd (upd K 1 0) 2 0) 3 0, vp_updL (vp_updL (vp_updL Lo 1 0) 2 0) 3 0, vp_updL (vp_updL (vp_updL Hi 1 0) 2 0) 3 0) := fun _ _ _ _ _ => rfl
  have Lk : ∀ mi K Lo Hi (a : Int32), lp_ok_Md_callNow_109 4 mi K Lo Hi a 1 := by
    intro mi K Lo Hi a
    have z1 : vp_in 1 12 := z 1 (by omega)
    have z2 : vp_in 2 12 := z 2 (by omega)
    have z3 : vp_in 3 12 := z 3 (by omega)
    simp [lp_ok_Md_callNow_109, k_ok_Md_know, z1, z2, z3, x_let]
  have cl : ∀ {rk : Nat → Int32} {rv : Nat → Int64} {mk : Nat → Int32} {mlo mhi : Nat → Int64}, p_cc rk rv mk mlo mhi → p_cc (upd (upd (upd rk 1 0) 2 0) 3 0) (vp_updL (vp_updL (vp_updL rv 1 0) 2 0) 3 0) (upd (upd (upd mk 1 0) 2 0) 3 0) (vp_updL (vp_updL (vp_updL mlo 1 0) 2 0) 3 0) (vp_updL (vp_updL (vp_updL mhi 1 0) 2 0) 3 0) := by
    intro rk rv mk mlo mhi h
    have c0 : p_cel 0 0 0 0 0 := ⟨rfl, Or.inl ⟨Or.inl rfl, rfl⟩⟩
    exact cc_know (d := 3) (cc_know (d := 2) (cc_know (d := 1) h c0) c0) c0
  have zl : ∀ {mk : Nat → Int32} {mlo mhi : Nat → Int64}, p_z mk mlo mhi → p_z (upd (upd (upd mk 1 0) 2 0) 3 0) (vp_updL (vp_updL (vp_updL mlo 1 0) 2 0) 3 0) (vp_updL (vp_updL (vp_updL mhi 1 0) 2 0) 3 0) := fun h => z_know (d := 3) (z_know (d := 2) (z_know (d := 1) h (by decide) 0 0 0) (by decide) 0 0 0) (by decide) 0 0 0
  have e1 : mlo 1 = rv 1 := cc_lo hcc (by omega)
  have e2 : mlo 2 = rv 2 := cc_lo hcc (by omega)
  rcases N.2.2 h0 with n0 | n0 | n0
  · have b := p_mod hn.1
    have ek : (mi 5 + 1).toInt = (mi 5).toInt + 1 := by rw [Int32.toInt_add, show (1 : Int32).toInt = 1 from rfl, Int.bmod_def]; omega
    refine ⟨_, _, _, upd mi 5 (mi 5 + 1), _, _, _, by simp only [s_Rn_reachOut, h0, if_false, show ¬ (16 : Int32) = 14 by decide, show ¬ (16 : Int32) = 15 by decide, x_let, s_Rn_call, n0, if_true, s_Rn_set]; rfl, ?_, by simp only [s_Md_callNow, n0, if_true, x_let, bk_Md_callNow_44, bk_Md_callNow_81, bk_Md_callNow_106, show ¬ (0 : Int32) = 1 by decide, show ¬ (0 : Int32) = 2 by decide, if_false, L]; rfl, ?_, ?_, ?_, ?_, ?_, ?_⟩
    · simp only [k_ok_Md_callNow, n0, if_true, x_let, bk_ok_Md_callNow_44, bk_ok_Md_callNow_81, bk_ok_Md_callNow_106, show ¬ (0 : Int32) = 1 by decide, show ¬ (0 : Int32) = 2 by decide, if_false]
      exact ⟨⟨z0, trivial⟩, Lk _ _ _ _ _⟩
    · rw [n0, p_guess0]
      refine s_clear3 _ (s_know (d := 0) h ?_)
      rw [h5]
      refine v_num ⟨?_, ?_⟩
      · rw [Int32.toInt_toInt64]; exact b.1
      · rw [Int32.toInt_toInt64]; exact b.2
    · rw [h5]
      exact cl (cc_know (d := 0) hcc ⟨rfl, Or.inl ⟨Or.inr (Or.inl rfl), rfl⟩⟩)
    · exact zl (z_know (d := 0) hz (by decide) _ _ _)
    · simp [upd, h5]
    · intro k hk; exact p_upd_ne _ _ hk
    · rw [p_upd_self, ek]; omega
  · have k1 := KK.2.2.2.2.2.1 h0 n0
    obtain ⟨r1, x1, x2⟩ := v_1 h (show 1 < 12 by omega) k1
    have q := l9 h0 n0
    by_cases c6 : 6 ≤ rv 1
    · have c6' := Int64.le_iff_toInt_le.mp c6
      rw [show (6 : Int64).toInt = 6 from rfl] at c6'
      have cneg : ¬ rv 1 < 0 := by rw [Int64.lt_iff_toInt_lt, show (0 : Int64).toInt = 0 from rfl]; omega
      refine ⟨_, _, ri, mi, _, _, _, by simp only [s_Rn_reachOut, h0, if_false, show ¬ (16 : Int32) = 14 by decide, show ¬ (16 : Int32) = 15 by decide, x_let, s_Rn_call, n0, if_true, show ¬ (1 : Int32) = 0 by decide, s_Rn_findRow, one, cneg, c6, s_Rn_set]; rfl, ?_, by simp only [s_Md_callNow, n0, if_true, x_let, bk_Md_callNow_44, bk_Md_callNow_81, bk_Md_callNow_106, show ¬ (1 : Int32) = 0 by decide, show ¬ (1 : Int32) = 2 by decide, if_false, one, e1, c6, L]; rfl, ?_, ?_, ?_, ⟨rfl, h5⟩, fun k _ => rfl, ⟨hn.1, by omega⟩⟩
      · simp only [k_ok_Md_callNow, n0, if_true, x_let, bk_ok_Md_callNow_44, bk_ok_Md_callNow_81, bk_ok_Md_callNow_106, show ¬ (1 : Int32) = 0 by decide, show ¬ (1 : Int32) = 2 by decide, if_false, one, e1, c6]
        exact ⟨⟨z0, trivial⟩, Lk _ _ _ _ _⟩
      · rw [n0, p_guess1]
        exact s_clear3 _ (s_know (d := 0) h (Or.inr (Or.inr (Or.inr (Or.inr ⟨rfl, rfl, Or.inl rfl⟩)))))
      · exact cl (cc_know (d := 0) hcc ⟨rfl, Or.inl ⟨Or.inr (Or.inl rfl), rfl⟩⟩)
      · exact zl (z_know (d := 0) hz (by decide) _ _ _)
    · have c6' := Int64.lt_iff_toInt_lt.mp (Int64.not_le.mp c6)
      rw [show (6 : Int64).toInt = 6 from rfl] at c6'
      have cneg : ¬ rv 1 < 0 := by rw [Int64.lt_iff_toInt_lt, show (0 : Int64).toInt = 0 from rfl]; omega
      have ekk : (3 + Int64.toInt32 (rv 1)).toInt = 3 + (rv 1).toInt := by
        have e0 : (Int64.toInt32 (rv 1)).toInt = (rv 1).toInt := by rw [Int64.toInt_toInt32, Int.bmod_def]; omega
        rw [Int32.toInt_add, e0, show (3 : Int32).toInt = 3 from rfl, Int.bmod_def]; omega
      refine ⟨_, _, ri, mi, _, _, _, by simp only [s_Rn_reachOut, h0, if_false, show ¬ (16 : Int32) = 14 by decide, show ¬ (16 : Int32) = 15 by decide, x_let, s_Rn_call, n0, if_true, show ¬ (1 : Int32) = 0 by decide, s_Rn_findRow, one, cneg, c6, s_Rn_set]; rfl, ?_, by simp only [s_Md_callNow, n0, if_true, x_let, bk_Md_callNow_44, bk_Md_callNow_81, bk_Md_callNow_106, show ¬ (1 : Int32) = 0 by decide, show ¬ (1 : Int32) = 2 by decide, if_false, one, e1, c6, L]; rfl, ?_, ?_, ?_, ⟨rfl, h5⟩, fun k _ => rfl, ⟨hn.1, by omega⟩⟩
      · simp only [k_ok_Md_callNow, n0, if_true, x_let, bk_ok_Md_callNow_44, bk_ok_Md_callNow_81, bk_ok_Md_callNow_106, show ¬ (1 : Int32) = 0 by decide, show ¬ (1 : Int32) = 2 by decide, if_false, one, e1, c6]
        exact ⟨⟨z0, trivial⟩, Lk _ _ _ _ _⟩
      · rw [n0, p_guess1]
        exact s_clear3 _ (s_know (d := 0) h (Or.inr (Or.inr (Or.inr (Or.inr ⟨rfl, rfl, Or.inr (by omega)⟩)))))
      · exact cl (cc_know (d := 0) hcc ⟨rfl, Or.inr ⟨by omega, rfl, by omega⟩⟩)
      · exact zl (z_know (d := 0) hz (by decide) _ _ _)
  · have kk := KK.2.2.2.2.2.2.1 h0 n0
    obtain ⟨r1, x1, x2⟩ := v_1 h (show 1 < 12 by omega) kk.1
    obtain ⟨r2, y1, y2⟩ := v_1 h (show 2 < 12 by omega) kk.2
    have em : (if rv 2 < rv 1 then rv 1 else rv 2) = if rv 1 ≤ rv 2 then rv 2 else rv 1 := by
      rw [p_max]
      by_cases c1 : rv 1 ≤ rv 2
      · by_cases c2 : rv 2 ≤ rv 1
        · rw [if_pos c1, if_pos c2]; exact Int64.le_antisymm c1 c2
        · rw [if_pos c1, if_neg c2]
      · rw [if_neg c1, if_pos (Int64.le_of_lt (Int64.not_le.mp c1))]
    refine ⟨_, _, ri, mi, upd (upd (upd (upd mk 0 1) 1 0) 2 0) 3 0, vp_updL (vp_updL (vp_updL (vp_updL mlo 0 (if rv 1 ≤ rv 2 then rv 2 else rv 1)) 1 0) 2 0) 3 0, vp_updL (vp_updL (vp_updL (vp_updL mhi 0 0) 1 0) 2 0) 3 0, by simp only [s_Rn_reachOut, h0, if_false, show ¬ (16 : Int32) = 14 by decide, show ¬ (16 : Int32) = 15 by decide, x_let, s_Rn_call, n0, if_true, show ¬ (2 : Int32) = 0 by decide, show ¬ (2 : Int32) = 1 by decide, one, two, em, s_Rn_set]; rfl, ?_, ?_, ?_, ?_, ?_, ⟨rfl, h5⟩, fun k _ => rfl, ⟨hn.1, by omega⟩⟩
    · simp only [k_ok_Md_callNow, n0, if_true, x_let, bk_ok_Md_callNow_44, bk_ok_Md_callNow_81, bk_ok_Md_callNow_106, show ¬ (2 : Int32) = 0 by decide, show ¬ (2 : Int32) = 1 by decide, if_false]
      split
      · exact ⟨⟨z0, trivial⟩, Lk _ _ _ _ _⟩
      · exact ⟨⟨z0, trivial⟩, Lk _ _ _ _ _⟩
    · simp only [s_Md_callNow, n0, if_true, x_let, bk_Md_callNow_44, bk_Md_callNow_81, bk_Md_callNow_106, show ¬ (2 : Int32) = 0 by decide, show ¬ (2 : Int32) = 1 by decide, if_false, one, two, e1, e2, L]
      by_cases c1 : rv 1 ≤ rv 2
      · rw [if_pos c1, if_pos c1]; rfl
      · rw [if_neg c1, if_neg c1]; rfl
    · rw [n0, p_guess2]
      refine s_clear3 _ (s_know (d := 0) h (v_num ⟨?_, ?_⟩))
      · exact g_max x1 y1
      · exact g_max x2 y2
    · exact cl (cc_know (d := 0) hcc ⟨rfl, Or.inl ⟨Or.inr (Or.inl rfl), rfl⟩⟩)
    · exact zl (z_know (d := 0) hz (by decide) _ _ _)
end Reach
