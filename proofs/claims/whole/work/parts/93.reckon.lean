/-! run: steps that reckon -/
section Reckon
variable (mo : Nat → Nat → Int32) (i : Int32) (sz : Int32)
theorem rs_some (mp : Nat → Nat → Int64) (rk : Nat → Int32) (rv : Nat → Int64) (ri : Nat → Int32) (hi0 : 0 ≤ i.toInt) (hi : i.toInt < sz.toInt) (hz : sz.toInt ≤ 24) : s_Rn_runStep (fun j k => mo k j) sz mp rk rv ri i = (if mo 0 i.toNatClampNeg = 17 then (-1, mp, rk, rv, ri) else (if mo 0 i.toNatClampNeg < 10 ∨ 13 < mo 0 i.toNatClampNeg then (if mo 0 i.toNatClampNeg < 14 then (i + 1, mp, (s_Rn_reckon (fun j k => mo k j) rk rv i.toNatClampNeg).1, (s_Rn_reckon (fun j k => mo k j) rk rv i.toNatClampNeg).2, ri) else (i + 1, (s_Rn_reachOut (fun j k => mo k j) mp rk rv ri i.toNatClampNeg).1, (s_Rn_reachOut (fun j k => mo k j) mp rk rv ri i.toNatClampNeg).2.1, (s_Rn_reachOut (fun j k => mo k j) mp rk rv ri i.toNatClampNeg).2.2.1, (s_Rn_reachOut (fun j k => mo k j) mp rk rv ri i.toNatClampNeg).2.2.2)) else (if s_Rn_jumps (fun j k => mo k j) rk rv i.toNatClampNeg = 0 then (i + 1, mp, rk, rv, ri) else (mo 4 i.toNatClampNeg, mp, rk, rv, ri)))) := by
  unfold s_Rn_runStep
  rw [p_stepAt sz i hi0 hi hz]
  simp only [x_let, p_mayJump]
  by_cases c0 : mo 0 i.toNatClampNeg = 17
  · rw [if_pos c0, if_pos c0]
  · rw [if_neg c0, if_neg c0]
    by_cases c : mo 0 i.toNatClampNeg < 10 ∨ 13 < mo 0 i.toNatClampNeg
    · rw [if_pos c, if_pos rfl, if_pos c]
    · rw [if_neg c, if_neg (by decide), if_neg c]
theorem s_reckon (K : Nat → Int32) (Lo Hi : Nat → Int64) (rk : Nat → Int32) (rv : Nat → Int64) (hwf : p_wf mo sz) (hg : p_gd K Lo Hi) (hl : p_let mo i sz K Lo Hi) (hj : mo 0 i.toNatClampNeg < 10) (h : p_gam K Lo Hi rk rv) : p_gamG (p_fol mo K Lo Hi i) (s_Rn_reckon (fun j k => mo k j) rk rv i.toNatClampNeg).1 (s_Rn_reckon (fun j k => mo k j) rk rv i.toNatClampNeg).2 := by
  obtain ⟨hop, hd, hs, ht⟩ := hwf.1 i.toNatClampNeg
  obtain ⟨l1, l2, l3, l4, l5, l6, l7, l8, l9⟩ := hl
  have hd6 := p_reg hd
  have hs6 := p_reg hs
  have P := j_place0 mo i hd hs K Lo Hi hg l7
  have N := j_number0 mo i l4
  have KK := j_kinds mo i K Lo Hi hop l4 l5
  have nb := p_r32 (mo 3 i.toNatClampNeg)
  have mov : ∀ a b y : Int64, p_btw a y b → (K (mo 1 i.toNatClampNeg).toNatClampNeg = 1 ∨ K (mo 1 i.toNatClampNeg).toNatClampNeg = 2 ∨ K (mo 1 i.toNatClampNeg).toNatClampNeg = 3) → ((K (mo 1 i.toNatClampNeg).toNatClampNeg = 2 ∨ K (mo 1 i.toNatClampNeg).toNatClampNeg = 3) → -100 ≤ (Lo (mo 1 i.toNatClampNeg).toNatClampNeg).toInt + a.toInt ∧ (Hi (mo 1 i.toNatClampNeg).toNatClampNeg).toInt + b.toInt ≤ 100) → p_gamG (s_Md_move K Lo Hi (mo 1 i.toNatClampNeg) a b) rk (vp_updL rv (mo 1 i.toNatClampNeg).toNatClampNeg (rv (mo 1 i.toNatClampNeg).toNatClampNeg + y)) := by
    intro a b y hab hk hp
    rcases hk with hk | hk
    · obtain ⟨lo, hi, e, q⟩ := c_move K Lo Hi (mo 1 i.toNatClampNeg) a b hk
      obtain ⟨r1, b1⟩ := v_1 h (show (mo 1 i.toNatClampNeg).toNatClampNeg < 12 by omega) hk
      rw [e]
      refine s_knowv h ?_
      rw [r1]; exact v_num (q _ _ b1 hab)
    · obtain ⟨b1, b2, b3⟩ := p_gd_place hg (by omega) hk
      have hp := hp hk
      obtain ⟨e, e1, e2⟩ := c_moveP K Lo Hi (mo 1 i.toNatClampNeg) a b hp.1 hp.2 (by have := hab.1; have := hab.2; omega)
      rw [e]
      refine s_knowv h ?_
      have key : ∀ x : Int64, p_btw (Lo (mo 1 i.toNatClampNeg).toNatClampNeg) x (Hi (mo 1 i.toNatClampNeg).toNatClampNeg) → p_btw (Lo (mo 1 i.toNatClampNeg).toNatClampNeg + a) (x + y) (Hi (mo 1 i.toNatClampNeg).toNatClampNeg + b) := by
        intro x hx
        obtain ⟨x1, x2⟩ := hx
        obtain ⟨y1, y2⟩ := hab
        exact n_add (by omega) (by omega) ⟨x1, x2⟩ ⟨y1, y2⟩
      rcases hk with hk | hk
      · obtain ⟨r1, b1⟩ := v_2 h (show (mo 1 i.toNatClampNeg).toNatClampNeg < 12 by omega) hk
        rw [hk]; exact Or.inr (Or.inr (Or.inl ⟨rfl, r1, key _ b1⟩))
      · obtain ⟨r1, b1⟩ := v_3 h (show (mo 1 i.toNatClampNeg).toNatClampNeg < 12 by omega) hk
        rw [hk]; exact Or.inr (Or.inr (Or.inr (Or.inl ⟨rfl, r1, key _ b1⟩)))
  have ari : ∀ (op : Int32) (F : Int64 → Int64), K (mo 1 i.toNatClampNeg).toNatClampNeg = 1 → (∃ lo hi, s_Md_arithmetic K Lo Hi op (mo 1 i.toNatClampNeg) (Int32.toInt64 (mo 3 i.toNatClampNeg)) = s_Md_know K Lo Hi (mo 1 i.toNatClampNeg) 1 lo hi ∧ ∀ x, p_btw (Lo (mo 1 i.toNatClampNeg).toNatClampNeg) x (Hi (mo 1 i.toNatClampNeg).toNatClampNeg) → p_btw lo (F x) hi) → p_gamG (s_Md_arithmetic K Lo Hi op (mo 1 i.toNatClampNeg) (Int32.toInt64 (mo 3 i.toNatClampNeg))) rk (vp_updL rv (mo 1 i.toNatClampNeg).toNatClampNeg (F (rv (mo 1 i.toNatClampNeg).toNatClampNeg))) := by
    intro op F hk ⟨lo, hi, e, q⟩
    obtain ⟨r1, b1⟩ := v_1 h (show (mo 1 i.toNatClampNeg).toNatClampNeg < 12 by omega) hk
    rw [e]
    refine s_knowv h ?_
    rw [r1]; exact v_num (q _ b1)
  unfold p_fol
  simp only [s_Rn_reckon, x_let, s_Rn_set]
  rcases p_op18 hop with h0 | h0 | h0 | h0 | h0 | h0 | h0 | h0 | h0 | h0 | h0 | h0 | h0 | h0 | h0 | h0 | h0 | h0
  all_goals first | (exfalso; rw [h0] at hj; exact absurd hj (by decide)) | skip
  · simp only [h0, if_true]
    exact s_know h (v_num ⟨Int.le_refl _, Int.le_refl _⟩)
  · simp only [h0, if_true, if_false, show ¬ (1 : Int32) = 0 by decide]
    exact s_copy h _ _ (by omega)
  · simp only [h0, if_true, if_false, show ¬ (2 : Int32) = 0 by decide, show ¬ (2 : Int32) = 1 by decide]
    exact mov _ _ _ ⟨Int.le_refl _, Int.le_refl _⟩ (KK.1 h0) (fun hq => by rw [Int32.toInt_toInt64]; exact P.1 h0 hq)
  · simp only [h0, if_true, if_false, show ¬ (3 : Int32) = 0 by decide, show ¬ (3 : Int32) = 1 by decide, show ¬ (3 : Int32) = 2 by decide]
    exact mov _ _ _ (v_1 h (show (mo 2 i.toNatClampNeg).toNatClampNeg < 12 by omega) (KK.2.1 h0).2).2 (KK.2.1 h0).1 (fun hq => P.2.1 h0 hq)
  · simp only [h0, if_true, if_false, show ¬ (4 : Int32) = 0 by decide, show ¬ (4 : Int32) = 1 by decide, show ¬ (4 : Int32) = 2 by decide, show ¬ (4 : Int32) = 3 by decide]
    have k := KK.2.2.1 (Or.inl h0)
    obtain ⟨lo, hi, e, q⟩ := c_sub K Lo Hi (mo 1 i.toNatClampNeg) (mo 2 i.toNatClampNeg)
    obtain ⟨r1, b1⟩ := v_1 h (show (mo 1 i.toNatClampNeg).toNatClampNeg < 12 by omega) k.1
    obtain ⟨r2, b2⟩ := v_1 h (show (mo 2 i.toNatClampNeg).toNatClampNeg < 12 by omega) k.2
    rw [e]
    refine s_knowv h ?_
    rw [r1]; exact v_num (q _ _ b1 b2)
  · simp only [h0, if_true, if_false, show ¬ (5 : Int32) = 0 by decide, show ¬ (5 : Int32) = 1 by decide, show ¬ (5 : Int32) = 2 by decide, show ¬ (5 : Int32) = 3 by decide, show ¬ (5 : Int32) = 4 by decide, show (5 : Int32) < 10 by decide]
    exact ari 5 (fun x => x * Int32.toInt64 (mo 3 i.toNatClampNeg)) (KK.2.2.2.1 (by simp [h0])) (c_mul K Lo Hi _ _ (by rw [Int32.toInt_toInt64]; omega))
  · simp only [h0, if_true, if_false, show ¬ (6 : Int32) = 0 by decide, show ¬ (6 : Int32) = 1 by decide, show ¬ (6 : Int32) = 2 by decide, show ¬ (6 : Int32) = 3 by decide, show ¬ (6 : Int32) = 4 by decide, show ¬ (6 : Int32) = 5 by decide, show (6 : Int32) < 10 by decide]
    exact ari 6 (fun x => x &&& Int32.toInt64 (mo 3 i.toNatClampNeg)) (KK.2.2.2.1 (by simp [h0])) (c_and K Lo Hi _ _)
  · simp only [h0, if_true, if_false, show ¬ (7 : Int32) = 0 by decide, show ¬ (7 : Int32) = 1 by decide, show ¬ (7 : Int32) = 2 by decide, show ¬ (7 : Int32) = 3 by decide, show ¬ (7 : Int32) = 4 by decide, show ¬ (7 : Int32) = 5 by decide, show ¬ (7 : Int32) = 6 by decide, show (7 : Int32) < 10 by decide]
    exact ari 7 (fun x => x >>> (Int32.toInt64 (mo 3 i.toNatClampNeg) &&& 63)) (KK.2.2.2.1 (by simp [h0])) (c_shift K Lo Hi _ _)
  · simp only [h0, if_true, if_false, show ¬ (8 : Int32) = 0 by decide, show ¬ (8 : Int32) = 1 by decide, show ¬ (8 : Int32) = 2 by decide, show ¬ (8 : Int32) = 3 by decide, show ¬ (8 : Int32) = 4 by decide, show ¬ (8 : Int32) = 5 by decide, show ¬ (8 : Int32) = 6 by decide, show ¬ (8 : Int32) = 7 by decide, show (8 : Int32) < 10 by decide, p_n64 (N.2.1 h0)]
    exact ari 8 (fun x => x / Int32.toInt64 (mo 3 i.toNatClampNeg)) (KK.2.2.2.1 (by simp [h0])) (c_div K Lo Hi _ _ (p_n64 (N.2.1 h0)))
  · simp only [h0, if_true, if_false, show ¬ (9 : Int32) = 0 by decide, show ¬ (9 : Int32) = 1 by decide, show ¬ (9 : Int32) = 2 by decide, show ¬ (9 : Int32) = 3 by decide, show ¬ (9 : Int32) = 4 by decide, show ¬ (9 : Int32) = 5 by decide, show ¬ (9 : Int32) = 6 by decide, show ¬ (9 : Int32) = 7 by decide, show ¬ (9 : Int32) = 8 by decide, show (9 : Int32) < 10 by decide]
    exact ari 9 (fun x => -x) (KK.2.2.2.1 (by simp [h0])) (c_neg K Lo Hi _ _)
/-- the same in the reference -/
theorem m_reckon (rk : Nat → Int32) (rv : Nat → Int64) (mi mk : Nat → Int32) (mlo mhi mm : Nat → Int64) (a1 : Int64) (hwf : p_wf mo sz) (h24 : vp_in i 24) (hn8 : mo 0 i.toNatClampNeg = 8 → ¬ mo 3 i.toNatClampNeg = 0) (hj : mo 0 i.toNatClampNeg < 10) (hcc : p_cc rk rv mk mlo mhi) (hz : p_z mk mlo mhi) : ∃ mk' mlo' mhi', (∀ n, lp_Md_run_70 (n + 1) mo mi mk mlo mhi mm a1 i = lp_Md_run_70 n mo (upd mi 4 (mi 4 + 1)) mk' mlo' mhi' mm a1 (i + 1) ∧ (lp_ok_Md_run_70 n mo (upd mi 4 (mi 4 + 1)) mk' mlo' mhi' mm a1 (i + 1) → lp_ok_Md_run_70 (n + 1) mo mi mk mlo mhi mm a1 i)) ∧ p_cc (s_Rn_reckon (fun j k => mo k j) rk rv i.toNatClampNeg).1 (s_Rn_reckon (fun j k => mo k j) rk rv i.toNatClampNeg).2 mk' mlo' mhi' ∧ p_z mk' mlo' mhi' := by
  obtain ⟨hop, hd, hs, ht⟩ := hwf.1 i.toNatClampNeg
  have hd6 := p_reg hd
  have hs6 := p_reg hs
  have hd12 : vp_in (mo 1 i.toNatClampNeg) 12 := vp_in_iff.mpr (by omega)
  have hs12 : vp_in (mo 2 i.toNatClampNeg) 12 := vp_in_iff.mpr (by omega)
  have ed : mlo (mo 1 i.toNatClampNeg).toNatClampNeg = rv (mo 1 i.toNatClampNeg).toNatClampNeg := cc_lo hcc (by omega)
  have es : mlo (mo 2 i.toNatClampNeg).toNatClampNeg = rv (mo 2 i.toNatClampNeg).toNatClampNeg := cc_lo hcc (by omega)
  have zv : ∀ v, p_z mk (vp_updL mlo (mo 1 i.toNatClampNeg).toNatClampNeg v) mhi := by
    intro v k hk
    rw [p_updL_ne _ _ (show k ≠ (mo 1 i.toNatClampNeg).toNatClampNeg by omega)]; exact hz k hk
  have comp : ∀ v, (mo 0 i.toNatClampNeg = 2 ∨ mo 0 i.toNatClampNeg = 3 ∨ mo 0 i.toNatClampNeg = 4 ∨ mo 0 i.toNatClampNeg = 5 ∨ mo 0 i.toNatClampNeg = 6 ∨ mo 0 i.toNatClampNeg = 7 ∨ mo 0 i.toNatClampNeg = 8 ∨ mo 0 i.toNatClampNeg = 9) → k_ok_Md_compute mo mlo i → s_Md_compute mo mlo i = vp_updL mlo (mo 1 i.toNatClampNeg).toNatClampNeg v → (s_Rn_reckon (fun j k => mo k j) rk rv i.toNatClampNeg) = (rk, vp_updL rv (mo 1 i.toNatClampNeg).toNatClampNeg v) → ∃ mk' mlo' mhi', (∀ n, lp_Md_run_70 (n + 1) mo mi mk mlo mhi mm a1 i = lp_Md_run_70 n mo (upd mi 4 (mi 4 + 1)) mk' mlo' mhi' mm a1 (i + 1) ∧ (lp_ok_Md_run_70 n mo (upd mi 4 (mi 4 + 1)) mk' mlo' mhi' mm a1 (i + 1) → lp_ok_Md_run_70 (n + 1) mo mi mk mlo mhi mm a1 i)) ∧ p_cc (s_Rn_reckon (fun j k => mo k j) rk rv i.toNatClampNeg).1 (s_Rn_reckon (fun j k => mo k j) rk rv i.toNatClampNeg).2 mk' mlo' mhi' ∧ p_z mk' mlo' mhi' := by
    intro v ho hk e1 e2
    refine ⟨mk, s_Md_compute mo mlo i, mhi, fun n => r_29 mo i mi mk mlo mhi mm a1 n ho h24 hk, ?_, ?_⟩
    · rw [e1, e2]; exact cc_val hcc _ _
    · rw [e1]; exact zv v
  have e32 : Int64.toInt32 (Int32.toInt64 (mo 3 i.toNatClampNeg)) = mo 3 i.toNatClampNeg := by simp
  rcases p_op18 hop with h0 | h0 | h0 | h0 | h0 | h0 | h0 | h0 | h0 | h0 | h0 | h0 | h0 | h0 | h0 | h0 | h0 | h0
  all_goals first | (exfalso; rw [h0] at hj; exact absurd hj (by decide)) | skip
  · refine ⟨_, _, _, fun n => r_0 mo i mi mk mlo mhi mm a1 n h0 h24 hd12, ?_, z_know hz (by omega) _ _ _⟩
    simp only [s_Rn_reckon, x_let, s_Rn_set, h0, if_true]
    exact cc_know hcc ⟨rfl, Or.inl ⟨Or.inr (Or.inl rfl), rfl⟩⟩
  · refine ⟨_, _, _, fun n => r_1 mo i mi mk mlo mhi mm a1 n h0 h24 hd12 hs12, ?_, z_know hz (by omega) _ _ _⟩
    simp only [s_Rn_reckon, x_let, s_Rn_set, h0, if_true, if_false, show ¬ (1 : Int32) = 0 by decide]
    exact cc_know hcc (hcc _ (by omega))
  · refine comp (rv (mo 1 i.toNatClampNeg).toNatClampNeg + Int32.toInt64 (mo 3 i.toNatClampNeg)) (by simp [h0]) ?_ ?_ ?_
    · simp [k_ok_Md_compute, bk_ok_Md_compute_39, bk_ok_Md_compute_64, bk_ok_Md_compute_89, bk_ok_Md_compute_105, bk_ok_Md_compute_126, bk_ok_Md_compute_148, bk_ok_Md_compute_169, h0, h24, hd12]
    · simp [s_Md_compute, bk_Md_compute_39, bk_Md_compute_64, bk_Md_compute_89, bk_Md_compute_105, bk_Md_compute_126, bk_Md_compute_148, bk_Md_compute_169, h0, ed]
    · simp [s_Rn_reckon, h0]
  · refine comp (rv (mo 1 i.toNatClampNeg).toNatClampNeg + rv (mo 2 i.toNatClampNeg).toNatClampNeg) (by simp [h0]) ?_ ?_ ?_
    · simp [k_ok_Md_compute, bk_ok_Md_compute_39, bk_ok_Md_compute_64, bk_ok_Md_compute_89, bk_ok_Md_compute_105, bk_ok_Md_compute_126, bk_ok_Md_compute_148, bk_ok_Md_compute_169, h0, h24, hd12, hs12]
    · simp [s_Md_compute, bk_Md_compute_39, bk_Md_compute_64, bk_Md_compute_89, bk_Md_compute_105, bk_Md_compute_126, bk_Md_compute_148, bk_Md_compute_169, h0, ed, es]
    · simp [s_Rn_reckon, h0]
  · refine comp (rv (mo 1 i.toNatClampNeg).toNatClampNeg - rv (mo 2 i.toNatClampNeg).toNatClampNeg) (by simp [h0]) ?_ ?_ ?_
    · simp [k_ok_Md_compute, bk_ok_Md_compute_39, bk_ok_Md_compute_64, bk_ok_Md_compute_89, bk_ok_Md_compute_105, bk_ok_Md_compute_126, bk_ok_Md_compute_148, bk_ok_Md_compute_169, h0, h24, hd12, hs12]
    · simp [s_Md_compute, bk_Md_compute_39, bk_Md_compute_64, bk_Md_compute_89, bk_Md_compute_105, bk_Md_compute_126, bk_Md_compute_148, bk_Md_compute_169, h0, ed, es]
    · simp [s_Rn_reckon, h0]
  · refine comp (rv (mo 1 i.toNatClampNeg).toNatClampNeg * Int32.toInt64 (mo 3 i.toNatClampNeg)) (by simp [h0]) ?_ ?_ ?_
    · simp [k_ok_Md_compute, bk_ok_Md_compute_39, bk_ok_Md_compute_64, bk_ok_Md_compute_89, bk_ok_Md_compute_105, bk_ok_Md_compute_126, bk_ok_Md_compute_148, bk_ok_Md_compute_169, h0, h24, hd12]
    · simp [s_Md_compute, bk_Md_compute_39, bk_Md_compute_64, bk_Md_compute_89, bk_Md_compute_105, bk_Md_compute_126, bk_Md_compute_148, bk_Md_compute_169, h0, ed]
    · simp [s_Rn_reckon, h0]
  · refine comp (rv (mo 1 i.toNatClampNeg).toNatClampNeg &&& Int32.toInt64 (mo 3 i.toNatClampNeg)) (by simp [h0]) ?_ ?_ ?_
    · simp [k_ok_Md_compute, bk_ok_Md_compute_39, bk_ok_Md_compute_64, bk_ok_Md_compute_89, bk_ok_Md_compute_105, bk_ok_Md_compute_126, bk_ok_Md_compute_148, bk_ok_Md_compute_169, h0, h24, hd12]
    · simp [s_Md_compute, bk_Md_compute_39, bk_Md_compute_64, bk_Md_compute_89, bk_Md_compute_105, bk_Md_compute_126, bk_Md_compute_148, bk_Md_compute_169, h0, ed]
    · simp [s_Rn_reckon, h0]
  · refine comp (rv (mo 1 i.toNatClampNeg).toNatClampNeg >>> (Int32.toInt64 (mo 3 i.toNatClampNeg) &&& 63)) (by simp [h0]) ?_ ?_ ?_
    · simp [k_ok_Md_compute, bk_ok_Md_compute_39, bk_ok_Md_compute_64, bk_ok_Md_compute_89, bk_ok_Md_compute_105, bk_ok_Md_compute_126, bk_ok_Md_compute_148, bk_ok_Md_compute_169, h0, h24, hd12]
    · simp [s_Md_compute, bk_Md_compute_39, bk_Md_compute_64, bk_Md_compute_89, bk_Md_compute_105, bk_Md_compute_126, bk_Md_compute_148, bk_Md_compute_169, h0, ed]
    · simp [s_Rn_reckon, h0]
  · have n8 := p_n64 (hn8 h0)
    refine comp (rv (mo 1 i.toNatClampNeg).toNatClampNeg / Int32.toInt64 (mo 3 i.toNatClampNeg)) (by simp [h0]) ?_ ?_ ?_
    · simp [k_ok_Md_compute, bk_ok_Md_compute_39, bk_ok_Md_compute_64, bk_ok_Md_compute_89, bk_ok_Md_compute_105, bk_ok_Md_compute_126, bk_ok_Md_compute_148, bk_ok_Md_compute_169, h0, h24, hd12, n8]
    · simp [s_Md_compute, bk_Md_compute_39, bk_Md_compute_64, bk_Md_compute_89, bk_Md_compute_105, bk_Md_compute_126, bk_Md_compute_148, bk_Md_compute_169, h0, ed]
    · simp [s_Rn_reckon, h0, n8]
  · refine comp (-(rv (mo 1 i.toNatClampNeg).toNatClampNeg)) (by simp [h0]) ?_ ?_ ?_
    · simp [k_ok_Md_compute, bk_ok_Md_compute_39, bk_ok_Md_compute_64, bk_ok_Md_compute_89, bk_ok_Md_compute_105, bk_ok_Md_compute_126, bk_ok_Md_compute_148, bk_ok_Md_compute_169, h0, h24, hd12]
    · simp [s_Md_compute, bk_Md_compute_39, bk_Md_compute_64, bk_Md_compute_89, bk_Md_compute_105, bk_Md_compute_126, bk_Md_compute_148, bk_Md_compute_169, h0, ed]
    · simp [s_Rn_reckon, h0]
end Reckon
