/-! run, from its start; the invariant -/
theorem rb_N (stp : Nat → Nat → Int32) (sz : Int32) (mp : Nat → Nat → Int64) (rk : Nat → Int32) (rv : Nat → Int64) (ri : Nat → Int32) (a1 : Int64) (x : Int32) (N : Nat) : (x_let (s_Rn_set rk rv 1 1 a1) fun (rk2, rv2) => (x_let (s_Rn_set rk2 rv2 2 2 0) fun (rk3, rv3) => lp_Rn_runThrough_45 N stp sz mp rk3 rv3 ri a1 x x)) = lp_Rn_runThrough_45 N stp sz mp (upd (upd rk 1 1) 2 2) (vp_updL (vp_updL rv 1 a1) 2 0) ri a1 x x := rfl
theorem rb_C (stp : Nat → Nat → Int32) (sz : Int32) (mp : Nat → Nat → Int64) (ri : Nat → Int32) (a1 : Int64) : ∀ (n c : Nat) (rk : Nat → Int32) (rv : Nat → Int64), c + n = 13 → c ≤ 12 → lp_Rn_runThrough_2 n stp sz mp rk rv ri a1 (Int32.ofNat c) = lp_Rn_runThrough_45 25 stp sz mp (upd (upd (p_clr c rk) 1 1) 2 2) (vp_updL (vp_updL (p_clrL c rv) 1 a1) 2 0) (upd ri 0 0) a1 0 0 := by
  intro n
  induction n with
  | zero => intro c rk rv h1 h2; omega
  | succ n ih =>
    intro c rk rv h1 h2
    unfold lp_Rn_runThrough_2
    by_cases hc : 12 ≤ c
    · have e : c = 12 := by omega
      subst e
      rw [if_pos (show (12 : Int32) ≤ Int32.ofNat 12 by decide), p_clr12, p_clrL12]
      exact rb_N _ _ _ _ _ _ _ _ 25
    · rw [if_neg (by rw [p_le12 (by omega)]; omega), p_c1]
      have e : s_Rn_set rk rv (Int32.ofNat c) 0 0 = (upd rk c 0, vp_updL rv c 0) := by
        unfold s_Rn_set; rw [p_cn (by omega)]
      rw [e]
      have := ih (c + 1) (upd rk c 0) (vp_updL rv c 0) (by omega) (by omega)
      rw [p_clr_s (show c < 12 by omega), p_clrL_s (show c < 12 by omega)] at this
      exact this
def p_rbeg (K : Nat → Int32) (Lo Hi : Nat → Int64) (a1 : Int64) : (Nat → Int32) × (Nat → Int64) × (Nat → Int64) := (upd (upd K 1 1) 2 2, vp_updL (vp_updL Lo 1 a1) 2 0, vp_updL (vp_updL Hi 1 0) 2 0)
theorem rb_MN (mo : Nat → Nat → Int32) (mi : Nat → Int32) (mk : Nat → Int32) (mlo mhi mm : Nat → Int64) (a1 : Int64) (x : Int32) (N : Nat) : (x_let (s_Md_know mk mlo mhi 1 1 a1 0) fun (mk5, mlo5, mhi5) => (x_let (s_Md_know mk5 mlo5 mhi5 2 2 0 0) fun (mk7, mlo7, mhi7) => lp_Md_run_70 N mo mi mk7 mlo7 mhi7 mm a1 x)) = lp_Md_run_70 N mo mi (p_rbeg mk mlo mhi a1).1 (p_rbeg mk mlo mhi a1).2.1 (p_rbeg mk mlo mhi a1).2.2 mm a1 x := rfl
theorem rb_MNk (mo : Nat → Nat → Int32) (mi : Nat → Int32) (mk : Nat → Int32) (mlo mhi mm : Nat → Int64) (a1 : Int64) (x : Int32) (N : Nat) (h : lp_ok_Md_run_70 N mo mi (p_rbeg mk mlo mhi a1).1 (p_rbeg mk mlo mhi a1).2.1 (p_rbeg mk mlo mhi a1).2.2 mm a1 x) : (k_ok_Md_know mk mlo mhi 1 1 a1 0 ∧ (x_let (s_Md_know mk mlo mhi 1 1 a1 0) fun (mk5, mlo5, mhi5) => (k_ok_Md_know mk5 mlo5 mhi5 2 2 0 0 ∧ (x_let (s_Md_know mk5 mlo5 mhi5 2 2 0 0) fun (mk7, mlo7, mhi7) => lp_ok_Md_run_70 N mo mi mk7 mlo7 mhi7 mm a1 x)))) :=
  ⟨⟨p_vinc (a := 1) (by omega) (by omega), trivial⟩, ⟨p_vinc (a := 2) (by omega) (by omega), trivial⟩, h⟩
theorem rb_M (mo : Nat → Nat → Int32) (mi : Nat → Int32) (mm : Nat → Int64) (a1 : Int64) : ∀ (n c : Nat) (mk : Nat → Int32) (mlo mhi : Nat → Int64), c + n = 13 → c ≤ 12 → lp_Md_run_27 n mo mi mk mlo mhi mm a1 (Int32.ofNat c) = lp_Md_run_70 25 mo (upd mi 4 1) (p_rbeg (p_clr c mk) (p_clrL c mlo) (p_clrL c mhi) a1).1 (p_rbeg (p_clr c mk) (p_clrL c mlo) (p_clrL c mhi) a1).2.1 (p_rbeg (p_clr c mk) (p_clrL c mlo) (p_clrL c mhi) a1).2.2 mm a1 0 ∧ (lp_ok_Md_run_70 25 mo (upd mi 4 1) (p_rbeg (p_clr c mk) (p_clrL c mlo) (p_clrL c mhi) a1).1 (p_rbeg (p_clr c mk) (p_clrL c mlo) (p_clrL c mhi) a1).2.1 (p_rbeg (p_clr c mk) (p_clrL c mlo) (p_clrL c mhi) a1).2.2 mm a1 0 → lp_ok_Md_run_27 n mo mi mk mlo mhi mm a1 (Int32.ofNat c)) := by
  intro n
  induction n with
  | zero => intro c mk mlo mhi h1 h2; omega
  | succ n ih =>
    intro c mk mlo mhi h1 h2
    unfold lp_Md_run_27 lp_ok_Md_run_27
    by_cases hc : 12 ≤ c
    · have e : c = 12 := by omega
      subst e
      rw [if_pos (show (12 : Int32) ≤ Int32.ofNat 12 by decide), if_pos (show (12 : Int32) ≤ Int32.ofNat 12 by decide), p_clr12, p_clrL12, p_clrL12]
      exact ⟨rb_MN _ _ _ _ _ _ _ _ 25, fun h => rb_MNk _ _ _ _ _ _ _ _ 25 h⟩
    · rw [if_neg (by rw [p_le12 (by omega)]; omega), if_neg (by rw [p_le12 (by omega)]; omega), p_c1]
      have e : s_Md_know mk mlo mhi (Int32.ofNat c) 0 0 0 = (upd mk c 0, vp_updL mlo c 0, vp_updL mhi c 0) := by
        unfold s_Md_know; rw [p_cn (by omega)]
      rw [e]
      have J := ih (c + 1) (upd mk c 0) (vp_updL mlo c 0) (vp_updL mhi c 0) (by omega) (by omega)
      rw [p_clr_s (show c < 12 by omega), p_clrL_s (show c < 12 by omega), p_clrL_s (show c < 12 by omega)] at J
      exact ⟨J.1, fun h => ⟨⟨p_vinc (by omega) (by omega), trivial⟩, J.2 h⟩⟩
theorem rb_gam (rk : Nat → Int32) (rv : Nat → Int64) (a1 : Int64) : p_gam p_K0 p_L0 p_H0 (upd (upd (p_clr 0 rk) 1 1) 2 2) (vp_updL (vp_updL (p_clrL 0 rv) 1 a1) 2 0) := by
  intro j hj
  by_cases h2 : j = 2
  · subst h2; exact Or.inr (Or.inr (Or.inl ⟨rfl, rfl, ⟨Int.le_refl _, Int.le_refl _⟩⟩))
  by_cases h1 : j = 1
  · subst h1; exact Or.inr (Or.inl ⟨rfl, rfl, p_btw_any a1⟩)
  refine Or.inl ?_
  unfold p_K0; rw [if_neg h1, if_neg h2]
theorem rb_cc (rk : Nat → Int32) (rv : Nat → Int64) (a1 : Int64) (mk : Nat → Int32) (mlo mhi : Nat → Int64) : p_ccG (upd (upd (p_clr 0 rk) 1 1) 2 2) (vp_updL (vp_updL (p_clrL 0 rv) 1 a1) 2 0) (p_rbeg (p_clr 0 mk) (p_clrL 0 mlo) (p_clrL 0 mhi) a1) := by
  intro j hj
  simp only [p_rbeg]
  by_cases h2 : j = 2
  · subst h2; exact ⟨rfl, Or.inl ⟨Or.inr (Or.inr rfl), rfl⟩⟩
  by_cases h1 : j = 1
  · subst h1; exact ⟨rfl, Or.inl ⟨Or.inr (Or.inl rfl), rfl⟩⟩
  rw [p_upd_ne _ _ h2, p_upd_ne _ _ h1, p_upd_ne _ _ h2, p_upd_ne _ _ h1, p_updL_ne _ _ h2, p_updL_ne _ _ h1, p_updL_ne _ _ h2, p_updL_ne _ _ h1]
  unfold p_clr p_clrL
  rw [if_pos (by omega), if_pos (by omega), if_pos (by omega), if_pos (by omega)]
  exact ⟨rfl, Or.inl ⟨Or.inl rfl, rfl⟩⟩
theorem rb_z (mk : Nat → Int32) (mlo mhi : Nat → Int64) (a1 : Int64) (hz : p_z mk mlo mhi) : p_zG (p_rbeg (p_clr 0 mk) (p_clrL 0 mlo) (p_clrL 0 mhi) a1) := by
  intro k hk
  simp only [p_rbeg]
  rw [p_upd_ne _ _ (by omega), p_upd_ne _ _ (by omega), p_updL_ne _ _ (by omega), p_updL_ne _ _ (by omega), p_updL_ne _ _ (by omega), p_updL_ne _ _ (by omega)]
  unfold p_clr p_clrL
  rw [if_neg (by omega), if_neg (by omega), if_neg (by omega)]
  exact hz k hk
/-- the two runs agree -/
theorem p_runs (mo : Nat → Nat → Int32) (mi : Nat → Int32) (mk : Nat → Int32) (mlo mhi mm : Nat → Int64) (mp : Nat → Nat → Int64) (rk : Nat → Int32) (rv : Nat → Int64) (ri : Nat → Int32) (a1 : Int64) (B : Nat) (hB : B ≤ 20000) (hwf : p_wf mo (mi 0)) (hacc : p_acc mo (mi 0)) (h7 : ¬ mi 7 = 0) (hz : p_z mk mlo mhi) (hm : ∀ r c, r < 6 → c < 2 → mp r c = mm (2 * r + c)) (h5 : ri 1 = mi 5) (hn : 0 ≤ (mi 5).toInt ∧ (mi 5).toInt ≤ (B : Int)) :
    k_ok_Md_run mo mi mk mlo mhi mm a1 ∧ p_rpost B (upd mi 6 0) (s_Rn_runThrough (fun j k => mo k j) (mi 0) mp rk rv ri a1) (s_Md_run mo mi mk mlo mhi mm a1) := by
  obtain ⟨s, hs⟩ := hacc
  have u7 : ¬ (upd mi 6 0) 7 = 0 := by rw [p_upd_ne _ _ (by decide)]; exact h7
  unfold k_ok_Md_run s_Md_run s_Rn_runThrough
  rw [if_neg h7, if_neg h7, if_neg u7, if_neg u7]
  have C := rb_C (fun j k => mo k j) (mi 0) mp ri a1 13 0 rk rv (by omega) (by omega)
  have M := rb_M mo (upd mi 6 0) mm a1 13 0 mk mlo mhi (by omega) (by omega)
  rw [show Int32.ofNat 0 = 0 from rfl] at C M
  rw [C, M.1]
  have key : ∀ N : Nat, N = 25 → (lp_ok_Md_run_70 N mo (upd (upd mi 6 0) 4 1) (p_rbeg (p_clr 0 mk) (p_clrL 0 mlo) (p_clrL 0 mhi) a1).1 (p_rbeg (p_clr 0 mk) (p_clrL 0 mlo) (p_clrL 0 mhi) a1).2.1 (p_rbeg (p_clr 0 mk) (p_clrL 0 mlo) (p_clrL 0 mhi) a1).2.2 mm a1 0 → lp_ok_Md_run_27 13 mo (upd mi 6 0) mk mlo mhi mm a1 0) → lp_ok_Md_run_27 13 mo (upd mi 6 0) mk mlo mhi mm a1 0 ∧ p_rpost B (upd mi 6 0) (lp_Rn_runThrough_45 N (fun j k => mo k j) (mi 0) mp (upd (upd (p_clr 0 rk) 1 1) 2 2) (vp_updL (vp_updL (p_clrL 0 rv) 1 a1) 2 0) (upd ri 0 0) a1 0 0) (lp_Md_run_70 N mo (upd (upd mi 6 0) 4 1) (p_rbeg (p_clr 0 mk) (p_clrL 0 mlo) (p_clrL 0 mhi) a1).1 (p_rbeg (p_clr 0 mk) (p_clrL 0 mlo) (p_clrL 0 mhi) a1).2.1 (p_rbeg (p_clr 0 mk) (p_clrL 0 mlo) (p_clrL 0 mhi) a1).2.2 mm a1 0) := by
    intro N hN hok
    obtain ⟨i1, i2⟩ := p_run mo (mi 0) hwf a1 B hB N 0 0 p_K0 p_L0 p_H0 (upd (upd (p_clr 0 rk) 1 1) 2 2) (vp_updL (vp_updL (p_clrL 0 rv) 1 a1) 2 0) mp (upd ri 0 0) (upd (upd mi 6 0) 4 1) (p_rbeg (p_clr 0 mk) (p_clrL 0 mlo) (p_clrL 0 mhi) a1).1 (p_rbeg (p_clr 0 mk) (p_clrL 0 mlo) (p_clrL 0 mhi) a1).2.1 (p_rbeg (p_clr 0 mk) (p_clrL 0 mlo) (p_clrL 0 mhi) a1).2.2 mm s (by omega) (by decide) hs p_gd0 (rb_gam rk rv a1) (rb_cc rk rv a1 mk mlo mhi) (rb_z mk mlo mhi a1 hz) hm (by simp [upd]) (by simpa [upd] using h5) (by
        rw [p_upd_ne _ _ (by decide), p_upd_ne _ _ (by decide)]; omega)
    rw [show Int32.ofNat 0 = 0 from rfl] at i2
    exact ⟨hok i1, p_rpost_mi i2 (fun k h1 h2 => p_upd_ne _ _ h1)⟩
  exact key 25 rfl M.2
theorem p_arm4 (n : Nat) (hn512 : n < 512) (stp : Nat → Nat → Int32) (psz : Int32) (gk : Nat → Nat → Int32) (gl : Nat → Nat → Int64) (gh : Nat → Nat → Int64) (opn : Nat → Int32) (cki : Nat → Int32) (ckl : Nat → Int64) (mp : Nat → Nat → Int64) (rk : Nat → Int32) (rv : Nat → Int64) (ri : Nat → Int32) (chk : Int32) (mo : Nat → Nat → Int32) (mi : Nat → Int32) (ml : Nat → Int64) (mk : Nat → Int32) (mlo : Nat → Int64) (mhi : Nat → Int64) (pk : Nat → Int32) (ps : Nat → Int32) (pl : Nat → Int64) (ph : Nat → Int64) (mm : Nat → Int64) (out : Nat → Int64) (a1 a2 : Int32)
    (h : p_I n ((stp, psz, gk, gl, gh, opn, cki, ckl, mp, rk, rv, ri, chk), (mo, mi, ml, mk, mlo, mhi, pk, ps, pl, ph, mm), out)) : law_ok_4 (p_I (n + 1)) stp psz gk gl gh opn cki ckl mp rk rv ri chk mo mi ml mk mlo mhi pk ps pl ph mm out a1 a2 := by
  obtain ⟨⟨e1, e2, e3, hwf⟩, hc, hm, hz, hn, ha⟩ := h
  simp only at e1 e2 e3 hwf hc hm hz hn ha
  subst e1 e2 e3
  have hn' := p_mono5 hn
  obtain ⟨c1, c2, c3, c4, c5, c6, c7⟩ := hc
  have hx : x_wf (fun j k => mo k j) := by
    intro j _
    obtain ⟨w0, w1, w2, w4⟩ := hwf.1 j
    exact ⟨vp_in_iff.mpr (show 0 ≤ (mo 1 j).toInt ∧ (mo 1 j).toInt < 6 by omega), vp_in_iff.mpr (show 0 ≤ (mo 2 j).toInt ∧ (mo 2 j).toInt < 6 by omega), vp_in_iff.mpr (show 0 ≤ (mo 4 j).toInt ∧ (mo 4 j).toInt < 24 by omega)⟩
  unfold law_ok_4
  generalize ((Int32.toInt64 a1 <<< (Int32.toInt64 32 &&& 63)) ||| (Int32.toInt64 a2 &&& 4294967295)) = v
  refine ⟨hx, ?_⟩
  unfold s_Lw_run s_CM_run
  by_cases h7 : mi 7 = 0
  · have u7 : (upd mi 6 1) 7 = 0 := by rw [p_upd_ne _ _ (by decide)]; exact h7
    have eM : s_Md_run mo mi mk mlo mhi mm v = (0, upd mi 6 1, mk, mlo, mhi, mm) := by
      unfold s_Md_run; rw [if_pos h7, if_pos u7]
    have kM : k_ok_Md_run mo mi mk mlo mhi mm v := by
      unfold k_ok_Md_run; rw [if_pos h7, if_pos u7]; trivial
    rw [if_pos h7, eM]
    simp only [x_let, s_Md_thrown, p_upd_self, if_true, show ¬ (1 : Int32) = 0 by decide, if_false]
    exact ⟨kM, trivial, ⟨rfl, rfl, rfl, hwf⟩, ⟨c1, c2, c3, c4, c5, c6, c7⟩, hm, hz, hn', ha⟩
  · obtain ⟨K1, K2⟩ := p_runs mo mi mk mlo mhi mm mp rk rv ri v (24 * n) (by omega) hwf (ha h7) h7 hz.2 hm c5 (by omega)
    rw [if_neg h7]
    generalize s_Rn_runThrough (fun j k => mo k j) (mi 0) mp rk rv ri v = C at K2
    obtain ⟨r, mp', rk', rv', ri'⟩ := C
    generalize s_Md_run mo mi mk mlo mhi mm v = M at K2
    obtain ⟨r2, mi', mk', mlo', mhi', mm'⟩ := M
    obtain ⟨p1, p2, ⟨p3, p4⟩, p5, p6, p7⟩ := K2
    simp only at p1 p2 p3 p4 p5 p6 p7
    have q : ∀ k, k ≠ 4 → k ≠ 5 → k ≠ 6 → mi' k = mi k := fun k h1 h2 h3 => (p6 k h1 h2).trans (p_upd_ne _ _ h3)
    have q6 : mi' 6 = 0 := by rw [p6 6 (by decide) (by decide), p_upd_self]
    simp only [x_let, s_Md_thrown, q6, if_true]
    refine ⟨K1, trivial, ?_⟩
    have hout : vp_updL out (Int32.toNatClampNeg 0) r (Int32.toNatClampNeg 0) = r2 := by rw [p_updL_self, p1]
    have J : p_I (n + 1) (((fun j k => mo k j), mi 0, gk, gl, gh, opn, cki, ckl, mp', rk', rv', ri', mi 7), (mo, mi', ml, mk', mlo', mhi', pk, ps, pl, ph, mm'), vp_updL out (Int32.toNatClampNeg 0) r) := by
      refine ⟨⟨rfl, ?_, ?_, ?_⟩, ⟨?_, ?_, ?_, p3, p4, c6, c7⟩, p2, ⟨hz.1, p5⟩, ?_, ?_⟩
      · exact (q 0 (by decide) (by decide) (by decide)).symm
      · exact (q 7 (by decide) (by decide) (by decide)).symm
      · show p_wf mo (mi' 0); rw [q 0 (by decide) (by decide) (by decide)]; exact hwf
      · show cki 2 = mi' 1; rw [q 1 (by decide) (by decide) (by decide)]; exact c1
      · show cki 3 = mi' 2; rw [q 2 (by decide) (by decide) (by decide)]; exact c2
      · show cki 1 = mi' 3; rw [q 3 (by decide) (by decide) (by decide)]; exact c3
      · show 0 ≤ (mi' 5).toInt ∧ (mi' 5).toInt ≤ 24 * ((n + 1 : Nat) : Int)
        have := p7.2
        refine ⟨p7.1, ?_⟩
        omega
      · show ¬ mi' 7 = 0 → p_acc mo (mi' 0)
        rw [q 7 (by decide) (by decide) (by decide), q 0 (by decide) (by decide) (by decide)]; exact ha
    exact Eq.mpr (if_pos hout) J
/-- the invariant stays, round by round -/
theorem p_law : law_inv p_I := ⟨p_I_mono, fun j hj => ⟨fun _ _ _ _ _ _ _ _ _ _ _ _ _ _ _ _ _ _ _ _ _ _ _ _ _ _ _ _ _ _ h => p_arm0 _ _ _ _ _ _ _ _ _ _ _ _ _ _ _ _ _ _ _ _ _ _ _ _ _ _ _ _ _ _ _ h,
  fun _ _ _ _ _ _ _ _ _ _ _ _ _ _ _ _ _ _ _ _ _ _ _ _ _ _ _ _ _ _ _ h => p_arm1 _ _ _ _ _ _ _ _ _ _ _ _ _ _ _ _ _ _ _ _ _ _ _ _ _ _ _ _ _ _ _ _ h,
  fun _ _ _ _ _ _ _ _ _ _ _ _ _ _ _ _ _ _ _ _ _ _ _ _ _ _ h => p_arm2 _ _ _ _ _ _ _ _ _ _ _ _ _ _ _ _ _ _ _ _ _ _ _ _ _ _ _ h,
  fun _ _ _ _ _ _ _ _ _ _ _ _ _ _ _ _ _ _ _ _ _ _ _ _ _ h => p_arm3 _ _ _ _ _ _ _ _ _ _ _ _ _ _ _ _ _ _ _ _ _ _ _ _ _ _ h,
  fun _ _ _ _ _ _ _ _ _ _ _ _ _ _ _ _ _ _ _ _ _ _ _ _ _ _ _ h => p_arm4 _ hj _ _ _ _ _ _ _ _ _ _ _ _ _ _ _ _ _ _ _ _ _ _ _ _ _ _ _ h,
  fun _ _ _ _ _ _ _ _ _ _ _ _ _ _ _ _ _ _ _ _ _ _ _ _ _ _ _ h => p_arm5 _ _ _ _ _ _ _ _ _ _ _ _ _ _ _ _ _ _ _ _ _ _ _ _ _ _ _ _ h,
  fun _ _ _ _ _ _ _ _ _ _ _ _ _ _ _ _ _ _ _ _ _ _ _ _ _ _ _ _ _ h => p_arm6 _ _ _ _ _ _ _ _ _ _ _ _ _ _ _ _ _ _ _ _ _ _ _ _ _ _ _ _ _ _ h,
  fun _ _ _ _ _ _ _ _ _ _ _ _ _ _ _ _ _ _ _ _ _ _ _ _ _ _ h => p_arm7 _ _ _ _ _ _ _ _ _ _ _ _ _ _ _ _ _ _ _ _ _ _ _ _ _ _ _ h,
  fun _ _ _ _ _ _ _ _ _ _ _ _ _ _ _ _ _ _ _ _ _ _ _ _ _ _ h => p_arm8 _ _ _ _ _ _ _ _ _ _ _ _ _ _ _ _ _ _ _ _ _ _ _ _ _ _ _ h⟩⟩
