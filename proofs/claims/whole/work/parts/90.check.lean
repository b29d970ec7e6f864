/-! check, from its start -/
def p_clr (c : Nat) (K : Nat → Int32) : Nat → Int32 := fun k => if c ≤ k ∧ k < 12 then 0 else K k
def p_clrL (c : Nat) (K : Nat → Int64) : Nat → Int64 := fun k => if c ≤ k ∧ k < 12 then 0 else K k
theorem p_clr12 (K : Nat → Int32) : p_clr 12 K = K := by
  funext k; unfold p_clr; rw [if_neg (by omega)]
theorem p_clrL12 (K : Nat → Int64) : p_clrL 12 K = K := by
  funext k; unfold p_clrL; rw [if_neg (by omega)]
theorem p_clr_s {c : Nat} (hc : c < 12) (K : Nat → Int32) : p_clr (c + 1) (upd K c 0) = p_clr c K := by
  funext k; unfold p_clr upd
  by_cases h : k = c
  · subst h; rw [if_neg (by omega), if_pos rfl, if_pos (by omega)]
  · by_cases h2 : c + 1 ≤ k ∧ k < 12
    · rw [if_pos h2, if_pos (by omega)]
    · rw [if_neg h2, if_neg h, if_neg (by omega)]
theorem p_clrL_s {c : Nat} (hc : c < 12) (K : Nat → Int64) : p_clrL (c + 1) (vp_updL K c 0) = p_clrL c K := by
  funext k; unfold p_clrL vp_updL
  by_cases h : k = c
  · subst h; rw [if_neg (by omega), if_pos rfl, if_pos (by omega)]
  · by_cases h2 : c + 1 ≤ k ∧ k < 12
    · rw [if_pos h2, if_pos (by omega)]
    · rw [if_neg h2, if_neg h, if_neg (by omega)]
/-- the start of a check, over what was known -/
def p_beg (K : Nat → Int32) (Lo Hi : Nat → Int64) : (Nat → Int32) × (Nat → Int64) × (Nat → Int64) := x_let (s_Md_know K Lo Hi 1 1 (-9223372036854775808) 9223372036854775807) fun (a, b, c) => s_Md_know a b c 2 2 0 0
theorem p_beg0 (K : Nat → Int32) (Lo Hi : Nat → Int64) (hz : p_z K Lo Hi) : p_beg (p_clr 0 K) (p_clrL 0 Lo) (p_clrL 0 Hi) = (p_K0, p_L0, p_H0) := by
  have one : Int32.toNatClampNeg 1 = 1 := rfl
  have two : Int32.toNatClampNeg 2 = 2 := rfl
  unfold p_beg
  simp only [x_let, s_Md_know, one, two]
  refine Prod.ext ?_ (Prod.ext ?_ ?_) <;> funext k
  · simp only [upd, p_clr, p_K0, Nat.zero_le, true_and]
    by_cases h2 : k = 2
    · subst h2; rfl
    by_cases h1 : k = 1
    · subst h1; rfl
    rw [if_neg h2, if_neg h1, if_neg h1, if_neg h2]
    by_cases hk : k < 12
    · rw [if_pos hk]
    · rw [if_neg hk, (hz k (by omega)).1]
  · simp only [vp_updL, p_clrL, p_L0, Nat.zero_le, true_and]
    by_cases h2 : k = 2
    · subst h2; rfl
    by_cases h1 : k = 1
    · subst h1; rfl
    rw [if_neg h2, if_neg h1, if_neg h1]
    by_cases hk : k < 12
    · rw [if_pos hk]
    · rw [if_neg hk, (hz k (by omega)).2.1]
  · simp only [vp_updL, p_clrL, p_H0, Nat.zero_le, true_and]
    by_cases h2 : k = 2
    · subst h2; rfl
    by_cases h1 : k = 1
    · subst h1; rfl
    rw [if_neg h2, if_neg h1, if_neg h1]
    by_cases hk : k < 12
    · rw [if_pos hk]
    · rw [if_neg hk, (hz k (by omega)).2.2]
theorem p_begC : ∀ (n c : Nat) (gk : Nat → Nat → Int32) (gl gh : Nat → Nat → Int64), c + n = 13 → c ≤ 12 → lp_Gs_begin_2 n gk gl gh 0 (Int32.ofNat c) = p_lift gk gl gh 0 (p_beg (p_clr c (gk 0)) (p_clrL c (gl 0)) (p_clrL c (gh 0))) := by
  intro n
  induction n with
  | zero => intro c gk gl gh h1 h2; omega
  | succ n ih =>
    intro c gk gl gh h1 h2
    unfold lp_Gs_begin_2
    simp only [p_le12 (c := c) (by omega)]
    by_cases hc : 12 ≤ c
    · have e : c = 12 := by omega
      subst e
      simp only [Nat.le_refl, if_true, p_clr12, p_clrL12, x_let, e_setAny, e_set, p_lift, p_va_self, p_va_va, p_beg]
      rfl
    · simp only [hc, if_false, x_let, e_clear, p_c1]
      rw [ih (c + 1) _ _ _ (by omega) (by omega)]
      simp only [p_lift, p_va_self, p_va_va, s_Md_know, p_cn (c := c) (by omega), p_clr_s (show c < 12 by omega), p_clrL_s (show c < 12 by omega)]
theorem p_begM (mo : Nat → Nat → Int32) (mi : Nat → Int32) (ml : Nat → Int64) (pk ps : Nat → Int32) (pl ph : Nat → Int64) : ∀ (n c : Nat) (K : Nat → Int32) (Lo Hi : Nat → Int64), c + n = 13 → c ≤ 12 → lp_Md_check_32 n mo mi ml K Lo Hi pk ps pl ph (Int32.ofNat c) = lp_Md_check_67 302 mo mi ml (p_beg (p_clr c K) (p_clrL c Lo) (p_clrL c Hi)).1 (p_beg (p_clr c K) (p_clrL c Lo) (p_clrL c Hi)).2.1 (p_beg (p_clr c K) (p_clrL c Lo) (p_clrL c Hi)).2.2 pk ps pl ph 1 ∧ (lp_ok_Md_check_67 302 mo mi ml (p_beg (p_clr c K) (p_clrL c Lo) (p_clrL c Hi)).1 (p_beg (p_clr c K) (p_clrL c Lo) (p_clrL c Hi)).2.1 (p_beg (p_clr c K) (p_clrL c Lo) (p_clrL c Hi)).2.2 pk ps pl ph 1 → lp_ok_Md_check_32 n mo mi ml K Lo Hi pk ps pl ph (Int32.ofNat c)) := by
  have z1 : vp_in 1 12 := p_vinc (a := 1) (by omega) (by omega)
  have z2 : vp_in 2 12 := p_vinc (a := 2) (by omega) (by omega)
  intro n
  induction n with
  | zero => intro c K Lo Hi h1 h2; omega
  | succ n ih =>
    intro c K Lo Hi h1 h2
    unfold lp_Md_check_32 lp_ok_Md_check_32
    simp only [p_le12 (c := c) (by omega)]
    by_cases hc : 12 ≤ c
    · have e : c = 12 := by omega
      subst e
      simp only [Nat.le_refl, if_true, p_clr12, p_clrL12]
      exact ⟨rfl, fun h => ⟨⟨⟨z1, trivial⟩, trivial⟩, ⟨z2, trivial⟩, h⟩⟩
    · simp only [hc, if_false, x_let, p_c1]
      obtain ⟨i1, i2⟩ := ih (c + 1) (s_Md_know K Lo Hi (Int32.ofNat c) 0 0 0).1 (s_Md_know K Lo Hi (Int32.ofNat c) 0 0 0).2.1 (s_Md_know K Lo Hi (Int32.ofNat c) 0 0 0).2.2 (by omega) (by omega)
      simp only [s_Md_know, p_cn (c := c) (by omega), p_clr_s (show c < 12 by omega), p_clrL_s (show c < 12 by omega)] at i1 i2 ⊢
      exact ⟨i1, fun h => ⟨⟨p_vinc (by omega) (by omega), trivial⟩, i2 h⟩⟩
theorem p_le24 {c : Nat} (h : c ≤ 1000) : (24 : Int32) ≤ Int32.ofNat c ↔ 24 ≤ c := by
  rw [Int32.le_iff_toInt_le, p_c32 h, show (24 : Int32).toInt = 24 from rfl]; omega
theorem p_begO (gk : Nat → Nat → Int32) (gl gh : Nat → Nat → Int64) (cki : Nat → Int32) : ∀ (n c : Nat) (opn : Nat → Int32), c + n = 25 → c ≤ 24 → ∃ opn', lp_Ck_begin_9 n gk gl gh opn cki (Int32.ofNat c) = (gk, gl, gh, opn', upd (upd (upd cki 0 0) 1 0) 4 0) ∧ (∀ j, c ≤ j → j < 24 → opn' j = 0) ∧ (∀ j, j < c → opn' j = opn j) := by
  intro n
  induction n with
  | zero => intro c opn h1 h2; omega
  | succ n ih =>
    intro c opn h1 h2
    unfold lp_Ck_begin_9
    simp only [p_le24 (c := c) (by omega)]
    by_cases hc : 24 ≤ c
    · simp only [hc, if_true]
      exact ⟨opn, rfl, fun j h3 h4 => by omega, fun j _ => rfl⟩
    · simp only [hc, if_false, p_c1, p_cn (c := c) (by omega)]
      obtain ⟨opn', e, q1, q2⟩ := ih (c + 1) (upd opn c (vp_nar .boolean 0)) (by omega) (by omega)
      refine ⟨opn', e, fun j h3 h4 => ?_, fun j h3 => ?_⟩
      · by_cases h : j = c
        · subst h; rw [q2 j (by omega), p_upd_self]; rfl
        · exact q1 j (by omega) h4
      · rw [q2 j (by omega), p_upd_ne _ _ (by omega)]
theorem p_gd0 : p_gd p_K0 p_L0 p_H0 := by
  intro k hk
  by_cases h1 : k = 1
  · subst h1; exact Or.inr (Or.inl ⟨rfl, by decide⟩)
  by_cases h2 : k = 2
  · subst h2; exact Or.inr (Or.inr (Or.inl ⟨Or.inl rfl, by decide, by decide, by decide⟩))
  · refine Or.inl ?_
    unfold p_K0; rw [if_neg h1, if_neg h2]
theorem p_z0 : p_z p_K0 p_L0 p_H0 := by
  intro k hk
  unfold p_K0 p_L0 p_H0
  rw [if_neg (by omega), if_neg (by omega), if_neg (by omega), if_neg (by omega)]
  exact ⟨rfl, rfl, rfl⟩
theorem p_begN (stp : Nat → Nat → Int32) (sz : Int32) (a : Nat → Nat → Int32) (b c : Nat → Nat → Int64) (d e : Nat → Int32) (ckl : Nat → Int64) (x : Int32) (N : Nat) : (x_let (a, b, c, d, e) fun (gk1, gl1, gh1, opn1, cki1) => lp_Ck_goDownAllWays_8 N stp sz gk1 gl1 gh1 opn1 cki1 ckl x x) = lp_Ck_goDownAllWays_8 N stp sz a b c d e ckl x x := rfl
theorem p_chkC (mo : Nat → Nat → Int32) (sz : Int32) (gk : Nat → Nat → Int32) (gl gh : Nat → Nat → Int64) (opn cki : Nat → Int32) (ckl : Nat → Int64) (hz : p_zero gk gl gh) : ∃ opn', s_Ck_goDownAllWays (fun j k => mo k j) sz gk gl gh opn cki ckl = lp_Ck_goDownAllWays_8 301 (fun j k => mo k j) sz (va_up gk 0 p_K0) (va_up gl 0 p_L0) (va_up gh 0 p_H0) opn' (upd (upd (upd cki 0 0) 1 0) 4 0) ckl 0 0 ∧ ∀ j, j < 24 → opn' j = 0 := by
  have hB1 : s_Gs_begin gk gl gh 0 = p_lift gk gl gh 0 (p_K0, p_L0, p_H0) := by
    unfold s_Gs_begin
    rw [show (0 : Int32) = Int32.ofNat 0 from rfl, p_begC 13 0 gk gl gh (by omega) (by omega), p_beg0 _ _ _ (fun k hk => hz 0 k hk)]
  obtain ⟨opn', e, q1, -⟩ := p_begO (va_up gk 0 p_K0) (va_up gl 0 p_L0) (va_up gh 0 p_H0) cki 25 0 opn (by omega) (by omega)
  refine ⟨opn', ?_, fun j hj => q1 j (by omega) hj⟩
  rw [show Int32.ofNat 0 = 0 from rfl] at e
  have hb : s_Ck_begin gk gl gh opn cki = (va_up gk 0 p_K0, va_up gl 0 p_L0, va_up gh 0 p_H0, opn', upd (upd (upd cki 0 0) 1 0) 4 0) := by
    unfold s_Ck_begin
    rw [hB1]
    simp only [x_let, p_lift]
    exact e
  unfold s_Ck_goDownAllWays
  rw [hb]
  exact p_begN _ _ _ _ _ _ _ _ _ 301
theorem p_chkM (mo : Nat → Nat → Int32) (mi : Nat → Int32) (ml : Nat → Int64) (mk : Nat → Int32) (mlo mhi : Nat → Int64) (pk ps : Nat → Int32) (pl ph : Nat → Int64) (hz2 : p_z mk mlo mhi) : s_Md_check mo mi ml mk mlo mhi pk ps pl ph = lp_Md_check_67 302 mo (upd (upd (upd (upd (upd (upd mi 6 0) 7 0) 8 0) 3 0) 9 0) 10 0) ml p_K0 p_L0 p_H0 pk ps pl ph 1 ∧ (lp_ok_Md_check_67 302 mo (upd (upd (upd (upd (upd (upd mi 6 0) 7 0) 8 0) 3 0) 9 0) 10 0) ml p_K0 p_L0 p_H0 pk ps pl ph 1 → k_ok_Md_check mo mi ml mk mlo mhi pk ps pl ph) := by
  have := p_begM mo (upd (upd (upd (upd (upd (upd mi 6 0) 7 0) 8 0) 3 0) 9 0) 10 0) ml pk ps pl ph 13 0 mk mlo mhi (by omega) (by omega)
  rw [p_beg0 _ _ _ hz2, show Int32.ofNat 0 = 0 from rfl] at this
  unfold s_Md_check k_ok_Md_check
  exact this
/-- the two checks agree -/
theorem p_check (mo : Nat → Nat → Int32) (mi : Nat → Int32) (ml : Nat → Int64) (mk : Nat → Int32) (mlo mhi : Nat → Int64) (pk ps : Nat → Int32) (pl ph : Nat → Int64) (gk : Nat → Nat → Int32) (gl gh : Nat → Nat → Int64) (opn cki : Nat → Int32) (ckl : Nat → Int64) (hwf : p_wf mo (mi 0)) (hz : p_zero gk gl gh) (hz2 : p_z mk mlo mhi) (hB : cki 2 = mi 1 ∧ cki 3 = mi 2 ∧ ckl 0 = ml 0 ∧ ckl 1 = ml 1) :
    k_ok_Md_check mo mi ml mk mlo mhi pk ps pl ph ∧ p_post mi (s_Ck_goDownAllWays (fun j k => mo k j) (mi 0) gk gl gh opn cki ckl) (s_Md_check mo mi ml mk mlo mhi pk ps pl ph) ∧ ((s_Ck_goDownAllWays (fun j k => mo k j) (mi 0) gk gl gh opn cki ckl).1 = 0 → p_acc mo (mi 0)) := by
  obtain ⟨b2, b3, b4, b5⟩ := hB
  obtain ⟨opn', hC, q1⟩ := p_chkC mo (mi 0) gk gl gh opn cki ckl hz
  obtain ⟨hM1, hM2⟩ := p_chkM mo mi ml mk mlo mhi pk ps pl ph hz2
  have P := fun (N : Nat) (hN : 0 + N = 301) => p_loop mo (mi 0) hwf N 0 (va_up gk 0 p_K0) (va_up gl 0 p_L0) (va_up gh 0 p_H0) opn' (upd (upd (upd cki 0 0) 1 0) 4 0) ckl 0 (upd (upd (upd (upd (upd (upd mi 6 0) 7 0) 8 0) 3 0) 9 0) 10 0) ml pk ps pl ph [] hN (by omega)
    ⟨by simp [upd], by simp [upd], by simp [upd], by simp [upd], by simp [upd], by simp [upd], by simp [upd], by simp [upd]⟩ ⟨by simp [upd], by simp [upd, b2], by simp [upd, b3], b4, b5⟩
    (fun a k hk => by
      simp only [va_up]
      by_cases h : a = 0
      · simp only [h, if_true]; exact p_z0 k hk
      · simp only [h, if_false]; exact hz a k hk)
    (by simp only [p_va_self]; exact p_gd0) ⟨by decide, hwf.2.1⟩ trivial (fun j hj => ⟨fun _ => List.not_mem_nil, fun _ => q1 j hj⟩) (fun e he => absurd he List.not_mem_nil)
  rw [hC, hM1]
  have key : ∀ N : Nat, N = 301 → ∀ N' : Nat, N' = N + 1 → (lp_ok_Md_check_67 N' mo (upd (upd (upd (upd (upd (upd mi 6 0) 7 0) 8 0) 3 0) 9 0) 10 0) ml p_K0 p_L0 p_H0 pk ps pl ph 1 → k_ok_Md_check mo mi ml mk mlo mhi pk ps pl ph) → k_ok_Md_check mo mi ml mk mlo mhi pk ps pl ph ∧ p_post mi (lp_Ck_goDownAllWays_8 N (fun j k => mo k j) (mi 0) (va_up gk 0 p_K0) (va_up gl 0 p_L0) (va_up gh 0 p_H0) opn' (upd (upd (upd cki 0 0) 1 0) 4 0) ckl 0 0) (lp_Md_check_67 N' mo (upd (upd (upd (upd (upd (upd mi 6 0) 7 0) 8 0) 3 0) 9 0) 10 0) ml p_K0 p_L0 p_H0 pk ps pl ph 1) ∧ ((lp_Ck_goDownAllWays_8 N (fun j k => mo k j) (mi 0) (va_up gk 0 p_K0) (va_up gl 0 p_L0) (va_up gh 0 p_H0) opn' (upd (upd (upd cki 0 0) 1 0) 4 0) ckl 0 0).1 = 0 → p_acc mo (mi 0)) := by
    intro N hN N' hN' hok
    subst hN'
    obtain ⟨I1, I2, I3⟩ := P N (by omega)
    rw [show Int32.ofNat 0 = 0 from rfl] at I2 I3
    simp only [p_va_self] at I1 I2 I3
    exact ⟨hok I1, p_post_mi I2 (by simp [upd]) (by simp [upd]) (by simp [upd]), fun h => (I3 h).1⟩
  exact key 301 rfl 302 rfl hM2
theorem p_arm3 (n : Nat) (stp : Nat → Nat → Int32) (psz : Int32) (gk : Nat → Nat → Int32) (gl : Nat → Nat → Int64) (gh : Nat → Nat → Int64) (opn : Nat → Int32) (cki : Nat → Int32) (ckl : Nat → Int64) (mp : Nat → Nat → Int64) (rk : Nat → Int32) (rv : Nat → Int64) (ri : Nat → Int32) (chk : Int32) (mo : Nat → Nat → Int32) (mi : Nat → Int32) (ml : Nat → Int64) (mk : Nat → Int32) (mlo : Nat → Int64) (mhi : Nat → Int64) (pk : Nat → Int32) (ps : Nat → Int32) (pl : Nat → Int64) (ph : Nat → Int64) (mm : Nat → Int64) (out : Nat → Int64)
    (h : p_I n ((stp, psz, gk, gl, gh, opn, cki, ckl, mp, rk, rv, ri, chk), (mo, mi, ml, mk, mlo, mhi, pk, ps, pl, ph, mm), out)) : law_ok_3 (p_I (n + 1)) stp psz gk gl gh opn cki ckl mp rk rv ri chk mo mi ml mk mlo mhi pk ps pl ph mm out := by
  obtain ⟨⟨e1, e2, e3, hwf⟩, hc, hm, hz, hn, ha⟩ := h
  simp only at e1 e2 e3 hwf hc hm hz hn ha
  subst e1 e2 e3
  have hn' := p_mono5 hn
  obtain ⟨c1, c2, c3, c4, c5, c6, c7⟩ := hc
  obtain ⟨K1, K2, K3⟩ := p_check mo mi ml mk mlo mhi pk ps pl ph gk gl gh opn cki ckl hwf hz.1 hz.2 ⟨c1, c2, c6, c7⟩
  have hx : x_wf (fun j k => mo k j) := by
    intro j _
    obtain ⟨w0, w1, w2, w4⟩ := hwf.1 j
    exact ⟨vp_in_iff.mpr (show 0 ≤ (mo 1 j).toInt ∧ (mo 1 j).toInt < 6 by omega), vp_in_iff.mpr (show 0 ≤ (mo 2 j).toInt ∧ (mo 2 j).toInt < 6 by omega), vp_in_iff.mpr (show 0 ≤ (mo 4 j).toInt ∧ (mo 4 j).toInt < 24 by omega)⟩
  unfold law_ok_3
  refine ⟨hx, ?_⟩
  unfold s_Lw_check s_CM_check
  generalize s_Ck_goDownAllWays (fun j k => mo k j) (mi 0) gk gl gh opn cki ckl = C at K2 K3
  obtain ⟨v, gk', gl', gh', opn', cki', ckl'⟩ := C
  generalize s_Md_check mo mi ml mk mlo mhi pk ps pl ph = M at K2
  obtain ⟨r, mi', ml', mk', mlo', mhi', pk', ps', pl', ph'⟩ := M
  obtain ⟨p1, p2, ⟨p3, p4, p5, p6, p7⟩, ⟨p8, p9, p10⟩, p11⟩ := K2
  simp only at p1 p2 p3 p4 p5 p6 p7 p8 p9 p10 p11 K3
  have J : ∀ (chk' : Int32) (out' : Nat → Int64), chk' = mi' 7 → (¬ mi' 7 = 0 → p_acc mo (mi 0)) → p_I (n + 1) (((fun j k => mo k j), mi 0, gk', gl', gh', opn', cki', ckl', mp, rk, rv, ri, chk'), (mo, mi', ml', mk', mlo', mhi', pk', ps', pl', ph', mm), out') := by
    intro chk' out' h1 h2
    refine ⟨⟨rfl, p8.symm, h1, ?_⟩, ⟨p3, p4, p5, ?_, ?_, p6, p7⟩, hm, ⟨p1, p2⟩, ?_, ?_⟩
    · show p_wf mo (mi' 0); rw [p8]; exact hwf
    · show ri 0 = mi' 4; rw [p9]; exact c4
    · show ri 1 = mi' 5; rw [p10]; exact c5
    · show 0 ≤ (mi' 5).toInt ∧ (mi' 5).toInt ≤ 24 * ((n + 1 : Nat) : Int); rw [p10]; exact hn'
    · show ¬ mi' 7 = 0 → p_acc mo (mi' 0); rw [p8]; exact h2
  simp only [x_let, s_Md_thrown]
  rcases p11 with ⟨v0, m6, m7, r0⟩ | ⟨v0, m6, m7⟩ | ⟨v0, m6, m7⟩
  · subst v0
    simp only [if_true, show ¬ (0 : Int32) = 1 by decide, show ¬ (0 : Int32) = 2 by decide, if_false, s_Ck_looked, m6]
    refine ⟨K1, trivial, ?_⟩
    rw [if_pos]
    · exact J 1 _ m7.symm (fun _ => K3 rfl)
    · rw [r0]; simp [vp_updL]
  · subst v0
    simp only [show ¬ (1 : Int32) = 0 by decide, if_true, if_false, m6]
    exact ⟨K1, trivial, J 0 _ m7.symm (fun h => absurd m7 h)⟩
  · subst v0
    simp only [show ¬ (2 : Int32) = 0 by decide, show ¬ (2 : Int32) = 1 by decide, if_true, if_false, m6, show ¬ "java/lang/UnsupportedOperationException" = "java/lang/IllegalArgumentException" by decide]
    exact ⟨K1, trivial, J 0 _ m7.symm (fun h => absurd m7 h)⟩
