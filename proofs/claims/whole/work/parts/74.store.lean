/-! the store's loops -/
theorem p_upd_same (f : Nat → Int32) (k : Nat) {v : Int32} (h : f k = v) : upd f k v = f := by
  funext j; simp only [upd]; split
  · next e => rw [e, h]
  · rfl
theorem p_updL_same (f : Nat → Int64) (k : Nat) : vp_updL f k (f k) = f := by
  funext j; simp only [vp_updL]; split
  · next e => rw [e]
  · rfl
section Store
variable (mo : Nat → Nat → Int32) (i : Int32) (x y : Int64) (f l : Nat)
theorem p_store_out (hx : x.toInt = (f : Int)) (hy : y.toInt = (l : Int)) (hfl : f ≤ l) : ∀ (n c : Nat) (gk : Nat → Nat → Int32) (gl gh : Nat → Nat → Int64), c + n ≤ 1000 → l < c → lp_Ef_store_56 n (fun j k => mo k j) gk gl gh i.toNatClampNeg x y (Int32.ofNat c) = (gk, gl, gh) := by
  intro n
  induction n with
  | zero => intros; rfl
  | succ n ih =>
    intro c gk gl gh hc hl
    unfold lp_Ef_store_56
    simp only [p_le6 (c := c) (by omega), p_ceq (c := c) (by omega) hx, p_clt (c := c) (by omega) hx, p_cgt (c := c) (by omega) hy, p_c1]
    by_cases h6 : 6 ≤ c
    · rw [if_pos h6]
    · rw [if_neg h6, if_neg (by omega), if_neg (by omega), if_pos hl]
      exact ih (c + 1) gk gl gh (by omega) (by omega)
theorem p_store_before (gk : Nat → Nat → Int32) (gl gh : Nat → Nat → Int64) (hx : x.toInt = (f : Int)) (hl : f ≤ 5) : ∀ (c : Nat), c ≤ f → lp_Ef_store_56 7 (fun j k => mo k j) gk gl gh i.toNatClampNeg x y 0 = lp_Ef_store_56 (7 - c) (fun j k => mo k j) gk gl gh i.toNatClampNeg x y (Int32.ofNat c) := by
  intro c
  induction c with
  | zero => intro _; rfl
  | succ c ih =>
    intro h
    rw [ih (by omega), show 7 - c = (7 - (c + 1)) + 1 by omega]
    conv => lhs; unfold lp_Ef_store_56
    simp only [p_le6 (c := c) (by omega), p_ceq (c := c) (by omega) hx, p_clt (c := c) (by omega) hx, p_c1]
    rw [if_neg (by omega), if_neg (by omega), if_pos (by omega)]
theorem p_mstore_step (K : Nat → Int32) (Lo Hi : Nat → Int64) (s : Int32) (n c : Nat) (hl : l ≤ 5) (hc : c ≤ l) (hfl : f < l) : lp_Md_store_81 (n + 1) K Lo Hi i (Int32.ofNat (6 + f)) (Int32.ofNat (6 + l)) s (Int32.ofNat (6 + c)) = if K (6 + c) = 0 then lp_Md_store_81 n K Lo Hi i (Int32.ofNat (6 + f)) (Int32.ofNat (6 + l)) s (Int32.ofNat (6 + (c + 1))) else lp_Md_store_81 n K (vp_updL Lo (6 + c) (if Lo (6 + c) ≤ Lo s.toNatClampNeg then Lo (6 + c) else Lo s.toNatClampNeg)) (vp_updL Hi (6 + c) (if Hi s.toNatClampNeg ≤ Hi (6 + c) then Hi (6 + c) else Hi s.toNatClampNeg)) i (Int32.ofNat (6 + f)) (Int32.ofNat (6 + l)) s (Int32.ofNat (6 + (c + 1))) := by
  conv => lhs; unfold lp_Md_store_81
  rw [if_neg (by rw [p_ltc (by omega) (by omega)]; omega), if_neg (by rw [p_lec (by omega) (by omega)]; omega)]
  simp only [bk_Md_store_139, p_cn (c := 6 + c) (by omega), p_c1, ← Nat.add_assoc]
  by_cases h0 : K (6 + c) = 0
  · simp only [h0, if_true]
  · by_cases h1 : Lo (6 + c) ≤ Lo s.toNatClampNeg <;> by_cases h2 : Hi s.toNatClampNeg ≤ Hi (6 + c) <;> simp only [h0, h1, h2, if_true, if_false, p_updL_same]
theorem p_mstore_end (K : Nat → Int32) (Lo Hi : Nat → Int64) (s : Int32) (n c : Nat) (hl : l ≤ 5) (hc : c = l + 1) (hfl : f < l) : lp_Md_store_81 (n + 1) K Lo Hi i (Int32.ofNat (6 + f)) (Int32.ofNat (6 + l)) s (Int32.ofNat (6 + c)) = (K, Lo, Hi) := by
  unfold lp_Md_store_81
  rw [if_pos (by rw [p_ltc (by omega) (by omega)]; omega)]
theorem p_store_in (hx : x.toInt = (f : Int)) (hy : y.toInt = (l : Int)) (hl : l ≤ 5) (hfl : f < l) (hs : (mo 2 i.toNatClampNeg).toNatClampNeg < 6) : ∀ (n n' c : Nat) (gk : Nat → Nat → Int32) (gl gh : Nat → Nat → Int64), c + n = 7 → c ≤ l + 1 → l + 2 ≤ c + n' → f ≤ c → (∀ e, f ≤ e → e ≤ l → gk 0 (6 + e) = 0 ∨ gk 0 (6 + e) = 1) →
    lp_Ef_store_56 n (fun j k => mo k j) gk gl gh i.toNatClampNeg x y (Int32.ofNat c) = p_lift gk gl gh 0 (lp_Md_store_81 n' (gk 0) (gl 0) (gh 0) i (Int32.ofNat (6 + f)) (Int32.ofNat (6 + l)) (mo 2 i.toNatClampNeg) (Int32.ofNat (6 + c))) := by
  intro n
  induction n with
  | zero => intro n' c gk gl gh h1 h2 h3 h4; omega
  | succ n ih =>
    intro n' c gk gl gh h1 h2 h3 h4 hk
    obtain ⟨m, rfl⟩ : ∃ m, n' = m + 1 := ⟨n' - 1, by omega⟩
    by_cases hc : c = l + 1
    · rw [p_store_out mo i x y f l hx hy (by omega) _ _ _ _ _ (by omega) (by omega), p_mstore_end i f l _ _ _ _ _ _ hl hc hfl, p_lift_id]
    · rw [p_mstore_step i f l _ _ _ _ _ _ hl (by omega) hfl]
      have hxy : ¬ x = y := fun h => by rw [h, hy] at hx; omega
      conv => lhs; unfold lp_Ef_store_56
      simp only [p_le6 (c := c) (by omega), p_ceq (c := c) (by omega) hx, p_clt (c := c) (by omega) hx, p_cgt (c := c) (by omega) hy, p_c1, p_c6, hxy, if_false, show ¬ 6 ≤ c by omega, show ¬ c < f by omega, show ¬ l < c by omega, ite_self]
      simp only [s_Gs_isRange, x_let, p_cn (c := 6 + c) (by omega)]
      rcases hk c h4 (by omega) with h0 | h0
      · simp only [h0, show ¬ (0 : Int32) = 1 by decide, if_false, if_true]
        exact ih m (c + 1) gk gl gh (by omega) (by omega) (by omega) (by omega) hk
      · simp only [h0, show ¬ (1 : Int32) = 0 by decide, if_false, if_true]
        rw [ih m (c + 1) _ _ _ (by omega) (by omega) (by omega) (by omega)]
        · simp only [s_Gs_widen, s_Gs_lo, s_Gs_hi, s_Gs_set, x_let, p_va_self, p_lift, p_va_va, p_cn (c := 6 + c) (by omega), p_upd_same _ _ h0, p_min, p_max]
        · intro e he1 he2
          simp only [s_Gs_widen, s_Gs_lo, s_Gs_hi, s_Gs_set, x_let, p_va_self, p_cn (c := 6 + c) (by omega), p_upd_same _ _ h0]
          exact hk e he1 he2
theorem p_mstore_ok (hl : l ≤ 5) (hfl : f < l) (s : Int32) (hs : vp_in s 12) : ∀ (n c : Nat) (K : Nat → Int32) (Lo Hi : Nat → Int64), c ≤ l + 1 → l + 2 ≤ c + n → lp_ok_Md_store_81 n K Lo Hi i (Int32.ofNat (6 + f)) (Int32.ofNat (6 + l)) s (Int32.ofNat (6 + c)) := by
  intro n
  induction n with
  | zero => intro c K Lo Hi h1 h2; omega
  | succ n ih =>
    intro c K Lo Hi h1 h2
    unfold lp_ok_Md_store_81
    by_cases hc : c = l + 1
    · rw [if_pos (by rw [p_ltc (by omega) (by omega)]; omega)]; trivial
    · rw [if_neg (by rw [p_ltc (by omega) (by omega)]; omega), if_neg (by rw [p_lec (by omega) (by omega)]; omega)]
      have hv : vp_in (Int32.ofNat (6 + c)) 12 := p_vinc (by omega) (by omega)
      refine ⟨hv, ?_⟩
      simp only [bk_ok_Md_store_139, p_cn (c := 6 + c) (by omega), p_c1]
      by_cases h0 : K (6 + c) = 0
      · simp only [h0, if_true]
        exact ih (c + 1) _ _ _ (by omega) (by omega)
      · by_cases h1 : Lo (6 + c) ≤ Lo s.toNatClampNeg <;> by_cases h2 : Hi s.toNatClampNeg ≤ Hi (6 + c) <;> simp only [h0, h1, h2, if_true, if_false] <;> exact ⟨hs, hs, hv, ih (c + 1) _ _ _ (by omega) (by omega)⟩
theorem p_mstore_one (K : Nat → Int32) (Lo Hi : Nat → Int64) (s : Int32) (hl : l ≤ 5) : bk_Md_store_78 K Lo Hi i (Int32.ofNat (6 + l)) (Int32.ofNat (6 + l)) s = (K, Lo, Hi) := by
  unfold bk_Md_store_78 lp_Md_store_81
  rw [if_neg (by rw [p_ltc (by omega) (by omega)]; omega), if_pos (by rw [p_lec (by omega) (by omega)]; omega)]
theorem p_store_one (gk : Nat → Nat → Int32) (gl gh : Nat → Nat → Int64) (hx : x.toInt = (l : Int)) (hl : l ≤ 5) : lp_Ef_store_56 7 (fun j k => mo k j) gk gl gh i.toNatClampNeg x x 0 = p_lift gk gl gh 0 (s_Md_copy (gk 0) (gl 0) (gh 0) (mo 2 i.toNatClampNeg) (Int32.ofNat (6 + l))) := by
  rw [p_store_before mo i x x l gk gl gh hx hl l (Nat.le_refl l), show 7 - l = (6 - l) + 1 by omega]
  unfold lp_Ef_store_56
  simp only [p_le6 (c := l) (by omega), p_ceq (c := l) (by omega) hx, p_c1, p_c6, if_true]
  rw [if_neg (by omega)]
  simp only [x_let]
  rw [p_store_out mo i x x l l hx hx (by omega) _ _ _ _ _ (by omega) (by omega)]
  rfl
theorem e_store (gk : Nat → Nat → Int32) (gl gh : Nat → Nat → Int64) (hs : (mo 2 i.toNatClampNeg).toNatClampNeg < 6) (hk : gk 0 (mo 1 i.toNatClampNeg).toNatClampNeg = 2) (hx : (gl 0 (mo 1 i.toNatClampNeg).toNatClampNeg + Int32.toInt64 (mo 3 i.toNatClampNeg)).toInt = (f : Int)) (hy : (gh 0 (mo 1 i.toNatClampNeg).toNatClampNeg + Int32.toInt64 (mo 3 i.toNatClampNeg)).toInt = (l : Int)) (hfl : f ≤ l) (hl : l ≤ 5) (hr : f < l → ∀ e, f ≤ e → e ≤ l → gk 0 (6 + e) = 0 ∨ gk 0 (6 + e) = 1) : s_Ef_store (fun j k => mo k j) gk gl gh i.toNatClampNeg = p_lift gk gl gh 0 (s_Md_store mo (gk 0) (gl 0) (gh 0) i) := by
  unfold s_Ef_store s_Md_store
  simp only [x_let, s_Gs_kind, s_Gs_lo, s_Gs_hi, hk, if_true, show ¬ (2 : Int32) = 3 by decide, if_false]
  by_cases h : f < l
  · rw [p_store_before mo i _ _ f gk gl gh hx (by omega) f (Nat.le_refl f), p_toI hy (by omega), p_toI hx (by omega), p_c6, p_c6, if_neg (by rw [p_eqc (by omega) (by omega)]; omega)]
    unfold bk_Md_store_78
    exact p_store_in mo i _ _ f l hx hy hl h hs (7 - f) 8 f gk gl gh (by omega) (by omega) (by omega) (by omega) (hr h)
  · have e : f = l := by omega
    subst e
    have exy : gl 0 (mo 1 i.toNatClampNeg).toNatClampNeg + Int32.toInt64 (mo 3 i.toNatClampNeg) = gh 0 (mo 1 i.toNatClampNeg).toNatClampNeg + Int32.toInt64 (mo 3 i.toNatClampNeg) := Int64.toInt_inj.mp (by rw [hx, hy])
    rw [exy, p_toI hy (by omega), p_c6, if_pos rfl, p_mstore_one i f _ _ _ _ hl, p_store_one mo i _ f gk gl gh hy hl]
theorem k_store (K : Nat → Int32) (Lo Hi : Nat → Int64) (h24 : vp_in i 24) (hd : vp_in (mo 1 i.toNatClampNeg) 12) (hs : vp_in (mo 2 i.toNatClampNeg) 12) (hk : K (mo 1 i.toNatClampNeg).toNatClampNeg = 2) (hx : (Lo (mo 1 i.toNatClampNeg).toNatClampNeg + Int32.toInt64 (mo 3 i.toNatClampNeg)).toInt = (f : Int)) (hy : (Hi (mo 1 i.toNatClampNeg).toNatClampNeg + Int32.toInt64 (mo 3 i.toNatClampNeg)).toInt = (l : Int)) (hfl : f ≤ l) (hl : l ≤ 5) : k_ok_Md_store mo K Lo Hi i := by
  unfold k_ok_Md_store
  simp only [hk, show ¬ (2 : Int32) = 3 by decide, if_false]
  rw [p_toI hy (by omega), p_toI hx (by omega), p_c6, p_c6]
  refine ⟨h24, hd, ?_⟩
  by_cases h : f < l
  · rw [if_neg (by rw [p_eqc (by omega) (by omega)]; omega)]
    exact p_mstore_ok i f l hl h _ hs 8 f K Lo Hi (by omega) (by omega)
  · have e : f = l := by omega
    subst e
    rw [if_pos rfl]
    refine ⟨⟨hs, ⟨p_vinc (by omega) (by omega), trivial⟩, trivial⟩, ?_⟩
    simp only [x_let]
    unfold bk_ok_Md_store_78 lp_ok_Md_store_81
    rw [if_neg (by rw [p_ltc (by omega) (by omega)]; omega), if_pos (by rw [p_lec (by omega) (by omega)]; omega)]
    trivial
end Store
