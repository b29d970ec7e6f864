/-! cells: the loops over them -/
theorem p_c32 {c : Nat} (h : c ≤ 1000) : (Int32.ofNat c).toInt = (c : Int) := Int32.toInt_ofNat_of_lt (by show c < 2147483648; omega)
theorem p_cn {c : Nat} (h : c ≤ 1000) : (Int32.ofNat c).toNatClampNeg = c := by
  show (Int32.ofNat c).toInt.toNat = c
  rw [p_c32 h]; rfl
theorem p_c6 (c : Nat) : (6 : Int32) + Int32.ofNat c = Int32.ofNat (6 + c) := (Int32.ofNat_add 6 c).symm
theorem p_c1 (c : Nat) : Int32.ofNat c + 1 = Int32.ofNat (c + 1) := (Int32.ofNat_add c 1).symm
theorem p_le6 {c : Nat} (h : c ≤ 1000) : (6 : Int32) ≤ Int32.ofNat c ↔ 6 ≤ c := by
  rw [Int32.le_iff_toInt_le, p_c32 h, show (6 : Int32).toInt = 6 from rfl]; omega
theorem p_ceq {c : Nat} (h : c ≤ 1000) {x : Int64} {f : Nat} (hx : x.toInt = (f : Int)) : Int32.toInt64 (Int32.ofNat c) = x ↔ c = f := by
  rw [← Int64.toInt_inj, Int32.toInt_toInt64, p_c32 h, hx]; omega
theorem p_clt {c : Nat} (h : c ≤ 1000) {x : Int64} {f : Nat} (hx : x.toInt = (f : Int)) : Int32.toInt64 (Int32.ofNat c) < x ↔ c < f := by
  rw [Int64.lt_iff_toInt_lt, Int32.toInt_toInt64, p_c32 h, hx]; omega
theorem p_cle {c : Nat} (h : c ≤ 1000) {x : Int64} {f : Nat} (hx : x.toInt = (f : Int)) : Int32.toInt64 (Int32.ofNat c) ≤ x ↔ c ≤ f := by
  rw [Int64.le_iff_toInt_le, Int32.toInt_toInt64, p_c32 h, hx]; omega
theorem p_cgt {c : Nat} (h : c ≤ 1000) {x : Int64} {f : Nat} (hx : x.toInt = (f : Int)) : x < Int32.toInt64 (Int32.ofNat c) ↔ f < c := by
  rw [Int64.lt_iff_toInt_lt, Int32.toInt_toInt64, p_c32 h, hx]; omega
theorem p_toI {x : Int64} {f : Nat} (hx : x.toInt = (f : Int)) (h : f ≤ 1000) : Int64.toInt32 x = Int32.ofNat f := by
  apply Int32.toInt_inj.mp
  rw [Int64.toInt_toInt32, hx, p_c32 h, Int.bmod_def]; omega
theorem p_ltc {a b : Nat} (ha : a ≤ 1000) (hb : b ≤ 1000) : Int32.ofNat a < Int32.ofNat b ↔ a < b := by
  rw [Int32.lt_iff_toInt_lt, p_c32 ha, p_c32 hb]; omega
theorem p_lec {a b : Nat} (ha : a ≤ 1000) (hb : b ≤ 1000) : Int32.ofNat a ≤ Int32.ofNat b ↔ a ≤ b := by
  rw [Int32.le_iff_toInt_le, p_c32 ha, p_c32 hb]; omega
theorem p_eqc {a b : Nat} (ha : a ≤ 1000) (hb : b ≤ 1000) : Int32.ofNat a = Int32.ofNat b ↔ a = b := by
  rw [← Int32.toInt_inj, p_c32 ha, p_c32 hb]; omega
theorem p_vinc {a n : Nat} (ha : a < n) (hn : a ≤ 1000) : vp_in (Int32.ofNat a) n := by
  rw [vp_in_iff, p_c32 hn]; omega
theorem p_upd_upd (f : Nat → Int32) (k : Nat) (x y : Int32) : upd (upd f k x) k y = upd f k y := by
  funext j; simp only [upd]; split <;> rfl
theorem p_updL_updL (f : Nat → Int64) (k : Nat) (x y : Int64) : vp_updL (vp_updL f k x) k y = vp_updL f k y := by
  funext j; simp only [vp_updL]; split <;> rfl
theorem p_upd_self (f : Nat → Int32) (k : Nat) (x : Int32) : upd f k x k = x := by simp [upd]
theorem p_updL_self (f : Nat → Int64) (k : Nat) (x : Int64) : vp_updL f k x k = x := by simp [vp_updL]
theorem p_upd_ne (f : Nat → Int32) {k j : Nat} (x : Int32) (h : j ≠ k) : upd f k x j = f j := by simp [upd, h]
theorem p_updL_ne (f : Nat → Int64) {k j : Nat} (x : Int64) (h : j ≠ k) : vp_updL f k x j = f j := by simp [vp_updL, h]
theorem p_min {a b : Int64} : (if b < a then b else a) = if a ≤ b then a else b := by
  by_cases h : a ≤ b
  · rw [if_pos h, if_neg (Int64.not_lt.mpr h)]
  · rw [if_neg h, if_pos (Int64.not_le.mp h)]
theorem p_max {a b : Int64} : (if b < a then a else b) = if b ≤ a then a else b := by
  by_cases h : b ≤ a
  · rw [if_pos h]
    by_cases h2 : b < a
    · rw [if_pos h2]
    · rw [if_neg h2]; exact Int64.le_antisymm h (Int64.not_lt.mp h2)
  · rw [if_neg h, if_neg (fun h2 => h (Int64.le_of_lt h2))]
section Load
variable (mo : Nat → Nat → Int32) (gk : Nat → Nat → Int32) (gl gh : Nat → Nat → Int64) (i : Int32) (x y : Int64) (f l : Nat)
/-- the class's loop, where nothing is left to do -/
theorem p_load_out (hx : x.toInt = (f : Int)) (hy : y.toInt = (l : Int)) (hfl : f ≤ l) : ∀ (n c : Nat) (gk : Nat → Nat → Int32) (gl gh : Nat → Nat → Int64), c + n ≤ 1000 → l < c → lp_Ef_load_67 n (fun j k => mo k j) gk gl gh i.toNatClampNeg x y (Int32.ofNat c) = (gk, gl, gh) := by
  intro n
  induction n with
  | zero => intros; rfl
  | succ n ih =>
    intro c gk gl gh hc hl
    unfold lp_Ef_load_67
    simp only [p_le6 (c := c) (by omega), p_ceq (c := c) (by omega) hx, p_cle (c := c) (by omega) hx, p_cgt (c := c) (by omega) hy, p_c1]
    by_cases h6 : 6 ≤ c
    · rw [if_pos h6]
    · rw [if_neg h6, if_neg (by omega), if_neg (by omega), if_pos hl]
      exact ih (c + 1) gk gl gh (by omega) (by omega)
/-- one round of the reference's loop -/
theorem p_mload_step (K : Nat → Int32) (Lo Hi : Nat → Int64) (k : Int32) (lo hi : Int64) (n c : Nat) (hl : l ≤ 5) (hc : c ≤ l) : lp_Md_load_96 (n + 1) mo K Lo Hi i (Int32.ofNat (6 + l)) k lo hi (Int32.ofNat (6 + c)) = lp_Md_load_96 n mo K Lo Hi i (Int32.ofNat (6 + l)) k (if lo ≤ Lo (6 + c) then lo else Lo (6 + c)) (if Hi (6 + c) ≤ hi then hi else Hi (6 + c)) (Int32.ofNat (6 + (c + 1))) := by
  conv => lhs; unfold lp_Md_load_96
  rw [if_neg (by rw [p_ltc (by omega) (by omega)]; omega)]
  simp only [bk_Md_load_125, bk_Md_load_147, p_cn (c := 6 + c) (by omega), p_c1, ← Nat.add_assoc]
  by_cases h1 : lo ≤ Lo (6 + c) <;> by_cases h2 : Hi (6 + c) ≤ hi <;> simp only [h1, h2, if_true, if_false]
theorem p_mload_end (K : Nat → Int32) (Lo Hi : Nat → Int64) (k : Int32) (lo hi : Int64) (n c : Nat) (hc : c = l + 1) (hl : l ≤ 5) : lp_Md_load_96 (n + 1) mo K Lo Hi i (Int32.ofNat (6 + l)) k lo hi (Int32.ofNat (6 + c)) = s_Md_know K Lo Hi (mo 1 i.toNatClampNeg) k lo hi := by
  unfold lp_Md_load_96
  rw [if_pos (by rw [p_ltc (by omega) (by omega)]; omega)]
  rfl
theorem p_mload_ok (K : Nat → Int32) (Lo Hi : Nat → Int64) (k : Int32) (hl : l ≤ 5) (h24 : vp_in i 24) (hd : vp_in (mo 1 i.toNatClampNeg) 12) : ∀ (n c : Nat) (lo hi : Int64), c ≤ l + 1 → l + 2 ≤ c + n → lp_ok_Md_load_96 n mo K Lo Hi i (Int32.ofNat (6 + l)) k lo hi (Int32.ofNat (6 + c)) := by
  intro n
  induction n with
  | zero => intro c lo hi h1 h2; omega
  | succ n ih =>
    intro c lo hi h1 h2
    unfold lp_ok_Md_load_96
    by_cases h : c = l + 1
    · rw [if_pos (by rw [p_ltc (by omega) (by omega)]; omega)]
      exact ⟨h24, ⟨hd, trivial⟩, trivial⟩
    · rw [if_neg (by rw [p_ltc (by omega) (by omega)]; omega)]
      have hv : vp_in (Int32.ofNat (6 + c)) 12 := p_vinc (by omega) (by omega)
      refine ⟨hv, ?_⟩
      simp only [bk_ok_Md_load_125, bk_ok_Md_load_147, p_cn (c := 6 + c) (by omega), p_c1]
      by_cases h1 : lo ≤ Lo (6 + c) <;> by_cases h2 : Hi (6 + c) ≤ hi <;> simp only [h1, h2, if_true, if_false] <;> exact ⟨hv, ih (c + 1) _ _ (by omega) (by omega)⟩
theorem p_know_know (K : Nat → Int32) (Lo Hi : Nat → Int64) (d k k' : Int32) (lo hi lo' hi' : Int64) : s_Md_know (s_Md_know K Lo Hi d k lo hi).1 (s_Md_know K Lo Hi d k lo hi).2.1 (s_Md_know K Lo Hi d k lo hi).2.2 d k' lo' hi' = s_Md_know K Lo Hi d k' lo' hi' := by
  simp only [s_Md_know, p_upd_upd, p_updL_updL]
/-- both loops, behind the first cell -/
theorem p_load_in (hx : x.toInt = (f : Int)) (hy : y.toInt = (l : Int)) (hl : l ≤ 5) (hd : (mo 1 i.toNatClampNeg).toNatClampNeg < 6) : ∀ (n n' c : Nat) (k : Int32) (lo hi : Int64), c + n = 7 → c ≤ l + 1 → l + 2 ≤ c + n' → f < c → (c ≤ l → k = 1) →
    lp_Ef_load_67 n (fun j k => mo k j) (va_up gk 0 (s_Md_know (gk 0) (gl 0) (gh 0) (mo 1 i.toNatClampNeg) k lo hi).1) (va_up gl 0 (s_Md_know (gk 0) (gl 0) (gh 0) (mo 1 i.toNatClampNeg) k lo hi).2.1) (va_up gh 0 (s_Md_know (gk 0) (gl 0) (gh 0) (mo 1 i.toNatClampNeg) k lo hi).2.2) i.toNatClampNeg x y (Int32.ofNat c) = p_lift gk gl gh 0 (lp_Md_load_96 n' mo (gk 0) (gl 0) (gh 0) i (Int32.ofNat (6 + l)) k lo hi (Int32.ofNat (6 + c))) := by
  intro n
  induction n with
  | zero => intro n' c k lo hi h1 h2 h3 h4; omega
  | succ n ih =>
    intro n' c k lo hi h1 h2 h3 h4 hk
    by_cases hc : c = l + 1
    · rw [p_load_out mo i x y f l hx hy (by omega) _ _ _ _ _ (by omega) (by omega)]
      obtain ⟨m, rfl⟩ : ∃ m, n' = m + 1 := ⟨n' - 1, by omega⟩
      rw [p_mload_end mo i l _ _ _ _ _ _ _ _ hc hl]
      rfl
    · obtain ⟨m, rfl⟩ : ∃ m, n' = m + 1 := ⟨n' - 1, by omega⟩
      rw [p_mload_step mo i l _ _ _ _ _ _ _ _ hl (by omega)]
      have hk1 := hk (by omega)
      subst hk1
      unfold lp_Ef_load_67
      simp only [p_le6 (c := c) (by omega), p_ceq (c := c) (by omega) hx, p_cle (c := c) (by omega) hx, p_cgt (c := c) (by omega) hy, p_c1, p_c6]
      rw [if_neg (by omega), if_neg (by omega), if_neg (by omega), if_neg (by omega)]
      rw [← ih m (c + 1) 1 _ _ (by omega) (by omega) (by omega) (by omega) (fun _ => rfl)]
      simp only [x_let, s_Gs_lo, s_Gs_hi, s_Gs_widen, s_Gs_set, p_va_self, p_va_va, s_Md_know, p_upd_upd, p_updL_updL, p_updL_self, p_cn (c := 6 + c) (by omega), p_updL_ne _ _ (show 6 + c ≠ (mo 1 i.toNatClampNeg).toNatClampNeg by omega), p_min, p_max]
theorem p_load_before (hx : x.toInt = (f : Int)) (hl : f ≤ 5) : ∀ (c : Nat), c ≤ f → lp_Ef_load_67 7 (fun j k => mo k j) gk gl gh i.toNatClampNeg x y 0 = lp_Ef_load_67 (7 - c) (fun j k => mo k j) gk gl gh i.toNatClampNeg x y (Int32.ofNat c) := by
  intro c
  induction c with
  | zero => intro _; rfl
  | succ c ih =>
    intro h
    rw [ih (by omega), show 7 - c = (7 - (c + 1)) + 1 by omega]
    conv => lhs; unfold lp_Ef_load_67
    simp only [p_le6 (c := c) (by omega), p_ceq (c := c) (by omega) hx, p_cle (c := c) (by omega) hx, p_c1]
    rw [if_neg (by omega), if_neg (by omega), if_pos (by omega)]
theorem e_load (hwf : (mo 1 i.toNatClampNeg).toNatClampNeg < 6) (hk : gk 0 (mo 2 i.toNatClampNeg).toNatClampNeg = 2) (hx : (gl 0 (mo 2 i.toNatClampNeg).toNatClampNeg + Int32.toInt64 (mo 3 i.toNatClampNeg)).toInt = (f : Int)) (hy : (gh 0 (mo 2 i.toNatClampNeg).toNatClampNeg + Int32.toInt64 (mo 3 i.toNatClampNeg)).toInt = (l : Int)) (hfl : f ≤ l) (hl : l ≤ 5) (hr : f < l → gk 0 (6 + f) = 1) : s_Ef_load (fun j k => mo k j) gk gl gh i.toNatClampNeg = p_lift gk gl gh 0 (s_Md_load mo (gk 0) (gl 0) (gh 0) i) := by
  unfold s_Ef_load s_Md_load
  simp only [x_let, s_Gs_kind, s_Gs_lo, s_Gs_hi, hk, if_true, show ¬ (2 : Int32) = 3 by decide, if_false]
  rw [p_load_before mo gk gl gh i _ _ f hx (by omega) f (Nat.le_refl f), show 7 - f = (6 - f) + 1 by omega, p_toI hy (by omega), p_toI hx (by omega)]
  conv => lhs; unfold lp_Ef_load_67
  simp only [p_le6 (c := f) (by omega), p_ceq (c := f) (by omega) hx, p_c1, p_c6, p_cn (c := 6 + f) (by omega), if_true]
  rw [if_neg (by omega)]
  rw [show 6 + f + 1 = 6 + (f + 1) by omega, ← p_load_in mo gk gl gh i _ _ f l hx hy hl hwf (6 - f) 8 (f + 1) (gk 0 (6 + f)) (gl 0 (6 + f)) (gh 0 (6 + f)) (by omega) (by omega) (by omega) (by omega) (fun h => hr (by omega))]
  simp only [x_let, s_Gs_copy, s_Gs_set, s_Md_know, p_cn (c := 6 + f) (by omega)]
theorem k_load (h24 : vp_in i 24) (hwf : (mo 1 i.toNatClampNeg).toNatClampNeg < 6) (hd : vp_in (mo 1 i.toNatClampNeg) 12) (hs : vp_in (mo 2 i.toNatClampNeg) 12) (K : Nat → Int32) (Lo Hi : Nat → Int64) (hk : K (mo 2 i.toNatClampNeg).toNatClampNeg = 2) (hx : (Lo (mo 2 i.toNatClampNeg).toNatClampNeg + Int32.toInt64 (mo 3 i.toNatClampNeg)).toInt = (f : Int)) (hy : (Hi (mo 2 i.toNatClampNeg).toNatClampNeg + Int32.toInt64 (mo 3 i.toNatClampNeg)).toInt = (l : Int)) (hfl : f ≤ l) (hl : l ≤ 5) : k_ok_Md_load mo K Lo Hi i := by
  unfold k_ok_Md_load
  simp only [hk, show ¬ (2 : Int32) = 3 by decide, if_false]
  rw [p_toI hy (by omega), p_toI hx (by omega), p_c6, p_c6, p_c1, show 6 + f + 1 = 6 + (f + 1) by omega]
  exact ⟨h24, hs, p_vinc (by omega) (by omega), p_mload_ok mo i l K Lo Hi _ hl h24 hd 8 (f + 1) _ _ (by omega) (by omega)⟩
end Load
