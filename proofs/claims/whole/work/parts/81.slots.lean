/-! what the effects do to a slot -/
theorem c_any (K : Nat → Int32) (Lo Hi : Nat → Int64) (d : Int32) : s_Md_anything K Lo Hi d = s_Md_know K Lo Hi d 1 (-9223372036854775808) 9223372036854775807 := rfl
theorem c_move (K : Nat → Int32) (Lo Hi : Nat → Int64) (d : Int32) (a b : Int64) (hd : K d.toNatClampNeg = 1) : ∃ lo hi, s_Md_move K Lo Hi d a b = s_Md_know K Lo Hi d 1 lo hi ∧ ∀ x y, p_btw (Lo d.toNatClampNeg) x (Hi d.toNatClampNeg) → p_btw a y b → p_btw lo (x + y) hi := by
  unfold s_Md_move bk_Md_move_27
  simp only [x_let, p_ovf0, hd]
  by_cases h1 : -9223372036854775808 ≤ (Lo d.toNatClampNeg).toInt + a.toInt ∧ (Lo d.toNatClampNeg).toInt + a.toInt < 9223372036854775808
  · by_cases h2 : -9223372036854775808 ≤ (Hi d.toNatClampNeg).toInt + b.toInt ∧ (Hi d.toNatClampNeg).toInt + b.toInt < 9223372036854775808
    · rw [if_pos h1, if_pos rfl, if_pos h2, if_pos rfl]
      exact ⟨_, _, rfl, fun x y hx hy => n_add h1 h2 hx hy⟩
    · rw [if_pos h1, if_pos rfl, if_neg h2, if_neg (by decide)]
      exact ⟨_, _, rfl, fun x y hx hy => p_btw_any _⟩
  · rw [if_neg h1, if_neg (by decide)]
    exact ⟨_, _, rfl, fun x y hx hy => p_btw_any _⟩
theorem c_moveP (K : Nat → Int32) (Lo Hi : Nat → Int64) (d : Int32) (a b : Int64) (h1 : -100 ≤ (Lo d.toNatClampNeg).toInt + a.toInt) (h2 : (Hi d.toNatClampNeg).toInt + b.toInt ≤ 100) (h3 : (Lo d.toNatClampNeg).toInt + a.toInt ≤ (Hi d.toNatClampNeg).toInt + b.toInt) : s_Md_move K Lo Hi d a b = s_Md_know K Lo Hi d (K d.toNatClampNeg) (Lo d.toNatClampNeg + a) (Hi d.toNatClampNeg + b) ∧ (Lo d.toNatClampNeg + a).toInt = (Lo d.toNatClampNeg).toInt + a.toInt ∧ (Hi d.toNatClampNeg + b).toInt = (Hi d.toNatClampNeg).toInt + b.toInt := by
  refine ⟨?_, p_add64 (by omega), p_add64 (by omega)⟩
  have o1 : s_Md_overflows (Lo d.toNatClampNeg) a = 0 := by rw [p_ovf0, if_pos (by omega)]
  have o2 : s_Md_overflows (Hi d.toNatClampNeg) b = 0 := by rw [p_ovf0, if_pos (by omega)]
  unfold s_Md_move
  simp only [x_let, o1, o2, if_true]
theorem c_sub (K : Nat → Int32) (Lo Hi : Nat → Int64) (d s : Int32) : ∃ lo hi, s_Md_subtract K Lo Hi d s = s_Md_know K Lo Hi d 1 lo hi ∧ ∀ x y, p_btw (Lo d.toNatClampNeg) x (Hi d.toNatClampNeg) → p_btw (Lo s.toNatClampNeg) y (Hi s.toNatClampNeg) → p_btw lo (x - y) hi := by
  unfold s_Md_subtract bk_Md_subtract_84
  simp only [x_let, p_ite]
  by_cases h1 : 0 ≤ (Lo d.toNatClampNeg ^^^ Hi s.toNatClampNeg) &&& (Lo d.toNatClampNeg ^^^ Lo d.toNatClampNeg - Hi s.toNatClampNeg)
  · by_cases h2 : 0 ≤ (Hi d.toNatClampNeg ^^^ Lo s.toNatClampNeg) &&& (Hi d.toNatClampNeg ^^^ Hi d.toNatClampNeg - Lo s.toNatClampNeg)
    · rw [if_pos h1, if_pos h2]
      exact ⟨_, _, rfl, fun x y hx hy => n_sub ((p_dovf _ _).mp h1) ((p_dovf _ _).mp h2) hx hy⟩
    · rw [if_pos h1, if_neg h2]
      exact ⟨_, _, rfl, fun x y hx hy => p_btw_any _⟩
  · rw [if_neg h1]
    exact ⟨_, _, rfl, fun x y hx hy => p_btw_any _⟩
theorem c_spread (K : Nat → Int32) (Lo Hi : Nat → Int64) (d : Int32) (a b : Int64) : ∃ lo hi, s_Md_spread K Lo Hi d a b = s_Md_know K Lo Hi d 1 lo hi ∧ ∀ x : Int64, ((a.toInt ≤ x.toInt ∧ x.toInt ≤ b.toInt) ∨ (b.toInt ≤ x.toInt ∧ x.toInt ≤ a.toInt)) → p_btw lo x hi := by
  unfold s_Md_spread
  by_cases h : b ≤ a
  · rw [if_pos h, if_pos h]
    have h := Int64.le_iff_toInt_le.mp h
    exact ⟨_, _, rfl, fun x hx => ⟨by omega, by omega⟩⟩
  · rw [if_neg h, if_neg h]
    have h := Int64.lt_iff_toInt_lt.mp (Int64.not_le.mp h)
    exact ⟨_, _, rfl, fun x hx => ⟨by omega, by omega⟩⟩
theorem p_inb (x : Int64) : s_Md_in x (-2147483648) 2147483648 = if -2147483648 ≤ x.toInt ∧ x.toInt ≤ 2147483648 then 1 else 0 := by
  simp only [s_Md_in, Int64.lt_iff_toInt_lt, show (-2147483648 : Int64).toInt = -2147483648 from rfl, show (2147483648 : Int64).toInt = 2147483648 from rfl]
  repeat' split
  all_goals first | rfl | (exfalso; omega)
section Arith
variable (K : Nat → Int32) (Lo Hi : Nat → Int64) (d : Int32) (n : Int64)
theorem c_mul (hn : -2147483648 ≤ n.toInt ∧ n.toInt ≤ 2147483648) : ∃ lo hi, s_Md_arithmetic K Lo Hi 5 d n = s_Md_know K Lo Hi d 1 lo hi ∧ ∀ x, p_btw (Lo d.toNatClampNeg) x (Hi d.toNatClampNeg) → p_btw lo (x * n) hi := by
  simp only [s_Md_arithmetic, bk_Md_arithmetic_65, bk_Md_arithmetic_70, bk_Md_arithmetic_82, bk_Md_arithmetic_104, bk_Md_arithmetic_148, x_let, show ¬ (5 : Int32) = 6 by decide, show ¬ (5 : Int32) = 7 by decide, show ¬ (5 : Int32) = 8 by decide, show ¬ (5 : Int32) = 9 by decide, if_true, if_false, p_inb]
  by_cases h1 : -2147483648 ≤ (Lo d.toNatClampNeg).toInt ∧ (Lo d.toNatClampNeg).toInt ≤ 2147483648
  · by_cases h2 : -2147483648 ≤ (Hi d.toNatClampNeg).toInt ∧ (Hi d.toNatClampNeg).toInt ≤ 2147483648
    · rw [if_pos h1, if_neg (by decide), if_pos h2, if_neg (by decide)]
      obtain ⟨lo, hi, e, hb⟩ := c_spread K Lo Hi d (Lo d.toNatClampNeg * n) (Hi d.toNatClampNeg * n)
      exact ⟨lo, hi, e, fun x hx => hb _ (n_mul hn h1 h2 hx)⟩
    · rw [if_pos h1, if_neg (by decide), if_neg h2, if_pos rfl]
      exact ⟨_, _, rfl, fun x hx => p_btw_any _⟩
  · rw [if_neg h1, if_pos rfl]
    exact ⟨_, _, rfl, fun x hx => p_btw_any _⟩
theorem c_and : ∃ lo hi, s_Md_arithmetic K Lo Hi 6 d n = s_Md_know K Lo Hi d 1 lo hi ∧ ∀ x, p_btw (Lo d.toNatClampNeg) x (Hi d.toNatClampNeg) → p_btw lo (x &&& n) hi := by
  simp only [s_Md_arithmetic, bk_Md_arithmetic_70, bk_Md_arithmetic_82, bk_Md_arithmetic_104, bk_Md_arithmetic_148, s_Md_and, x_let, show ¬ (6 : Int32) = 5 by decide, show ¬ (6 : Int32) = 7 by decide, show ¬ (6 : Int32) = 8 by decide, show ¬ (6 : Int32) = 9 by decide, if_true, if_false]
  by_cases h1 : Lo d.toNatClampNeg = Hi d.toNatClampNeg
  · rw [if_pos h1]
    refine ⟨_, _, rfl, fun x hx => ?_⟩
    have : x = Lo d.toNatClampNeg := Int64.toInt_inj.mp (by obtain ⟨a, b⟩ := hx; rw [← h1] at b; omega)
    rw [this]
    exact ⟨Int.le_refl _, Int.le_refl _⟩
  rw [if_neg h1]
  by_cases h2 : 0 ≤ n
  · rw [if_pos h2]
    have h2' : 0 ≤ n.toInt := Int64.le_iff_toInt_le.mp h2
    by_cases h3 : Lo d.toNatClampNeg < 0
    · rw [if_pos h3]
      exact ⟨_, _, rfl, fun x hx => ⟨(p_and0 h2').1, (p_and0 h2').2.1⟩⟩
    · rw [if_neg h3]
      have h3' : 0 ≤ (Lo d.toNatClampNeg).toInt := Int64.le_iff_toInt_le.mp (Int64.not_lt.mp h3)
      by_cases h4 : n ≤ Hi d.toNatClampNeg
      · rw [if_pos h4]
        exact ⟨_, _, rfl, fun x hx => ⟨(p_and0 h2').1, (p_and0 h2').2.1⟩⟩
      · rw [if_neg h4]
        refine ⟨_, _, rfl, fun x hx => ⟨(p_and0 h2').1, ?_⟩⟩
        have := (p_and0 (x := x) h2').2.2 (by have := hx.1; omega)
        have := hx.2
        omega
  · rw [if_neg h2]
    exact ⟨_, _, rfl, fun x hx => p_btw_any _⟩
theorem c_shift (m : Int32) : ∃ lo hi, s_Md_arithmetic K Lo Hi 7 d (Int32.toInt64 m) = s_Md_know K Lo Hi d 1 lo hi ∧ ∀ x, p_btw (Lo d.toNatClampNeg) x (Hi d.toNatClampNeg) → p_btw lo (x >>> (Int32.toInt64 m &&& 63)) hi := by
  have e : Int64.toInt32 (Int32.toInt64 m) = m := by simp
  simp only [s_Md_arithmetic, bk_Md_arithmetic_70, bk_Md_arithmetic_82, bk_Md_arithmetic_104, bk_Md_arithmetic_148, x_let, show ¬ (7 : Int32) = 5 by decide, show ¬ (7 : Int32) = 6 by decide, show ¬ (7 : Int32) = 8 by decide, show ¬ (7 : Int32) = 9 by decide, if_true, if_false, e]
  exact ⟨_, _, rfl, fun x hx => n_shift _ hx⟩
theorem c_div (hn : ¬ n = 0) : ∃ lo hi, s_Md_arithmetic K Lo Hi 8 d n = s_Md_know K Lo Hi d 1 lo hi ∧ ∀ x, p_btw (Lo d.toNatClampNeg) x (Hi d.toNatClampNeg) → p_btw lo (x / n) hi := by
  simp only [s_Md_arithmetic, bk_Md_arithmetic_70, bk_Md_arithmetic_82, bk_Md_arithmetic_104, bk_Md_arithmetic_135, bk_Md_arithmetic_148, x_let, show ¬ (8 : Int32) = 5 by decide, show ¬ (8 : Int32) = 7 by decide, show ¬ (8 : Int32) = 6 by decide, show ¬ (8 : Int32) = 9 by decide, if_true, if_false]
  obtain ⟨lo, hi, e, hb⟩ := c_spread K Lo Hi d (Lo d.toNatClampNeg / n) (Hi d.toNatClampNeg / n)
  by_cases h1 : n = -1
  · by_cases h2 : Lo d.toNatClampNeg = -9223372036854775808
    · rw [if_pos h1, if_pos h2]
      exact ⟨_, _, rfl, fun x hx => p_btw_any _⟩
    · rw [if_pos h1, if_neg h2]
      exact ⟨lo, hi, e, fun x hx => hb _ (n_div hn (fun h => h2 h.2) hx)⟩
  · rw [if_neg h1]
    exact ⟨lo, hi, e, fun x hx => hb _ (n_div hn (fun h => h1 h.1) hx)⟩
theorem c_neg : ∃ lo hi, s_Md_arithmetic K Lo Hi 9 d n = s_Md_know K Lo Hi d 1 lo hi ∧ ∀ x, p_btw (Lo d.toNatClampNeg) x (Hi d.toNatClampNeg) → p_btw lo (-x) hi := by
  simp only [s_Md_arithmetic, bk_Md_arithmetic_70, bk_Md_arithmetic_82, bk_Md_arithmetic_104, bk_Md_arithmetic_148, x_let, show ¬ (9 : Int32) = 5 by decide, show ¬ (9 : Int32) = 7 by decide, show ¬ (9 : Int32) = 6 by decide, show ¬ (9 : Int32) = 8 by decide, if_true, if_false]
  by_cases h2 : Lo d.toNatClampNeg = -9223372036854775808
  · rw [if_pos h2]
    exact ⟨_, _, rfl, fun x hx => p_btw_any _⟩
  · rw [if_neg h2]
    exact ⟨_, _, rfl, fun x hx => n_neg h2 hx⟩
end Arith
section Cells
variable (mo : Nat → Nat → Int32) (i : Int32) (f l : Nat)
theorem c_loadin (K : Nat → Int32) (Lo Hi : Nat → Int64) (hl : l ≤ 5) (k : Int32) : ∀ (n c : Nat) (lo hi : Int64), c ≤ l + 1 → l + 2 ≤ c + n → ∃ lo' hi', lp_Md_load_96 n mo K Lo Hi i (Int32.ofNat (6 + l)) k lo hi (Int32.ofNat (6 + c)) = s_Md_know K Lo Hi (mo 1 i.toNatClampNeg) k lo' hi' ∧ lo'.toInt ≤ lo.toInt ∧ hi.toInt ≤ hi'.toInt ∧ ∀ e, c ≤ e → e ≤ l → lo'.toInt ≤ (Lo (6 + e)).toInt ∧ (Hi (6 + e)).toInt ≤ hi'.toInt := by
  intro n
  induction n with
  | zero => intro c lo hi h1 h2; omega
  | succ n ih =>
    intro c lo hi h1 h2
    by_cases hc : c = l + 1
    · rw [p_mload_end mo i l _ _ _ _ _ _ _ _ hc hl]
      exact ⟨lo, hi, rfl, Int.le_refl _, Int.le_refl _, fun e h3 h4 => by omega⟩
    · rw [p_mload_step mo i l _ _ _ _ _ _ _ _ hl (by omega)]
      obtain ⟨lo', hi', q1, q2, q3, q4⟩ := ih (c + 1) (if lo ≤ Lo (6 + c) then lo else Lo (6 + c)) (if Hi (6 + c) ≤ hi then hi else Hi (6 + c)) (by omega) (by omega)
      have m1 : (if lo ≤ Lo (6 + c) then lo else Lo (6 + c)).toInt ≤ lo.toInt ∧ (if lo ≤ Lo (6 + c) then lo else Lo (6 + c)).toInt ≤ (Lo (6 + c)).toInt := by
        by_cases h : lo ≤ Lo (6 + c)
        · rw [if_pos h]; exact ⟨Int.le_refl _, Int64.le_iff_toInt_le.mp h⟩
        · rw [if_neg h]; exact ⟨Int64.le_iff_toInt_le.mp (Int64.le_of_lt (Int64.not_le.mp h)), Int.le_refl _⟩
      have m2 : hi.toInt ≤ (if Hi (6 + c) ≤ hi then hi else Hi (6 + c)).toInt ∧ (Hi (6 + c)).toInt ≤ (if Hi (6 + c) ≤ hi then hi else Hi (6 + c)).toInt := by
        by_cases h : Hi (6 + c) ≤ hi
        · rw [if_pos h]; exact ⟨Int.le_refl _, Int64.le_iff_toInt_le.mp h⟩
        · rw [if_neg h]; exact ⟨Int64.le_iff_toInt_le.mp (Int64.le_of_lt (Int64.not_le.mp h)), Int.le_refl _⟩
      refine ⟨lo', hi', q1, by omega, by omega, fun e h3 h4 => ?_⟩
      by_cases he : e = c
      · subst he; exact ⟨by omega, by omega⟩
      · exact q4 e (by omega) h4
theorem c_load (K : Nat → Int32) (Lo Hi : Nat → Int64) (hk : K (mo 2 i.toNatClampNeg).toNatClampNeg = 2) (hx : (Lo (mo 2 i.toNatClampNeg).toNatClampNeg + Int32.toInt64 (mo 3 i.toNatClampNeg)).toInt = (f : Int)) (hy : (Hi (mo 2 i.toNatClampNeg).toNatClampNeg + Int32.toInt64 (mo 3 i.toNatClampNeg)).toInt = (l : Int)) (hfl : f ≤ l) (hl : l ≤ 5) : ∃ lo hi, s_Md_load mo K Lo Hi i = s_Md_know K Lo Hi (mo 1 i.toNatClampNeg) (K (6 + f)) lo hi ∧ (∀ e, f ≤ e → e ≤ l → lo.toInt ≤ (Lo (6 + e)).toInt ∧ (Hi (6 + e)).toInt ≤ hi.toInt) ∧ (f = l → lo = Lo (6 + f) ∧ hi = Hi (6 + f)) := by
  unfold s_Md_load
  simp only [hk, show ¬ (2 : Int32) = 3 by decide, if_false]
  rw [p_toI hy (by omega), p_toI hx (by omega), p_c6, p_c6, p_c1, p_cn (by omega), show 6 + f + 1 = 6 + (f + 1) by omega]
  by_cases h : f = l
  · subst h
    rw [p_mload_end mo i f _ _ _ _ _ _ _ _ rfl hl]
    exact ⟨_, _, rfl, fun e h1 h2 => by have : e = f := by omega
                                        subst this; exact ⟨Int.le_refl _, Int.le_refl _⟩, fun _ => ⟨rfl, rfl⟩⟩
  · obtain ⟨lo', hi', q1, q2, q3, q4⟩ := c_loadin mo i l K Lo Hi hl (K (6 + f)) 8 (f + 1) (Lo (6 + f)) (Hi (6 + f)) (by omega) (by omega)
    refine ⟨lo', hi', q1, fun e h1 h2 => ?_, fun h2 => absurd h2 h⟩
    by_cases he : e = f
    · subst he; exact ⟨q2, q3⟩
    · exact q4 e (by omega) h2
/-- what a store into one of several cells does -/
theorem c_storein (hl : l ≤ 5) (hfl : f < l) (s : Int32) (hs : s.toNatClampNeg < 6) : ∀ (n c : Nat) (K : Nat → Int32) (Lo Hi : Nat → Int64), f ≤ c → c ≤ l + 1 → l + 2 ≤ c + n → ∃ Lo' Hi', lp_Md_store_81 n K Lo Hi i (Int32.ofNat (6 + f)) (Int32.ofNat (6 + l)) s (Int32.ofNat (6 + c)) = (K, Lo', Hi') ∧ (∀ j, (¬ ∃ e, c ≤ e ∧ e ≤ l ∧ j = 6 + e) → Lo' j = Lo j ∧ Hi' j = Hi j) ∧ (∀ e, c ≤ e → e ≤ l → (Lo' (6 + e)).toInt ≤ (Lo (6 + e)).toInt ∧ (Hi (6 + e)).toInt ≤ (Hi' (6 + e)).toInt ∧ (¬ K (6 + e) = 0 → (Lo' (6 + e)).toInt ≤ (Lo s.toNatClampNeg).toInt ∧ (Hi s.toNatClampNeg).toInt ≤ (Hi' (6 + e)).toInt)) := by
  intro n
  induction n with
  | zero => intro c K Lo Hi h0 h1 h2; omega
  | succ n ih =>
    intro c K Lo Hi h0 h1 h2
    by_cases hc : c = l + 1
    · rw [p_mstore_end i f l _ _ _ _ _ _ hl hc hfl]
      exact ⟨Lo, Hi, rfl, fun j _ => ⟨rfl, rfl⟩, fun e h3 h4 => by omega⟩
    · rw [p_mstore_step i f l _ _ _ _ _ _ hl (by omega) hfl]
      by_cases k0 : K (6 + c) = 0
      · rw [if_pos k0]
        obtain ⟨Lo', Hi', q1, q2, q3⟩ := ih (c + 1) K Lo Hi (by omega) (by omega) (by omega)
        refine ⟨Lo', Hi', q1, fun j hj => q2 j (fun ⟨e, e1, e2, e3⟩ => hj ⟨e, by omega, e2, e3⟩), fun e h3 h4 => ?_⟩
        by_cases he : e = c
        · subst he
          obtain ⟨r1, r2⟩ := q2 (6 + e) (fun ⟨e', e1, e2, e3⟩ => by omega)
          exact ⟨by rw [r1]; exact Int.le_refl _, by rw [r2]; exact Int.le_refl _, fun h => absurd k0 h⟩
        · exact q3 e (by omega) h4
      · rw [if_neg k0]
        obtain ⟨Lo', Hi', q1, q2, q3⟩ := ih (c + 1) K (vp_updL Lo (6 + c) (if Lo (6 + c) ≤ Lo s.toNatClampNeg then Lo (6 + c) else Lo s.toNatClampNeg)) (vp_updL Hi (6 + c) (if Hi s.toNatClampNeg ≤ Hi (6 + c) then Hi (6 + c) else Hi s.toNatClampNeg)) (by omega) (by omega) (by omega)
        have m1 : (if Lo (6 + c) ≤ Lo s.toNatClampNeg then Lo (6 + c) else Lo s.toNatClampNeg).toInt ≤ (Lo (6 + c)).toInt ∧ (if Lo (6 + c) ≤ Lo s.toNatClampNeg then Lo (6 + c) else Lo s.toNatClampNeg).toInt ≤ (Lo s.toNatClampNeg).toInt := by
          by_cases h : Lo (6 + c) ≤ Lo s.toNatClampNeg
          · rw [if_pos h]; exact ⟨Int.le_refl _, Int64.le_iff_toInt_le.mp h⟩
          · rw [if_neg h]; exact ⟨Int64.le_iff_toInt_le.mp (Int64.le_of_lt (Int64.not_le.mp h)), Int.le_refl _⟩
        have m2 : (Hi (6 + c)).toInt ≤ (if Hi s.toNatClampNeg ≤ Hi (6 + c) then Hi (6 + c) else Hi s.toNatClampNeg).toInt ∧ (Hi s.toNatClampNeg).toInt ≤ (if Hi s.toNatClampNeg ≤ Hi (6 + c) then Hi (6 + c) else Hi s.toNatClampNeg).toInt := by
          by_cases h : Hi s.toNatClampNeg ≤ Hi (6 + c)
          · rw [if_pos h]; exact ⟨Int.le_refl _, Int64.le_iff_toInt_le.mp h⟩
          · rw [if_neg h]; exact ⟨Int64.le_iff_toInt_le.mp (Int64.le_of_lt (Int64.not_le.mp h)), Int.le_refl _⟩
        refine ⟨Lo', Hi', q1, fun j hj => ?_, fun e h3 h4 => ?_⟩
        · have hne : j ≠ 6 + c := fun h => hj ⟨c, Nat.le_refl _, by omega, h⟩
          obtain ⟨r1, r2⟩ := q2 j (fun ⟨e, e1, e2, e3⟩ => hj ⟨e, by omega, e2, e3⟩)
          rw [r1, r2, p_updL_ne _ _ hne, p_updL_ne _ _ hne]; exact ⟨rfl, rfl⟩
        · by_cases he : e = c
          · subst he
            obtain ⟨r1, r2⟩ := q2 (6 + e) (fun ⟨e', e1, e2, e3⟩ => by omega)
            rw [r1, r2, p_updL_self, p_updL_self]
            exact ⟨m1.1, m2.1, fun _ => ⟨m1.2, m2.2⟩⟩
          · have q := q3 e (by omega) h4
            rw [p_updL_ne _ _ (show 6 + e ≠ 6 + c by omega), p_updL_ne _ _ (show 6 + e ≠ 6 + c by omega), p_updL_ne _ _ (show s.toNatClampNeg ≠ 6 + c by omega), p_updL_ne _ _ (show s.toNatClampNeg ≠ 6 + c by omega)] at q
            exact q
theorem c_store (K : Nat → Int32) (Lo Hi : Nat → Int64) (hs : (mo 2 i.toNatClampNeg).toNatClampNeg < 6) (hk : K (mo 1 i.toNatClampNeg).toNatClampNeg = 2) (hx : (Lo (mo 1 i.toNatClampNeg).toNatClampNeg + Int32.toInt64 (mo 3 i.toNatClampNeg)).toInt = (f : Int)) (hy : (Hi (mo 1 i.toNatClampNeg).toNatClampNeg + Int32.toInt64 (mo 3 i.toNatClampNeg)).toInt = (l : Int)) (hfl : f ≤ l) (hl : l ≤ 5) : (f = l ∧ s_Md_store mo K Lo Hi i = s_Md_copy K Lo Hi (mo 2 i.toNatClampNeg) (Int32.ofNat (6 + f))) ∨ (f < l ∧ ∃ Lo' Hi', s_Md_store mo K Lo Hi i = (K, Lo', Hi') ∧ (∀ j, (¬ ∃ e, f ≤ e ∧ e ≤ l ∧ j = 6 + e) → Lo' j = Lo j ∧ Hi' j = Hi j) ∧ (∀ e, f ≤ e → e ≤ l → (Lo' (6 + e)).toInt ≤ (Lo (6 + e)).toInt ∧ (Hi (6 + e)).toInt ≤ (Hi' (6 + e)).toInt ∧ (¬ K (6 + e) = 0 → (Lo' (6 + e)).toInt ≤ (Lo (mo 2 i.toNatClampNeg).toNatClampNeg).toInt ∧ (Hi (mo 2 i.toNatClampNeg).toNatClampNeg).toInt ≤ (Hi' (6 + e)).toInt))) := by
  unfold s_Md_store
  simp only [hk, show ¬ (2 : Int32) = 3 by decide, if_false]
  rw [p_toI hy (by omega), p_toI hx (by omega), p_c6, p_c6]
  by_cases h : f = l
  · subst h
    refine Or.inl ⟨rfl, ?_⟩
    rw [if_pos rfl]
    simp only [x_let]
    rw [p_mstore_one i f _ _ _ _ hl]
  · refine Or.inr ⟨by omega, ?_⟩
    rw [if_neg (by rw [p_eqc (by omega) (by omega)]; exact fun h2 => h (by omega))]
    exact c_storein i f l hl (by omega) _ hs 8 f K Lo Hi (by omega) (by omega) (by omega)
end Cells
