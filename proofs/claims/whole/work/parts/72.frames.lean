/-! frames -/
def p_lift (gk : Nat → Nat → Int32) (gl gh : Nat → Nat → Int64) (o : Nat) (G : (Nat → Int32) × (Nat → Int64) × (Nat → Int64)) : (Nat → Nat → Int32) × (Nat → Nat → Int64) × (Nat → Nat → Int64) := (va_up gk o G.1, va_up gl o G.2.1, va_up gh o G.2.2)
theorem p_va_self {α : Type} (f : Nat → α) (k : Nat) (v : α) : va_up f k v k = v := by simp [va_up]
theorem p_va_ne {α : Type} (f : Nat → α) {k j : Nat} (v : α) (h : j ≠ k) : va_up f k v j = f j := by simp [va_up, h]
theorem p_va_va {α : Type} (f : Nat → α) (k : Nat) (v w : α) : va_up (va_up f k v) k w = va_up f k w := by
  funext j; simp only [va_up]; split <;> rfl
theorem p_va_id {α : Type} (f : Nat → α) (k : Nat) : va_up f k (f k) = f := by
  funext j; simp only [va_up]; split
  · next h => rw [h]
  · rfl
theorem p_lift_id (gk : Nat → Nat → Int32) (gl gh : Nat → Nat → Int64) (o : Nat) : p_lift gk gl gh o (gk o, gl o, gh o) = (gk, gl, gh) := by
  simp only [p_lift, p_va_id]
section Frames
variable (gk : Nat → Nat → Int32) (gl gh : Nat → Nat → Int64)
theorem e_set (o : Nat) (a k : Int32) (lo hi : Int64) : s_Gs_set gk gl gh o a k lo hi = p_lift gk gl gh o (s_Md_know (gk o) (gl o) (gh o) a k lo hi) := rfl
theorem e_setRange (o : Nat) (a : Int32) (lo hi : Int64) : s_Gs_setRange gk gl gh o a lo hi = p_lift gk gl gh o (s_Md_know (gk o) (gl o) (gh o) a 1 lo hi) := rfl
theorem e_setAny (o : Nat) (a : Int32) : s_Gs_setAny gk gl gh o a = p_lift gk gl gh o (s_Md_anything (gk o) (gl o) (gh o) a) := rfl
theorem e_clear (o : Nat) (a : Int32) : s_Gs_clear gk gl gh o a = p_lift gk gl gh o (s_Md_know (gk o) (gl o) (gh o) a 0 0 0) := rfl
theorem e_copy (o : Nat) (a b : Int32) : s_Gs_copy gk gl gh o a b = p_lift gk gl gh o (s_Md_copy (gk o) (gl o) (gh o) b a) := rfl
theorem p_nle {a b : Int64} : ¬ a ≤ b ↔ b < a := Int64.not_le
theorem e_setBetween (o : Nat) (a : Int32) (x y : Int64) : s_Gs_setBetween gk gl gh o a x y = p_lift gk gl gh o (s_Md_spread (gk o) (gl o) (gh o) a x y) := by
  unfold s_Gs_setBetween s_Md_spread
  rcases Int64.lt_or_le y x with h | h
  · simp only [h, if_true, Int64.le_of_lt h, x_let, e_set]
  · by_cases h2 : y ≤ x
    · have : x = y := Int64.le_antisymm h h2
      subst this
      simp only [Int64.lt_irrefl, if_false, Int64.le_refl, if_true, x_let, e_set]
    · simp only [Int64.not_lt.mpr h, if_false, h2, x_let, e_set]
theorem e_sumW (a b : Int64) : s_Ef_sumWraps a b (a + b) = s_Md_overflows a b := rfl
theorem e_move (a : Int32) (lo hi : Int64) : s_Ef_move gk gl gh a lo hi = p_lift gk gl gh 0 (s_Md_move (gk 0) (gl 0) (gh 0) a lo hi) := by
  unfold s_Ef_move s_Md_move bk_Md_move_27
  simp only [x_let, s_Gs_lo, s_Gs_hi, s_Gs_kind, e_sumW, e_set, e_setAny]
  by_cases h1 : s_Md_overflows (gl 0 a.toNatClampNeg) lo = 0
  · by_cases h2 : s_Md_overflows (gh 0 a.toNatClampNeg) hi = 0
    · simp only [h1, h2, if_true]
    · simp only [h1, h2, if_true, if_false]
  · simp only [h1, if_false]
theorem p_ite {α : Type} {x : Int64} {a b : α} : (if x < 0 then a else b) = if 0 ≤ x then b else a := by
  by_cases h : 0 ≤ x
  · rw [if_pos h, if_neg (Int64.not_lt.mpr h)]
  · rw [if_neg h, if_pos (Int64.not_le.mp h)]
theorem e_subtract (a b : Int32) : s_Ef_subtract gk gl gh a (gl 0 b.toNatClampNeg) (gh 0 b.toNatClampNeg) = p_lift gk gl gh 0 (s_Md_subtract (gk 0) (gl 0) (gh 0) a b) := by
  unfold s_Ef_subtract s_Md_subtract bk_Md_subtract_84
  simp only [x_let, s_Gs_lo, s_Gs_hi, s_Ef_differenceWraps, e_setRange, e_setAny, p_ite]
  by_cases h1 : 0 ≤ (gl 0 a.toNatClampNeg ^^^ gh 0 b.toNatClampNeg) &&& (gl 0 a.toNatClampNeg ^^^ gl 0 a.toNatClampNeg - gh 0 b.toNatClampNeg)
  · by_cases h2 : 0 ≤ (gh 0 a.toNatClampNeg ^^^ gl 0 b.toNatClampNeg) &&& (gh 0 a.toNatClampNeg ^^^ gh 0 a.toNatClampNeg - gl 0 b.toNatClampNeg)
    · simp only [h1, h2, if_true]
    · simp only [h1, h2, if_true, if_false, show ¬ (1 : Int32) = 0 by decide]
  · simp only [h1, if_false, show ¬ (1 : Int32) = 0 by decide]
theorem p_in01 (x a b : Int64) : s_Md_in x a b = if x < a then 0 else if b < x then 0 else 1 := rfl
theorem p_lift_eq {o : Nat} {X Y : (Nat → Int32) × (Nat → Int64) × (Nat → Int64)} (h : X = Y) : p_lift gk gl gh o X = p_lift gk gl gh o Y := by rw [h]
theorem e_multiply (a : Int32) (n : Int64) : s_Ef_multiply gk gl gh a n = p_lift gk gl gh 0 (s_Md_arithmetic (gk 0) (gl 0) (gh 0) 5 a n) := by
  unfold s_Ef_multiply s_Md_arithmetic
  have e : ∀ x, s_Ef_isFactor x = s_Md_in x (-2147483648) 2147483648 := fun x => rfl
  simp only [x_let, s_Gs_lo, s_Gs_hi, e, e_setBetween, e_setAny, bk_Md_arithmetic_65, bk_Md_arithmetic_70, bk_Md_arithmetic_82, bk_Md_arithmetic_104, bk_Md_arithmetic_148, show ¬ (5 : Int32) = 6 by decide, show ¬ (5 : Int32) = 7 by decide, show ¬ (5 : Int32) = 8 by decide, show ¬ (5 : Int32) = 9 by decide, if_true, if_false]
  by_cases h1 : s_Md_in (gl 0 a.toNatClampNeg) (-2147483648) 2147483648 = 0
  · simp only [h1, if_true]
  · by_cases h2 : s_Md_in (gh 0 a.toNatClampNeg) (-2147483648) 2147483648 = 0
    · simp only [h1, h2, if_true, if_false]
    · simp only [h1, h2, if_false]
theorem e_mask (a : Int32) (n : Int64) : s_Ef_mask gk gl gh a n = p_lift gk gl gh 0 (s_Md_arithmetic (gk 0) (gl 0) (gh 0) 6 a n) := by
  unfold s_Ef_mask s_Md_arithmetic
  simp only [x_let, s_Gs_lo, s_Gs_hi, e_setRange, e_setAny, bk_Md_arithmetic_70, bk_Md_arithmetic_82, bk_Md_arithmetic_104, bk_Md_arithmetic_148, s_Md_and, show ¬ (6 : Int32) = 5 by decide, show ¬ (6 : Int32) = 7 by decide, show ¬ (6 : Int32) = 8 by decide, show ¬ (6 : Int32) = 9 by decide, if_true, if_false, p_ite]
  by_cases h1 : gl 0 a.toNatClampNeg = gh 0 a.toNatClampNeg
  · simp only [h1, if_true]
  · by_cases h2 : 0 ≤ n
    · by_cases h3 : 0 ≤ gl 0 a.toNatClampNeg
      · simp only [h1, h2, h3, if_true, if_false]
        by_cases h4 : n ≤ gh 0 a.toNatClampNeg
        · simp only [h4, Int64.not_lt.mpr h4, if_true, if_false]
        · simp only [h4, Int64.not_le.mp h4, if_true, if_false]
      · simp only [h1, h2, h3, if_true, if_false]
    · simp only [h1, h2, if_false]
theorem e_shift (a : Int32) (n : Int32) : s_Gs_setRange gk gl gh 0 a (gl 0 a.toNatClampNeg >>> (Int32.toInt64 n &&& 63)) (gh 0 a.toNatClampNeg >>> (Int32.toInt64 n &&& 63)) = p_lift gk gl gh 0 (s_Md_arithmetic (gk 0) (gl 0) (gh 0) 7 a (Int32.toInt64 n)) := by
  unfold s_Md_arithmetic
  have e : Int64.toInt32 (Int32.toInt64 n) = n := by simp
  simp only [x_let, e_setRange, bk_Md_arithmetic_70, bk_Md_arithmetic_82, bk_Md_arithmetic_104, bk_Md_arithmetic_148, show ¬ (7 : Int32) = 5 by decide, show ¬ (7 : Int32) = 6 by decide, show ¬ (7 : Int32) = 8 by decide, show ¬ (7 : Int32) = 9 by decide, if_true, if_false, e]
theorem e_divide (a : Int32) (n : Int64) (hn : ¬ n = 0) : s_Ef_divide gk gl gh a n = p_lift gk gl gh 0 (s_Md_arithmetic (gk 0) (gl 0) (gh 0) 8 a n) := by
  unfold s_Ef_divide s_Md_arithmetic
  simp only [x_let, s_Gs_lo, s_Gs_hi, e_setBetween, e_setAny, bk_Md_arithmetic_70, bk_Md_arithmetic_82, bk_Md_arithmetic_104, bk_Md_arithmetic_135, bk_Md_arithmetic_148, show ¬ (8 : Int32) = 5 by decide, show ¬ (8 : Int32) = 7 by decide, show ¬ (8 : Int32) = 6 by decide, show ¬ (8 : Int32) = 9 by decide, if_true, if_false, hn]
  by_cases h1 : n = -1
  · by_cases h2 : gl 0 a.toNatClampNeg = -9223372036854775808
    · simp only [h1, h2, if_true]
    · simp only [h1, h2, if_true, if_false]
  · simp only [h1, if_false]
theorem e_negate (a : Int32) (n : Int64) : s_Ef_negate gk gl gh a = p_lift gk gl gh 0 (s_Md_arithmetic (gk 0) (gl 0) (gh 0) 9 a n) := by
  unfold s_Ef_negate s_Md_arithmetic
  simp only [x_let, s_Gs_lo, s_Gs_hi, e_setRange, e_setAny, bk_Md_arithmetic_70, bk_Md_arithmetic_82, bk_Md_arithmetic_104, bk_Md_arithmetic_148, show ¬ (9 : Int32) = 5 by decide, show ¬ (9 : Int32) = 7 by decide, show ¬ (9 : Int32) = 6 by decide, show ¬ (9 : Int32) = 8 by decide, if_true, if_false]
  by_cases h2 : gl 0 a.toNatClampNeg = -9223372036854775808
  · simp only [h2, if_true]
  · simp only [h2, if_false]
theorem p_lift_lift (o : Nat) (G G' : (Nat → Int32) × (Nat → Int64) × (Nat → Int64)) : p_lift (p_lift gk gl gh o G).1 (p_lift gk gl gh o G).2.1 (p_lift gk gl gh o G).2.2 o G' = p_lift gk gl gh o G' := by
  simp only [p_lift, p_va_va]
theorem e_call (n : Int32) (hn : n = 0 ∨ n = 1 ∨ n = 2) : s_Ef_call gk gl gh n = p_lift gk gl gh 0 (s_Md_callGuess (gk 0) (gl 0) (gh 0) n) := by
  unfold s_Ef_call s_Md_callGuess bk_Md_callGuess_14 bk_Md_callGuess_27 bk_Md_callGuess_100
  have L : ∀ K Lo Hi, lp_Md_callGuess_102 4 K Lo Hi n 1 = (upd (upd (upd K 1 0) 2 0) 3 0, vp_updL (vp_updL (vp_updL Lo 1 0) 2 0) 3 0, vp_updL (vp_updL (vp_updL Hi 1 0) 2 0) 3 0) := fun _ _ _ => rfl
  rcases hn with h | h | h
  · subst h
    simp only [if_true, x_let, e_setRange, e_clear, L, show ¬ (0 : Int32) = 1 by decide, show ¬ (0 : Int32) = 2 by decide, if_false, p_lift, p_va_va, p_va_self, s_Md_know]
    rfl
  · subst h
    simp only [if_true, x_let, e_set, e_clear, L, show ¬ (1 : Int32) = 0 by decide, show ¬ (1 : Int32) = 2 by decide, if_false, p_lift, p_va_va, p_va_self, s_Md_know]
    rfl
  · subst h
    simp only [if_true, x_let, e_setRange, e_clear, s_Gs_lo, s_Gs_hi, L, show ¬ (2 : Int32) = 0 by decide, show ¬ (2 : Int32) = 1 by decide, if_false, p_lift, p_va_va, p_va_self, s_Md_know]
    by_cases h1 : gl 0 (Int32.toNatClampNeg 1) ≤ gl 0 (Int32.toNatClampNeg 2) <;> by_cases h2 : gh 0 (Int32.toNatClampNeg 1) ≤ gh 0 (Int32.toNatClampNeg 2) <;> simp only [h1, h2, if_true, if_false, Int64.not_lt.mpr, Int64.not_le.mp, not_false_eq_true] <;> rfl
end Frames
