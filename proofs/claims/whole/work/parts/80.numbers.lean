/-! numbers between bounds -/
def p_btw (lo x hi : Int64) : Prop := lo.toInt ≤ x.toInt ∧ x.toInt ≤ hi.toInt
theorem p_btw_any (x : Int64) : p_btw (-9223372036854775808) x 9223372036854775807 := by
  have := p_r64 x
  refine ⟨?_, ?_⟩
  · rw [show (-9223372036854775808 : Int64).toInt = -9223372036854775808 from rfl]; omega
  · rw [show (9223372036854775807 : Int64).toInt = 9223372036854775807 from rfl]; omega
theorem n_add {lo hi x a b y : Int64} (h1 : -9223372036854775808 ≤ lo.toInt + a.toInt ∧ lo.toInt + a.toInt < 9223372036854775808) (h2 : -9223372036854775808 ≤ hi.toInt + b.toInt ∧ hi.toInt + b.toInt < 9223372036854775808) (hx : p_btw lo x hi) (hy : p_btw a y b) : p_btw (lo + a) (x + y) (hi + b) := by
  obtain ⟨x1, x2⟩ := hx
  obtain ⟨y1, y2⟩ := hy
  unfold p_btw
  rw [p_add64 h1, p_add64 h2, p_add64 (by omega)]
  omega
theorem n_sub {lo hi x a b y : Int64} (h1 : -9223372036854775808 ≤ lo.toInt - b.toInt ∧ lo.toInt - b.toInt < 9223372036854775808) (h2 : -9223372036854775808 ≤ hi.toInt - a.toInt ∧ hi.toInt - a.toInt < 9223372036854775808) (hx : p_btw lo x hi) (hy : p_btw a y b) : p_btw (lo - b) (x - y) (hi - a) := by
  obtain ⟨x1, x2⟩ := hx
  obtain ⟨y1, y2⟩ := hy
  unfold p_btw
  rw [p_sub64 h1, p_sub64 h2, p_sub64 (by omega)]
  omega
theorem p_mulb {x n : Int} (hx : -2147483648 ≤ x ∧ x ≤ 2147483648) (hn : -2147483648 ≤ n ∧ n ≤ 2147483648) : -4611686018427387904 ≤ x * n ∧ x * n ≤ 4611686018427387904 := by
  have h : (x * n).natAbs ≤ 2147483648 * 2147483648 := by
    rw [Int.natAbs_mul]
    exact Nat.mul_le_mul (by omega) (by omega)
  omega
theorem p_mul64 {x n : Int64} (hx : -2147483648 ≤ x.toInt ∧ x.toInt ≤ 2147483648) (hn : -2147483648 ≤ n.toInt ∧ n.toInt ≤ 2147483648) : (x * n).toInt = x.toInt * n.toInt := by
  have := p_mulb hx hn
  rw [Int64.toInt_mul, Int.bmod_def]; omega
theorem n_mul {lo hi x n : Int64} (hn : -2147483648 ≤ n.toInt ∧ n.toInt ≤ 2147483648) (hl : -2147483648 ≤ lo.toInt ∧ lo.toInt ≤ 2147483648) (hh : -2147483648 ≤ hi.toInt ∧ hi.toInt ≤ 2147483648) (hx : p_btw lo x hi) : ((lo * n).toInt ≤ (x * n).toInt ∧ (x * n).toInt ≤ (hi * n).toInt) ∨ ((hi * n).toInt ≤ (x * n).toInt ∧ (x * n).toInt ≤ (lo * n).toInt) := by
  obtain ⟨x1, x2⟩ := hx
  rw [p_mul64 hl hn, p_mul64 hh hn, p_mul64 (by omega) hn]
  by_cases h : 0 ≤ n.toInt
  · exact Or.inl ⟨Int.mul_le_mul_of_nonneg_right x1 h, Int.mul_le_mul_of_nonneg_right x2 h⟩
  · exact Or.inr ⟨Int.mul_le_mul_of_nonpos_right x2 (by omega), Int.mul_le_mul_of_nonpos_right x1 (by omega)⟩
theorem n_neg {lo hi x : Int64} (hl : ¬ lo = -9223372036854775808) (hx : p_btw lo x hi) : p_btw (-hi) (-x) (-lo) := by
  obtain ⟨x1, x2⟩ := hx
  have hl2 : lo.toInt ≠ -9223372036854775808 := fun h => hl (Int64.toInt_inj.mp h)
  have a := p_r64 lo
  have b := p_r64 hi
  have e : ∀ y : Int64, -9223372036854775808 < y.toInt → (-y).toInt = -y.toInt := by
    intro y hy
    have := p_r64 y
    rw [Int64.toInt_neg, Int.bmod_def]; omega
  unfold p_btw
  rw [e lo (by omega), e hi (by omega), e x (by omega)]
  omega
theorem n_shift {lo hi x : Int64} (k : Int64) (hx : p_btw lo x hi) : p_btw (lo >>> k) (x >>> k) (hi >>> k) := by
  have e : ∀ y : Int64, (y >>> k).toInt = y.toInt / 2 ^ (k.toBitVec.smod 64).toNat := by
    intro y
    show (y >>> k).toBitVec.toInt = _
    rw [Int64.toBitVec_shiftRight, BitVec.sshiftRight', BitVec.toInt_sshiftRight, Int.shiftRight_eq_div_pow]
    norm_cast
  unfold p_btw
  rw [e, e, e]
  exact ⟨Int.ediv_le_ediv (Int.pow_pos (by decide)) hx.1, Int.ediv_le_ediv (Int.pow_pos (by decide)) hx.2⟩
theorem p_and0 {x n : Int64} (hn : 0 ≤ n.toInt) : 0 ≤ (x &&& n).toInt ∧ (x &&& n).toInt ≤ n.toInt ∧ (0 ≤ x.toInt → (x &&& n).toInt ≤ x.toInt) := by
  have mn : n.toBitVec.msb = false := by rw [p_msb]; simp; omega
  have e1 : n.toInt = (n.toBitVec.toNat : Int) := BitVec.toInt_eq_toNat_of_msb mn
  have mx : (x &&& n).toBitVec.msb = false := by rw [Int64.toBitVec_and, BitVec.msb_and, mn, Bool.and_false]
  have e2 : (x &&& n).toInt = ((x &&& n).toBitVec.toNat : Int) := BitVec.toInt_eq_toNat_of_msb mx
  have e3 : (x &&& n).toBitVec.toNat = x.toBitVec.toNat &&& n.toBitVec.toNat := by rw [Int64.toBitVec_and, BitVec.toNat_and]
  refine ⟨by omega, ?_, fun h => ?_⟩
  · rw [e1, e2, e3]
    have := @Nat.and_le_right x.toBitVec.toNat n.toBitVec.toNat
    omega
  · have m : x.toBitVec.msb = false := by rw [p_msb]; simp; omega
    have e4 : x.toInt = (x.toBitVec.toNat : Int) := BitVec.toInt_eq_toNat_of_msb m
    rw [e4, e2, e3]
    have := @Nat.and_le_left x.toBitVec.toNat n.toBitVec.toNat
    omega
theorem p_tdiv_abs (a b : Int) : (a.tdiv b).natAbs = a.natAbs / b.natAbs := Int.natAbs_tdiv a b
theorem p_div64 {x n : Int64} (hn : ¬ n = 0) (h : ¬ (n = -1 ∧ x = -9223372036854775808)) : (x / n).toInt = x.toInt.tdiv n.toInt := by
  have hx := p_r64 x
  have hn2 : n.toInt ≠ 0 := fun e => hn (Int64.toInt_inj.mp e)
  rw [Int64.toInt_div]
  have b : -9223372036854775808 ≤ x.toInt.tdiv n.toInt ∧ x.toInt.tdiv n.toInt < 9223372036854775808 := by
    have e := p_tdiv_abs x.toInt n.toInt
    by_cases h1 : n.toInt = 1
    · rw [h1, Int.tdiv_one]; omega
    by_cases h2 : n.toInt = -1
    · have h3 : x.toInt ≠ -9223372036854775808 := fun e => h ⟨Int64.toInt_inj.mp h2, Int64.toInt_inj.mp e⟩
      rw [h2, Int.tdiv_neg, Int.tdiv_one]; omega
    have h4 : 2 ≤ n.toInt.natAbs := by omega
    have h5 : x.toInt.natAbs / n.toInt.natAbs ≤ x.toInt.natAbs / 2 := Nat.div_le_div_left h4 (by decide)
    omega
  rw [Int.bmod_def]; omega
theorem n_div {lo hi x n : Int64} (hn : ¬ n = 0) (h : ¬ (n = -1 ∧ lo = -9223372036854775808)) (hx : p_btw lo x hi) : ((lo / n).toInt ≤ (x / n).toInt ∧ (x / n).toInt ≤ (hi / n).toInt) ∨ ((hi / n).toInt ≤ (x / n).toInt ∧ (x / n).toInt ≤ (lo / n).toInt) := by
  obtain ⟨x1, x2⟩ := hx
  have hn2 : n.toInt ≠ 0 := fun e => hn (Int64.toInt_inj.mp e)
  have a := p_r64 lo
  have q : ∀ y : Int64, lo.toInt ≤ y.toInt → ¬ (n = -1 ∧ y = -9223372036854775808) := by
    intro y hy ⟨e1, e2⟩
    refine h ⟨e1, Int64.toInt_inj.mp ?_⟩
    rw [e2] at hy
    rw [show (-9223372036854775808 : Int64).toInt = -9223372036854775808 from rfl] at hy ⊢
    omega
  rw [p_div64 hn h, p_div64 hn (q x x1), p_div64 hn (q hi (by omega))]
  by_cases hp : 0 < n.toInt
  · exact Or.inl ⟨Int.tdiv_le_tdiv hp x1, Int.tdiv_le_tdiv hp x2⟩
  · have e : ∀ y : Int, y.tdiv n.toInt = -(y.tdiv (-n.toInt)) := fun y => by rw [Int.tdiv_neg, Int.neg_neg]
    rw [e, e x.toInt, e hi.toInt]
    have p1 := Int.tdiv_le_tdiv (c := -n.toInt) (by omega) x1
    have p2 := Int.tdiv_le_tdiv (c := -n.toInt) (by omega) x2
    exact Or.inr ⟨by omega, by omega⟩
