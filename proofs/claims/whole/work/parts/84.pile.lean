/-! the pile -/
section Pile
variable (mi : Nat → Int32) (m : Nat) (hm : m < 30)
theorem p_at (hm : m < 30) {c : Nat} (hc : c ≤ 12) : (Int32.ofNat m * 12 + Int32.ofNat c) = Int32.ofNat (12 * m + c) := by
  apply Int32.toInt_inj.mp
  have e1 : (Int32.ofNat m * 12).toInt = 12 * (m : Int) := by
    rw [Int32.toInt_mul, p_c32 (by omega), show (12 : Int32).toInt = 12 from rfl, Int.bmod_def]; omega
  rw [Int32.toInt_add, e1, p_c32 (by omega), p_c32 (by omega), Int.bmod_def]; omega
theorem p_le12 {c : Nat} (h : c ≤ 1000) : (12 : Int32) ≤ Int32.ofNat c ↔ 12 ≤ c := by
  rw [Int32.le_iff_toInt_le, p_c32 h, show (12 : Int32).toInt = 12 from rfl]; omega
theorem p_push (hm : m < 30) (h9 : mi 9 = Int32.ofNat m) (K : Nat → Int32) (Lo Hi : Nat → Int64) (ps : Nat → Int32) (t : Int32) : ∀ (n c : Nat) (pk : Nat → Int32) (pl ph : Nat → Int64), c + n = 13 → c ≤ 12 → lp_ok_Md_push_2 n mi K Lo Hi pk ps pl ph t (Int32.ofNat c) ∧ ∃ pk' pl' ph', lp_Md_push_2 n mi K Lo Hi pk ps pl ph t (Int32.ofNat c) = (upd mi 9 (Int32.ofNat (m + 1)), pk', upd ps m t, pl', ph') ∧ (∀ k, c ≤ k → k < 12 → pk' (12 * m + k) = K k ∧ pl' (12 * m + k) = Lo k ∧ ph' (12 * m + k) = Hi k) ∧ (∀ q, q < 12 * m + c → pk' q = pk q ∧ pl' q = pl q ∧ ph' q = ph q) := by
  intro n
  induction n with
  | zero => intro c pk pl ph h1 h2; omega
  | succ n ih =>
    intro c pk pl ph h1 h2
    unfold lp_Md_push_2 lp_ok_Md_push_2
    simp only [p_le12 (c := c) (by omega)]
    by_cases hc : 12 ≤ c
    · simp only [hc, if_true, h9, p_c1, p_cn (c := m) (by omega)]
      exact ⟨⟨p_vinc hm (by omega), trivial⟩, pk, pl, ph, rfl, fun k h3 h4 => by omega, fun q _ => ⟨rfl, rfl, rfl⟩⟩
    · simp only [hc, if_false, h9, p_at m hm (c := c) (by omega), p_cn (c := 12 * m + c) (by omega), p_cn (c := c) (by omega), p_c1]
      obtain ⟨ok, pk', pl', ph', e, r1, r2⟩ := ih (c + 1) (upd pk (12 * m + c) (K c)) (vp_updL pl (12 * m + c) (Lo c)) (vp_updL ph (12 * m + c) (Hi c)) (by omega) (by omega)
      refine ⟨⟨p_vinc (by omega) (by omega), p_vinc (by omega) (by omega), ok⟩, pk', pl', ph', e, fun k h3 h4 => ?_, fun q hq => ?_⟩
      · by_cases hk : k = c
        · subst hk
          obtain ⟨a, b, d⟩ := r2 (12 * m + k) (by omega)
          rw [a, b, d, p_upd_self, p_updL_self, p_updL_self]
          exact ⟨rfl, rfl, rfl⟩
        · exact r1 k (by omega) h4
      · obtain ⟨a, b, d⟩ := r2 q (by omega)
        rw [a, b, d, p_upd_ne _ _ (by omega), p_updL_ne _ _ (by omega), p_updL_ne _ _ (by omega)]
        exact ⟨rfl, rfl, rfl⟩
theorem p_popl (hm : m < 30) (h9 : mi 9 = Int32.ofNat m) (pk ps : Nat → Int32) (pl ph : Nat → Int64) : ∀ (n c : Nat) (K : Nat → Int32) (Lo Hi : Nat → Int64), c + n = 13 → c ≤ 12 → lp_ok_Md_pop_12 n mi K Lo Hi pk ps pl ph (Int32.ofNat c) ∧ lp_Md_pop_12 n mi K Lo Hi pk ps pl ph (Int32.ofNat c) = (upd mi 10 (ps m), (fun k => if c ≤ k ∧ k < 12 then pk (12 * m + k) else K k), (fun k => if c ≤ k ∧ k < 12 then pl (12 * m + k) else Lo k), (fun k => if c ≤ k ∧ k < 12 then ph (12 * m + k) else Hi k)) := by
  intro n
  induction n with
  | zero => intro c K Lo Hi h1 h2; omega
  | succ n ih =>
    intro c K Lo Hi h1 h2
    unfold lp_Md_pop_12 lp_ok_Md_pop_12
    simp only [p_le12 (c := c) (by omega)]
    by_cases hc : 12 ≤ c
    · simp only [hc, if_true, h9, p_cn (c := m) (by omega)]
      refine ⟨⟨p_vinc hm (by omega), trivial⟩, ?_⟩
      refine Prod.ext rfl (Prod.ext ?_ (Prod.ext ?_ ?_)) <;> funext k <;> exact (if_neg (by omega)).symm
    · simp only [hc, if_false, h9, p_at m hm (c := c) (by omega), p_cn (c := 12 * m + c) (by omega), p_c1, x_let]
      obtain ⟨ok, e⟩ := ih (c + 1) (s_Md_know K Lo Hi (Int32.ofNat c) (pk (12 * m + c)) (pl (12 * m + c)) (ph (12 * m + c))).1 (s_Md_know K Lo Hi (Int32.ofNat c) (pk (12 * m + c)) (pl (12 * m + c)) (ph (12 * m + c))).2.1 (s_Md_know K Lo Hi (Int32.ofNat c) (pk (12 * m + c)) (pl (12 * m + c)) (ph (12 * m + c))).2.2 (by omega) (by omega)
      refine ⟨⟨p_vinc (by omega) (by omega), ⟨p_vinc (by omega) (by omega), trivial⟩, ok⟩, ?_⟩
      rw [e]
      refine Prod.ext rfl (Prod.ext ?_ (Prod.ext ?_ ?_)) <;> funext k <;> simp only [s_Md_know, p_cn (c := c) (by omega), upd, vp_updL]
      all_goals
        by_cases hk : k = c
        · subst hk; rw [if_neg (by omega), if_pos rfl, if_pos (by omega)]
        · by_cases hk2 : c + 1 ≤ k ∧ k < 12
          · rw [if_pos hk2, if_pos (by omega)]
          · rw [if_neg hk2, if_neg hk, if_neg (by omega)]
/-- a frame that the pile holds at m -/
def p_held (pk : Nat → Int32) (pl ph : Nat → Int64) (m : Nat) (K : Nat → Int32) (Lo Hi : Nat → Int64) : Prop := ∀ k, k < 12 → pk (12 * m + k) = K k ∧ pl (12 * m + k) = Lo k ∧ ph (12 * m + k) = Hi k
/-- nothing is known beyond the slots -/
def p_z (K : Nat → Int32) (Lo Hi : Nat → Int64) : Prop := ∀ k, 12 ≤ k → K k = 0 ∧ Lo k = 0 ∧ Hi k = 0
theorem p_pop (hm : m < 30) (h9 : mi 9 = Int32.ofNat (m + 1)) (pk ps : Nat → Int32) (pl ph : Nat → Int64) (K K' : Nat → Int32) (Lo Hi Lo' Hi' : Nat → Int64) (hz : p_z K Lo Hi) (hz' : p_z K' Lo' Hi') (hh : p_held pk pl ph m K' Lo' Hi') : k_ok_Md_pop mi K Lo Hi pk ps pl ph ∧ s_Md_pop mi K Lo Hi pk ps pl ph = (upd (upd mi 9 (Int32.ofNat m)) 10 (ps m), K', Lo', Hi') := by
  have e : mi 9 - 1 = Int32.ofNat m := by
    rw [h9]
    apply Int32.toInt_inj.mp
    rw [Int32.toInt_sub, p_c32 (by omega), p_c32 (by omega), show (1 : Int32).toInt = 1 from rfl, Int.bmod_def]; omega
  unfold k_ok_Md_pop s_Md_pop
  rw [e]
  obtain ⟨a, b⟩ := p_popl (upd mi 9 (Int32.ofNat m)) m hm (p_upd_self _ _ _) pk ps pl ph 13 0 K Lo Hi (by omega) (by omega)
  refine ⟨a, ?_⟩
  rw [show (0 : Int32) = Int32.ofNat 0 from rfl, b]
  refine Prod.ext rfl (Prod.ext ?_ (Prod.ext ?_ ?_)) <;> funext k
  all_goals
    by_cases hk : k < 12
    · obtain ⟨q1, q2, q3⟩ := hh k hk
      simp only [Nat.zero_le, true_and, hk, if_true, q1, q2, q3]
    · obtain ⟨q1, q2, q3⟩ := hz k (by omega)
      obtain ⟨r1, r2, r3⟩ := hz' k (by omega)
      simp only [Nat.zero_le, true_and, hk, if_false, q1, q2, q3, r1, r2, r3]
end Pile
