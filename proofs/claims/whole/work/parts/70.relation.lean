/-! THE PURE PART: what the class means against what the reference means. The relation. -/
/-- what comes of a step that doesn't jump -/
def p_fol (mo : Nat → Nat → Int32) (K : Nat → Int32) (Lo Hi : Nat → Int64) (i : Int32) : (Nat → Int32) × (Nat → Int64) × (Nat → Int64) :=
  if mo 0 i.toNatClampNeg = 0 then s_Md_know K Lo Hi (mo 1 i.toNatClampNeg) 1 (Int32.toInt64 (mo 3 i.toNatClampNeg)) (Int32.toInt64 (mo 3 i.toNatClampNeg))
  else if mo 0 i.toNatClampNeg = 1 then s_Md_copy K Lo Hi (mo 2 i.toNatClampNeg) (mo 1 i.toNatClampNeg)
  else if mo 0 i.toNatClampNeg = 2 then s_Md_move K Lo Hi (mo 1 i.toNatClampNeg) (Int32.toInt64 (mo 3 i.toNatClampNeg)) (Int32.toInt64 (mo 3 i.toNatClampNeg))
  else if mo 0 i.toNatClampNeg = 3 then s_Md_move K Lo Hi (mo 1 i.toNatClampNeg) (Lo (mo 2 i.toNatClampNeg).toNatClampNeg) (Hi (mo 2 i.toNatClampNeg).toNatClampNeg)
  else if mo 0 i.toNatClampNeg = 4 then s_Md_subtract K Lo Hi (mo 1 i.toNatClampNeg) (mo 2 i.toNatClampNeg)
  else if mo 0 i.toNatClampNeg < 10 then s_Md_arithmetic K Lo Hi (mo 0 i.toNatClampNeg) (mo 1 i.toNatClampNeg) (Int32.toInt64 (mo 3 i.toNatClampNeg))
  else if mo 0 i.toNatClampNeg = 14 then s_Md_load mo K Lo Hi i
  else if mo 0 i.toNatClampNeg = 15 then s_Md_store mo K Lo Hi i
  else s_Md_callGuess K Lo Hi (mo 3 i.toNatClampNeg)
/-- what is known where a step jumps -/
def p_tgt (mo : Nat → Nat → Int32) (K : Nat → Int32) (Lo Hi : Nat → Int64) (j : Nat) : (Nat → Int32) × (Nat → Int64) × (Nat → Int64) :=
  if mo 0 j = 10 then s_Md_know K Lo Hi (mo 1 j) 1 (Int32.toInt64 (mo 3 j)) (Int32.toInt64 (mo 3 j))
  else if mo 0 j = 11 then s_Md_know K Lo Hi (mo 1 j) 1 (if Int32.toInt64 (mo 3 j) + 1 < Lo (mo 1 j).toNatClampNeg then Lo (mo 1 j).toNatClampNeg else Int32.toInt64 (mo 3 j) + 1) (Hi (mo 1 j).toNatClampNeg)
  else if mo 0 j = 12 then x_let (s_Md_know K Lo Hi (mo 1 j) 1 (Lo (mo 1 j).toNatClampNeg) (if Hi (mo 2 j).toNatClampNeg - 1 < Hi (mo 1 j).toNatClampNeg then Hi (mo 2 j).toNatClampNeg - 1 else Hi (mo 1 j).toNatClampNeg)) fun (K1, L1, H1) => s_Md_know K1 L1 H1 (mo 2 j) 1 (if Lo (mo 1 j).toNatClampNeg + 1 < L1 (mo 2 j).toNatClampNeg then L1 (mo 2 j).toNatClampNeg else Lo (mo 1 j).toNatClampNeg + 1) (Hi (mo 2 j).toNatClampNeg)
  else (K, Lo, Hi)
/-- what is known where a step doesn't jump -/
def p_on (mo : Nat → Nat → Int32) (K : Nat → Int32) (Lo Hi : Nat → Int64) (j : Nat) : (Nat → Int32) × (Nat → Int64) × (Nat → Int64) :=
  if mo 0 j = 10 then (if K (mo 1 j).toNatClampNeg = 4 then s_Md_know K Lo Hi (mo 1 j) 3 0 0 else s_Md_know K Lo Hi (mo 1 j) 1 (if Lo (mo 1 j).toNatClampNeg = Int32.toInt64 (mo 3 j) then Int32.toInt64 (mo 3 j) + 1 else Lo (mo 1 j).toNatClampNeg) (if Hi (mo 1 j).toNatClampNeg = Int32.toInt64 (mo 3 j) then Int32.toInt64 (mo 3 j) - 1 else Hi (mo 1 j).toNatClampNeg))
  else if mo 0 j = 11 then s_Md_know K Lo Hi (mo 1 j) 1 (Lo (mo 1 j).toNatClampNeg) (if Int32.toInt64 (mo 3 j) < Hi (mo 1 j).toNatClampNeg then Int32.toInt64 (mo 3 j) else Hi (mo 1 j).toNatClampNeg)
  else if mo 0 j = 12 ∧ ¬ mo 1 j = mo 2 j then x_let (s_Md_know K Lo Hi (mo 1 j) 1 (if Lo (mo 2 j).toNatClampNeg < Lo (mo 1 j).toNatClampNeg then Lo (mo 1 j).toNatClampNeg else Lo (mo 2 j).toNatClampNeg) (Hi (mo 1 j).toNatClampNeg)) fun (K1, L1, H1) => s_Md_know K1 L1 H1 (mo 2 j) 1 (Lo (mo 2 j).toNatClampNeg) (if Hi (mo 1 j).toNatClampNeg < H1 (mo 2 j).toNatClampNeg then Hi (mo 1 j).toNatClampNeg else H1 (mo 2 j).toNatClampNeg)
  else (K, Lo, Hi)
/-- whether a jump may be taken, whether it may be passed by -/
def p_cT (mo : Nat → Nat → Int32) (K : Nat → Int32) (Lo Hi : Nat → Int64) (j : Nat) : Int32 := s_Fk_leadsToTarget (fun i k => mo k i) (fun _ => K) (fun _ => Lo) (fun _ => Hi) j 0
def p_cO (mo : Nat → Nat → Int32) (K : Nat → Int32) (Lo Hi : Nat → Int64) (j : Nat) : Int32 := s_Fk_leadsOn (fun i k => mo k i) (fun _ => K) (fun _ => Lo) (fun _ => Hi) j 0
/-- from here on every way is let through, in n steps -/
def p_safe (mo : Nat → Nat → Int32) (sz : Int32) (n : Nat) (K : Nat → Int32) (Lo Hi : Nat → Int64) (i : Int32) : Prop := match n with
  | 0 => False
  | n + 1 => (0 ≤ i.toInt ∧ s_Md_reasonAt mo (fun _ => sz) K Lo Hi i = 0) ∧
    (if mo 0 i.toNatClampNeg = 17 then True
     else if mo 0 i.toNatClampNeg < 10 ∨ 13 < mo 0 i.toNatClampNeg then x_let (p_fol mo K Lo Hi i) fun (K1, L1, H1) => p_safe mo sz n K1 L1 H1 (i + 1)
     else (¬ p_cT mo K Lo Hi i.toNatClampNeg = 0 → x_let (p_tgt mo K Lo Hi i.toNatClampNeg) fun (K1, L1, H1) => p_safe mo sz n K1 L1 H1 (mo 4 i.toNatClampNeg)) ∧
       (¬ p_cO mo K Lo Hi i.toNatClampNeg = 0 → x_let (p_on mo K Lo Hi i.toNatClampNeg) fun (K1, L1, H1) => p_safe mo sz n K1 L1 H1 (i + 1)))
/-- what is known at the start -/
def p_K0 : Nat → Int32 := fun k => if k = 1 then 1 else if k = 2 then 2 else 0
def p_L0 : Nat → Int64 := fun k => if k = 1 then -9223372036854775808 else 0
def p_H0 : Nat → Int64 := fun k => if k = 1 then 9223372036854775807 else 0
def p_acc (mo : Nat → Nat → Int32) (sz : Int32) : Prop := ∃ n, p_safe mo sz n p_K0 p_L0 p_H0 0
/-- the program's words are as they may be -/
def p_wf (mo : Nat → Nat → Int32) (sz : Int32) : Prop :=
  (∀ j, (0 ≤ (mo 0 j).toInt ∧ (mo 0 j).toInt ≤ 17) ∧ (0 ≤ (mo 1 j).toInt ∧ (mo 1 j).toInt ≤ 5) ∧ (0 ≤ (mo 2 j).toInt ∧ (mo 2 j).toInt ≤ 5) ∧ (0 ≤ (mo 4 j).toInt ∧ (mo 4 j).toInt ≤ 23)) ∧ 0 ≤ sz.toInt ∧ sz.toInt ≤ 24
/-- the class and the reference are in step, when n rounds are over -/
def p_in (n : Nat) (stp : Nat → Nat → Int32) (psz : Int32) (gk : Nat → Nat → Int32) (gl : Nat → Nat → Int64) (gh : Nat → Nat → Int64) (cki : Nat → Int32) (ckl : Nat → Int64) (mp : Nat → Nat → Int64) (ri : Nat → Int32) (chk : Int32) (mo : Nat → Nat → Int32) (mi : Nat → Int32) (ml : Nat → Int64) (mk : Nat → Int32) (mlo : Nat → Int64) (mhi : Nat → Int64) (mm : Nat → Int64) : Prop :=
  (stp = (fun j k => mo k j) ∧ psz = mi 0 ∧ chk = mi 7 ∧ p_wf mo (mi 0)) ∧
  (cki 2 = mi 1 ∧ cki 3 = mi 2 ∧ cki 1 = mi 3 ∧ ri 0 = mi 4 ∧ ri 1 = mi 5 ∧ ckl 0 = ml 0 ∧ ckl 1 = ml 1) ∧
  (∀ r c, r < 6 → c < 2 → mp r c = mm (2 * r + c)) ∧
  ((∀ j k, 12 ≤ k → gk j k = 0 ∧ gl j k = 0 ∧ gh j k = 0) ∧ ∀ k, 12 ≤ k → mk k = 0 ∧ mlo k = 0 ∧ mhi k = 0) ∧
  (0 ≤ (mi 5).toInt ∧ (mi 5).toInt ≤ 24 * n) ∧
  (¬ mi 7 = 0 → p_acc mo (mi 0))
def p_I (n : Nat) (st : x_S) : Prop := p_in n st.1.1 st.1.2.1 st.1.2.2.1 st.1.2.2.2.1 st.1.2.2.2.2.1 st.1.2.2.2.2.2.2.1 st.1.2.2.2.2.2.2.2.1 st.1.2.2.2.2.2.2.2.2.1 st.1.2.2.2.2.2.2.2.2.2.2.2.1 st.1.2.2.2.2.2.2.2.2.2.2.2.2 st.2.1.1 st.2.1.2.1 st.2.1.2.2.1 st.2.1.2.2.2.1 st.2.1.2.2.2.2.1 st.2.1.2.2.2.2.2.1 st.2.1.2.2.2.2.2.2.2.2.2.2
theorem p_I_st0 : p_I 0 x_st0 := by
  refine ⟨⟨rfl, rfl, rfl, fun j => ?_, ?_, ?_⟩, ⟨rfl, rfl, rfl, rfl, rfl, rfl, rfl⟩, fun _ _ _ _ => rfl, ⟨fun _ _ _ => ⟨rfl, rfl, rfl⟩, fun _ _ => ⟨rfl, rfl, rfl⟩⟩, ⟨?_, ?_⟩, fun h => absurd rfl h⟩
  · exact ⟨(by decide : 0 ≤ (0 : Int32).toInt ∧ (0 : Int32).toInt ≤ 17), (by decide : 0 ≤ (0 : Int32).toInt ∧ (0 : Int32).toInt ≤ 5), (by decide : 0 ≤ (0 : Int32).toInt ∧ (0 : Int32).toInt ≤ 5), (by decide : 0 ≤ (0 : Int32).toInt ∧ (0 : Int32).toInt ≤ 23)⟩
  all_goals decide
theorem p_I_mono (j : Nat) (st : x_S) (h : p_I j st) : p_I (j + 1) st := by
  obtain ⟨h1, h2, h3, h4, ⟨h5, h6⟩, h7⟩ := h
  exact ⟨h1, h2, h3, h4, ⟨h5, by omega⟩, h7⟩
/-! small numbers -/
theorem p_in64 {x : Int32} {a b : Int64} : s_Md_in (Int32.toInt64 x) a b = (if a.toInt ≤ x.toInt ∧ x.toInt ≤ b.toInt then 1 else 0) := by
  unfold s_Md_in
  simp only [Int64.lt_iff_toInt_lt, Int32.toInt_toInt64]
  by_cases h1 : x.toInt < a.toInt
  · rw [if_pos h1, if_neg (by omega)]
  · rw [if_neg h1]
    by_cases h2 : b.toInt < x.toInt
    · rw [if_pos h2, if_neg (by omega)]
    · rw [if_neg h2, if_pos (by omega)]
theorem p_fits (a b c d : Int32) : s_Md_fits a b c d = (if (0 ≤ a.toInt ∧ a.toInt ≤ 17) ∧ (0 ≤ b.toInt ∧ b.toInt ≤ 5) ∧ (0 ≤ c.toInt ∧ c.toInt ≤ 5) ∧ (0 ≤ d.toInt ∧ d.toInt ≤ 23) then 1 else 0) := by
  simp only [s_Md_fits, p_in64, x_let, show (0 : Int64).toInt = 0 from rfl, show (17 : Int64).toInt = 17 from rfl, show (5 : Int64).toInt = 5 from rfl, show (23 : Int64).toInt = 23 from rfl]
  by_cases h1 : 0 ≤ a.toInt ∧ a.toInt ≤ 17 <;> by_cases h2 : 0 ≤ b.toInt ∧ b.toInt ≤ 5 <;> by_cases h3 : 0 ≤ c.toInt ∧ c.toInt ≤ 5 <;> by_cases h4 : 0 ≤ d.toInt ∧ d.toInt ≤ 23 <;> simp [h1, h2, h3, h4]
theorem p_isReg (a : Int32) : s_Pg_isRegister a = (if 0 ≤ a.toInt ∧ a.toInt ≤ 5 then 1 else 0) := by
  simp only [s_Pg_isRegister, Int32.lt_iff_toInt_lt, Int32.le_iff_toInt_le, show (0 : Int32).toInt = 0 from rfl, show (6 : Int32).toInt = 6 from rfl]
  repeat' split
  all_goals first | rfl | (exfalso; omega)
theorem p_allows (a b c d : Int32) : s_Pg_allows a b c d = (if (0 ≤ a.toInt ∧ a.toInt ≤ 17) ∧ (0 ≤ b.toInt ∧ b.toInt ≤ 5) ∧ (0 ≤ c.toInt ∧ c.toInt ≤ 5) ∧ (0 ≤ d.toInt ∧ d.toInt ≤ 23) then 1 else 0) := by
  simp only [s_Pg_allows, p_isReg, x_let, Int32.lt_iff_toInt_lt, Int32.le_iff_toInt_le, show (0 : Int32).toInt = 0 from rfl, show (17 : Int32).toInt = 17 from rfl, show (24 : Int32).toInt = 24 from rfl]
  by_cases h2 : 0 ≤ b.toInt ∧ b.toInt ≤ 5 <;> by_cases h3 : 0 ≤ c.toInt ∧ c.toInt ≤ 5 <;> simp only [h2, h3, if_true, if_false, show ¬ (1 : Int32) = 0 by decide, and_true, true_and, and_false, false_and, ite_self]
  all_goals (repeat' split)
  all_goals first | rfl | (exfalso; omega)
theorem p_allows_fits (a b c d : Int32) : s_Pg_allows a b c d = s_Md_fits a b c d := by rw [p_allows, p_fits]
theorem p_bad0 (mi : Nat → Int32) : s_Md_bad mi 0 = (1, upd mi 6 1) := rfl
theorem p_bad1 (mi : Nat → Int32) : s_Md_bad mi 1 = (0, upd mi 6 0) := rfl
