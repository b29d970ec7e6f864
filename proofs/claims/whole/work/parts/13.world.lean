/-! THE WORLD: every cell of class, reference and law -/
abbrev x_SC : Type := (Nat → Nat → Int32) × (Int32) × (Nat → Nat → Int32) × (Nat → Nat → Int64) × (Nat → Nat → Int64) × (Nat → Int32) × (Nat → Int32) × (Nat → Int64) × (Nat → Nat → Int64) × (Nat → Int32) × (Nat → Int64) × (Nat → Int32) × (Int32)
abbrev x_SM : Type := (Nat → Nat → Int32) × (Nat → Int32) × (Nat → Int64) × (Nat → Int32) × (Nat → Int64) × (Nat → Int64) × (Nat → Int32) × (Nat → Int32) × (Nat → Int64) × (Nat → Int64) × (Nat → Int64)
abbrev x_S : Type := x_SC × x_SM × (Nat → Int64)
def x_cell (ad : x_I → Nat) (cA : Nat → ClassId) (stp : Nat → Nat → Int32) (psz : Int32) (gk : Nat → Nat → Int32) (gl : Nat → Nat → Int64) (gh : Nat → Nat → Int64) (opn : Nat → Int32) (cki : Nat → Int32) (ckl : Nat → Int64) (mp : Nat → Nat → Int64) (rk : Nat → Int32) (rv : Nat → Int64) (ri : Nat → Int32) (chk : Int32) (mo : Nat → Nat → Int32) (mi : Nat → Int32) (ml : Nat → Int64) (mk : Nat → Int32) (mlo : Nat → Int64) (mhi : Nat → Int64) (pk : Nat → Int32) (ps : Nat → Int32) (pl : Nat → Int64) (ph : Nat → Int64) (mm : Nat → Int64) (out : Nat → Int64) : x_I → va_E := fun i => match i with
  | (0, 0) => .inr (7, [.ref (ad (1, 0)), .ref (ad (4, 0)), .ref (ad (13, 0)), .int chk])
  | (1, 0) => .inr (4, [.ref (ad (2, 0)), .int psz])
  | (2, 0) => .inl (cA 3, 24, .inr (.inr (.inr (.inr (fun j => some (ad (3, j)))))))
  | (3, j) => .inr (6, [.int (stp j 0), .int (stp j 1), .int (stp j 2), .int (stp j 3), .int (stp j 4)])
  | (4, 0) => .inr (0, [.ref (ad (1, 0)), .ref (ad (5, 0)), .ref (ad (9, 0)), .ref (ad (10, 0)), .ref (ad (11, 0)), .ref (ad (12, 0)), .int (cki 0), .int (cki 1), .int (cki 2), .int (cki 3), .int (cki 4), .long (ckl 0), .long (ckl 1)])
  | (5, j) => .inr (2, [.ref (ad (6, j)), .ref (ad (7, j)), .ref (ad (8, j))])
  | (6, j) => .inl (cA 0, 12, .inl (gk j))
  | (7, j) => .inl (cA 1, 12, .inr (.inl (gl j)))
  | (8, j) => .inl (cA 1, 12, .inr (.inl (gh j)))
  | (9, 0) => .inr (3, [.ref (ad (1, 0)), .ref (ad (5, 0))])
  | (10, 0) => .inr (1, [.ref (ad (5, 0))])
  | (11, 0) => .inl (cA 4, 24, .inr (.inr (.inr (.inr (fun j => some (ad (5, j + 1)))))))
  | (12, 0) => .inl (cA 2, 24, .inl opn)
  | (13, 0) => .inr (5, [.ref (ad (1, 0)), .ref (ad (14, 0)), .ref (ad (16, 0)), .ref (ad (17, 0)), .int (ri 0), .int (ri 1)])
  | (14, 0) => .inl (cA 5, 6, .inr (.inr (.inr (.inr (fun j => some (ad (15, j)))))))
  | (15, j) => .inl (cA 1, 2, .inr (.inl (mp j)))
  | (16, 0) => .inl (cA 0, 12, .inl rk)
  | (17, 0) => .inl (cA 1, 12, .inr (.inl rv))
  | (18, 0) => .inr (8, [.ref (ad (19, 0)), .ref (ad (20, 0)), .ref (ad (21, 0)), .ref (ad (22, 0)), .ref (ad (23, 0)), .int (mi 0), .int (mi 1), .int (mi 2), .int (mi 3), .int (mi 4), .int (mi 5), .int (mi 6), .int (mi 7), .int (mi 8), .long (ml 0), .long (ml 1), .ref (ad (24, 0)), .ref (ad (25, 0)), .ref (ad (26, 0)), .ref (ad (27, 0)), .ref (ad (28, 0)), .ref (ad (29, 0)), .ref (ad (30, 0)), .ref (ad (31, 0)), .int (mi 9), .int (mi 10)])
  | (19, 0) => .inl (cA 0, 24, .inl (mo 0))
  | (20, 0) => .inl (cA 0, 24, .inl (mo 1))
  | (21, 0) => .inl (cA 0, 24, .inl (mo 2))
  | (22, 0) => .inl (cA 0, 24, .inl (mo 3))
  | (23, 0) => .inl (cA 0, 24, .inl (mo 4))
  | (24, 0) => .inl (cA 0, 12, .inl mk)
  | (25, 0) => .inl (cA 1, 12, .inr (.inl mlo))
  | (26, 0) => .inl (cA 1, 12, .inr (.inl mhi))
  | (27, 0) => .inl (cA 0, 360, .inl pk)
  | (28, 0) => .inl (cA 0, 30, .inl ps)
  | (29, 0) => .inl (cA 1, 360, .inr (.inl pl))
  | (30, 0) => .inl (cA 1, 360, .inr (.inl ph))
  | (31, 0) => .inl (cA 1, 12, .inr (.inl mm))
  | (32, 0) => .inl (cA 1, 1, .inr (.inl out))
  | _ => .inl (cA 0, 0, .inl (fun _ => 0))
def x_F (ad : x_I → Nat) (cA : Nat → ClassId) (a : x_S) : x_I → va_E := x_cell ad cA (a.1.1) (a.1.2.1) (a.1.2.2.1) (a.1.2.2.2.1) (a.1.2.2.2.2.1) (a.1.2.2.2.2.2.1) (a.1.2.2.2.2.2.2.1) (a.1.2.2.2.2.2.2.2.1) (a.1.2.2.2.2.2.2.2.2.1) (a.1.2.2.2.2.2.2.2.2.2.1) (a.1.2.2.2.2.2.2.2.2.2.2.1) (a.1.2.2.2.2.2.2.2.2.2.2.2.1) (a.1.2.2.2.2.2.2.2.2.2.2.2.2) (a.2.1.1) (a.2.1.2.1) (a.2.1.2.2.1) (a.2.1.2.2.2.1) (a.2.1.2.2.2.2.1) (a.2.1.2.2.2.2.2.1) (a.2.1.2.2.2.2.2.2.1) (a.2.1.2.2.2.2.2.2.2.1) (a.2.1.2.2.2.2.2.2.2.2.1) (a.2.1.2.2.2.2.2.2.2.2.2.1) (a.2.1.2.2.2.2.2.2.2.2.2.2) a.2.2
def x_idl : List x_I := ([(0, 0)]) ++ ([(1, 0)]) ++ ([(2, 0)]) ++ ((List.range 24).map (fun j => (3, j))) ++ ([(4, 0)]) ++ ((List.range 25).map (fun j => (5, j))) ++ ((List.range 25).map (fun j => (6, j))) ++ ((List.range 25).map (fun j => (7, j))) ++ ((List.range 25).map (fun j => (8, j))) ++ ([(9, 0)]) ++ ([(10, 0)]) ++ ([(11, 0)]) ++ ([(12, 0)]) ++ ([(13, 0)]) ++ ([(14, 0)]) ++ ((List.range 6).map (fun j => (15, j))) ++ ([(16, 0)]) ++ ([(17, 0)]) ++ ([(18, 0)]) ++ ([(19, 0)]) ++ ([(20, 0)]) ++ ([(21, 0)]) ++ ([(22, 0)]) ++ ([(23, 0)]) ++ ([(24, 0)]) ++ ([(25, 0)]) ++ ([(26, 0)]) ++ ([(27, 0)]) ++ ([(28, 0)]) ++ ([(29, 0)]) ++ ([(30, 0)]) ++ ([(31, 0)]) ++ ([(32, 0)])
theorem m_0 : ((0, 0) : x_I) ∈ x_idl := by decide +kernel
theorem m_1 : ((1, 0) : x_I) ∈ x_idl := by decide +kernel
theorem m_2 : ((2, 0) : x_I) ∈ x_idl := by decide +kernel
theorem m_3 {j : Nat} (h : j < 24) : ((3, j) : x_I) ∈ x_idl := (show ∀ j, j < 24 → ((3, j) : x_I) ∈ x_idl by decide +kernel) j h
theorem m_4 : ((4, 0) : x_I) ∈ x_idl := by decide +kernel
theorem m_5 {j : Nat} (h : j < 25) : ((5, j) : x_I) ∈ x_idl := (show ∀ j, j < 25 → ((5, j) : x_I) ∈ x_idl by decide +kernel) j h
theorem m_6 {j : Nat} (h : j < 25) : ((6, j) : x_I) ∈ x_idl := (show ∀ j, j < 25 → ((6, j) : x_I) ∈ x_idl by decide +kernel) j h
theorem m_7 {j : Nat} (h : j < 25) : ((7, j) : x_I) ∈ x_idl := (show ∀ j, j < 25 → ((7, j) : x_I) ∈ x_idl by decide +kernel) j h
theorem m_8 {j : Nat} (h : j < 25) : ((8, j) : x_I) ∈ x_idl := (show ∀ j, j < 25 → ((8, j) : x_I) ∈ x_idl by decide +kernel) j h
theorem m_9 : ((9, 0) : x_I) ∈ x_idl := by decide +kernel
theorem m_10 : ((10, 0) : x_I) ∈ x_idl := by decide +kernel
theorem m_11 : ((11, 0) : x_I) ∈ x_idl := by decide +kernel
theorem m_12 : ((12, 0) : x_I) ∈ x_idl := by decide +kernel
theorem m_13 : ((13, 0) : x_I) ∈ x_idl := by decide +kernel
theorem m_14 : ((14, 0) : x_I) ∈ x_idl := by decide +kernel
theorem m_15 {j : Nat} (h : j < 6) : ((15, j) : x_I) ∈ x_idl := (show ∀ j, j < 6 → ((15, j) : x_I) ∈ x_idl by decide +kernel) j h
theorem m_16 : ((16, 0) : x_I) ∈ x_idl := by decide +kernel
theorem m_17 : ((17, 0) : x_I) ∈ x_idl := by decide +kernel
theorem m_18 : ((18, 0) : x_I) ∈ x_idl := by decide +kernel
theorem m_19 : ((19, 0) : x_I) ∈ x_idl := by decide +kernel
theorem m_20 : ((20, 0) : x_I) ∈ x_idl := by decide +kernel
theorem m_21 : ((21, 0) : x_I) ∈ x_idl := by decide +kernel
theorem m_22 : ((22, 0) : x_I) ∈ x_idl := by decide +kernel
theorem m_23 : ((23, 0) : x_I) ∈ x_idl := by decide +kernel
theorem m_24 : ((24, 0) : x_I) ∈ x_idl := by decide +kernel
theorem m_25 : ((25, 0) : x_I) ∈ x_idl := by decide +kernel
theorem m_26 : ((26, 0) : x_I) ∈ x_idl := by decide +kernel
theorem m_27 : ((27, 0) : x_I) ∈ x_idl := by decide +kernel
theorem m_28 : ((28, 0) : x_I) ∈ x_idl := by decide +kernel
theorem m_29 : ((29, 0) : x_I) ∈ x_idl := by decide +kernel
theorem m_30 : ((30, 0) : x_I) ∈ x_idl := by decide +kernel
theorem m_31 : ((31, 0) : x_I) ∈ x_idl := by decide +kernel
theorem m_32 : ((32, 0) : x_I) ∈ x_idl := by decide +kernel
theorem x_idl_nd : x_idl.Nodup := by decide +kernel
abbrev x_tys (cA : Nat → ClassId) : List (ClassId × FieldType) := [(cA 0, .int), (cA 1, .long), (cA 2, .boolean), (cA 3, .object "CheckedMachine$Step"), (cA 4, .object "CheckedMachine$Guesses"), (cA 5, .array .long)]
abbrev x_k (D : va_G) (cA : Nat → ClassId) (ad : x_I → Nat) : x_K := (D, x_classes, x_tys cA, x_idl, ad)
theorem e_chk {ad : x_I → Nat} {cA : Nat → ClassId} {stp : Nat → Nat → Int32} {psz : Int32} {gk : Nat → Nat → Int32} {gl : Nat → Nat → Int64} {gh : Nat → Nat → Int64} {opn : Nat → Int32} {cki : Nat → Int32} {ckl : Nat → Int64} {mp : Nat → Nat → Int64} {rk : Nat → Int32} {rv : Nat → Int64} {ri : Nat → Int32} {chk : Int32} {mo : Nat → Nat → Int32} {mi : Nat → Int32} {ml : Nat → Int64} {mk : Nat → Int32} {mlo : Nat → Int64} {mhi : Nat → Int64} {pk : Nat → Int32} {ps : Nat → Int32} {pl : Nat → Int64} {ph : Nat → Int64} {mm : Nat → Int64} {out : Nat → Int64} {v : Int32} : x_up (x_F ad cA ((stp, psz, gk, gl, gh, opn, cki, ckl, mp, rk, rv, ri, chk), (mo, mi, ml, mk, mlo, mhi, pk, ps, pl, ph, mm), out)) (0, 0) (.inr (7, [.ref (ad (1, 0)), .ref (ad (4, 0)), .ref (ad (13, 0)), .int v])) = x_F ad cA ((stp, psz, gk, gl, gh, opn, cki, ckl, mp, rk, rv, ri, v), (mo, mi, ml, mk, mlo, mhi, pk, ps, pl, ph, mm), out) := by
  funext z
  obtain ⟨a, b⟩ := z
  by_cases h : ((a, b) : x_I) = (0, 0)
  · cases h
    simp [x_up, x_F, x_cell, va_up, upd, vp_updL]
  · rw [x_up, if_neg h]
    unfold x_F x_cell
    split <;> first | rfl | exact absurd rfl h | (have h9 : ∀ b9 : Nat, b9 ≠ 0 ∨ b9 = 0 := fun b9 => (Decidable.em (b9 = 0)).symm; simp_all [va_up])
theorem e_psz {ad : x_I → Nat} {cA : Nat → ClassId} {stp : Nat → Nat → Int32} {psz : Int32} {gk : Nat → Nat → Int32} {gl : Nat → Nat → Int64} {gh : Nat → Nat → Int64} {opn : Nat → Int32} {cki : Nat → Int32} {ckl : Nat → Int64} {mp : Nat → Nat → Int64} {rk : Nat → Int32} {rv : Nat → Int64} {ri : Nat → Int32} {chk : Int32} {mo : Nat → Nat → Int32} {mi : Nat → Int32} {ml : Nat → Int64} {mk : Nat → Int32} {mlo : Nat → Int64} {mhi : Nat → Int64} {pk : Nat → Int32} {ps : Nat → Int32} {pl : Nat → Int64} {ph : Nat → Int64} {mm : Nat → Int64} {out : Nat → Int64} {v : Int32} : x_up (x_F ad cA ((stp, psz, gk, gl, gh, opn, cki, ckl, mp, rk, rv, ri, chk), (mo, mi, ml, mk, mlo, mhi, pk, ps, pl, ph, mm), out)) (1, 0) (.inr (4, [.ref (ad (2, 0)), .int v])) = x_F ad cA ((stp, v, gk, gl, gh, opn, cki, ckl, mp, rk, rv, ri, chk), (mo, mi, ml, mk, mlo, mhi, pk, ps, pl, ph, mm), out) := by
  funext z
  obtain ⟨a, b⟩ := z
  by_cases h : ((a, b) : x_I) = (1, 0)
  · cases h
    simp [x_up, x_F, x_cell, va_up, upd, vp_updL]
  · rw [x_up, if_neg h]
    unfold x_F x_cell
    split <;> first | rfl | exact absurd rfl h | (have h9 : ∀ b9 : Nat, b9 ≠ 0 ∨ b9 = 0 := fun b9 => (Decidable.em (b9 = 0)).symm; simp_all [va_up])
theorem e_stp0 {ad : x_I → Nat} {cA : Nat → ClassId} {stp : Nat → Nat → Int32} {psz : Int32} {gk : Nat → Nat → Int32} {gl : Nat → Nat → Int64} {gh : Nat → Nat → Int64} {opn : Nat → Int32} {cki : Nat → Int32} {ckl : Nat → Int64} {mp : Nat → Nat → Int64} {rk : Nat → Int32} {rv : Nat → Int64} {ri : Nat → Int32} {chk : Int32} {mo : Nat → Nat → Int32} {mi : Nat → Int32} {ml : Nat → Int64} {mk : Nat → Int32} {mlo : Nat → Int64} {mhi : Nat → Int64} {pk : Nat → Int32} {ps : Nat → Int32} {pl : Nat → Int64} {ph : Nat → Int64} {mm : Nat → Int64} {out : Nat → Int64} {i : Nat} {v : Int32} : x_up (x_F ad cA ((stp, psz, gk, gl, gh, opn, cki, ckl, mp, rk, rv, ri, chk), (mo, mi, ml, mk, mlo, mhi, pk, ps, pl, ph, mm), out)) (3, i) (.inr (6, [.int v, .int (stp i 1), .int (stp i 2), .int (stp i 3), .int (stp i 4)])) = x_F ad cA ((va_up stp i (upd (stp i) 0 v), psz, gk, gl, gh, opn, cki, ckl, mp, rk, rv, ri, chk), (mo, mi, ml, mk, mlo, mhi, pk, ps, pl, ph, mm), out) := by
  funext z
  obtain ⟨a, b⟩ := z
  by_cases h : ((a, b) : x_I) = (3, i)
  · cases h
    simp [x_up, x_F, x_cell, va_up, upd, vp_updL]
  · rw [x_up, if_neg h]
    unfold x_F x_cell
    split <;> first | rfl | exact absurd rfl h | (have h9 : ∀ b9 : Nat, b9 ≠ i ∨ b9 = i := fun b9 => (Decidable.em (b9 = i)).symm; simp_all [va_up])
theorem e_stp1 {ad : x_I → Nat} {cA : Nat → ClassId} {stp : Nat → Nat → Int32} {psz : Int32} {gk : Nat → Nat → Int32} {gl : Nat → Nat → Int64} {gh : Nat → Nat → Int64} {opn : Nat → Int32} {cki : Nat → Int32} {ckl : Nat → Int64} {mp : Nat → Nat → Int64} {rk : Nat → Int32} {rv : Nat → Int64} {ri : Nat → Int32} {chk : Int32} {mo : Nat → Nat → Int32} {mi : Nat → Int32} {ml : Nat → Int64} {mk : Nat → Int32} {mlo : Nat → Int64} {mhi : Nat → Int64} {pk : Nat → Int32} {ps : Nat → Int32} {pl : Nat → Int64} {ph : Nat → Int64} {mm : Nat → Int64} {out : Nat → Int64} {i : Nat} {v : Int32} : x_up (x_F ad cA ((stp, psz, gk, gl, gh, opn, cki, ckl, mp, rk, rv, ri, chk), (mo, mi, ml, mk, mlo, mhi, pk, ps, pl, ph, mm), out)) (3, i) (.inr (6, [.int (stp i 0), .int v, .int (stp i 2), .int (stp i 3), .int (stp i 4)])) = x_F ad cA ((va_up stp i (upd (stp i) 1 v), psz, gk, gl, gh, opn, cki, ckl, mp, rk, rv, ri, chk), (mo, mi, ml, mk, mlo, mhi, pk, ps, pl, ph, mm), out) := by
  funext z
  obtain ⟨a, b⟩ := z
  by_cases h : ((a, b) : x_I) = (3, i)
  · cases h
    simp [x_up, x_F, x_cell, va_up, upd, vp_updL]
  · rw [x_up, if_neg h]
    unfold x_F x_cell
    split <;> first | rfl | exact absurd rfl h | (have h9 : ∀ b9 : Nat, b9 ≠ i ∨ b9 = i := fun b9 => (Decidable.em (b9 = i)).symm; simp_all [va_up])
theorem e_stp2 {ad : x_I → Nat} {cA : Nat → ClassId} {stp : Nat → Nat → Int32} {psz : Int32} {gk : Nat → Nat → Int32} {gl : Nat → Nat → Int64} {gh : Nat → Nat → Int64} {opn : Nat → Int32} {cki : Nat → Int32} {ckl : Nat → Int64} {mp : Nat → Nat → Int64} {rk : Nat → Int32} {rv : Nat → Int64} {ri : Nat → Int32} {chk : Int32} {mo : Nat → Nat → Int32} {mi : Nat → Int32} {ml : Nat → Int64} {mk : Nat → Int32} {mlo : Nat → Int64} {mhi : Nat → Int64} {pk : Nat → Int32} {ps : Nat → Int32} {pl : Nat → Int64} {ph : Nat → Int64} {mm : Nat → Int64} {out : Nat → Int64} {i : Nat} {v : Int32} : x_up (x_F ad cA ((stp, psz, gk, gl, gh, opn, cki, ckl, mp, rk, rv, ri, chk), (mo, mi, ml, mk, mlo, mhi, pk, ps, pl, ph, mm), out)) (3, i) (.inr (6, [.int (stp i 0), .int (stp i 1), .int v, .int (stp i 3), .int (stp i 4)])) = x_F ad cA ((va_up stp i (upd (stp i) 2 v), psz, gk, gl, gh, opn, cki, ckl, mp, rk, rv, ri, chk), (mo, mi, ml, mk, mlo, mhi, pk, ps, pl, ph, mm), out) := by
  funext z
  obtain ⟨a, b⟩ := z
  by_cases h : ((a, b) : x_I) = (3, i)
  · cases h
    simp [x_up, x_F, x_cell, va_up, upd, vp_updL]
  · rw [x_up, if_neg h]
    unfold x_F x_cell
    split <;> first | rfl | exact absurd rfl h | (have h9 : ∀ b9 : Nat, b9 ≠ i ∨ b9 = i := fun b9 => (Decidable.em (b9 = i)).symm; simp_all [va_up])
theorem e_stp3 {ad : x_I → Nat} {cA : Nat → ClassId} {stp : Nat → Nat → Int32} {psz : Int32} {gk : Nat → Nat → Int32} {gl : Nat → Nat → Int64} {gh : Nat → Nat → Int64} {opn : Nat → Int32} {cki : Nat → Int32} {ckl : Nat → Int64} {mp : Nat → Nat → Int64} {rk : Nat → Int32} {rv : Nat → Int64} {ri : Nat → Int32} {chk : Int32} {mo : Nat → Nat → Int32} {mi : Nat → Int32} {ml : Nat → Int64} {mk : Nat → Int32} {mlo : Nat → Int64} {mhi : Nat → Int64} {pk : Nat → Int32} {ps : Nat → Int32} {pl : Nat → Int64} {ph : Nat → Int64} {mm : Nat → Int64} {out : Nat → Int64} {i : Nat} {v : Int32} : x_up (x_F ad cA ((stp, psz, gk, gl, gh, opn, cki, ckl, mp, rk, rv, ri, chk), (mo, mi, ml, mk, mlo, mhi, pk, ps, pl, ph, mm), out)) (3, i) (.inr (6, [.int (stp i 0), .int (stp i 1), .int (stp i 2), .int v, .int (stp i 4)])) = x_F ad cA ((va_up stp i (upd (stp i) 3 v), psz, gk, gl, gh, opn, cki, ckl, mp, rk, rv, ri, chk), (mo, mi, ml, mk, mlo, mhi, pk, ps, pl, ph, mm), out) := by
  funext z
  obtain ⟨a, b⟩ := z
  by_cases h : ((a, b) : x_I) = (3, i)
  · cases h
    simp [x_up, x_F, x_cell, va_up, upd, vp_updL]
  · rw [x_up, if_neg h]
    unfold x_F x_cell
    split <;> first | rfl | exact absurd rfl h | (have h9 : ∀ b9 : Nat, b9 ≠ i ∨ b9 = i := fun b9 => (Decidable.em (b9 = i)).symm; simp_all [va_up])
theorem e_stp4 {ad : x_I → Nat} {cA : Nat → ClassId} {stp : Nat → Nat → Int32} {psz : Int32} {gk : Nat → Nat → Int32} {gl : Nat → Nat → Int64} {gh : Nat → Nat → Int64} {opn : Nat → Int32} {cki : Nat → Int32} {ckl : Nat → Int64} {mp : Nat → Nat → Int64} {rk : Nat → Int32} {rv : Nat → Int64} {ri : Nat → Int32} {chk : Int32} {mo : Nat → Nat → Int32} {mi : Nat → Int32} {ml : Nat → Int64} {mk : Nat → Int32} {mlo : Nat → Int64} {mhi : Nat → Int64} {pk : Nat → Int32} {ps : Nat → Int32} {pl : Nat → Int64} {ph : Nat → Int64} {mm : Nat → Int64} {out : Nat → Int64} {i : Nat} {v : Int32} : x_up (x_F ad cA ((stp, psz, gk, gl, gh, opn, cki, ckl, mp, rk, rv, ri, chk), (mo, mi, ml, mk, mlo, mhi, pk, ps, pl, ph, mm), out)) (3, i) (.inr (6, [.int (stp i 0), .int (stp i 1), .int (stp i 2), .int (stp i 3), .int v])) = x_F ad cA ((va_up stp i (upd (stp i) 4 v), psz, gk, gl, gh, opn, cki, ckl, mp, rk, rv, ri, chk), (mo, mi, ml, mk, mlo, mhi, pk, ps, pl, ph, mm), out) := by
  funext z
  obtain ⟨a, b⟩ := z
  by_cases h : ((a, b) : x_I) = (3, i)
  · cases h
    simp [x_up, x_F, x_cell, va_up, upd, vp_updL]
  · rw [x_up, if_neg h]
    unfold x_F x_cell
    split <;> first | rfl | exact absurd rfl h | (have h9 : ∀ b9 : Nat, b9 ≠ i ∨ b9 = i := fun b9 => (Decidable.em (b9 = i)).symm; simp_all [va_up])
theorem e_cki0 {ad : x_I → Nat} {cA : Nat → ClassId} {stp : Nat → Nat → Int32} {psz : Int32} {gk : Nat → Nat → Int32} {gl : Nat → Nat → Int64} {gh : Nat → Nat → Int64} {opn : Nat → Int32} {cki : Nat → Int32} {ckl : Nat → Int64} {mp : Nat → Nat → Int64} {rk : Nat → Int32} {rv : Nat → Int64} {ri : Nat → Int32} {chk : Int32} {mo : Nat → Nat → Int32} {mi : Nat → Int32} {ml : Nat → Int64} {mk : Nat → Int32} {mlo : Nat → Int64} {mhi : Nat → Int64} {pk : Nat → Int32} {ps : Nat → Int32} {pl : Nat → Int64} {ph : Nat → Int64} {mm : Nat → Int64} {out : Nat → Int64} {v : Int32} : x_up (x_F ad cA ((stp, psz, gk, gl, gh, opn, cki, ckl, mp, rk, rv, ri, chk), (mo, mi, ml, mk, mlo, mhi, pk, ps, pl, ph, mm), out)) (4, 0) (.inr (0, [.ref (ad (1, 0)), .ref (ad (5, 0)), .ref (ad (9, 0)), .ref (ad (10, 0)), .ref (ad (11, 0)), .ref (ad (12, 0)), .int v, .int (cki 1), .int (cki 2), .int (cki 3), .int (cki 4), .long (ckl 0), .long (ckl 1)])) = x_F ad cA ((stp, psz, gk, gl, gh, opn, upd cki 0 v, ckl, mp, rk, rv, ri, chk), (mo, mi, ml, mk, mlo, mhi, pk, ps, pl, ph, mm), out) := by
  funext z
  obtain ⟨a, b⟩ := z
  by_cases h : ((a, b) : x_I) = (4, 0)
  · cases h
    simp [x_up, x_F, x_cell, va_up, upd, vp_updL]
  · rw [x_up, if_neg h]
    unfold x_F x_cell
    split <;> first | rfl | exact absurd rfl h | (have h9 : ∀ b9 : Nat, b9 ≠ 0 ∨ b9 = 0 := fun b9 => (Decidable.em (b9 = 0)).symm; simp_all [va_up])
theorem e_cki1 {ad : x_I → Nat} {cA : Nat → ClassId} {stp : Nat → Nat → Int32} {psz : Int32} {gk : Nat → Nat → Int32} {gl : Nat → Nat → Int64} {gh : Nat → Nat → Int64} {opn : Nat → Int32} {cki : Nat → Int32} {ckl : Nat → Int64} {mp : Nat → Nat → Int64} {rk : Nat → Int32} {rv : Nat → Int64} {ri : Nat → Int32} {chk : Int32} {mo : Nat → Nat → Int32} {mi : Nat → Int32} {ml : Nat → Int64} {mk : Nat → Int32} {mlo : Nat → Int64} {mhi : Nat → Int64} {pk : Nat → Int32} {ps : Nat → Int32} {pl : Nat → Int64} {ph : Nat → Int64} {mm : Nat → Int64} {out : Nat → Int64} {v : Int32} : x_up (x_F ad cA ((stp, psz, gk, gl, gh, opn, cki, ckl, mp, rk, rv, ri, chk), (mo, mi, ml, mk, mlo, mhi, pk, ps, pl, ph, mm), out)) (4, 0) (.inr (0, [.ref (ad (1, 0)), .ref (ad (5, 0)), .ref (ad (9, 0)), .ref (ad (10, 0)), .ref (ad (11, 0)), .ref (ad (12, 0)), .int (cki 0), .int v, .int (cki 2), .int (cki 3), .int (cki 4), .long (ckl 0), .long (ckl 1)])) = x_F ad cA ((stp, psz, gk, gl, gh, opn, upd cki 1 v, ckl, mp, rk, rv, ri, chk), (mo, mi, ml, mk, mlo, mhi, pk, ps, pl, ph, mm), out) := by
  funext z
  obtain ⟨a, b⟩ := z
  by_cases h : ((a, b) : x_I) = (4, 0)
  · cases h
    simp [x_up, x_F, x_cell, va_up, upd, vp_updL]
  · rw [x_up, if_neg h]
    unfold x_F x_cell
    split <;> first | rfl | exact absurd rfl h | (have h9 : ∀ b9 : Nat, b9 ≠ 0 ∨ b9 = 0 := fun b9 => (Decidable.em (b9 = 0)).symm; simp_all [va_up])
theorem e_cki2 {ad : x_I → Nat} {cA : Nat → ClassId} {stp : Nat → Nat → Int32} {psz : Int32} {gk : Nat → Nat → Int32} {gl : Nat → Nat → Int64} {gh : Nat → Nat → Int64} {opn : Nat → Int32} {cki : Nat → Int32} {ckl : Nat → Int64} {mp : Nat → Nat → Int64} {rk : Nat → Int32} {rv : Nat → Int64} {ri : Nat → Int32} {chk : Int32} {mo : Nat → Nat → Int32} {mi : Nat → Int32} {ml : Nat → Int64} {mk : Nat → Int32} {mlo : Nat → Int64} {mhi : Nat → Int64} {pk : Nat → Int32} {ps : Nat → Int32} {pl : Nat → Int64} {ph : Nat → Int64} {mm : Nat → Int64} {out : Nat → Int64} {v : Int32} : x_up (x_F ad cA ((stp, psz, gk, gl, gh, opn, cki, ckl, mp, rk, rv, ri, chk), (mo, mi, ml, mk, mlo, mhi, pk, ps, pl, ph, mm), out)) (4, 0) (.inr (0, [.ref (ad (1, 0)), .ref (ad (5, 0)), .ref (ad (9, 0)), .ref (ad (10, 0)), .ref (ad (11, 0)), .ref (ad (12, 0)), .int (cki 0), .int (cki 1), .int v, .int (cki 3), .int (cki 4), .long (ckl 0), .long (ckl 1)])) = x_F ad cA ((stp, psz, gk, gl, gh, opn, upd cki 2 v, ckl, mp, rk, rv, ri, chk), (mo, mi, ml, mk, mlo, mhi, pk, ps, pl, ph, mm), out) := by
  funext z
  obtain ⟨a, b⟩ := z
  by_cases h : ((a, b) : x_I) = (4, 0)
  · cases h
    simp [x_up, x_F, x_cell, va_up, upd, vp_updL]
  · rw [x_up, if_neg h]
    unfold x_F x_cell
    split <;> first | rfl | exact absurd rfl h | (have h9 : ∀ b9 : Nat, b9 ≠ 0 ∨ b9 = 0 := fun b9 => (Decidable.em (b9 = 0)).symm; simp_all [va_up])
theorem e_cki3 {ad : x_I → Nat} {cA : Nat → ClassId} {stp : Nat → Nat → Int32} {psz : Int32} {gk : Nat → Nat → Int32} {gl : Nat → Nat → Int64} {gh : Nat → Nat → Int64} {opn : Nat → Int32} {cki : Nat → Int32} {ckl : Nat → Int64} {mp : Nat → Nat → Int64} {rk : Nat → Int32} {rv : Nat → Int64} {ri : Nat → Int32} {chk : Int32} {mo : Nat → Nat → Int32} {mi : Nat → Int32} {ml : Nat → Int64} {mk : Nat → Int32} {mlo : Nat → Int64} {mhi : Nat → Int64} {pk : Nat → Int32} {ps : Nat → Int32} {pl : Nat → Int64} {ph : Nat → Int64} {mm : Nat → Int64} {out : Nat → Int64} {v : Int32} : x_up (x_F ad cA ((stp, psz, gk, gl, gh, opn, cki, ckl, mp, rk, rv, ri, chk), (mo, mi, ml, mk, mlo, mhi, pk, ps, pl, ph, mm), out)) (4, 0) (.inr (0, [.ref (ad (1, 0)), .ref (ad (5, 0)), .ref (ad (9, 0)), .ref (ad (10, 0)), .ref (ad (11, 0)), .ref (ad (12, 0)), .int (cki 0), .int (cki 1), .int (cki 2), .int v, .int (cki 4), .long (ckl 0), .long (ckl 1)])) = x_F ad cA ((stp, psz, gk, gl, gh, opn, upd cki 3 v, ckl, mp, rk, rv, ri, chk), (mo, mi, ml, mk, mlo, mhi, pk, ps, pl, ph, mm), out) := by
  funext z
  obtain ⟨a, b⟩ := z
  by_cases h : ((a, b) : x_I) = (4, 0)
  · cases h
    simp [x_up, x_F, x_cell, va_up, upd, vp_updL]
  · rw [x_up, if_neg h]
    unfold x_F x_cell
    split <;> first | rfl | exact absurd rfl h | (have h9 : ∀ b9 : Nat, b9 ≠ 0 ∨ b9 = 0 := fun b9 => (Decidable.em (b9 = 0)).symm; simp_all [va_up])
theorem e_cki4 {ad : x_I → Nat} {cA : Nat → ClassId} {stp : Nat → Nat → Int32} {psz : Int32} {gk : Nat → Nat → Int32} {gl : Nat → Nat → Int64} {gh : Nat → Nat → Int64} {opn : Nat → Int32} {cki : Nat → Int32} {ckl : Nat → Int64} {mp : Nat → Nat → Int64} {rk : Nat → Int32} {rv : Nat → Int64} {ri : Nat → Int32} {chk : Int32} {mo : Nat → Nat → Int32} {mi : Nat → Int32} {ml : Nat → Int64} {mk : Nat → Int32} {mlo : Nat → Int64} {mhi : Nat → Int64} {pk : Nat → Int32} {ps : Nat → Int32} {pl : Nat → Int64} {ph : Nat → Int64} {mm : Nat → Int64} {out : Nat → Int64} {v : Int32} : x_up (x_F ad cA ((stp, psz, gk, gl, gh, opn, cki, ckl, mp, rk, rv, ri, chk), (mo, mi, ml, mk, mlo, mhi, pk, ps, pl, ph, mm), out)) (4, 0) (.inr (0, [.ref (ad (1, 0)), .ref (ad (5, 0)), .ref (ad (9, 0)), .ref (ad (10, 0)), .ref (ad (11, 0)), .ref (ad (12, 0)), .int (cki 0), .int (cki 1), .int (cki 2), .int (cki 3), .int v, .long (ckl 0), .long (ckl 1)])) = x_F ad cA ((stp, psz, gk, gl, gh, opn, upd cki 4 v, ckl, mp, rk, rv, ri, chk), (mo, mi, ml, mk, mlo, mhi, pk, ps, pl, ph, mm), out) := by
  funext z
  obtain ⟨a, b⟩ := z
  by_cases h : ((a, b) : x_I) = (4, 0)
  · cases h
    simp [x_up, x_F, x_cell, va_up, upd, vp_updL]
  · rw [x_up, if_neg h]
    unfold x_F x_cell
    split <;> first | rfl | exact absurd rfl h | (have h9 : ∀ b9 : Nat, b9 ≠ 0 ∨ b9 = 0 := fun b9 => (Decidable.em (b9 = 0)).symm; simp_all [va_up])
theorem e_ckl0 {ad : x_I → Nat} {cA : Nat → ClassId} {stp : Nat → Nat → Int32} {psz : Int32} {gk : Nat → Nat → Int32} {gl : Nat → Nat → Int64} {gh : Nat → Nat → Int64} {opn : Nat → Int32} {cki : Nat → Int32} {ckl : Nat → Int64} {mp : Nat → Nat → Int64} {rk : Nat → Int32} {rv : Nat → Int64} {ri : Nat → Int32} {chk : Int32} {mo : Nat → Nat → Int32} {mi : Nat → Int32} {ml : Nat → Int64} {mk : Nat → Int32} {mlo : Nat → Int64} {mhi : Nat → Int64} {pk : Nat → Int32} {ps : Nat → Int32} {pl : Nat → Int64} {ph : Nat → Int64} {mm : Nat → Int64} {out : Nat → Int64} {v : Int64} : x_up (x_F ad cA ((stp, psz, gk, gl, gh, opn, cki, ckl, mp, rk, rv, ri, chk), (mo, mi, ml, mk, mlo, mhi, pk, ps, pl, ph, mm), out)) (4, 0) (.inr (0, [.ref (ad (1, 0)), .ref (ad (5, 0)), .ref (ad (9, 0)), .ref (ad (10, 0)), .ref (ad (11, 0)), .ref (ad (12, 0)), .int (cki 0), .int (cki 1), .int (cki 2), .int (cki 3), .int (cki 4), .long v, .long (ckl 1)])) = x_F ad cA ((stp, psz, gk, gl, gh, opn, cki, vp_updL ckl 0 v, mp, rk, rv, ri, chk), (mo, mi, ml, mk, mlo, mhi, pk, ps, pl, ph, mm), out) := by
  funext z
  obtain ⟨a, b⟩ := z
  by_cases h : ((a, b) : x_I) = (4, 0)
  · cases h
    simp [x_up, x_F, x_cell, va_up, upd, vp_updL]
  · rw [x_up, if_neg h]
    unfold x_F x_cell
    split <;> first | rfl | exact absurd rfl h | (have h9 : ∀ b9 : Nat, b9 ≠ 0 ∨ b9 = 0 := fun b9 => (Decidable.em (b9 = 0)).symm; simp_all [va_up])
theorem e_ckl1 {ad : x_I → Nat} {cA : Nat → ClassId} {stp : Nat → Nat → Int32} {psz : Int32} {gk : Nat → Nat → Int32} {gl : Nat → Nat → Int64} {gh : Nat → Nat → Int64} {opn : Nat → Int32} {cki : Nat → Int32} {ckl : Nat → Int64} {mp : Nat → Nat → Int64} {rk : Nat → Int32} {rv : Nat → Int64} {ri : Nat → Int32} {chk : Int32} {mo : Nat → Nat → Int32} {mi : Nat → Int32} {ml : Nat → Int64} {mk : Nat → Int32} {mlo : Nat → Int64} {mhi : Nat → Int64} {pk : Nat → Int32} {ps : Nat → Int32} {pl : Nat → Int64} {ph : Nat → Int64} {mm : Nat → Int64} {out : Nat → Int64} {v : Int64} : x_up (x_F ad cA ((stp, psz, gk, gl, gh, opn, cki, ckl, mp, rk, rv, ri, chk), (mo, mi, ml, mk, mlo, mhi, pk, ps, pl, ph, mm), out)) (4, 0) (.inr (0, [.ref (ad (1, 0)), .ref (ad (5, 0)), .ref (ad (9, 0)), .ref (ad (10, 0)), .ref (ad (11, 0)), .ref (ad (12, 0)), .int (cki 0), .int (cki 1), .int (cki 2), .int (cki 3), .int (cki 4), .long (ckl 0), .long v])) = x_F ad cA ((stp, psz, gk, gl, gh, opn, cki, vp_updL ckl 1 v, mp, rk, rv, ri, chk), (mo, mi, ml, mk, mlo, mhi, pk, ps, pl, ph, mm), out) := by
  funext z
  obtain ⟨a, b⟩ := z
  by_cases h : ((a, b) : x_I) = (4, 0)
  · cases h
    simp [x_up, x_F, x_cell, va_up, upd, vp_updL]
  · rw [x_up, if_neg h]
    unfold x_F x_cell
    split <;> first | rfl | exact absurd rfl h | (have h9 : ∀ b9 : Nat, b9 ≠ 0 ∨ b9 = 0 := fun b9 => (Decidable.em (b9 = 0)).symm; simp_all [va_up])
theorem e_gk {ad : x_I → Nat} {cA : Nat → ClassId} {stp : Nat → Nat → Int32} {psz : Int32} {gk : Nat → Nat → Int32} {gl : Nat → Nat → Int64} {gh : Nat → Nat → Int64} {opn : Nat → Int32} {cki : Nat → Int32} {ckl : Nat → Int64} {mp : Nat → Nat → Int64} {rk : Nat → Int32} {rv : Nat → Int64} {ri : Nat → Int32} {chk : Int32} {mo : Nat → Nat → Int32} {mi : Nat → Int32} {ml : Nat → Int64} {mk : Nat → Int32} {mlo : Nat → Int64} {mhi : Nat → Int64} {pk : Nat → Int32} {ps : Nat → Int32} {pl : Nat → Int64} {ph : Nat → Int64} {mm : Nat → Int64} {out : Nat → Int64} {i : Nat} {g : Nat → Int32} : x_up (x_F ad cA ((stp, psz, gk, gl, gh, opn, cki, ckl, mp, rk, rv, ri, chk), (mo, mi, ml, mk, mlo, mhi, pk, ps, pl, ph, mm), out)) (6, i) (.inl (cA 0, 12, .inl g)) = x_F ad cA ((stp, psz, va_up gk i g, gl, gh, opn, cki, ckl, mp, rk, rv, ri, chk), (mo, mi, ml, mk, mlo, mhi, pk, ps, pl, ph, mm), out) := by
  funext z
  obtain ⟨a, b⟩ := z
  by_cases h : ((a, b) : x_I) = (6, i)
  · cases h
    simp [x_up, x_F, x_cell, va_up, upd, vp_updL]
  · rw [x_up, if_neg h]
    unfold x_F x_cell
    split <;> first | rfl | exact absurd rfl h | (have h9 : ∀ b9 : Nat, b9 ≠ i ∨ b9 = i := fun b9 => (Decidable.em (b9 = i)).symm; simp_all [va_up])
theorem e_gl {ad : x_I → Nat} {cA : Nat → ClassId} {stp : Nat → Nat → Int32} {psz : Int32} {gk : Nat → Nat → Int32} {gl : Nat → Nat → Int64} {gh : Nat → Nat → Int64} {opn : Nat → Int32} {cki : Nat → Int32} {ckl : Nat → Int64} {mp : Nat → Nat → Int64} {rk : Nat → Int32} {rv : Nat → Int64} {ri : Nat → Int32} {chk : Int32} {mo : Nat → Nat → Int32} {mi : Nat → Int32} {ml : Nat → Int64} {mk : Nat → Int32} {mlo : Nat → Int64} {mhi : Nat → Int64} {pk : Nat → Int32} {ps : Nat → Int32} {pl : Nat → Int64} {ph : Nat → Int64} {mm : Nat → Int64} {out : Nat → Int64} {i : Nat} {g : Nat → Int64} : x_up (x_F ad cA ((stp, psz, gk, gl, gh, opn, cki, ckl, mp, rk, rv, ri, chk), (mo, mi, ml, mk, mlo, mhi, pk, ps, pl, ph, mm), out)) (7, i) (.inl (cA 1, 12, .inr (.inl g))) = x_F ad cA ((stp, psz, gk, va_up gl i g, gh, opn, cki, ckl, mp, rk, rv, ri, chk), (mo, mi, ml, mk, mlo, mhi, pk, ps, pl, ph, mm), out) := by
  funext z
  obtain ⟨a, b⟩ := z
  by_cases h : ((a, b) : x_I) = (7, i)
  · cases h
    simp [x_up, x_F, x_cell, va_up, upd, vp_updL]
  · rw [x_up, if_neg h]
    unfold x_F x_cell
    split <;> first | rfl | exact absurd rfl h | (have h9 : ∀ b9 : Nat, b9 ≠ i ∨ b9 = i := fun b9 => (Decidable.em (b9 = i)).symm; simp_all [va_up])
theorem e_gh {ad : x_I → Nat} {cA : Nat → ClassId} {stp : Nat → Nat → Int32} {psz : Int32} {gk : Nat → Nat → Int32} {gl : Nat → Nat → Int64} {gh : Nat → Nat → Int64} {opn : Nat → Int32} {cki : Nat → Int32} {ckl : Nat → Int64} {mp : Nat → Nat → Int64} {rk : Nat → Int32} {rv : Nat → Int64} {ri : Nat → Int32} {chk : Int32} {mo : Nat → Nat → Int32} {mi : Nat → Int32} {ml : Nat → Int64} {mk : Nat → Int32} {mlo : Nat → Int64} {mhi : Nat → Int64} {pk : Nat → Int32} {ps : Nat → Int32} {pl : Nat → Int64} {ph : Nat → Int64} {mm : Nat → Int64} {out : Nat → Int64} {i : Nat} {g : Nat → Int64} : x_up (x_F ad cA ((stp, psz, gk, gl, gh, opn, cki, ckl, mp, rk, rv, ri, chk), (mo, mi, ml, mk, mlo, mhi, pk, ps, pl, ph, mm), out)) (8, i) (.inl (cA 1, 12, .inr (.inl g))) = x_F ad cA ((stp, psz, gk, gl, va_up gh i g, opn, cki, ckl, mp, rk, rv, ri, chk), (mo, mi, ml, mk, mlo, mhi, pk, ps, pl, ph, mm), out) := by
  funext z
  obtain ⟨a, b⟩ := z
  by_cases h : ((a, b) : x_I) = (8, i)
  · cases h
    simp [x_up, x_F, x_cell, va_up, upd, vp_updL]
  · rw [x_up, if_neg h]
    unfold x_F x_cell
    split <;> first | rfl | exact absurd rfl h | (have h9 : ∀ b9 : Nat, b9 ≠ i ∨ b9 = i := fun b9 => (Decidable.em (b9 = i)).symm; simp_all [va_up])
theorem e_opn {ad : x_I → Nat} {cA : Nat → ClassId} {stp : Nat → Nat → Int32} {psz : Int32} {gk : Nat → Nat → Int32} {gl : Nat → Nat → Int64} {gh : Nat → Nat → Int64} {opn : Nat → Int32} {cki : Nat → Int32} {ckl : Nat → Int64} {mp : Nat → Nat → Int64} {rk : Nat → Int32} {rv : Nat → Int64} {ri : Nat → Int32} {chk : Int32} {mo : Nat → Nat → Int32} {mi : Nat → Int32} {ml : Nat → Int64} {mk : Nat → Int32} {mlo : Nat → Int64} {mhi : Nat → Int64} {pk : Nat → Int32} {ps : Nat → Int32} {pl : Nat → Int64} {ph : Nat → Int64} {mm : Nat → Int64} {out : Nat → Int64} {g : Nat → Int32} : x_up (x_F ad cA ((stp, psz, gk, gl, gh, opn, cki, ckl, mp, rk, rv, ri, chk), (mo, mi, ml, mk, mlo, mhi, pk, ps, pl, ph, mm), out)) (12, 0) (.inl (cA 2, 24, .inl g)) = x_F ad cA ((stp, psz, gk, gl, gh, g, cki, ckl, mp, rk, rv, ri, chk), (mo, mi, ml, mk, mlo, mhi, pk, ps, pl, ph, mm), out) := by
  funext z
  obtain ⟨a, b⟩ := z
  by_cases h : ((a, b) : x_I) = (12, 0)
  · cases h
    simp [x_up, x_F, x_cell, va_up, upd, vp_updL]
  · rw [x_up, if_neg h]
    unfold x_F x_cell
    split <;> first | rfl | exact absurd rfl h | (have h9 : ∀ b9 : Nat, b9 ≠ 0 ∨ b9 = 0 := fun b9 => (Decidable.em (b9 = 0)).symm; simp_all [va_up])
theorem e_ri0 {ad : x_I → Nat} {cA : Nat → ClassId} {stp : Nat → Nat → Int32} {psz : Int32} {gk : Nat → Nat → Int32} {gl : Nat → Nat → Int64} {gh : Nat → Nat → Int64} {opn : Nat → Int32} {cki : Nat → Int32} {ckl : Nat → Int64} {mp : Nat → Nat → Int64} {rk : Nat → Int32} {rv : Nat → Int64} {ri : Nat → Int32} {chk : Int32} {mo : Nat → Nat → Int32} {mi : Nat → Int32} {ml : Nat → Int64} {mk : Nat → Int32} {mlo : Nat → Int64} {mhi : Nat → Int64} {pk : Nat → Int32} {ps : Nat → Int32} {pl : Nat → Int64} {ph : Nat → Int64} {mm : Nat → Int64} {out : Nat → Int64} {v : Int32} : x_up (x_F ad cA ((stp, psz, gk, gl, gh, opn, cki, ckl, mp, rk, rv, ri, chk), (mo, mi, ml, mk, mlo, mhi, pk, ps, pl, ph, mm), out)) (13, 0) (.inr (5, [.ref (ad (1, 0)), .ref (ad (14, 0)), .ref (ad (16, 0)), .ref (ad (17, 0)), .int v, .int (ri 1)])) = x_F ad cA ((stp, psz, gk, gl, gh, opn, cki, ckl, mp, rk, rv, upd ri 0 v, chk), (mo, mi, ml, mk, mlo, mhi, pk, ps, pl, ph, mm), out) := by
  funext z
  obtain ⟨a, b⟩ := z
  by_cases h : ((a, b) : x_I) = (13, 0)
  · cases h
    simp [x_up, x_F, x_cell, va_up, upd, vp_updL]
  · rw [x_up, if_neg h]
    unfold x_F x_cell
    split <;> first | rfl | exact absurd rfl h | (have h9 : ∀ b9 : Nat, b9 ≠ 0 ∨ b9 = 0 := fun b9 => (Decidable.em (b9 = 0)).symm; simp_all [va_up])
theorem e_ri1 {ad : x_I → Nat} {cA : Nat → ClassId} {stp : Nat → Nat → Int32} {psz : Int32} {gk : Nat → Nat → Int32} {gl : Nat → Nat → Int64} {gh : Nat → Nat → Int64} {opn : Nat → Int32} {cki : Nat → Int32} {ckl : Nat → Int64} {mp : Nat → Nat → Int64} {rk : Nat → Int32} {rv : Nat → Int64} {ri : Nat → Int32} {chk : Int32} {mo : Nat → Nat → Int32} {mi : Nat → Int32} {ml : Nat → Int64} {mk : Nat → Int32} {mlo : Nat → Int64} {mhi : Nat → Int64} {pk : Nat → Int32} {ps : Nat → Int32} {pl : Nat → Int64} {ph : Nat → Int64} {mm : Nat → Int64} {out : Nat → Int64} {v : Int32} : x_up (x_F ad cA ((stp, psz, gk, gl, gh, opn, cki, ckl, mp, rk, rv, ri, chk), (mo, mi, ml, mk, mlo, mhi, pk, ps, pl, ph, mm), out)) (13, 0) (.inr (5, [.ref (ad (1, 0)), .ref (ad (14, 0)), .ref (ad (16, 0)), .ref (ad (17, 0)), .int (ri 0), .int v])) = x_F ad cA ((stp, psz, gk, gl, gh, opn, cki, ckl, mp, rk, rv, upd ri 1 v, chk), (mo, mi, ml, mk, mlo, mhi, pk, ps, pl, ph, mm), out) := by
  funext z
  obtain ⟨a, b⟩ := z
  by_cases h : ((a, b) : x_I) = (13, 0)
  · cases h
    simp [x_up, x_F, x_cell, va_up, upd, vp_updL]
  · rw [x_up, if_neg h]
    unfold x_F x_cell
    split <;> first | rfl | exact absurd rfl h | (have h9 : ∀ b9 : Nat, b9 ≠ 0 ∨ b9 = 0 := fun b9 => (Decidable.em (b9 = 0)).symm; simp_all [va_up])
theorem e_mp {ad : x_I → Nat} {cA : Nat → ClassId} {stp : Nat → Nat → Int32} {psz : Int32} {gk : Nat → Nat → Int32} {gl : Nat → Nat → Int64} {gh : Nat → Nat → Int64} {opn : Nat → Int32} {cki : Nat → Int32} {ckl : Nat → Int64} {mp : Nat → Nat → Int64} {rk : Nat → Int32} {rv : Nat → Int64} {ri : Nat → Int32} {chk : Int32} {mo : Nat → Nat → Int32} {mi : Nat → Int32} {ml : Nat → Int64} {mk : Nat → Int32} {mlo : Nat → Int64} {mhi : Nat → Int64} {pk : Nat → Int32} {ps : Nat → Int32} {pl : Nat → Int64} {ph : Nat → Int64} {mm : Nat → Int64} {out : Nat → Int64} {i : Nat} {g : Nat → Int64} : x_up (x_F ad cA ((stp, psz, gk, gl, gh, opn, cki, ckl, mp, rk, rv, ri, chk), (mo, mi, ml, mk, mlo, mhi, pk, ps, pl, ph, mm), out)) (15, i) (.inl (cA 1, 2, .inr (.inl g))) = x_F ad cA ((stp, psz, gk, gl, gh, opn, cki, ckl, va_up mp i g, rk, rv, ri, chk), (mo, mi, ml, mk, mlo, mhi, pk, ps, pl, ph, mm), out) := by
  funext z
  obtain ⟨a, b⟩ := z
  by_cases h : ((a, b) : x_I) = (15, i)
  · cases h
    simp [x_up, x_F, x_cell, va_up, upd, vp_updL]
  · rw [x_up, if_neg h]
    unfold x_F x_cell
    split <;> first | rfl | exact absurd rfl h | (have h9 : ∀ b9 : Nat, b9 ≠ i ∨ b9 = i := fun b9 => (Decidable.em (b9 = i)).symm; simp_all [va_up])
theorem e_rk {ad : x_I → Nat} {cA : Nat → ClassId} {stp : Nat → Nat → Int32} {psz : Int32} {gk : Nat → Nat → Int32} {gl : Nat → Nat → Int64} {gh : Nat → Nat → Int64} {opn : Nat → Int32} {cki : Nat → Int32} {ckl : Nat → Int64} {mp : Nat → Nat → Int64} {rk : Nat → Int32} {rv : Nat → Int64} {ri : Nat → Int32} {chk : Int32} {mo : Nat → Nat → Int32} {mi : Nat → Int32} {ml : Nat → Int64} {mk : Nat → Int32} {mlo : Nat → Int64} {mhi : Nat → Int64} {pk : Nat → Int32} {ps : Nat → Int32} {pl : Nat → Int64} {ph : Nat → Int64} {mm : Nat → Int64} {out : Nat → Int64} {g : Nat → Int32} : x_up (x_F ad cA ((stp, psz, gk, gl, gh, opn, cki, ckl, mp, rk, rv, ri, chk), (mo, mi, ml, mk, mlo, mhi, pk, ps, pl, ph, mm), out)) (16, 0) (.inl (cA 0, 12, .inl g)) = x_F ad cA ((stp, psz, gk, gl, gh, opn, cki, ckl, mp, g, rv, ri, chk), (mo, mi, ml, mk, mlo, mhi, pk, ps, pl, ph, mm), out) := by
  funext z
  obtain ⟨a, b⟩ := z
  by_cases h : ((a, b) : x_I) = (16, 0)
  · cases h
    simp [x_up, x_F, x_cell, va_up, upd, vp_updL]
  · rw [x_up, if_neg h]
    unfold x_F x_cell
    split <;> first | rfl | exact absurd rfl h | (have h9 : ∀ b9 : Nat, b9 ≠ 0 ∨ b9 = 0 := fun b9 => (Decidable.em (b9 = 0)).symm; simp_all [va_up])
theorem e_rv {ad : x_I → Nat} {cA : Nat → ClassId} {stp : Nat → Nat → Int32} {psz : Int32} {gk : Nat → Nat → Int32} {gl : Nat → Nat → Int64} {gh : Nat → Nat → Int64} {opn : Nat → Int32} {cki : Nat → Int32} {ckl : Nat → Int64} {mp : Nat → Nat → Int64} {rk : Nat → Int32} {rv : Nat → Int64} {ri : Nat → Int32} {chk : Int32} {mo : Nat → Nat → Int32} {mi : Nat → Int32} {ml : Nat → Int64} {mk : Nat → Int32} {mlo : Nat → Int64} {mhi : Nat → Int64} {pk : Nat → Int32} {ps : Nat → Int32} {pl : Nat → Int64} {ph : Nat → Int64} {mm : Nat → Int64} {out : Nat → Int64} {g : Nat → Int64} : x_up (x_F ad cA ((stp, psz, gk, gl, gh, opn, cki, ckl, mp, rk, rv, ri, chk), (mo, mi, ml, mk, mlo, mhi, pk, ps, pl, ph, mm), out)) (17, 0) (.inl (cA 1, 12, .inr (.inl g))) = x_F ad cA ((stp, psz, gk, gl, gh, opn, cki, ckl, mp, rk, g, ri, chk), (mo, mi, ml, mk, mlo, mhi, pk, ps, pl, ph, mm), out) := by
  funext z
  obtain ⟨a, b⟩ := z
  by_cases h : ((a, b) : x_I) = (17, 0)
  · cases h
    simp [x_up, x_F, x_cell, va_up, upd, vp_updL]
  · rw [x_up, if_neg h]
    unfold x_F x_cell
    split <;> first | rfl | exact absurd rfl h | (have h9 : ∀ b9 : Nat, b9 ≠ 0 ∨ b9 = 0 := fun b9 => (Decidable.em (b9 = 0)).symm; simp_all [va_up])
theorem e_mi0 {ad : x_I → Nat} {cA : Nat → ClassId} {stp : Nat → Nat → Int32} {psz : Int32} {gk : Nat → Nat → Int32} {gl : Nat → Nat → Int64} {gh : Nat → Nat → Int64} {opn : Nat → Int32} {cki : Nat → Int32} {ckl : Nat → Int64} {mp : Nat → Nat → Int64} {rk : Nat → Int32} {rv : Nat → Int64} {ri : Nat → Int32} {chk : Int32} {mo : Nat → Nat → Int32} {mi : Nat → Int32} {ml : Nat → Int64} {mk : Nat → Int32} {mlo : Nat → Int64} {mhi : Nat → Int64} {pk : Nat → Int32} {ps : Nat → Int32} {pl : Nat → Int64} {ph : Nat → Int64} {mm : Nat → Int64} {out : Nat → Int64} {v : Int32} : x_up (x_F ad cA ((stp, psz, gk, gl, gh, opn, cki, ckl, mp, rk, rv, ri, chk), (mo, mi, ml, mk, mlo, mhi, pk, ps, pl, ph, mm), out)) (18, 0) (.inr (8, [.ref (ad (19, 0)), .ref (ad (20, 0)), .ref (ad (21, 0)), .ref (ad (22, 0)), .ref (ad (23, 0)), .int v, .int (mi 1), .int (mi 2), .int (mi 3), .int (mi 4), .int (mi 5), .int (mi 6), .int (mi 7), .int (mi 8), .long (ml 0), .long (ml 1), .ref (ad (24, 0)), .ref (ad (25, 0)), .ref (ad (26, 0)), .ref (ad (27, 0)), .ref (ad (28, 0)), .ref (ad (29, 0)), .ref (ad (30, 0)), .ref (ad (31, 0)), .int (mi 9), .int (mi 10)])) = x_F ad cA ((stp, psz, gk, gl, gh, opn, cki, ckl, mp, rk, rv, ri, chk), (mo, upd mi 0 v, ml, mk, mlo, mhi, pk, ps, pl, ph, mm), out) := by
  funext z
  obtain ⟨a, b⟩ := z
  by_cases h : ((a, b) : x_I) = (18, 0)
  · cases h
    simp [x_up, x_F, x_cell, va_up, upd, vp_updL]
  · rw [x_up, if_neg h]
    unfold x_F x_cell
    split <;> first | rfl | exact absurd rfl h | (have h9 : ∀ b9 : Nat, b9 ≠ 0 ∨ b9 = 0 := fun b9 => (Decidable.em (b9 = 0)).symm; simp_all [va_up])
theorem e_mi1 {ad : x_I → Nat} {cA : Nat → ClassId} {stp : Nat → Nat → Int32} {psz : Int32} {gk : Nat → Nat → Int32} {gl : Nat → Nat → Int64} {gh : Nat → Nat → Int64} {opn : Nat → Int32} {cki : Nat → Int32} {ckl : Nat → Int64} {mp : Nat → Nat → Int64} {rk : Nat → Int32} {rv : Nat → Int64} {ri : Nat → Int32} {chk : Int32} {mo : Nat → Nat → Int32} {mi : Nat → Int32} {ml : Nat → Int64} {mk : Nat → Int32} {mlo : Nat → Int64} {mhi : Nat → Int64} {pk : Nat → Int32} {ps : Nat → Int32} {pl : Nat → Int64} {ph : Nat → Int64} {mm : Nat → Int64} {out : Nat → Int64} {v : Int32} : x_up (x_F ad cA ((stp, psz, gk, gl, gh, opn, cki, ckl, mp, rk, rv, ri, chk), (mo, mi, ml, mk, mlo, mhi, pk, ps, pl, ph, mm), out)) (18, 0) (.inr (8, [.ref (ad (19, 0)), .ref (ad (20, 0)), .ref (ad (21, 0)), .ref (ad (22, 0)), .ref (ad (23, 0)), .int (mi 0), .int v, .int (mi 2), .int (mi 3), .int (mi 4), .int (mi 5), .int (mi 6), .int (mi 7), .int (mi 8), .long (ml 0), .long (ml 1), .ref (ad (24, 0)), .ref (ad (25, 0)), .ref (ad (26, 0)), .ref (ad (27, 0)), .ref (ad (28, 0)), .ref (ad (29, 0)), .ref (ad (30, 0)), .ref (ad (31, 0)), .int (mi 9), .int (mi 10)])) = x_F ad cA ((stp, psz, gk, gl, gh, opn, cki, ckl, mp, rk, rv, ri, chk), (mo, upd mi 1 v, ml, mk, mlo, mhi, pk, ps, pl, ph, mm), out) := by
  funext z
  obtain ⟨a, b⟩ := z
  by_cases h : ((a, b) : x_I) = (18, 0)
  · cases h
    simp [x_up, x_F, x_cell, va_up, upd, vp_updL]
  · rw [x_up, if_neg h]
    unfold x_F x_cell
    split <;> first | rfl | exact absurd rfl h | (have h9 : ∀ b9 : Nat, b9 ≠ 0 ∨ b9 = 0 := fun b9 => (Decidable.em (b9 = 0)).symm; simp_all [va_up])
theorem e_mi2 {ad : x_I → Nat} {cA : Nat → ClassId} {stp : Nat → Nat → Int32} {psz : Int32} {gk : Nat → Nat → Int32} {gl : Nat → Nat → Int64} {gh : Nat → Nat → Int64} {opn : Nat → Int32} {cki : Nat → Int32} {ckl : Nat → Int64} {mp : Nat → Nat → Int64} {rk : Nat → Int32} {rv : Nat → Int64} {ri : Nat → Int32} {chk : Int32} {mo : Nat → Nat → Int32} {mi : Nat → Int32} {ml : Nat → Int64} {mk : Nat → Int32} {mlo : Nat → Int64} {mhi : Nat → Int64} {pk : Nat → Int32} {ps : Nat → Int32} {pl : Nat → Int64} {ph : Nat → Int64} {mm : Nat → Int64} {out : Nat → Int64} {v : Int32} : x_up (x_F ad cA ((stp, psz, gk, gl, gh, opn, cki, ckl, mp, rk, rv, ri, chk), (mo, mi, ml, mk, mlo, mhi, pk, ps, pl, ph, mm), out)) (18, 0) (.inr (8, [.ref (ad (19, 0)), .ref (ad (20, 0)), .ref (ad (21, 0)), .ref (ad (22, 0)), .ref (ad (23, 0)), .int (mi 0), .int (mi 1), .int v, .int (mi 3), .int (mi 4), .int (mi 5), .int (mi 6), .int (mi 7), .int (mi 8), .long (ml 0), .long (ml 1), .ref (ad (24, 0)), .ref (ad (25, 0)), .ref (ad (26, 0)), .ref (ad (27, 0)), .ref (ad (28, 0)), .ref (ad (29, 0)), .ref (ad (30, 0)), .ref (ad (31, 0)), .int (mi 9), .int (mi 10)])) = x_F ad cA ((stp, psz, gk, gl, gh, opn, cki, ckl, mp, rk, rv, ri, chk), (mo, upd mi 2 v, ml, mk, mlo, mhi, pk, ps, pl, ph, mm), out) := by
  funext z
  obtain ⟨a, b⟩ := z
  by_cases h : ((a, b) : x_I) = (18, 0)
  · cases h
    simp [x_up, x_F, x_cell, va_up, upd, vp_updL]
  · rw [x_up, if_neg h]
    unfold x_F x_cell
    split <;> first | rfl | exact absurd rfl h | (have h9 : ∀ b9 : Nat, b9 ≠ 0 ∨ b9 = 0 := fun b9 => (Decidable.em (b9 = 0)).symm; simp_all [va_up])
theorem e_mi3 {ad : x_I → Nat} {cA : Nat → ClassId} {stp : Nat → Nat → Int32} {psz : Int32} {gk : Nat → Nat → Int32} {gl : Nat → Nat → Int64} {gh : Nat → Nat → Int64} {opn : Nat → Int32} {cki : Nat → Int32} {ckl : Nat → Int64} {mp : Nat → Nat → Int64} {rk : Nat → Int32} {rv : Nat → Int64} {ri : Nat → Int32} {chk : Int32} {mo : Nat → Nat → Int32} {mi : Nat → Int32} {ml : Nat → Int64} {mk : Nat → Int32} {mlo : Nat → Int64} {mhi : Nat → Int64} {pk : Nat → Int32} {ps : Nat → Int32} {pl : Nat → Int64} {ph : Nat → Int64} {mm : Nat → Int64} {out : Nat → Int64} {v : Int32} : x_up (x_F ad cA ((stp, psz, gk, gl, gh, opn, cki, ckl, mp, rk, rv, ri, chk), (mo, mi, ml, mk, mlo, mhi, pk, ps, pl, ph, mm), out)) (18, 0) (.inr (8, [.ref (ad (19, 0)), .ref (ad (20, 0)), .ref (ad (21, 0)), .ref (ad (22, 0)), .ref (ad (23, 0)), .int (mi 0), .int (mi 1), .int (mi 2), .int v, .int (mi 4), .int (mi 5), .int (mi 6), .int (mi 7), .int (mi 8), .long (ml 0), .long (ml 1), .ref (ad (24, 0)), .ref (ad (25, 0)), .ref (ad (26, 0)), .ref (ad (27, 0)), .ref (ad (28, 0)), .ref (ad (29, 0)), .ref (ad (30, 0)), .ref (ad (31, 0)), .int (mi 9), .int (mi 10)])) = x_F ad cA ((stp, psz, gk, gl, gh, opn, cki, ckl, mp, rk, rv, ri, chk), (mo, upd mi 3 v, ml, mk, mlo, mhi, pk, ps, pl, ph, mm), out) := by
  funext z
  obtain ⟨a, b⟩ := z
  by_cases h : ((a, b) : x_I) = (18, 0)
  · cases h
    simp [x_up, x_F, x_cell, va_up, upd, vp_updL]
  · rw [x_up, if_neg h]
    unfold x_F x_cell
    split <;> first | rfl | exact absurd rfl h | (have h9 : ∀ b9 : Nat, b9 ≠ 0 ∨ b9 = 0 := fun b9 => (Decidable.em (b9 = 0)).symm; simp_all [va_up])
theorem e_mi4 {ad : x_I → Nat} {cA : Nat → ClassId} {stp : Nat → Nat → Int32} {psz : Int32} {gk : Nat → Nat → Int32} {gl : Nat → Nat → Int64} {gh : Nat → Nat → Int64} {opn : Nat → Int32} {cki : Nat → Int32} {ckl : Nat → Int64} {mp : Nat → Nat → Int64} {rk : Nat → Int32} {rv : Nat → Int64} {ri : Nat → Int32} {chk : Int32} {mo : Nat → Nat → Int32} {mi : Nat → Int32} {ml : Nat → Int64} {mk : Nat → Int32} {mlo : Nat → Int64} {mhi : Nat → Int64} {pk : Nat → Int32} {ps : Nat → Int32} {pl : Nat → Int64} {ph : Nat → Int64} {mm : Nat → Int64} {out : Nat → Int64} {v : Int32} : x_up (x_F ad cA ((stp, psz, gk, gl, gh, opn, cki, ckl, mp, rk, rv, ri, chk), (mo, mi, ml, mk, mlo, mhi, pk, ps, pl, ph, mm), out)) (18, 0) (.inr (8, [.ref (ad (19, 0)), .ref (ad (20, 0)), .ref (ad (21, 0)), .ref (ad (22, 0)), .ref (ad (23, 0)), .int (mi 0), .int (mi 1), .int (mi 2), .int (mi 3), .int v, .int (mi 5), .int (mi 6), .int (mi 7), .int (mi 8), .long (ml 0), .long (ml 1), .ref (ad (24, 0)), .ref (ad (25, 0)), .ref (ad (26, 0)), .ref (ad (27, 0)), .ref (ad (28, 0)), .ref (ad (29, 0)), .ref (ad (30, 0)), .ref (ad (31, 0)), .int (mi 9), .int (mi 10)])) = x_F ad cA ((stp, psz, gk, gl, gh, opn, cki, ckl, mp, rk, rv, ri, chk), (mo, upd mi 4 v, ml, mk, mlo, mhi, pk, ps, pl, ph, mm), out) := by
  funext z
  obtain ⟨a, b⟩ := z
  by_cases h : ((a, b) : x_I) = (18, 0)
  · cases h
    simp [x_up, x_F, x_cell, va_up, upd, vp_updL]
  · rw [x_up, if_neg h]
    unfold x_F x_cell
    split <;> first | rfl | exact absurd rfl h | (have h9 : ∀ b9 : Nat, b9 ≠ 0 ∨ b9 = 0 := fun b9 => (Decidable.em (b9 = 0)).symm; simp_all [va_up])
theorem e_mi5 {ad : x_I → Nat} {cA : Nat → ClassId} {stp : Nat → Nat → Int32} {psz : Int32} {gk : Nat → Nat → Int32} {gl : Nat → Nat → Int64} {gh : Nat → Nat → Int64} {opn : Nat → Int32} {cki : Nat → Int32} {ckl : Nat → Int64} {mp : Nat → Nat → Int64} {rk : Nat → Int32} {rv : Nat → Int64} {ri : Nat → Int32} {chk : Int32} {mo : Nat → Nat → Int32} {mi : Nat → Int32} {ml : Nat → Int64} {mk : Nat → Int32} {mlo : Nat → Int64} {mhi : Nat → Int64} {pk : Nat → Int32} {ps : Nat → Int32} {pl : Nat → Int64} {ph : Nat → Int64} {mm : Nat → Int64} {out : Nat → Int64} {v : Int32} : x_up (x_F ad cA ((stp, psz, gk, gl, gh, opn, cki, ckl, mp, rk, rv, ri, chk), (mo, mi, ml, mk, mlo, mhi, pk, ps, pl, ph, mm), out)) (18, 0) (.inr (8, [.ref (ad (19, 0)), .ref (ad (20, 0)), .ref (ad (21, 0)), .ref (ad (22, 0)), .ref (ad (23, 0)), .int (mi 0), .int (mi 1), .int (mi 2), .int (mi 3), .int (mi 4), .int v, .int (mi 6), .int (mi 7), .int (mi 8), .long (ml 0), .long (ml 1), .ref (ad (24, 0)), .ref (ad (25, 0)), .ref (ad (26, 0)), .ref (ad (27, 0)), .ref (ad (28, 0)), .ref (ad (29, 0)), .ref (ad (30, 0)), .ref (ad (31, 0)), .int (mi 9), .int (mi 10)])) = x_F ad cA ((stp, psz, gk, gl, gh, opn, cki, ckl, mp, rk, rv, ri, chk), (mo, upd mi 5 v, ml, mk, mlo, mhi, pk, ps, pl, ph, mm), out) := by
  funext z
  obtain ⟨a, b⟩ := z
  by_cases h : ((a, b) : x_I) = (18, 0)
  · cases h
    simp [x_up, x_F, x_cell, va_up, upd, vp_updL]
  · rw [x_up, if_neg h]
    unfold x_F x_cell
    split <;> first | rfl | exact absurd rfl h | (have h9 : ∀ b9 : Nat, b9 ≠ 0 ∨ b9 = 0 := fun b9 => (Decidable.em (b9 = 0)).symm; simp_all [va_up])
theorem e_mi6 {ad : x_I → Nat} {cA : Nat → ClassId} {stp : Nat → Nat → Int32} {psz : Int32} {gk : Nat → Nat → Int32} {gl : Nat → Nat → Int64} {gh : Nat → Nat → Int64} {opn : Nat → Int32} {cki : Nat → Int32} {ckl : Nat → Int64} {mp : Nat → Nat → Int64} {rk : Nat → Int32} {rv : Nat → Int64} {ri : Nat → Int32} {chk : Int32} {mo : Nat → Nat → Int32} {mi : Nat → Int32} {ml : Nat → Int64} {mk : Nat → Int32} {mlo : Nat → Int64} {mhi : Nat → Int64} {pk : Nat → Int32} {ps : Nat → Int32} {pl : Nat → Int64} {ph : Nat → Int64} {mm : Nat → Int64} {out : Nat → Int64} {v : Int32} : x_up (x_F ad cA ((stp, psz, gk, gl, gh, opn, cki, ckl, mp, rk, rv, ri, chk), (mo, mi, ml, mk, mlo, mhi, pk, ps, pl, ph, mm), out)) (18, 0) (.inr (8, [.ref (ad (19, 0)), .ref (ad (20, 0)), .ref (ad (21, 0)), .ref (ad (22, 0)), .ref (ad (23, 0)), .int (mi 0), .int (mi 1), .int (mi 2), .int (mi 3), .int (mi 4), .int (mi 5), .int v, .int (mi 7), .int (mi 8), .long (ml 0), .long (ml 1), .ref (ad (24, 0)), .ref (ad (25, 0)), .ref (ad (26, 0)), .ref (ad (27, 0)), .ref (ad (28, 0)), .ref (ad (29, 0)), .ref (ad (30, 0)), .ref (ad (31, 0)), .int (mi 9), .int (mi 10)])) = x_F ad cA ((stp, psz, gk, gl, gh, opn, cki, ckl, mp, rk, rv, ri, chk), (mo, upd mi 6 v, ml, mk, mlo, mhi, pk, ps, pl, ph, mm), out) := by
  funext z
  obtain ⟨a, b⟩ := z
  by_cases h : ((a, b) : x_I) = (18, 0)
  · cases h
    simp [x_up, x_F, x_cell, va_up, upd, vp_updL]
  · rw [x_up, if_neg h]
    unfold x_F x_cell
    split <;> first | rfl | exact absurd rfl h | (have h9 : ∀ b9 : Nat, b9 ≠ 0 ∨ b9 = 0 := fun b9 => (Decidable.em (b9 = 0)).symm; simp_all [va_up])
theorem e_mi7 {ad : x_I → Nat} {cA : Nat → ClassId} {stp : Nat → Nat → Int32} {psz : Int32} {gk : Nat → Nat → Int32} {gl : Nat → Nat → Int64} {gh : Nat → Nat → Int64} {opn : Nat → Int32} {cki : Nat → Int32} {ckl : Nat → Int64} {mp : Nat → Nat → Int64} {rk : Nat → Int32} {rv : Nat → Int64} {ri : Nat → Int32} {chk : Int32} {mo : Nat → Nat → Int32} {mi : Nat → Int32} {ml : Nat → Int64} {mk : Nat → Int32} {mlo : Nat → Int64} {mhi : Nat → Int64} {pk : Nat → Int32} {ps : Nat → Int32} {pl : Nat → Int64} {ph : Nat → Int64} {mm : Nat → Int64} {out : Nat → Int64} {v : Int32} : x_up (x_F ad cA ((stp, psz, gk, gl, gh, opn, cki, ckl, mp, rk, rv, ri, chk), (mo, mi, ml, mk, mlo, mhi, pk, ps, pl, ph, mm), out)) (18, 0) (.inr (8, [.ref (ad (19, 0)), .ref (ad (20, 0)), .ref (ad (21, 0)), .ref (ad (22, 0)), .ref (ad (23, 0)), .int (mi 0), .int (mi 1), .int (mi 2), .int (mi 3), .int (mi 4), .int (mi 5), .int (mi 6), .int v, .int (mi 8), .long (ml 0), .long (ml 1), .ref (ad (24, 0)), .ref (ad (25, 0)), .ref (ad (26, 0)), .ref (ad (27, 0)), .ref (ad (28, 0)), .ref (ad (29, 0)), .ref (ad (30, 0)), .ref (ad (31, 0)), .int (mi 9), .int (mi 10)])) = x_F ad cA ((stp, psz, gk, gl, gh, opn, cki, ckl, mp, rk, rv, ri, chk), (mo, upd mi 7 v, ml, mk, mlo, mhi, pk, ps, pl, ph, mm), out) := by
  funext z
  obtain ⟨a, b⟩ := z
  by_cases h : ((a, b) : x_I) = (18, 0)
  · cases h
    simp [x_up, x_F, x_cell, va_up, upd, vp_updL]
  · rw [x_up, if_neg h]
    unfold x_F x_cell
    split <;> first | rfl | exact absurd rfl h | (have h9 : ∀ b9 : Nat, b9 ≠ 0 ∨ b9 = 0 := fun b9 => (Decidable.em (b9 = 0)).symm; simp_all [va_up])
theorem e_mi8 {ad : x_I → Nat} {cA : Nat → ClassId} {stp : Nat → Nat → Int32} {psz : Int32} {gk : Nat → Nat → Int32} {gl : Nat → Nat → Int64} {gh : Nat → Nat → Int64} {opn : Nat → Int32} {cki : Nat → Int32} {ckl : Nat → Int64} {mp : Nat → Nat → Int64} {rk : Nat → Int32} {rv : Nat → Int64} {ri : Nat → Int32} {chk : Int32} {mo : Nat → Nat → Int32} {mi : Nat → Int32} {ml : Nat → Int64} {mk : Nat → Int32} {mlo : Nat → Int64} {mhi : Nat → Int64} {pk : Nat → Int32} {ps : Nat → Int32} {pl : Nat → Int64} {ph : Nat → Int64} {mm : Nat → Int64} {out : Nat → Int64} {v : Int32} : x_up (x_F ad cA ((stp, psz, gk, gl, gh, opn, cki, ckl, mp, rk, rv, ri, chk), (mo, mi, ml, mk, mlo, mhi, pk, ps, pl, ph, mm), out)) (18, 0) (.inr (8, [.ref (ad (19, 0)), .ref (ad (20, 0)), .ref (ad (21, 0)), .ref (ad (22, 0)), .ref (ad (23, 0)), .int (mi 0), .int (mi 1), .int (mi 2), .int (mi 3), .int (mi 4), .int (mi 5), .int (mi 6), .int (mi 7), .int v, .long (ml 0), .long (ml 1), .ref (ad (24, 0)), .ref (ad (25, 0)), .ref (ad (26, 0)), .ref (ad (27, 0)), .ref (ad (28, 0)), .ref (ad (29, 0)), .ref (ad (30, 0)), .ref (ad (31, 0)), .int (mi 9), .int (mi 10)])) = x_F ad cA ((stp, psz, gk, gl, gh, opn, cki, ckl, mp, rk, rv, ri, chk), (mo, upd mi 8 v, ml, mk, mlo, mhi, pk, ps, pl, ph, mm), out) := by
  funext z
  obtain ⟨a, b⟩ := z
  by_cases h : ((a, b) : x_I) = (18, 0)
  · cases h
    simp [x_up, x_F, x_cell, va_up, upd, vp_updL]
  · rw [x_up, if_neg h]
    unfold x_F x_cell
    split <;> first | rfl | exact absurd rfl h | (have h9 : ∀ b9 : Nat, b9 ≠ 0 ∨ b9 = 0 := fun b9 => (Decidable.em (b9 = 0)).symm; simp_all [va_up])
theorem e_mi9 {ad : x_I → Nat} {cA : Nat → ClassId} {stp : Nat → Nat → Int32} {psz : Int32} {gk : Nat → Nat → Int32} {gl : Nat → Nat → Int64} {gh : Nat → Nat → Int64} {opn : Nat → Int32} {cki : Nat → Int32} {ckl : Nat → Int64} {mp : Nat → Nat → Int64} {rk : Nat → Int32} {rv : Nat → Int64} {ri : Nat → Int32} {chk : Int32} {mo : Nat → Nat → Int32} {mi : Nat → Int32} {ml : Nat → Int64} {mk : Nat → Int32} {mlo : Nat → Int64} {mhi : Nat → Int64} {pk : Nat → Int32} {ps : Nat → Int32} {pl : Nat → Int64} {ph : Nat → Int64} {mm : Nat → Int64} {out : Nat → Int64} {v : Int32} : x_up (x_F ad cA ((stp, psz, gk, gl, gh, opn, cki, ckl, mp, rk, rv, ri, chk), (mo, mi, ml, mk, mlo, mhi, pk, ps, pl, ph, mm), out)) (18, 0) (.inr (8, [.ref (ad (19, 0)), .ref (ad (20, 0)), .ref (ad (21, 0)), .ref (ad (22, 0)), .ref (ad (23, 0)), .int (mi 0), .int (mi 1), .int (mi 2), .int (mi 3), .int (mi 4), .int (mi 5), .int (mi 6), .int (mi 7), .int (mi 8), .long (ml 0), .long (ml 1), .ref (ad (24, 0)), .ref (ad (25, 0)), .ref (ad (26, 0)), .ref (ad (27, 0)), .ref (ad (28, 0)), .ref (ad (29, 0)), .ref (ad (30, 0)), .ref (ad (31, 0)), .int v, .int (mi 10)])) = x_F ad cA ((stp, psz, gk, gl, gh, opn, cki, ckl, mp, rk, rv, ri, chk), (mo, upd mi 9 v, ml, mk, mlo, mhi, pk, ps, pl, ph, mm), out) := by
  funext z
  obtain ⟨a, b⟩ := z
  by_cases h : ((a, b) : x_I) = (18, 0)
  · cases h
    simp [x_up, x_F, x_cell, va_up, upd, vp_updL]
  · rw [x_up, if_neg h]
    unfold x_F x_cell
    split <;> first | rfl | exact absurd rfl h | (have h9 : ∀ b9 : Nat, b9 ≠ 0 ∨ b9 = 0 := fun b9 => (Decidable.em (b9 = 0)).symm; simp_all [va_up])
theorem e_mi10 {ad : x_I → Nat} {cA : Nat → ClassId} {stp : Nat → Nat → Int32} {psz : Int32} {gk : Nat → Nat → Int32} {gl : Nat → Nat → Int64} {gh : Nat → Nat → Int64} {opn : Nat → Int32} {cki : Nat → Int32} {ckl : Nat → Int64} {mp : Nat → Nat → Int64} {rk : Nat → Int32} {rv : Nat → Int64} {ri : Nat → Int32} {chk : Int32} {mo : Nat → Nat → Int32} {mi : Nat → Int32} {ml : Nat → Int64} {mk : Nat → Int32} {mlo : Nat → Int64} {mhi : Nat → Int64} {pk : Nat → Int32} {ps : Nat → Int32} {pl : Nat → Int64} {ph : Nat → Int64} {mm : Nat → Int64} {out : Nat → Int64} {v : Int32} : x_up (x_F ad cA ((stp, psz, gk, gl, gh, opn, cki, ckl, mp, rk, rv, ri, chk), (mo, mi, ml, mk, mlo, mhi, pk, ps, pl, ph, mm), out)) (18, 0) (.inr (8, [.ref (ad (19, 0)), .ref (ad (20, 0)), .ref (ad (21, 0)), .ref (ad (22, 0)), .ref (ad (23, 0)), .int (mi 0), .int (mi 1), .int (mi 2), .int (mi 3), .int (mi 4), .int (mi 5), .int (mi 6), .int (mi 7), .int (mi 8), .long (ml 0), .long (ml 1), .ref (ad (24, 0)), .ref (ad (25, 0)), .ref (ad (26, 0)), .ref (ad (27, 0)), .ref (ad (28, 0)), .ref (ad (29, 0)), .ref (ad (30, 0)), .ref (ad (31, 0)), .int (mi 9), .int v])) = x_F ad cA ((stp, psz, gk, gl, gh, opn, cki, ckl, mp, rk, rv, ri, chk), (mo, upd mi 10 v, ml, mk, mlo, mhi, pk, ps, pl, ph, mm), out) := by
  funext z
  obtain ⟨a, b⟩ := z
  by_cases h : ((a, b) : x_I) = (18, 0)
  · cases h
    simp [x_up, x_F, x_cell, va_up, upd, vp_updL]
  · rw [x_up, if_neg h]
    unfold x_F x_cell
    split <;> first | rfl | exact absurd rfl h | (have h9 : ∀ b9 : Nat, b9 ≠ 0 ∨ b9 = 0 := fun b9 => (Decidable.em (b9 = 0)).symm; simp_all [va_up])
theorem e_ml0 {ad : x_I → Nat} {cA : Nat → ClassId} {stp : Nat → Nat → Int32} {psz : Int32} {gk : Nat → Nat → Int32} {gl : Nat → Nat → Int64} {gh : Nat → Nat → Int64} {opn : Nat → Int32} {cki : Nat → Int32} {ckl : Nat → Int64} {mp : Nat → Nat → Int64} {rk : Nat → Int32} {rv : Nat → Int64} {ri : Nat → Int32} {chk : Int32} {mo : Nat → Nat → Int32} {mi : Nat → Int32} {ml : Nat → Int64} {mk : Nat → Int32} {mlo : Nat → Int64} {mhi : Nat → Int64} {pk : Nat → Int32} {ps : Nat → Int32} {pl : Nat → Int64} {ph : Nat → Int64} {mm : Nat → Int64} {out : Nat → Int64} {v : Int64} : x_up (x_F ad cA ((stp, psz, gk, gl, gh, opn, cki, ckl, mp, rk, rv, ri, chk), (mo, mi, ml, mk, mlo, mhi, pk, ps, pl, ph, mm), out)) (18, 0) (.inr (8, [.ref (ad (19, 0)), .ref (ad (20, 0)), .ref (ad (21, 0)), .ref (ad (22, 0)), .ref (ad (23, 0)), .int (mi 0), .int (mi 1), .int (mi 2), .int (mi 3), .int (mi 4), .int (mi 5), .int (mi 6), .int (mi 7), .int (mi 8), .long v, .long (ml 1), .ref (ad (24, 0)), .ref (ad (25, 0)), .ref (ad (26, 0)), .ref (ad (27, 0)), .ref (ad (28, 0)), .ref (ad (29, 0)), .ref (ad (30, 0)), .ref (ad (31, 0)), .int (mi 9), .int (mi 10)])) = x_F ad cA ((stp, psz, gk, gl, gh, opn, cki, ckl, mp, rk, rv, ri, chk), (mo, mi, vp_updL ml 0 v, mk, mlo, mhi, pk, ps, pl, ph, mm), out) := by
  funext z
  obtain ⟨a, b⟩ := z
  by_cases h : ((a, b) : x_I) = (18, 0)
  · cases h
    simp [x_up, x_F, x_cell, va_up, upd, vp_updL]
  · rw [x_up, if_neg h]
    unfold x_F x_cell
    split <;> first | rfl | exact absurd rfl h | (have h9 : ∀ b9 : Nat, b9 ≠ 0 ∨ b9 = 0 := fun b9 => (Decidable.em (b9 = 0)).symm; simp_all [va_up])
theorem e_ml1 {ad : x_I → Nat} {cA : Nat → ClassId} {stp : Nat → Nat → Int32} {psz : Int32} {gk : Nat → Nat → Int32} {gl : Nat → Nat → Int64} {gh : Nat → Nat → Int64} {opn : Nat → Int32} {cki : Nat → Int32} {ckl : Nat → Int64} {mp : Nat → Nat → Int64} {rk : Nat → Int32} {rv : Nat → Int64} {ri : Nat → Int32} {chk : Int32} {mo : Nat → Nat → Int32} {mi : Nat → Int32} {ml : Nat → Int64} {mk : Nat → Int32} {mlo : Nat → Int64} {mhi : Nat → Int64} {pk : Nat → Int32} {ps : Nat → Int32} {pl : Nat → Int64} {ph : Nat → Int64} {mm : Nat → Int64} {out : Nat → Int64} {v : Int64} : x_up (x_F ad cA ((stp, psz, gk, gl, gh, opn, cki, ckl, mp, rk, rv, ri, chk), (mo, mi, ml, mk, mlo, mhi, pk, ps, pl, ph, mm), out)) (18, 0) (.inr (8, [.ref (ad (19, 0)), .ref (ad (20, 0)), .ref (ad (21, 0)), .ref (ad (22, 0)), .ref (ad (23, 0)), .int (mi 0), .int (mi 1), .int (mi 2), .int (mi 3), .int (mi 4), .int (mi 5), .int (mi 6), .int (mi 7), .int (mi 8), .long (ml 0), .long v, .ref (ad (24, 0)), .ref (ad (25, 0)), .ref (ad (26, 0)), .ref (ad (27, 0)), .ref (ad (28, 0)), .ref (ad (29, 0)), .ref (ad (30, 0)), .ref (ad (31, 0)), .int (mi 9), .int (mi 10)])) = x_F ad cA ((stp, psz, gk, gl, gh, opn, cki, ckl, mp, rk, rv, ri, chk), (mo, mi, vp_updL ml 1 v, mk, mlo, mhi, pk, ps, pl, ph, mm), out) := by
  funext z
  obtain ⟨a, b⟩ := z
  by_cases h : ((a, b) : x_I) = (18, 0)
  · cases h
    simp [x_up, x_F, x_cell, va_up, upd, vp_updL]
  · rw [x_up, if_neg h]
    unfold x_F x_cell
    split <;> first | rfl | exact absurd rfl h | (have h9 : ∀ b9 : Nat, b9 ≠ 0 ∨ b9 = 0 := fun b9 => (Decidable.em (b9 = 0)).symm; simp_all [va_up])
theorem e_mo0 {ad : x_I → Nat} {cA : Nat → ClassId} {stp : Nat → Nat → Int32} {psz : Int32} {gk : Nat → Nat → Int32} {gl : Nat → Nat → Int64} {gh : Nat → Nat → Int64} {opn : Nat → Int32} {cki : Nat → Int32} {ckl : Nat → Int64} {mp : Nat → Nat → Int64} {rk : Nat → Int32} {rv : Nat → Int64} {ri : Nat → Int32} {chk : Int32} {mo : Nat → Nat → Int32} {mi : Nat → Int32} {ml : Nat → Int64} {mk : Nat → Int32} {mlo : Nat → Int64} {mhi : Nat → Int64} {pk : Nat → Int32} {ps : Nat → Int32} {pl : Nat → Int64} {ph : Nat → Int64} {mm : Nat → Int64} {out : Nat → Int64} {g : Nat → Int32} : x_up (x_F ad cA ((stp, psz, gk, gl, gh, opn, cki, ckl, mp, rk, rv, ri, chk), (mo, mi, ml, mk, mlo, mhi, pk, ps, pl, ph, mm), out)) (19, 0) (.inl (cA 0, 24, .inl g)) = x_F ad cA ((stp, psz, gk, gl, gh, opn, cki, ckl, mp, rk, rv, ri, chk), (va_up mo 0 g, mi, ml, mk, mlo, mhi, pk, ps, pl, ph, mm), out) := by
  funext z
  obtain ⟨a, b⟩ := z
  by_cases h : ((a, b) : x_I) = (19, 0)
  · cases h
    simp [x_up, x_F, x_cell, va_up, upd, vp_updL]
  · rw [x_up, if_neg h]
    unfold x_F x_cell
    split <;> first | rfl | exact absurd rfl h | (have h9 : ∀ b9 : Nat, b9 ≠ 0 ∨ b9 = 0 := fun b9 => (Decidable.em (b9 = 0)).symm; simp_all [va_up])
theorem e_mo1 {ad : x_I → Nat} {cA : Nat → ClassId} {stp : Nat → Nat → Int32} {psz : Int32} {gk : Nat → Nat → Int32} {gl : Nat → Nat → Int64} {gh : Nat → Nat → Int64} {opn : Nat → Int32} {cki : Nat → Int32} {ckl : Nat → Int64} {mp : Nat → Nat → Int64} {rk : Nat → Int32} {rv : Nat → Int64} {ri : Nat → Int32} {chk : Int32} {mo : Nat → Nat → Int32} {mi : Nat → Int32} {ml : Nat → Int64} {mk : Nat → Int32} {mlo : Nat → Int64} {mhi : Nat → Int64} {pk : Nat → Int32} {ps : Nat → Int32} {pl : Nat → Int64} {ph : Nat → Int64} {mm : Nat → Int64} {out : Nat → Int64} {g : Nat → Int32} : x_up (x_F ad cA ((stp, psz, gk, gl, gh, opn, cki, ckl, mp, rk, rv, ri, chk), (mo, mi, ml, mk, mlo, mhi, pk, ps, pl, ph, mm), out)) (20, 0) (.inl (cA 0, 24, .inl g)) = x_F ad cA ((stp, psz, gk, gl, gh, opn, cki, ckl, mp, rk, rv, ri, chk), (va_up mo 1 g, mi, ml, mk, mlo, mhi, pk, ps, pl, ph, mm), out) := by
  funext z
  obtain ⟨a, b⟩ := z
  by_cases h : ((a, b) : x_I) = (20, 0)
  · cases h
    simp [x_up, x_F, x_cell, va_up, upd, vp_updL]
  · rw [x_up, if_neg h]
    unfold x_F x_cell
    split <;> first | rfl | exact absurd rfl h | (have h9 : ∀ b9 : Nat, b9 ≠ 0 ∨ b9 = 0 := fun b9 => (Decidable.em (b9 = 0)).symm; simp_all [va_up])
theorem e_mo2 {ad : x_I → Nat} {cA : Nat → ClassId} {stp : Nat → Nat → Int32} {psz : Int32} {gk : Nat → Nat → Int32} {gl : Nat → Nat → Int64} {gh : Nat → Nat → Int64} {opn : Nat → Int32} {cki : Nat → Int32} {ckl : Nat → Int64} {mp : Nat → Nat → Int64} {rk : Nat → Int32} {rv : Nat → Int64} {ri : Nat → Int32} {chk : Int32} {mo : Nat → Nat → Int32} {mi : Nat → Int32} {ml : Nat → Int64} {mk : Nat → Int32} {mlo : Nat → Int64} {mhi : Nat → Int64} {pk : Nat → Int32} {ps : Nat → Int32} {pl : Nat → Int64} {ph : Nat → Int64} {mm : Nat → Int64} {out : Nat → Int64} {g : Nat → Int32} : x_up (x_F ad cA ((stp, psz, gk, gl, gh, opn, cki, ckl, mp, rk, rv, ri, chk), (mo, mi, ml, mk, mlo, mhi, pk, ps, pl, ph, mm), out)) (21, 0) (.inl (cA 0, 24, .inl g)) = x_F ad cA ((stp, psz, gk, gl, gh, opn, cki, ckl, mp, rk, rv, ri, chk), (va_up mo 2 g, mi, ml, mk, mlo, mhi, pk, ps, pl, ph, mm), out) := by
  funext z
  obtain ⟨a, b⟩ := z
  by_cases h : ((a, b) : x_I) = (21, 0)
  · cases h
    simp [x_up, x_F, x_cell, va_up, upd, vp_updL]
  · rw [x_up, if_neg h]
    unfold x_F x_cell
    split <;> first | rfl | exact absurd rfl h | (have h9 : ∀ b9 : Nat, b9 ≠ 0 ∨ b9 = 0 := fun b9 => (Decidable.em (b9 = 0)).symm; simp_all [va_up])
theorem e_mo3 {ad : x_I → Nat} {cA : Nat → ClassId} {stp : Nat → Nat → Int32} {psz : Int32} {gk : Nat → Nat → Int32} {gl : Nat → Nat → Int64} {gh : Nat → Nat → Int64} {opn : Nat → Int32} {cki : Nat → Int32} {ckl : Nat → Int64} {mp : Nat → Nat → Int64} {rk : Nat → Int32} {rv : Nat → Int64} {ri : Nat → Int32} {chk : Int32} {mo : Nat → Nat → Int32} {mi : Nat → Int32} {ml : Nat → Int64} {mk : Nat → Int32} {mlo : Nat → Int64} {mhi : Nat → Int64} {pk : Nat → Int32} {ps : Nat → Int32} {pl : Nat → Int64} {ph : Nat → Int64} {mm : Nat → Int64} {out : Nat → Int64} {g : Nat → Int32} : x_up (x_F ad cA ((stp, psz, gk, gl, gh, opn, cki, ckl, mp, rk, rv, ri, chk), (mo, mi, ml, mk, mlo, mhi, pk, ps, pl, ph, mm), out)) (22, 0) (.inl (cA 0, 24, .inl g)) = x_F ad cA ((stp, psz, gk, gl, gh, opn, cki, ckl, mp, rk, rv, ri, chk), (va_up mo 3 g, mi, ml, mk, mlo, mhi, pk, ps, pl, ph, mm), out) := by
  funext z
  obtain ⟨a, b⟩ := z
  by_cases h : ((a, b) : x_I) = (22, 0)
  · cases h
    simp [x_up, x_F, x_cell, va_up, upd, vp_updL]
  · rw [x_up, if_neg h]
    unfold x_F x_cell
    split <;> first | rfl | exact absurd rfl h | (have h9 : ∀ b9 : Nat, b9 ≠ 0 ∨ b9 = 0 := fun b9 => (Decidable.em (b9 = 0)).symm; simp_all [va_up])
theorem e_mo4 {ad : x_I → Nat} {cA : Nat → ClassId} {stp : Nat → Nat → Int32} {psz : Int32} {gk : Nat → Nat → Int32} {gl : Nat → Nat → Int64} {gh : Nat → Nat → Int64} {opn : Nat → Int32} {cki : Nat → Int32} {ckl : Nat → Int64} {mp : Nat → Nat → Int64} {rk : Nat → Int32} {rv : Nat → Int64} {ri : Nat → Int32} {chk : Int32} {mo : Nat → Nat → Int32} {mi : Nat → Int32} {ml : Nat → Int64} {mk : Nat → Int32} {mlo : Nat → Int64} {mhi : Nat → Int64} {pk : Nat → Int32} {ps : Nat → Int32} {pl : Nat → Int64} {ph : Nat → Int64} {mm : Nat → Int64} {out : Nat → Int64} {g : Nat → Int32} : x_up (x_F ad cA ((stp, psz, gk, gl, gh, opn, cki, ckl, mp, rk, rv, ri, chk), (mo, mi, ml, mk, mlo, mhi, pk, ps, pl, ph, mm), out)) (23, 0) (.inl (cA 0, 24, .inl g)) = x_F ad cA ((stp, psz, gk, gl, gh, opn, cki, ckl, mp, rk, rv, ri, chk), (va_up mo 4 g, mi, ml, mk, mlo, mhi, pk, ps, pl, ph, mm), out) := by
  funext z
  obtain ⟨a, b⟩ := z
  by_cases h : ((a, b) : x_I) = (23, 0)
  · cases h
    simp [x_up, x_F, x_cell, va_up, upd, vp_updL]
  · rw [x_up, if_neg h]
    unfold x_F x_cell
    split <;> first | rfl | exact absurd rfl h | (have h9 : ∀ b9 : Nat, b9 ≠ 0 ∨ b9 = 0 := fun b9 => (Decidable.em (b9 = 0)).symm; simp_all [va_up])
theorem e_mk {ad : x_I → Nat} {cA : Nat → ClassId} {stp : Nat → Nat → Int32} {psz : Int32} {gk : Nat → Nat → Int32} {gl : Nat → Nat → Int64} {gh : Nat → Nat → Int64} {opn : Nat → Int32} {cki : Nat → Int32} {ckl : Nat → Int64} {mp : Nat → Nat → Int64} {rk : Nat → Int32} {rv : Nat → Int64} {ri : Nat → Int32} {chk : Int32} {mo : Nat → Nat → Int32} {mi : Nat → Int32} {ml : Nat → Int64} {mk : Nat → Int32} {mlo : Nat → Int64} {mhi : Nat → Int64} {pk : Nat → Int32} {ps : Nat → Int32} {pl : Nat → Int64} {ph : Nat → Int64} {mm : Nat → Int64} {out : Nat → Int64} {g : Nat → Int32} : x_up (x_F ad cA ((stp, psz, gk, gl, gh, opn, cki, ckl, mp, rk, rv, ri, chk), (mo, mi, ml, mk, mlo, mhi, pk, ps, pl, ph, mm), out)) (24, 0) (.inl (cA 0, 12, .inl g)) = x_F ad cA ((stp, psz, gk, gl, gh, opn, cki, ckl, mp, rk, rv, ri, chk), (mo, mi, ml, g, mlo, mhi, pk, ps, pl, ph, mm), out) := by
  funext z
  obtain ⟨a, b⟩ := z
  by_cases h : ((a, b) : x_I) = (24, 0)
  · cases h
    simp [x_up, x_F, x_cell, va_up, upd, vp_updL]
  · rw [x_up, if_neg h]
    unfold x_F x_cell
    split <;> first | rfl | exact absurd rfl h | (have h9 : ∀ b9 : Nat, b9 ≠ 0 ∨ b9 = 0 := fun b9 => (Decidable.em (b9 = 0)).symm; simp_all [va_up])
theorem e_mlo {ad : x_I → Nat} {cA : Nat → ClassId} {stp : Nat → Nat → Int32} {psz : Int32} {gk : Nat → Nat → Int32} {gl : Nat → Nat → Int64} {gh : Nat → Nat → Int64} {opn : Nat → Int32} {cki : Nat → Int32} {ckl : Nat → Int64} {mp : Nat → Nat → Int64} {rk : Nat → Int32} {rv : Nat → Int64} {ri : Nat → Int32} {chk : Int32} {mo : Nat → Nat → Int32} {mi : Nat → Int32} {ml : Nat → Int64} {mk : Nat → Int32} {mlo : Nat → Int64} {mhi : Nat → Int64} {pk : Nat → Int32} {ps : Nat → Int32} {pl : Nat → Int64} {ph : Nat → Int64} {mm : Nat → Int64} {out : Nat → Int64} {g : Nat → Int64} : x_up (x_F ad cA ((stp, psz, gk, gl, gh, opn, cki, ckl, mp, rk, rv, ri, chk), (mo, mi, ml, mk, mlo, mhi, pk, ps, pl, ph, mm), out)) (25, 0) (.inl (cA 1, 12, .inr (.inl g))) = x_F ad cA ((stp, psz, gk, gl, gh, opn, cki, ckl, mp, rk, rv, ri, chk), (mo, mi, ml, mk, g, mhi, pk, ps, pl, ph, mm), out) := by
  funext z
  obtain ⟨a, b⟩ := z
  by_cases h : ((a, b) : x_I) = (25, 0)
  · cases h
    simp [x_up, x_F, x_cell, va_up, upd, vp_updL]
  · rw [x_up, if_neg h]
    unfold x_F x_cell
    split <;> first | rfl | exact absurd rfl h | (have h9 : ∀ b9 : Nat, b9 ≠ 0 ∨ b9 = 0 := fun b9 => (Decidable.em (b9 = 0)).symm; simp_all [va_up])
theorem e_mhi {ad : x_I → Nat} {cA : Nat → ClassId} {stp : Nat → Nat → Int32} {psz : Int32} {gk : Nat → Nat → Int32} {gl : Nat → Nat → Int64} {gh : Nat → Nat → Int64} {opn : Nat → Int32} {cki : Nat → Int32} {ckl : Nat → Int64} {mp : Nat → Nat → Int64} {rk : Nat → Int32} {rv : Nat → Int64} {ri : Nat → Int32} {chk : Int32} {mo : Nat → Nat → Int32} {mi : Nat → Int32} {ml : Nat → Int64} {mk : Nat → Int32} {mlo : Nat → Int64} {mhi : Nat → Int64} {pk : Nat → Int32} {ps : Nat → Int32} {pl : Nat → Int64} {ph : Nat → Int64} {mm : Nat → Int64} {out : Nat → Int64} {g : Nat → Int64} : x_up (x_F ad cA ((stp, psz, gk, gl, gh, opn, cki, ckl, mp, rk, rv, ri, chk), (mo, mi, ml, mk, mlo, mhi, pk, ps, pl, ph, mm), out)) (26, 0) (.inl (cA 1, 12, .inr (.inl g))) = x_F ad cA ((stp, psz, gk, gl, gh, opn, cki, ckl, mp, rk, rv, ri, chk), (mo, mi, ml, mk, mlo, g, pk, ps, pl, ph, mm), out) := by
  funext z
  obtain ⟨a, b⟩ := z
  by_cases h : ((a, b) : x_I) = (26, 0)
  · cases h
    simp [x_up, x_F, x_cell, va_up, upd, vp_updL]
  · rw [x_up, if_neg h]
    unfold x_F x_cell
    split <;> first | rfl | exact absurd rfl h | (have h9 : ∀ b9 : Nat, b9 ≠ 0 ∨ b9 = 0 := fun b9 => (Decidable.em (b9 = 0)).symm; simp_all [va_up])
theorem e_pk {ad : x_I → Nat} {cA : Nat → ClassId} {stp : Nat → Nat → Int32} {psz : Int32} {gk : Nat → Nat → Int32} {gl : Nat → Nat → Int64} {gh : Nat → Nat → Int64} {opn : Nat → Int32} {cki : Nat → Int32} {ckl : Nat → Int64} {mp : Nat → Nat → Int64} {rk : Nat → Int32} {rv : Nat → Int64} {ri : Nat → Int32} {chk : Int32} {mo : Nat → Nat → Int32} {mi : Nat → Int32} {ml : Nat → Int64} {mk : Nat → Int32} {mlo : Nat → Int64} {mhi : Nat → Int64} {pk : Nat → Int32} {ps : Nat → Int32} {pl : Nat → Int64} {ph : Nat → Int64} {mm : Nat → Int64} {out : Nat → Int64} {g : Nat → Int32} : x_up (x_F ad cA ((stp, psz, gk, gl, gh, opn, cki, ckl, mp, rk, rv, ri, chk), (mo, mi, ml, mk, mlo, mhi, pk, ps, pl, ph, mm), out)) (27, 0) (.inl (cA 0, 360, .inl g)) = x_F ad cA ((stp, psz, gk, gl, gh, opn, cki, ckl, mp, rk, rv, ri, chk), (mo, mi, ml, mk, mlo, mhi, g, ps, pl, ph, mm), out) := by
  funext z
  obtain ⟨a, b⟩ := z
  by_cases h : ((a, b) : x_I) = (27, 0)
  · cases h
    simp [x_up, x_F, x_cell, va_up, upd, vp_updL]
  · rw [x_up, if_neg h]
    unfold x_F x_cell
    split <;> first | rfl | exact absurd rfl h | (have h9 : ∀ b9 : Nat, b9 ≠ 0 ∨ b9 = 0 := fun b9 => (Decidable.em (b9 = 0)).symm; simp_all [va_up])
theorem e_ps {ad : x_I → Nat} {cA : Nat → ClassId} {stp : Nat → Nat → Int32} {psz : Int32} {gk : Nat → Nat → Int32} {gl : Nat → Nat → Int64} {gh : Nat → Nat → Int64} {opn : Nat → Int32} {cki : Nat → Int32} {ckl : Nat → Int64} {mp : Nat → Nat → Int64} {rk : Nat → Int32} {rv : Nat → Int64} {ri : Nat → Int32} {chk : Int32} {mo : Nat → Nat → Int32} {mi : Nat → Int32} {ml : Nat → Int64} {mk : Nat → Int32} {mlo : Nat → Int64} {mhi : Nat → Int64} {pk : Nat → Int32} {ps : Nat → Int32} {pl : Nat → Int64} {ph : Nat → Int64} {mm : Nat → Int64} {out : Nat → Int64} {g : Nat → Int32} : x_up (x_F ad cA ((stp, psz, gk, gl, gh, opn, cki, ckl, mp, rk, rv, ri, chk), (mo, mi, ml, mk, mlo, mhi, pk, ps, pl, ph, mm), out)) (28, 0) (.inl (cA 0, 30, .inl g)) = x_F ad cA ((stp, psz, gk, gl, gh, opn, cki, ckl, mp, rk, rv, ri, chk), (mo, mi, ml, mk, mlo, mhi, pk, g, pl, ph, mm), out) := by
  funext z
  obtain ⟨a, b⟩ := z
  by_cases h : ((a, b) : x_I) = (28, 0)
  · cases h
    simp [x_up, x_F, x_cell, va_up, upd, vp_updL]
  · rw [x_up, if_neg h]
    unfold x_F x_cell
    split <;> first | rfl | exact absurd rfl h | (have h9 : ∀ b9 : Nat, b9 ≠ 0 ∨ b9 = 0 := fun b9 => (Decidable.em (b9 = 0)).symm; simp_all [va_up])
theorem e_pl {ad : x_I → Nat} {cA : Nat → ClassId} {stp : Nat → Nat → Int32} {psz : Int32} {gk : Nat → Nat → Int32} {gl : Nat → Nat → Int64} {gh : Nat → Nat → Int64} {opn : Nat → Int32} {cki : Nat → Int32} {ckl : Nat → Int64} {mp : Nat → Nat → Int64} {rk : Nat → Int32} {rv : Nat → Int64} {ri : Nat → Int32} {chk : Int32} {mo : Nat → Nat → Int32} {mi : Nat → Int32} {ml : Nat → Int64} {mk : Nat → Int32} {mlo : Nat → Int64} {mhi : Nat → Int64} {pk : Nat → Int32} {ps : Nat → Int32} {pl : Nat → Int64} {ph : Nat → Int64} {mm : Nat → Int64} {out : Nat → Int64} {g : Nat → Int64} : x_up (x_F ad cA ((stp, psz, gk, gl, gh, opn, cki, ckl, mp, rk, rv, ri, chk), (mo, mi, ml, mk, mlo, mhi, pk, ps, pl, ph, mm), out)) (29, 0) (.inl (cA 1, 360, .inr (.inl g))) = x_F ad cA ((stp, psz, gk, gl, gh, opn, cki, ckl, mp, rk, rv, ri, chk), (mo, mi, ml, mk, mlo, mhi, pk, ps, g, ph, mm), out) := by
  funext z
  obtain ⟨a, b⟩ := z
  by_cases h : ((a, b) : x_I) = (29, 0)
  · cases h
    simp [x_up, x_F, x_cell, va_up, upd, vp_updL]
  · rw [x_up, if_neg h]
    unfold x_F x_cell
    split <;> first | rfl | exact absurd rfl h | (have h9 : ∀ b9 : Nat, b9 ≠ 0 ∨ b9 = 0 := fun b9 => (Decidable.em (b9 = 0)).symm; simp_all [va_up])
theorem e_ph {ad : x_I → Nat} {cA : Nat → ClassId} {stp : Nat → Nat → Int32} {psz : Int32} {gk : Nat → Nat → Int32} {gl : Nat → Nat → Int64} {gh : Nat → Nat → Int64} {opn : Nat → Int32} {cki : Nat → Int32} {ckl : Nat → Int64} {mp : Nat → Nat → Int64} {rk : Nat → Int32} {rv : Nat → Int64} {ri : Nat → Int32} {chk : Int32} {mo : Nat → Nat → Int32} {mi : Nat → Int32} {ml : Nat → Int64} {mk : Nat → Int32} {mlo : Nat → Int64} {mhi : Nat → Int64} {pk : Nat → Int32} {ps : Nat → Int32} {pl : Nat → Int64} {ph : Nat → Int64} {mm : Nat → Int64} {out : Nat → Int64} {g : Nat → Int64} : x_up (x_F ad cA ((stp, psz, gk, gl, gh, opn, cki, ckl, mp, rk, rv, ri, chk), (mo, mi, ml, mk, mlo, mhi, pk, ps, pl, ph, mm), out)) (30, 0) (.inl (cA 1, 360, .inr (.inl g))) = x_F ad cA ((stp, psz, gk, gl, gh, opn, cki, ckl, mp, rk, rv, ri, chk), (mo, mi, ml, mk, mlo, mhi, pk, ps, pl, g, mm), out) := by
  funext z
  obtain ⟨a, b⟩ := z
  by_cases h : ((a, b) : x_I) = (30, 0)
  · cases h
    simp [x_up, x_F, x_cell, va_up, upd, vp_updL]
  · rw [x_up, if_neg h]
    unfold x_F x_cell
    split <;> first | rfl | exact absurd rfl h | (have h9 : ∀ b9 : Nat, b9 ≠ 0 ∨ b9 = 0 := fun b9 => (Decidable.em (b9 = 0)).symm; simp_all [va_up])
theorem e_mm {ad : x_I → Nat} {cA : Nat → ClassId} {stp : Nat → Nat → Int32} {psz : Int32} {gk : Nat → Nat → Int32} {gl : Nat → Nat → Int64} {gh : Nat → Nat → Int64} {opn : Nat → Int32} {cki : Nat → Int32} {ckl : Nat → Int64} {mp : Nat → Nat → Int64} {rk : Nat → Int32} {rv : Nat → Int64} {ri : Nat → Int32} {chk : Int32} {mo : Nat → Nat → Int32} {mi : Nat → Int32} {ml : Nat → Int64} {mk : Nat → Int32} {mlo : Nat → Int64} {mhi : Nat → Int64} {pk : Nat → Int32} {ps : Nat → Int32} {pl : Nat → Int64} {ph : Nat → Int64} {mm : Nat → Int64} {out : Nat → Int64} {g : Nat → Int64} : x_up (x_F ad cA ((stp, psz, gk, gl, gh, opn, cki, ckl, mp, rk, rv, ri, chk), (mo, mi, ml, mk, mlo, mhi, pk, ps, pl, ph, mm), out)) (31, 0) (.inl (cA 1, 12, .inr (.inl g))) = x_F ad cA ((stp, psz, gk, gl, gh, opn, cki, ckl, mp, rk, rv, ri, chk), (mo, mi, ml, mk, mlo, mhi, pk, ps, pl, ph, g), out) := by
  funext z
  obtain ⟨a, b⟩ := z
  by_cases h : ((a, b) : x_I) = (31, 0)
  · cases h
    simp [x_up, x_F, x_cell, va_up, upd, vp_updL]
  · rw [x_up, if_neg h]
    unfold x_F x_cell
    split <;> first | rfl | exact absurd rfl h | (have h9 : ∀ b9 : Nat, b9 ≠ 0 ∨ b9 = 0 := fun b9 => (Decidable.em (b9 = 0)).symm; simp_all [va_up])
theorem e_out {ad : x_I → Nat} {cA : Nat → ClassId} {stp : Nat → Nat → Int32} {psz : Int32} {gk : Nat → Nat → Int32} {gl : Nat → Nat → Int64} {gh : Nat → Nat → Int64} {opn : Nat → Int32} {cki : Nat → Int32} {ckl : Nat → Int64} {mp : Nat → Nat → Int64} {rk : Nat → Int32} {rv : Nat → Int64} {ri : Nat → Int32} {chk : Int32} {mo : Nat → Nat → Int32} {mi : Nat → Int32} {ml : Nat → Int64} {mk : Nat → Int32} {mlo : Nat → Int64} {mhi : Nat → Int64} {pk : Nat → Int32} {ps : Nat → Int32} {pl : Nat → Int64} {ph : Nat → Int64} {mm : Nat → Int64} {out : Nat → Int64} {g : Nat → Int64} : x_up (x_F ad cA ((stp, psz, gk, gl, gh, opn, cki, ckl, mp, rk, rv, ri, chk), (mo, mi, ml, mk, mlo, mhi, pk, ps, pl, ph, mm), out)) (32, 0) (.inl (cA 1, 1, .inr (.inl g))) = x_F ad cA ((stp, psz, gk, gl, gh, opn, cki, ckl, mp, rk, rv, ri, chk), (mo, mi, ml, mk, mlo, mhi, pk, ps, pl, ph, mm), g) := by
  funext z
  obtain ⟨a, b⟩ := z
  by_cases h : ((a, b) : x_I) = (32, 0)
  · cases h
    simp [x_up, x_F, x_cell, va_up, upd, vp_updL]
  · rw [x_up, if_neg h]
    unfold x_F x_cell
    split <;> first | rfl | exact absurd rfl h | (have h9 : ∀ b9 : Nat, b9 ≠ 0 ∨ b9 = 0 := fun b9 => (Decidable.em (b9 = 0)).symm; simp_all [va_up])
