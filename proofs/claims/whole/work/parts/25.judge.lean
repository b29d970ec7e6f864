def s_Jg_lacksTarget (stp : Nat → Nat → Int32) (psz : Int32) (j : Nat) (a2 : Int32) : Int32 :=
  (x_let (s_St_mayJump stp j) fun r1 => (if r1 = 0 then (0) else (if (stp j 4) ≤ a2 then (1) else (x_let (s_Pg_size psz) fun r4 => (if (stp j 4) < r4 then (0) else (1))))))
set_option maxHeartbeats 4000000 in
set_option maxRecDepth 100000 in
theorem c_Jg_lacksTarget {l : Launch} {D : va_G} {cA : Nat → ClassId} {ad : x_I → Nat} (ok : x_ok (x_k D cA ad)) {stp : Nat → Nat → Int32} {psz : Int32} {gk : Nat → Nat → Int32} {gl : Nat → Nat → Int64} {gh : Nat → Nat → Int64} {opn : Nat → Int32} {cki : Nat → Int32} {ckl : Nat → Int64} {mp : Nat → Nat → Int64} {rk : Nat → Int32} {rv : Nat → Int64} {ri : Nat → Int32} {chk : Int32} {mo : Nat → Nat → Int32} {mi : Nat → Int32} {ml : Nat → Int64} {mk : Nat → Int32} {mlo : Nat → Int64} {mhi : Nat → Int64} {pk : Nat → Int32} {ps : Nat → Int32} {pl : Nat → Int64} {ph : Nat → Int64} {mm : Nat → Int64} {out : Nat → Int64} (j : Nat) (hj : j < 24) (a2 : Int32) : x_M l y_Jg_lacksTarget (Cond.code y_Jg_lacksTarget b_Jg_lacksTarget 3 (Option.some Jvm.ClassFile.FieldType.boolean) :: x_Wd) { frames := 1, cells := 0, slots := 0, locals := 20 } (x_k D cA ad) (x_F ad cA) [(.ref (ad (9, 0))), (.ref (ad (3, j))), (.int a2)] ((stp, psz, gk, gl, gh, opn, cki, ckl, mp, rk, rv, ri, chk), (mo, mi, ml, mk, mlo, mhi, pk, ps, pl, ph, mm), out) ((fun q : Int32 => ((some (.int (q)), ((stp, psz, gk, gl, gh, opn, cki, ckl, mp, rk, rv, ri, chk), (mo, mi, ml, mk, mlo, mhi, pk, ps, pl, ph, mm), out)) : Option Value × x_S)) (s_Jg_lacksTarget stp psz j a2)) 0 0 := by
  refine x_start (κ := x_k D cA ad) (cc := b_Jg_lacksTarget) (F := x_F ad cA) (wr := (fun q : Int32 => ((some (.int (q)), ((stp, psz, gk, gl, gh, opn, cki, ckl, mp, rk, rv, ri, chk), (mo, mi, ml, mk, mlo, mhi, pk, ps, pl, ph, mm), out)) : Option Value × x_S))) (q := s_Jg_lacksTarget stp psz j a2) (ret := (Option.some Jvm.ClassFile.FieldType.boolean)) (lv0 := [(0, (.ref (ad (9, 0)))), (1, (.ref (ad (3, j)))), (2, (.int a2))]) ok (by decide) rfl (Nat.le_of_ble_eq_true rfl) rfl ?_
  intro p e s m below meth c C hr hlk
  unfold s_Jg_lacksTarget
  refine x_aload_n 1 C d_Jg_lacksTarget_0 rfl rfl ?_
  refine x_cv (i := (3, j)) (F := x_F ad cA) (As := []) (rest := []) C k_St_mayJump q_438 (c_St_mayJump ok j hj) rfl rfl rfl (Nat.le_of_ble_eq_true rfl) (Nat.le_of_ble_eq_true rfl) (m_3 hj) rfl rfl rfl rfl rfl (Nat.le_of_ble_eq_true rfl) d_Jg_lacksTarget_1 ⟨Nat.zero_le _, Nat.zero_le _⟩ ?_
  generalize hq1 : s_St_mayJump stp j = r1
  refine x_lets ?_
  refine x_if_eq 33 C d_Jg_lacksTarget_4 (by decide) (fun z2 => ?_) (fun z2 => ?_)
  · refine x_iconst (v := 0) C d_Jg_lacksTarget_33 (by decide) ?_
    exact x_zret C hr hlk rfl rfl d_Jg_lacksTarget_34
  · refine x_aload_n 1 C d_Jg_lacksTarget_7 rfl rfl ?_
    refine x_get (i := (3, j)) (v := (.int (stp j 4))) 4 C (m_3 hj) rfl rfl i_St (by decide) (List.mem_cons_of_mem _ q_64) rfl d_Jg_lacksTarget_8 ?_
    refine x_iload_n 2 C d_Jg_lacksTarget_11 rfl rfl ?_
    refine x_icmp_le 29 C d_Jg_lacksTarget_12 (by decide) (fun z3 => ?_) (fun z3 => ?_)
    · refine x_iconst (v := 1) C d_Jg_lacksTarget_29 (by decide) ?_
      refine x_goto 34 C d_Jg_lacksTarget_30 (by decide) ?_
      exact x_zret C hr hlk rfl rfl d_Jg_lacksTarget_34
    · refine x_aload_n 1 C d_Jg_lacksTarget_15 rfl rfl ?_
      refine x_get (i := (3, j)) (v := (.int (stp j 4))) 4 C (m_3 hj) rfl rfl i_St (by decide) (List.mem_cons_of_mem _ q_64) rfl d_Jg_lacksTarget_16 ?_
      refine x_aload_n 0 C d_Jg_lacksTarget_19 rfl rfl ?_
      refine x_get (i := (9, 0)) (v := (.ref (ad (1, 0)))) 0 C m_9 rfl rfl i_Jg (by decide) (List.mem_cons_of_mem _ q_116) rfl d_Jg_lacksTarget_20 ?_
      refine x_cv (i := (1, 0)) (F := x_F ad cA) (As := []) (rest := [(.int (stp j 4))]) C k_Pg_size q_442 (c_Pg_size ok) rfl rfl rfl (Nat.le_of_ble_eq_true rfl) (Nat.le_of_ble_eq_true rfl) m_1 rfl rfl rfl rfl rfl (Nat.le_of_ble_eq_true rfl) d_Jg_lacksTarget_23 ⟨Nat.zero_le _, Nat.zero_le _⟩ ?_
      generalize hq4 : s_Pg_size psz = r4
      refine x_lets ?_
      refine x_icmp_lt 33 C d_Jg_lacksTarget_26 (by decide) (fun z5 => ?_) (fun z5 => ?_)
      · refine x_iconst (v := 0) C d_Jg_lacksTarget_33 (by decide) ?_
        exact x_zret C hr hlk rfl rfl d_Jg_lacksTarget_34
      · refine x_iconst (v := 1) C d_Jg_lacksTarget_29 (by decide) ?_
        refine x_goto 34 C d_Jg_lacksTarget_30 (by decide) ?_
        exact x_zret C hr hlk rfl rfl d_Jg_lacksTarget_34
theorem z_Gs_isEmpty {gk : Nat → Nat → Int32} {i : Nat} {a1 : Int32} : narrow .boolean (.int (s_Gs_isEmpty gk i a1)) = .int (s_Gs_isEmpty gk i a1) := by
  unfold s_Gs_isEmpty
  (try simp only [x_let])
  repeat' split
  all_goals first | rfl
def s_Jg_usesEmpty (stp : Nat → Nat → Int32) (gk : Nat → Nat → Int32) (j : Nat) : Int32 :=
  (if (stp j 0) = 16 then (if (stp j 3) = 1 then (x_let (s_Gs_isEmpty gk 0 1) fun r3 => (if r3 = 0 then (if (stp j 3) = 2 then (if r3 = 0 then (x_let (s_Gs_isEmpty gk 0 2) fun r7 => (if r7 = 0 then (0) else (1))) else (1)) else (0)) else (1))) else (if (stp j 3) = 2 then (x_let (s_Gs_isEmpty gk 0 1) fun r10 => (if r10 = 0 then (x_let (s_Gs_isEmpty gk 0 2) fun r12 => (if r12 = 0 then (0) else (1))) else (1))) else (0))) else (if (stp j 0) = 17 then (x_let (s_Gs_isEmpty gk 0 0) fun r15 => (r15)) else (x_let (s_St_usesD stp j) fun r16 => (if r16 = 0 then (x_let (s_St_usesS stp j) fun r18 => (if r18 = 0 then (0) else (x_let (s_Gs_isEmpty gk 0 (stp j 2)) fun r20 => (if r20 = 0 then (0) else (1))))) else (x_let (s_Gs_isEmpty gk 0 (stp j 1)) fun r22 => (if r22 = 0 then (x_let (s_St_usesS stp j) fun r24 => (if r24 = 0 then (0) else (x_let (s_Gs_isEmpty gk 0 (stp j 2)) fun r26 => (if r26 = 0 then (0) else (1))))) else (1)))))))
set_option maxHeartbeats 4000000 in
set_option maxRecDepth 100000 in
theorem c_Jg_usesEmpty {l : Launch} {D : va_G} {cA : Nat → ClassId} {ad : x_I → Nat} (ok : x_ok (x_k D cA ad)) {stp : Nat → Nat → Int32} {psz : Int32} {gk : Nat → Nat → Int32} {gl : Nat → Nat → Int64} {gh : Nat → Nat → Int64} {opn : Nat → Int32} {cki : Nat → Int32} {ckl : Nat → Int64} {mp : Nat → Nat → Int64} {rk : Nat → Int32} {rv : Nat → Int64} {ri : Nat → Int32} {chk : Int32} {mo : Nat → Nat → Int32} {mi : Nat → Int32} {ml : Nat → Int64} {mk : Nat → Int32} {mlo : Nat → Int64} {mhi : Nat → Int64} {pk : Nat → Int32} {ps : Nat → Int32} {pl : Nat → Int64} {ph : Nat → Int64} {mm : Nat → Int64} {out : Nat → Int64} (j : Nat) (hj : j < 24) (hw : x_wf stp) : x_M l y_Jg_usesEmpty (Cond.code y_Jg_usesEmpty b_Jg_usesEmpty 2 (Option.some Jvm.ClassFile.FieldType.boolean) :: x_Wd) { frames := 1, cells := 0, slots := 0, locals := 21 } (x_k D cA ad) (x_F ad cA) [(.ref (ad (9, 0))), (.ref (ad (3, j)))] ((stp, psz, gk, gl, gh, opn, cki, ckl, mp, rk, rv, ri, chk), (mo, mi, ml, mk, mlo, mhi, pk, ps, pl, ph, mm), out) ((fun q : Int32 => ((some (.int (q)), ((stp, psz, gk, gl, gh, opn, cki, ckl, mp, rk, rv, ri, chk), (mo, mi, ml, mk, mlo, mhi, pk, ps, pl, ph, mm), out)) : Option Value × x_S)) (s_Jg_usesEmpty stp gk j)) 0 0 := by
  refine x_start (κ := x_k D cA ad) (cc := b_Jg_usesEmpty) (F := x_F ad cA) (wr := (fun q : Int32 => ((some (.int (q)), ((stp, psz, gk, gl, gh, opn, cki, ckl, mp, rk, rv, ri, chk), (mo, mi, ml, mk, mlo, mhi, pk, ps, pl, ph, mm), out)) : Option Value × x_S))) (q := s_Jg_usesEmpty stp gk j) (ret := (Option.some Jvm.ClassFile.FieldType.boolean)) (lv0 := [(0, (.ref (ad (9, 0)))), (1, (.ref (ad (3, j))))]) ok (by decide) rfl (Nat.le_of_ble_eq_true rfl) rfl ?_
  intro p e s m below meth c C hr hlk
  unfold s_Jg_usesEmpty
  refine x_aload_n 1 C d_Jg_usesEmpty_0 rfl rfl ?_
  refine x_get (i := (3, j)) (v := (.int (stp j 0))) 0 C (m_3 hj) rfl rfl i_St (by decide) (List.mem_cons_of_mem _ q_44) rfl d_Jg_usesEmpty_1 ?_
  refine x_bipush (v := 16) C d_Jg_usesEmpty_4 (by decide) ?_
  refine x_icmp_ne 64 C d_Jg_usesEmpty_6 (by decide) (fun z1 => ?_) (fun z1 => ?_)
  · refine x_aload_n 1 C d_Jg_usesEmpty_9 rfl rfl ?_
    refine x_get (i := (3, j)) (v := (.int (stp j 3))) 3 C (m_3 hj) rfl rfl i_St (by decide) (List.mem_cons_of_mem _ q_61) rfl d_Jg_usesEmpty_10 ?_
    refine x_iconst (v := 1) C d_Jg_usesEmpty_13 (by decide) ?_
    refine x_icmp_ne 28 C d_Jg_usesEmpty_14 (by decide) (fun z2 => ?_) (fun z2 => ?_)
    · refine x_aload_n 0 C d_Jg_usesEmpty_17 rfl rfl ?_
      refine x_get (i := (9, 0)) (v := (.ref (ad (5, 0)))) 1 C m_9 rfl rfl i_Jg (by decide) (List.mem_cons_of_mem _ q_117) rfl d_Jg_usesEmpty_18 ?_
      refine x_iconst (v := 1) C d_Jg_usesEmpty_21 (by decide) ?_
      refine x_cv (i := (5, 0)) (F := x_F ad cA) (As := [(.int 1)]) (rest := []) C k_Gs_isEmpty q_447 (c_Gs_isEmpty ok 0 (by decide) 1 (x_vin (by decide))) rfl rfl rfl (Nat.le_of_ble_eq_true rfl) (Nat.le_of_ble_eq_true rfl) (m_5 (by decide)) rfl rfl rfl rfl rfl (Nat.le_of_ble_eq_true rfl) d_Jg_usesEmpty_22 ⟨Nat.zero_le _, Nat.zero_le _⟩ ?_
      generalize hq3 : s_Gs_isEmpty gk 0 1 = r3
      refine x_lets ?_
      refine x_if_ne 58 C d_Jg_usesEmpty_25 (by decide) (fun z4 => ?_) (fun z4 => ?_)
      · refine x_aload_n 1 C d_Jg_usesEmpty_28 rfl rfl ?_
        refine x_get (i := (3, j)) (v := (.int (stp j 3))) 3 C (m_3 hj) rfl rfl i_St (by decide) (List.mem_cons_of_mem _ q_61) rfl d_Jg_usesEmpty_29 ?_
        refine x_iconst (v := 2) C d_Jg_usesEmpty_32 (by decide) ?_
        refine x_icmp_ne 62 C d_Jg_usesEmpty_33 (by decide) (fun z5 => ?_) (fun z5 => ?_)
        · refine x_aload_n 0 C d_Jg_usesEmpty_36 rfl rfl ?_
          refine x_get (i := (9, 0)) (v := (.ref (ad (5, 0)))) 1 C m_9 rfl rfl i_Jg (by decide) (List.mem_cons_of_mem _ q_117) rfl d_Jg_usesEmpty_37 ?_
          refine x_iconst (v := 1) C d_Jg_usesEmpty_40 (by decide) ?_
          refine x_cv (i := (5, 0)) (F := x_F ad cA) (As := [(.int 1)]) (rest := []) C k_Gs_isEmpty q_447 (c_Gs_isEmpty ok 0 (by decide) 1 (x_vin (by decide))) rfl rfl rfl (Nat.le_of_ble_eq_true rfl) (Nat.le_of_ble_eq_true rfl) (m_5 (by decide)) rfl rfl rfl rfl rfl (Nat.le_of_ble_eq_true rfl) d_Jg_usesEmpty_41 ⟨Nat.zero_le _, Nat.zero_le _⟩ ?_
          rw [hq3]
          refine x_if_ne 58 C d_Jg_usesEmpty_44 (by decide) (fun z6 => ?_) (fun z6 => ?_)
          · refine x_aload_n 0 C d_Jg_usesEmpty_47 rfl rfl ?_
            refine x_get (i := (9, 0)) (v := (.ref (ad (5, 0)))) 1 C m_9 rfl rfl i_Jg (by decide) (List.mem_cons_of_mem _ q_117) rfl d_Jg_usesEmpty_48 ?_
            refine x_iconst (v := 2) C d_Jg_usesEmpty_51 (by decide) ?_
            refine x_cv (i := (5, 0)) (F := x_F ad cA) (As := [(.int 2)]) (rest := []) C k_Gs_isEmpty q_447 (c_Gs_isEmpty ok 0 (by decide) 2 (x_vin (by decide))) rfl rfl rfl (Nat.le_of_ble_eq_true rfl) (Nat.le_of_ble_eq_true rfl) (m_5 (by decide)) rfl rfl rfl rfl rfl (Nat.le_of_ble_eq_true rfl) d_Jg_usesEmpty_52 ⟨Nat.zero_le _, Nat.zero_le _⟩ ?_
            generalize hq7 : s_Gs_isEmpty gk 0 2 = r7
            refine x_lets ?_
            refine x_if_eq 62 C d_Jg_usesEmpty_55 (by decide) (fun z8 => ?_) (fun z8 => ?_)
            · refine x_iconst (v := 0) C d_Jg_usesEmpty_62 (by decide) ?_
              exact x_zret C hr hlk rfl rfl d_Jg_usesEmpty_63
            · refine x_iconst (v := 1) C d_Jg_usesEmpty_58 (by decide) ?_
              refine x_goto 63 C d_Jg_usesEmpty_59 (by decide) ?_
              exact x_zret C hr hlk rfl rfl d_Jg_usesEmpty_63
          · refine x_iconst (v := 1) C d_Jg_usesEmpty_58 (by decide) ?_
            refine x_goto 63 C d_Jg_usesEmpty_59 (by decide) ?_
            exact x_zret C hr hlk rfl rfl d_Jg_usesEmpty_63
        · refine x_iconst (v := 0) C d_Jg_usesEmpty_62 (by decide) ?_
          exact x_zret C hr hlk rfl rfl d_Jg_usesEmpty_63
      · refine x_iconst (v := 1) C d_Jg_usesEmpty_58 (by decide) ?_
        refine x_goto 63 C d_Jg_usesEmpty_59 (by decide) ?_
        exact x_zret C hr hlk rfl rfl d_Jg_usesEmpty_63
    · refine x_aload_n 1 C d_Jg_usesEmpty_28 rfl rfl ?_
      refine x_get (i := (3, j)) (v := (.int (stp j 3))) 3 C (m_3 hj) rfl rfl i_St (by decide) (List.mem_cons_of_mem _ q_61) rfl d_Jg_usesEmpty_29 ?_
      refine x_iconst (v := 2) C d_Jg_usesEmpty_32 (by decide) ?_
      refine x_icmp_ne 62 C d_Jg_usesEmpty_33 (by decide) (fun z9 => ?_) (fun z9 => ?_)
      · refine x_aload_n 0 C d_Jg_usesEmpty_36 rfl rfl ?_
        refine x_get (i := (9, 0)) (v := (.ref (ad (5, 0)))) 1 C m_9 rfl rfl i_Jg (by decide) (List.mem_cons_of_mem _ q_117) rfl d_Jg_usesEmpty_37 ?_
        refine x_iconst (v := 1) C d_Jg_usesEmpty_40 (by decide) ?_
        refine x_cv (i := (5, 0)) (F := x_F ad cA) (As := [(.int 1)]) (rest := []) C k_Gs_isEmpty q_447 (c_Gs_isEmpty ok 0 (by decide) 1 (x_vin (by decide))) rfl rfl rfl (Nat.le_of_ble_eq_true rfl) (Nat.le_of_ble_eq_true rfl) (m_5 (by decide)) rfl rfl rfl rfl rfl (Nat.le_of_ble_eq_true rfl) d_Jg_usesEmpty_41 ⟨Nat.zero_le _, Nat.zero_le _⟩ ?_
        generalize hq10 : s_Gs_isEmpty gk 0 1 = r10
        refine x_lets ?_
        refine x_if_ne 58 C d_Jg_usesEmpty_44 (by decide) (fun z11 => ?_) (fun z11 => ?_)
        · refine x_aload_n 0 C d_Jg_usesEmpty_47 rfl rfl ?_
          refine x_get (i := (9, 0)) (v := (.ref (ad (5, 0)))) 1 C m_9 rfl rfl i_Jg (by decide) (List.mem_cons_of_mem _ q_117) rfl d_Jg_usesEmpty_48 ?_
          refine x_iconst (v := 2) C d_Jg_usesEmpty_51 (by decide) ?_
          refine x_cv (i := (5, 0)) (F := x_F ad cA) (As := [(.int 2)]) (rest := []) C k_Gs_isEmpty q_447 (c_Gs_isEmpty ok 0 (by decide) 2 (x_vin (by decide))) rfl rfl rfl (Nat.le_of_ble_eq_true rfl) (Nat.le_of_ble_eq_true rfl) (m_5 (by decide)) rfl rfl rfl rfl rfl (Nat.le_of_ble_eq_true rfl) d_Jg_usesEmpty_52 ⟨Nat.zero_le _, Nat.zero_le _⟩ ?_
          generalize hq12 : s_Gs_isEmpty gk 0 2 = r12
          refine x_lets ?_
          refine x_if_eq 62 C d_Jg_usesEmpty_55 (by decide) (fun z13 => ?_) (fun z13 => ?_)
          · refine x_iconst (v := 0) C d_Jg_usesEmpty_62 (by decide) ?_
            exact x_zret C hr hlk rfl rfl d_Jg_usesEmpty_63
          · refine x_iconst (v := 1) C d_Jg_usesEmpty_58 (by decide) ?_
            refine x_goto 63 C d_Jg_usesEmpty_59 (by decide) ?_
            exact x_zret C hr hlk rfl rfl d_Jg_usesEmpty_63
        · refine x_iconst (v := 1) C d_Jg_usesEmpty_58 (by decide) ?_
          refine x_goto 63 C d_Jg_usesEmpty_59 (by decide) ?_
          exact x_zret C hr hlk rfl rfl d_Jg_usesEmpty_63
      · refine x_iconst (v := 0) C d_Jg_usesEmpty_62 (by decide) ?_
        exact x_zret C hr hlk rfl rfl d_Jg_usesEmpty_63
  · refine x_aload_n 1 C d_Jg_usesEmpty_64 rfl rfl ?_
    refine x_get (i := (3, j)) (v := (.int (stp j 0))) 0 C (m_3 hj) rfl rfl i_St (by decide) (List.mem_cons_of_mem _ q_44) rfl d_Jg_usesEmpty_65 ?_
    refine x_bipush (v := 17) C d_Jg_usesEmpty_68 (by decide) ?_
    refine x_icmp_ne 82 C d_Jg_usesEmpty_70 (by decide) (fun z14 => ?_) (fun z14 => ?_)
    · refine x_aload_n 0 C d_Jg_usesEmpty_73 rfl rfl ?_
      refine x_get (i := (9, 0)) (v := (.ref (ad (5, 0)))) 1 C m_9 rfl rfl i_Jg (by decide) (List.mem_cons_of_mem _ q_117) rfl d_Jg_usesEmpty_74 ?_
      refine x_iconst (v := 0) C d_Jg_usesEmpty_77 (by decide) ?_
      refine x_cv (i := (5, 0)) (F := x_F ad cA) (As := [(.int 0)]) (rest := []) C k_Gs_isEmpty q_447 (c_Gs_isEmpty ok 0 (by decide) 0 (x_vin (by decide))) rfl rfl rfl (Nat.le_of_ble_eq_true rfl) (Nat.le_of_ble_eq_true rfl) (m_5 (by decide)) rfl rfl rfl rfl rfl (Nat.le_of_ble_eq_true rfl) d_Jg_usesEmpty_78 ⟨Nat.zero_le _, Nat.zero_le _⟩ ?_
      generalize hq15 : s_Gs_isEmpty gk 0 0 = r15
      refine x_lets ?_
      exact x_zret C hr hlk (by rw [← hq15]; exact z_Gs_isEmpty) rfl d_Jg_usesEmpty_81
    · refine x_aload_n 1 C d_Jg_usesEmpty_82 rfl rfl ?_
      refine x_cv (i := (3, j)) (F := x_F ad cA) (As := []) (rest := []) C k_St_usesD q_451 (c_St_usesD ok j hj) rfl rfl rfl (Nat.le_of_ble_eq_true rfl) (Nat.le_of_ble_eq_true rfl) (m_3 hj) rfl rfl rfl rfl rfl (Nat.le_of_ble_eq_true rfl) d_Jg_usesEmpty_83 ⟨Nat.zero_le _, Nat.zero_le _⟩ ?_
      generalize hq16 : s_St_usesD stp j = r16
      refine x_lets ?_
      refine x_if_eq 103 C d_Jg_usesEmpty_86 (by decide) (fun z17 => ?_) (fun z17 => ?_)
      · refine x_aload_n 1 C d_Jg_usesEmpty_103 rfl rfl ?_
        refine x_cv (i := (3, j)) (F := x_F ad cA) (As := []) (rest := []) C k_St_usesS q_455 (c_St_usesS ok j hj) rfl rfl rfl (Nat.le_of_ble_eq_true rfl) (Nat.le_of_ble_eq_true rfl) (m_3 hj) rfl rfl rfl rfl rfl (Nat.le_of_ble_eq_true rfl) d_Jg_usesEmpty_104 ⟨Nat.zero_le _, Nat.zero_le _⟩ ?_
        generalize hq18 : s_St_usesS stp j = r18
        refine x_lets ?_
        refine x_if_eq 128 C d_Jg_usesEmpty_107 (by decide) (fun z19 => ?_) (fun z19 => ?_)
        · refine x_iconst (v := 0) C d_Jg_usesEmpty_128 (by decide) ?_
          exact x_zret C hr hlk rfl rfl d_Jg_usesEmpty_129
        · refine x_aload_n 0 C d_Jg_usesEmpty_110 rfl rfl ?_
          refine x_get (i := (9, 0)) (v := (.ref (ad (5, 0)))) 1 C m_9 rfl rfl i_Jg (by decide) (List.mem_cons_of_mem _ q_117) rfl d_Jg_usesEmpty_111 ?_
          refine x_aload_n 1 C d_Jg_usesEmpty_114 rfl rfl ?_
          refine x_get (i := (3, j)) (v := (.int (stp j 2))) 2 C (m_3 hj) rfl rfl i_St (by decide) (List.mem_cons_of_mem _ q_55) rfl d_Jg_usesEmpty_115 ?_
          refine x_cv (i := (5, 0)) (F := x_F ad cA) (As := [(.int (stp j 2))]) (rest := []) C k_Gs_isEmpty q_447 (c_Gs_isEmpty ok 0 (by decide) (stp j 2) (x_wfs hw hj)) rfl rfl rfl (Nat.le_of_ble_eq_true rfl) (Nat.le_of_ble_eq_true rfl) (m_5 (by decide)) rfl rfl rfl rfl rfl (Nat.le_of_ble_eq_true rfl) d_Jg_usesEmpty_118 ⟨Nat.zero_le _, Nat.zero_le _⟩ ?_
          generalize hq20 : s_Gs_isEmpty gk 0 (stp j 2) = r20
          refine x_lets ?_
          refine x_if_eq 128 C d_Jg_usesEmpty_121 (by decide) (fun z21 => ?_) (fun z21 => ?_)
          · refine x_iconst (v := 0) C d_Jg_usesEmpty_128 (by decide) ?_
            exact x_zret C hr hlk rfl rfl d_Jg_usesEmpty_129
          · refine x_iconst (v := 1) C d_Jg_usesEmpty_124 (by decide) ?_
            refine x_goto 129 C d_Jg_usesEmpty_125 (by decide) ?_
            exact x_zret C hr hlk rfl rfl d_Jg_usesEmpty_129
      · refine x_aload_n 0 C d_Jg_usesEmpty_89 rfl rfl ?_
        refine x_get (i := (9, 0)) (v := (.ref (ad (5, 0)))) 1 C m_9 rfl rfl i_Jg (by decide) (List.mem_cons_of_mem _ q_117) rfl d_Jg_usesEmpty_90 ?_
        refine x_aload_n 1 C d_Jg_usesEmpty_93 rfl rfl ?_
        refine x_get (i := (3, j)) (v := (.int (stp j 1))) 1 C (m_3 hj) rfl rfl i_St (by decide) (List.mem_cons_of_mem _ q_50) rfl d_Jg_usesEmpty_94 ?_
        refine x_cv (i := (5, 0)) (F := x_F ad cA) (As := [(.int (stp j 1))]) (rest := []) C k_Gs_isEmpty q_447 (c_Gs_isEmpty ok 0 (by decide) (stp j 1) (x_wfd hw hj)) rfl rfl rfl (Nat.le_of_ble_eq_true rfl) (Nat.le_of_ble_eq_true rfl) (m_5 (by decide)) rfl rfl rfl rfl rfl (Nat.le_of_ble_eq_true rfl) d_Jg_usesEmpty_97 ⟨Nat.zero_le _, Nat.zero_le _⟩ ?_
        generalize hq22 : s_Gs_isEmpty gk 0 (stp j 1) = r22
        refine x_lets ?_
        refine x_if_ne 124 C d_Jg_usesEmpty_100 (by decide) (fun z23 => ?_) (fun z23 => ?_)
        · refine x_aload_n 1 C d_Jg_usesEmpty_103 rfl rfl ?_
          refine x_cv (i := (3, j)) (F := x_F ad cA) (As := []) (rest := []) C k_St_usesS q_455 (c_St_usesS ok j hj) rfl rfl rfl (Nat.le_of_ble_eq_true rfl) (Nat.le_of_ble_eq_true rfl) (m_3 hj) rfl rfl rfl rfl rfl (Nat.le_of_ble_eq_true rfl) d_Jg_usesEmpty_104 ⟨Nat.zero_le _, Nat.zero_le _⟩ ?_
          generalize hq24 : s_St_usesS stp j = r24
          refine x_lets ?_
          refine x_if_eq 128 C d_Jg_usesEmpty_107 (by decide) (fun z25 => ?_) (fun z25 => ?_)
          · refine x_iconst (v := 0) C d_Jg_usesEmpty_128 (by decide) ?_
            exact x_zret C hr hlk rfl rfl d_Jg_usesEmpty_129
          · refine x_aload_n 0 C d_Jg_usesEmpty_110 rfl rfl ?_
            refine x_get (i := (9, 0)) (v := (.ref (ad (5, 0)))) 1 C m_9 rfl rfl i_Jg (by decide) (List.mem_cons_of_mem _ q_117) rfl d_Jg_usesEmpty_111 ?_
            refine x_aload_n 1 C d_Jg_usesEmpty_114 rfl rfl ?_
            refine x_get (i := (3, j)) (v := (.int (stp j 2))) 2 C (m_3 hj) rfl rfl i_St (by decide) (List.mem_cons_of_mem _ q_55) rfl d_Jg_usesEmpty_115 ?_
            refine x_cv (i := (5, 0)) (F := x_F ad cA) (As := [(.int (stp j 2))]) (rest := []) C k_Gs_isEmpty q_447 (c_Gs_isEmpty ok 0 (by decide) (stp j 2) (x_wfs hw hj)) rfl rfl rfl (Nat.le_of_ble_eq_true rfl) (Nat.le_of_ble_eq_true rfl) (m_5 (by decide)) rfl rfl rfl rfl rfl (Nat.le_of_ble_eq_true rfl) d_Jg_usesEmpty_118 ⟨Nat.zero_le _, Nat.zero_le _⟩ ?_
            generalize hq26 : s_Gs_isEmpty gk 0 (stp j 2) = r26
            refine x_lets ?_
            refine x_if_eq 128 C d_Jg_usesEmpty_121 (by decide) (fun z27 => ?_) (fun z27 => ?_)
            · refine x_iconst (v := 0) C d_Jg_usesEmpty_128 (by decide) ?_
              exact x_zret C hr hlk rfl rfl d_Jg_usesEmpty_129
            · refine x_iconst (v := 1) C d_Jg_usesEmpty_124 (by decide) ?_
              refine x_goto 129 C d_Jg_usesEmpty_125 (by decide) ?_
              exact x_zret C hr hlk rfl rfl d_Jg_usesEmpty_129
        · refine x_iconst (v := 1) C d_Jg_usesEmpty_124 (by decide) ?_
          refine x_goto 129 C d_Jg_usesEmpty_125 (by decide) ?_
          exact x_zret C hr hlk rfl rfl d_Jg_usesEmpty_129
def s_Jg_hasBadNumber (stp : Nat → Nat → Int32) (j : Nat) : Int32 :=
  (if (stp j 0) = 7 then (if (stp j 3) < 0 then (1) else (if (stp j 3) ≤ 63 then (0) else (1))) else if (stp j 0) = 8 then (if (stp j 3) = 0 then (1) else (0)) else if (stp j 0) = 16 then (if (stp j 3) < 0 then (1) else (if (stp j 3) ≤ 2 then (0) else (1))) else (0))
set_option maxHeartbeats 4000000 in
set_option maxRecDepth 100000 in
theorem c_Jg_hasBadNumber {l : Launch} {D : va_G} {cA : Nat → ClassId} {ad : x_I → Nat} (ok : x_ok (x_k D cA ad)) {stp : Nat → Nat → Int32} {psz : Int32} {gk : Nat → Nat → Int32} {gl : Nat → Nat → Int64} {gh : Nat → Nat → Int64} {opn : Nat → Int32} {cki : Nat → Int32} {ckl : Nat → Int64} {mp : Nat → Nat → Int64} {rk : Nat → Int32} {rv : Nat → Int64} {ri : Nat → Int32} {chk : Int32} {mo : Nat → Nat → Int32} {mi : Nat → Int32} {ml : Nat → Int64} {mk : Nat → Int32} {mlo : Nat → Int64} {mhi : Nat → Int64} {pk : Nat → Int32} {ps : Nat → Int32} {pl : Nat → Int64} {ph : Nat → Int64} {mm : Nat → Int64} {out : Nat → Int64} (j : Nat) (hj : j < 24) : x_M l y_Jg_hasBadNumber (Cond.code y_Jg_hasBadNumber b_Jg_hasBadNumber 1 (Option.some Jvm.ClassFile.FieldType.boolean) :: x_Wd) { frames := 0, cells := 0, slots := 0, locals := 0 } (x_k D cA ad) (x_F ad cA) [(.ref (ad (3, j)))] ((stp, psz, gk, gl, gh, opn, cki, ckl, mp, rk, rv, ri, chk), (mo, mi, ml, mk, mlo, mhi, pk, ps, pl, ph, mm), out) ((fun q : Int32 => ((some (.int (q)), ((stp, psz, gk, gl, gh, opn, cki, ckl, mp, rk, rv, ri, chk), (mo, mi, ml, mk, mlo, mhi, pk, ps, pl, ph, mm), out)) : Option Value × x_S)) (s_Jg_hasBadNumber stp j)) 0 0 := by
  refine x_start (κ := x_k D cA ad) (cc := b_Jg_hasBadNumber) (F := x_F ad cA) (wr := (fun q : Int32 => ((some (.int (q)), ((stp, psz, gk, gl, gh, opn, cki, ckl, mp, rk, rv, ri, chk), (mo, mi, ml, mk, mlo, mhi, pk, ps, pl, ph, mm), out)) : Option Value × x_S))) (q := s_Jg_hasBadNumber stp j) (ret := (Option.some Jvm.ClassFile.FieldType.boolean)) (lv0 := [(0, (.ref (ad (3, j))))]) ok (by decide) rfl (Nat.le_of_ble_eq_true rfl) rfl ?_
  intro p e s m below meth c C hr hlk
  unfold s_Jg_hasBadNumber
  refine x_aload_n 0 C d_Jg_hasBadNumber_0 rfl rfl ?_
  refine x_get (i := (3, j)) (v := (.int (stp j 0))) 0 C (m_3 hj) rfl rfl i_St (by decide) (List.mem_cons_of_mem _ q_44) rfl d_Jg_hasBadNumber_1 ?_
  refine x_ite (fun z1 => ?_) (fun z1 => ?_)
  · refine x_lsw 40 C d_Jg_hasBadNumber_4 (by decide) (by first | (rw [z1]; done) | (rw [z1]; rfl)) (by decide) ?_
    refine x_aload_n 0 C d_Jg_hasBadNumber_40 rfl rfl ?_
    refine x_get (i := (3, j)) (v := (.int (stp j 3))) 3 C (m_3 hj) rfl rfl i_St (by decide) (List.mem_cons_of_mem _ q_61) rfl d_Jg_hasBadNumber_41 ?_
    refine x_if_lt 56 C d_Jg_hasBadNumber_44 (by decide) (fun z2 => ?_) (fun z2 => ?_)
    · refine x_iconst (v := 1) C d_Jg_hasBadNumber_56 (by decide) ?_
      refine x_goto 61 C d_Jg_hasBadNumber_57 (by decide) ?_
      exact x_zret C hr hlk rfl rfl d_Jg_hasBadNumber_61
    · refine x_aload_n 0 C d_Jg_hasBadNumber_47 rfl rfl ?_
      refine x_get (i := (3, j)) (v := (.int (stp j 3))) 3 C (m_3 hj) rfl rfl i_St (by decide) (List.mem_cons_of_mem _ q_61) rfl d_Jg_hasBadNumber_48 ?_
      refine x_bipush (v := 63) C d_Jg_hasBadNumber_51 (by decide) ?_
      refine x_icmp_le 60 C d_Jg_hasBadNumber_53 (by decide) (fun z3 => ?_) (fun z3 => ?_)
      · refine x_iconst (v := 0) C d_Jg_hasBadNumber_60 (by decide) ?_
        exact x_zret C hr hlk rfl rfl d_Jg_hasBadNumber_61
      · refine x_iconst (v := 1) C d_Jg_hasBadNumber_56 (by decide) ?_
        refine x_goto 61 C d_Jg_hasBadNumber_57 (by decide) ?_
        exact x_zret C hr hlk rfl rfl d_Jg_hasBadNumber_61
  refine x_ite (fun z4 => ?_) (fun z4 => ?_)
  · refine x_lsw 62 C d_Jg_hasBadNumber_4 (by decide) (by first | (rw [z4]; done) | (rw [z4]; rfl)) (by decide) ?_
    refine x_aload_n 0 C d_Jg_hasBadNumber_62 rfl rfl ?_
    refine x_get (i := (3, j)) (v := (.int (stp j 3))) 3 C (m_3 hj) rfl rfl i_St (by decide) (List.mem_cons_of_mem _ q_61) rfl d_Jg_hasBadNumber_63 ?_
    refine x_if_ne 73 C d_Jg_hasBadNumber_66 (by decide) (fun z5 => ?_) (fun z5 => ?_)
    · refine x_iconst (v := 1) C d_Jg_hasBadNumber_69 (by decide) ?_
      refine x_goto 74 C d_Jg_hasBadNumber_70 (by decide) ?_
      exact x_zret C hr hlk rfl rfl d_Jg_hasBadNumber_74
    · refine x_iconst (v := 0) C d_Jg_hasBadNumber_73 (by decide) ?_
      exact x_zret C hr hlk rfl rfl d_Jg_hasBadNumber_74
  refine x_ite (fun z6 => ?_) (fun z6 => ?_)
  · refine x_lsw 75 C d_Jg_hasBadNumber_4 (by decide) (by first | (rw [z6]; done) | (rw [z6]; rfl)) (by decide) ?_
    refine x_aload_n 0 C d_Jg_hasBadNumber_75 rfl rfl ?_
    refine x_get (i := (3, j)) (v := (.int (stp j 3))) 3 C (m_3 hj) rfl rfl i_St (by decide) (List.mem_cons_of_mem _ q_61) rfl d_Jg_hasBadNumber_76 ?_
    refine x_if_lt 90 C d_Jg_hasBadNumber_79 (by decide) (fun z7 => ?_) (fun z7 => ?_)
    · refine x_iconst (v := 1) C d_Jg_hasBadNumber_90 (by decide) ?_
      refine x_goto 95 C d_Jg_hasBadNumber_91 (by decide) ?_
      exact x_zret C hr hlk rfl rfl d_Jg_hasBadNumber_95
    · refine x_aload_n 0 C d_Jg_hasBadNumber_82 rfl rfl ?_
      refine x_get (i := (3, j)) (v := (.int (stp j 3))) 3 C (m_3 hj) rfl rfl i_St (by decide) (List.mem_cons_of_mem _ q_61) rfl d_Jg_hasBadNumber_83 ?_
      refine x_iconst (v := 2) C d_Jg_hasBadNumber_86 (by decide) ?_
      refine x_icmp_le 94 C d_Jg_hasBadNumber_87 (by decide) (fun z8 => ?_) (fun z8 => ?_)
      · refine x_iconst (v := 0) C d_Jg_hasBadNumber_94 (by decide) ?_
        exact x_zret C hr hlk rfl rfl d_Jg_hasBadNumber_95
      · refine x_iconst (v := 1) C d_Jg_hasBadNumber_90 (by decide) ?_
        refine x_goto 95 C d_Jg_hasBadNumber_91 (by decide) ?_
        exact x_zret C hr hlk rfl rfl d_Jg_hasBadNumber_95
  refine x_lswE 96 [7, 8, 16] C d_Jg_hasBadNumber_4 (by decide) (List.forall_mem_cons.mpr ⟨x_nik z1 (by decide), List.forall_mem_cons.mpr ⟨x_nik z4 (by decide), List.forall_mem_cons.mpr ⟨x_nik z6 (by decide), fun _ h => absurd h List.not_mem_nil⟩⟩⟩) (by decide) ?_
  refine x_iconst (v := 0) C d_Jg_hasBadNumber_96 (by decide) ?_
  exact x_zret C hr hlk rfl rfl d_Jg_hasBadNumber_97
def s_Jg_isRangeOrPlace (gk : Nat → Nat → Int32) (a1 : Int32) : Int32 :=
  (x_let (s_Gs_isRange gk 0 a1) fun r1 => (if r1 = 0 then (x_let (s_Gs_isPlace gk 0 a1) fun r3 => (if r3 = 0 then (0) else (1))) else (1)))
set_option maxHeartbeats 4000000 in
set_option maxRecDepth 100000 in
theorem c_Jg_isRangeOrPlace {l : Launch} {D : va_G} {cA : Nat → ClassId} {ad : x_I → Nat} (ok : x_ok (x_k D cA ad)) {stp : Nat → Nat → Int32} {psz : Int32} {gk : Nat → Nat → Int32} {gl : Nat → Nat → Int64} {gh : Nat → Nat → Int64} {opn : Nat → Int32} {cki : Nat → Int32} {ckl : Nat → Int64} {mp : Nat → Nat → Int64} {rk : Nat → Int32} {rv : Nat → Int64} {ri : Nat → Int32} {chk : Int32} {mo : Nat → Nat → Int32} {mi : Nat → Int32} {ml : Nat → Int64} {mk : Nat → Int32} {mlo : Nat → Int64} {mhi : Nat → Int64} {pk : Nat → Int32} {ps : Nat → Int32} {pl : Nat → Int64} {ph : Nat → Int64} {mm : Nat → Int64} {out : Nat → Int64} (a1 : Int32) (h1 : vp_in a1 12) : x_M l y_Jg_isRangeOrPlace (Cond.code y_Jg_isRangeOrPlace b_Jg_isRangeOrPlace 2 (Option.some Jvm.ClassFile.FieldType.boolean) :: x_Wd) { frames := 1, cells := 0, slots := 0, locals := 21 } (x_k D cA ad) (x_F ad cA) [(.ref (ad (9, 0))), (.int a1)] ((stp, psz, gk, gl, gh, opn, cki, ckl, mp, rk, rv, ri, chk), (mo, mi, ml, mk, mlo, mhi, pk, ps, pl, ph, mm), out) ((fun q : Int32 => ((some (.int (q)), ((stp, psz, gk, gl, gh, opn, cki, ckl, mp, rk, rv, ri, chk), (mo, mi, ml, mk, mlo, mhi, pk, ps, pl, ph, mm), out)) : Option Value × x_S)) (s_Jg_isRangeOrPlace gk a1)) 0 0 := by
  refine x_start (κ := x_k D cA ad) (cc := b_Jg_isRangeOrPlace) (F := x_F ad cA) (wr := (fun q : Int32 => ((some (.int (q)), ((stp, psz, gk, gl, gh, opn, cki, ckl, mp, rk, rv, ri, chk), (mo, mi, ml, mk, mlo, mhi, pk, ps, pl, ph, mm), out)) : Option Value × x_S))) (q := s_Jg_isRangeOrPlace gk a1) (ret := (Option.some Jvm.ClassFile.FieldType.boolean)) (lv0 := [(0, (.ref (ad (9, 0)))), (1, (.int a1))]) ok (by decide) rfl (Nat.le_of_ble_eq_true rfl) rfl ?_
  intro p e s m below meth c C hr hlk
  unfold s_Jg_isRangeOrPlace
  refine x_aload_n 0 C d_Jg_isRangeOrPlace_0 rfl rfl ?_
  refine x_get (i := (9, 0)) (v := (.ref (ad (5, 0)))) 1 C m_9 rfl rfl i_Jg (by decide) (List.mem_cons_of_mem _ q_117) rfl d_Jg_isRangeOrPlace_1 ?_
  refine x_iload_n 1 C d_Jg_isRangeOrPlace_4 rfl rfl ?_
  refine x_cv (i := (5, 0)) (F := x_F ad cA) (As := [(.int a1)]) (rest := []) C k_Gs_isRange q_470 (c_Gs_isRange ok 0 (by decide) a1 h1) rfl rfl rfl (Nat.le_of_ble_eq_true rfl) (Nat.le_of_ble_eq_true rfl) (m_5 (by decide)) rfl rfl rfl rfl rfl (Nat.le_of_ble_eq_true rfl) d_Jg_isRangeOrPlace_5 ⟨Nat.zero_le _, Nat.zero_le _⟩ ?_
  generalize hq1 : s_Gs_isRange gk 0 a1 = r1
  refine x_lets ?_
  refine x_if_ne 22 C d_Jg_isRangeOrPlace_8 (by decide) (fun z2 => ?_) (fun z2 => ?_)
  · refine x_aload_n 0 C d_Jg_isRangeOrPlace_11 rfl rfl ?_
    refine x_get (i := (9, 0)) (v := (.ref (ad (5, 0)))) 1 C m_9 rfl rfl i_Jg (by decide) (List.mem_cons_of_mem _ q_117) rfl d_Jg_isRangeOrPlace_12 ?_
    refine x_iload_n 1 C d_Jg_isRangeOrPlace_15 rfl rfl ?_
    refine x_cv (i := (5, 0)) (F := x_F ad cA) (As := [(.int a1)]) (rest := []) C k_Gs_isPlace q_474 (c_Gs_isPlace ok 0 (by decide) a1 h1) rfl rfl rfl (Nat.le_of_ble_eq_true rfl) (Nat.le_of_ble_eq_true rfl) (m_5 (by decide)) rfl rfl rfl rfl rfl (Nat.le_of_ble_eq_true rfl) d_Jg_isRangeOrPlace_16 ⟨Nat.zero_le _, Nat.zero_le _⟩ ?_
    generalize hq3 : s_Gs_isPlace gk 0 a1 = r3
    refine x_lets ?_
    refine x_if_eq 26 C d_Jg_isRangeOrPlace_19 (by decide) (fun z4 => ?_) (fun z4 => ?_)
    · refine x_iconst (v := 0) C d_Jg_isRangeOrPlace_26 (by decide) ?_
      exact x_zret C hr hlk rfl rfl d_Jg_isRangeOrPlace_27
    · refine x_iconst (v := 1) C d_Jg_isRangeOrPlace_22 (by decide) ?_
      refine x_goto 27 C d_Jg_isRangeOrPlace_23 (by decide) ?_
      exact x_zret C hr hlk rfl rfl d_Jg_isRangeOrPlace_27
  · refine x_iconst (v := 1) C d_Jg_isRangeOrPlace_22 (by decide) ?_
    refine x_goto 27 C d_Jg_isRangeOrPlace_23 (by decide) ?_
    exact x_zret C hr hlk rfl rfl d_Jg_isRangeOrPlace_27
def s_Jg_isMaybeMissing (stp : Nat → Nat → Int32) (gk : Nat → Nat → Int32) (j : Nat) : Int32 :=
  (x_let (s_Gs_kind gk 0 (stp j 1)) fun r1 => (if r1 = 4 then (if (stp j 3) = 0 then (1) else (0)) else (0)))
set_option maxHeartbeats 4000000 in
set_option maxRecDepth 100000 in
theorem c_Jg_isMaybeMissing {l : Launch} {D : va_G} {cA : Nat → ClassId} {ad : x_I → Nat} (ok : x_ok (x_k D cA ad)) {stp : Nat → Nat → Int32} {psz : Int32} {gk : Nat → Nat → Int32} {gl : Nat → Nat → Int64} {gh : Nat → Nat → Int64} {opn : Nat → Int32} {cki : Nat → Int32} {ckl : Nat → Int64} {mp : Nat → Nat → Int64} {rk : Nat → Int32} {rv : Nat → Int64} {ri : Nat → Int32} {chk : Int32} {mo : Nat → Nat → Int32} {mi : Nat → Int32} {ml : Nat → Int64} {mk : Nat → Int32} {mlo : Nat → Int64} {mhi : Nat → Int64} {pk : Nat → Int32} {ps : Nat → Int32} {pl : Nat → Int64} {ph : Nat → Int64} {mm : Nat → Int64} {out : Nat → Int64} (j : Nat) (hj : j < 24) (hw : x_wf stp) : x_M l y_Jg_isMaybeMissing (Cond.code y_Jg_isMaybeMissing b_Jg_isMaybeMissing 2 (Option.some Jvm.ClassFile.FieldType.boolean) :: x_Wd) { frames := 1, cells := 0, slots := 0, locals := 21 } (x_k D cA ad) (x_F ad cA) [(.ref (ad (9, 0))), (.ref (ad (3, j)))] ((stp, psz, gk, gl, gh, opn, cki, ckl, mp, rk, rv, ri, chk), (mo, mi, ml, mk, mlo, mhi, pk, ps, pl, ph, mm), out) ((fun q : Int32 => ((some (.int (q)), ((stp, psz, gk, gl, gh, opn, cki, ckl, mp, rk, rv, ri, chk), (mo, mi, ml, mk, mlo, mhi, pk, ps, pl, ph, mm), out)) : Option Value × x_S)) (s_Jg_isMaybeMissing stp gk j)) 0 0 := by
  refine x_start (κ := x_k D cA ad) (cc := b_Jg_isMaybeMissing) (F := x_F ad cA) (wr := (fun q : Int32 => ((some (.int (q)), ((stp, psz, gk, gl, gh, opn, cki, ckl, mp, rk, rv, ri, chk), (mo, mi, ml, mk, mlo, mhi, pk, ps, pl, ph, mm), out)) : Option Value × x_S))) (q := s_Jg_isMaybeMissing stp gk j) (ret := (Option.some Jvm.ClassFile.FieldType.boolean)) (lv0 := [(0, (.ref (ad (9, 0)))), (1, (.ref (ad (3, j))))]) ok (by decide) rfl (Nat.le_of_ble_eq_true rfl) rfl ?_
  intro p e s m below meth c C hr hlk
  unfold s_Jg_isMaybeMissing
  refine x_aload_n 0 C d_Jg_isMaybeMissing_0 rfl rfl ?_
  refine x_get (i := (9, 0)) (v := (.ref (ad (5, 0)))) 1 C m_9 rfl rfl i_Jg (by decide) (List.mem_cons_of_mem _ q_117) rfl d_Jg_isMaybeMissing_1 ?_
  refine x_aload_n 1 C d_Jg_isMaybeMissing_4 rfl rfl ?_
  refine x_get (i := (3, j)) (v := (.int (stp j 1))) 1 C (m_3 hj) rfl rfl i_St (by decide) (List.mem_cons_of_mem _ q_50) rfl d_Jg_isMaybeMissing_5 ?_
  refine x_cv (i := (5, 0)) (F := x_F ad cA) (As := [(.int (stp j 1))]) (rest := []) C k_Gs_kind q_482 (c_Gs_kind ok 0 (by decide) (stp j 1) (x_wfd hw hj)) rfl rfl rfl (Nat.le_of_ble_eq_true rfl) (Nat.le_of_ble_eq_true rfl) (m_5 (by decide)) rfl rfl rfl rfl rfl (Nat.le_of_ble_eq_true rfl) d_Jg_isMaybeMissing_8 ⟨Nat.zero_le _, Nat.zero_le _⟩ ?_
  generalize hq1 : s_Gs_kind gk 0 (stp j 1) = r1
  refine x_lets ?_
  refine x_iconst (v := 4) C d_Jg_isMaybeMissing_11 (by decide) ?_
  refine x_icmp_ne 26 C d_Jg_isMaybeMissing_12 (by decide) (fun z2 => ?_) (fun z2 => ?_)
  · refine x_aload_n 1 C d_Jg_isMaybeMissing_15 rfl rfl ?_
    refine x_get (i := (3, j)) (v := (.int (stp j 3))) 3 C (m_3 hj) rfl rfl i_St (by decide) (List.mem_cons_of_mem _ q_61) rfl d_Jg_isMaybeMissing_16 ?_
    refine x_if_ne 26 C d_Jg_isMaybeMissing_19 (by decide) (fun z3 => ?_) (fun z3 => ?_)
    · refine x_iconst (v := 1) C d_Jg_isMaybeMissing_22 (by decide) ?_
      refine x_goto 27 C d_Jg_isMaybeMissing_23 (by decide) ?_
      exact x_zret C hr hlk rfl rfl d_Jg_isMaybeMissing_27
    · refine x_iconst (v := 0) C d_Jg_isMaybeMissing_26 (by decide) ?_
      exact x_zret C hr hlk rfl rfl d_Jg_isMaybeMissing_27
  · refine x_iconst (v := 0) C d_Jg_isMaybeMissing_26 (by decide) ?_
    exact x_zret C hr hlk rfl rfl d_Jg_isMaybeMissing_27
def s_Jg_callsWithWrongKind (stp : Nat → Nat → Int32) (gk : Nat → Nat → Int32) (j : Nat) : Int32 :=
  (if (stp j 3) = 1 then (x_let (s_Gs_isRange gk 0 1) fun r2 => (if r2 = 0 then (1) else (if (stp j 3) = 2 then (if r2 = 0 then (1) else (x_let (s_Gs_isRange gk 0 2) fun r6 => (if r6 = 0 then (1) else (0)))) else (0)))) else (if (stp j 3) = 2 then (x_let (s_Gs_isRange gk 0 1) fun r9 => (if r9 = 0 then (1) else (x_let (s_Gs_isRange gk 0 2) fun r11 => (if r11 = 0 then (1) else (0))))) else (0)))
set_option maxHeartbeats 4000000 in
set_option maxRecDepth 100000 in
theorem c_Jg_callsWithWrongKind {l : Launch} {D : va_G} {cA : Nat → ClassId} {ad : x_I → Nat} (ok : x_ok (x_k D cA ad)) {stp : Nat → Nat → Int32} {psz : Int32} {gk : Nat → Nat → Int32} {gl : Nat → Nat → Int64} {gh : Nat → Nat → Int64} {opn : Nat → Int32} {cki : Nat → Int32} {ckl : Nat → Int64} {mp : Nat → Nat → Int64} {rk : Nat → Int32} {rv : Nat → Int64} {ri : Nat → Int32} {chk : Int32} {mo : Nat → Nat → Int32} {mi : Nat → Int32} {ml : Nat → Int64} {mk : Nat → Int32} {mlo : Nat → Int64} {mhi : Nat → Int64} {pk : Nat → Int32} {ps : Nat → Int32} {pl : Nat → Int64} {ph : Nat → Int64} {mm : Nat → Int64} {out : Nat → Int64} (j : Nat) (hj : j < 24) : x_M l y_Jg_callsWithWrongKind (Cond.code y_Jg_callsWithWrongKind b_Jg_callsWithWrongKind 2 (Option.some Jvm.ClassFile.FieldType.boolean) :: x_Wd) { frames := 1, cells := 0, slots := 0, locals := 21 } (x_k D cA ad) (x_F ad cA) [(.ref (ad (9, 0))), (.ref (ad (3, j)))] ((stp, psz, gk, gl, gh, opn, cki, ckl, mp, rk, rv, ri, chk), (mo, mi, ml, mk, mlo, mhi, pk, ps, pl, ph, mm), out) ((fun q : Int32 => ((some (.int (q)), ((stp, psz, gk, gl, gh, opn, cki, ckl, mp, rk, rv, ri, chk), (mo, mi, ml, mk, mlo, mhi, pk, ps, pl, ph, mm), out)) : Option Value × x_S)) (s_Jg_callsWithWrongKind stp gk j)) 0 0 := by
  refine x_start (κ := x_k D cA ad) (cc := b_Jg_callsWithWrongKind) (F := x_F ad cA) (wr := (fun q : Int32 => ((some (.int (q)), ((stp, psz, gk, gl, gh, opn, cki, ckl, mp, rk, rv, ri, chk), (mo, mi, ml, mk, mlo, mhi, pk, ps, pl, ph, mm), out)) : Option Value × x_S))) (q := s_Jg_callsWithWrongKind stp gk j) (ret := (Option.some Jvm.ClassFile.FieldType.boolean)) (lv0 := [(0, (.ref (ad (9, 0)))), (1, (.ref (ad (3, j))))]) ok (by decide) rfl (Nat.le_of_ble_eq_true rfl) rfl ?_
  intro p e s m below meth c C hr hlk
  unfold s_Jg_callsWithWrongKind
  refine x_aload_n 1 C d_Jg_callsWithWrongKind_0 rfl rfl ?_
  refine x_get (i := (3, j)) (v := (.int (stp j 3))) 3 C (m_3 hj) rfl rfl i_St (by decide) (List.mem_cons_of_mem _ q_61) rfl d_Jg_callsWithWrongKind_1 ?_
  refine x_iconst (v := 1) C d_Jg_callsWithWrongKind_4 (by decide) ?_
  refine x_icmp_ne 19 C d_Jg_callsWithWrongKind_5 (by decide) (fun z1 => ?_) (fun z1 => ?_)
  · refine x_aload_n 0 C d_Jg_callsWithWrongKind_8 rfl rfl ?_
    refine x_get (i := (9, 0)) (v := (.ref (ad (5, 0)))) 1 C m_9 rfl rfl i_Jg (by decide) (List.mem_cons_of_mem _ q_117) rfl d_Jg_callsWithWrongKind_9 ?_
    refine x_iconst (v := 1) C d_Jg_callsWithWrongKind_12 (by decide) ?_
    refine x_cv (i := (5, 0)) (F := x_F ad cA) (As := [(.int 1)]) (rest := []) C k_Gs_isRange q_470 (c_Gs_isRange ok 0 (by decide) 1 (x_vin (by decide))) rfl rfl rfl (Nat.le_of_ble_eq_true rfl) (Nat.le_of_ble_eq_true rfl) (m_5 (by decide)) rfl rfl rfl rfl rfl (Nat.le_of_ble_eq_true rfl) d_Jg_callsWithWrongKind_13 ⟨Nat.zero_le _, Nat.zero_le _⟩ ?_
    generalize hq2 : s_Gs_isRange gk 0 1 = r2
    refine x_lets ?_
    refine x_if_eq 49 C d_Jg_callsWithWrongKind_16 (by decide) (fun z3 => ?_) (fun z3 => ?_)
    · refine x_iconst (v := 1) C d_Jg_callsWithWrongKind_49 (by decide) ?_
      refine x_goto 54 C d_Jg_callsWithWrongKind_50 (by decide) ?_
      exact x_zret C hr hlk rfl rfl d_Jg_callsWithWrongKind_54
    · refine x_aload_n 1 C d_Jg_callsWithWrongKind_19 rfl rfl ?_
      refine x_get (i := (3, j)) (v := (.int (stp j 3))) 3 C (m_3 hj) rfl rfl i_St (by decide) (List.mem_cons_of_mem _ q_61) rfl d_Jg_callsWithWrongKind_20 ?_
      refine x_iconst (v := 2) C d_Jg_callsWithWrongKind_23 (by decide) ?_
      refine x_icmp_ne 53 C d_Jg_callsWithWrongKind_24 (by decide) (fun z4 => ?_) (fun z4 => ?_)
      · refine x_aload_n 0 C d_Jg_callsWithWrongKind_27 rfl rfl ?_
        refine x_get (i := (9, 0)) (v := (.ref (ad (5, 0)))) 1 C m_9 rfl rfl i_Jg (by decide) (List.mem_cons_of_mem _ q_117) rfl d_Jg_callsWithWrongKind_28 ?_
        refine x_iconst (v := 1) C d_Jg_callsWithWrongKind_31 (by decide) ?_
        refine x_cv (i := (5, 0)) (F := x_F ad cA) (As := [(.int 1)]) (rest := []) C k_Gs_isRange q_470 (c_Gs_isRange ok 0 (by decide) 1 (x_vin (by decide))) rfl rfl rfl (Nat.le_of_ble_eq_true rfl) (Nat.le_of_ble_eq_true rfl) (m_5 (by decide)) rfl rfl rfl rfl rfl (Nat.le_of_ble_eq_true rfl) d_Jg_callsWithWrongKind_32 ⟨Nat.zero_le _, Nat.zero_le _⟩ ?_
        rw [hq2]
        refine x_if_eq 49 C d_Jg_callsWithWrongKind_35 (by decide) (fun z5 => ?_) (fun z5 => ?_)
        · refine x_iconst (v := 1) C d_Jg_callsWithWrongKind_49 (by decide) ?_
          refine x_goto 54 C d_Jg_callsWithWrongKind_50 (by decide) ?_
          exact x_zret C hr hlk rfl rfl d_Jg_callsWithWrongKind_54
        · refine x_aload_n 0 C d_Jg_callsWithWrongKind_38 rfl rfl ?_
          refine x_get (i := (9, 0)) (v := (.ref (ad (5, 0)))) 1 C m_9 rfl rfl i_Jg (by decide) (List.mem_cons_of_mem _ q_117) rfl d_Jg_callsWithWrongKind_39 ?_
          refine x_iconst (v := 2) C d_Jg_callsWithWrongKind_42 (by decide) ?_
          refine x_cv (i := (5, 0)) (F := x_F ad cA) (As := [(.int 2)]) (rest := []) C k_Gs_isRange q_470 (c_Gs_isRange ok 0 (by decide) 2 (x_vin (by decide))) rfl rfl rfl (Nat.le_of_ble_eq_true rfl) (Nat.le_of_ble_eq_true rfl) (m_5 (by decide)) rfl rfl rfl rfl rfl (Nat.le_of_ble_eq_true rfl) d_Jg_callsWithWrongKind_43 ⟨Nat.zero_le _, Nat.zero_le _⟩ ?_
          generalize hq6 : s_Gs_isRange gk 0 2 = r6
          refine x_lets ?_
          refine x_if_ne 53 C d_Jg_callsWithWrongKind_46 (by decide) (fun z7 => ?_) (fun z7 => ?_)
          · refine x_iconst (v := 1) C d_Jg_callsWithWrongKind_49 (by decide) ?_
            refine x_goto 54 C d_Jg_callsWithWrongKind_50 (by decide) ?_
            exact x_zret C hr hlk rfl rfl d_Jg_callsWithWrongKind_54
          · refine x_iconst (v := 0) C d_Jg_callsWithWrongKind_53 (by decide) ?_
            exact x_zret C hr hlk rfl rfl d_Jg_callsWithWrongKind_54
      · refine x_iconst (v := 0) C d_Jg_callsWithWrongKind_53 (by decide) ?_
        exact x_zret C hr hlk rfl rfl d_Jg_callsWithWrongKind_54
  · refine x_aload_n 1 C d_Jg_callsWithWrongKind_19 rfl rfl ?_
    refine x_get (i := (3, j)) (v := (.int (stp j 3))) 3 C (m_3 hj) rfl rfl i_St (by decide) (List.mem_cons_of_mem _ q_61) rfl d_Jg_callsWithWrongKind_20 ?_
    refine x_iconst (v := 2) C d_Jg_callsWithWrongKind_23 (by decide) ?_
    refine x_icmp_ne 53 C d_Jg_callsWithWrongKind_24 (by decide) (fun z8 => ?_) (fun z8 => ?_)
    · refine x_aload_n 0 C d_Jg_callsWithWrongKind_27 rfl rfl ?_
      refine x_get (i := (9, 0)) (v := (.ref (ad (5, 0)))) 1 C m_9 rfl rfl i_Jg (by decide) (List.mem_cons_of_mem _ q_117) rfl d_Jg_callsWithWrongKind_28 ?_
      refine x_iconst (v := 1) C d_Jg_callsWithWrongKind_31 (by decide) ?_
      refine x_cv (i := (5, 0)) (F := x_F ad cA) (As := [(.int 1)]) (rest := []) C k_Gs_isRange q_470 (c_Gs_isRange ok 0 (by decide) 1 (x_vin (by decide))) rfl rfl rfl (Nat.le_of_ble_eq_true rfl) (Nat.le_of_ble_eq_true rfl) (m_5 (by decide)) rfl rfl rfl rfl rfl (Nat.le_of_ble_eq_true rfl) d_Jg_callsWithWrongKind_32 ⟨Nat.zero_le _, Nat.zero_le _⟩ ?_
      generalize hq9 : s_Gs_isRange gk 0 1 = r9
      refine x_lets ?_
      refine x_if_eq 49 C d_Jg_callsWithWrongKind_35 (by decide) (fun z10 => ?_) (fun z10 => ?_)
      · refine x_iconst (v := 1) C d_Jg_callsWithWrongKind_49 (by decide) ?_
        refine x_goto 54 C d_Jg_callsWithWrongKind_50 (by decide) ?_
        exact x_zret C hr hlk rfl rfl d_Jg_callsWithWrongKind_54
      · refine x_aload_n 0 C d_Jg_callsWithWrongKind_38 rfl rfl ?_
        refine x_get (i := (9, 0)) (v := (.ref (ad (5, 0)))) 1 C m_9 rfl rfl i_Jg (by decide) (List.mem_cons_of_mem _ q_117) rfl d_Jg_callsWithWrongKind_39 ?_
        refine x_iconst (v := 2) C d_Jg_callsWithWrongKind_42 (by decide) ?_
        refine x_cv (i := (5, 0)) (F := x_F ad cA) (As := [(.int 2)]) (rest := []) C k_Gs_isRange q_470 (c_Gs_isRange ok 0 (by decide) 2 (x_vin (by decide))) rfl rfl rfl (Nat.le_of_ble_eq_true rfl) (Nat.le_of_ble_eq_true rfl) (m_5 (by decide)) rfl rfl rfl rfl rfl (Nat.le_of_ble_eq_true rfl) d_Jg_callsWithWrongKind_43 ⟨Nat.zero_le _, Nat.zero_le _⟩ ?_
        generalize hq11 : s_Gs_isRange gk 0 2 = r11
        refine x_lets ?_
        refine x_if_ne 53 C d_Jg_callsWithWrongKind_46 (by decide) (fun z12 => ?_) (fun z12 => ?_)
        · refine x_iconst (v := 1) C d_Jg_callsWithWrongKind_49 (by decide) ?_
          refine x_goto 54 C d_Jg_callsWithWrongKind_50 (by decide) ?_
          exact x_zret C hr hlk rfl rfl d_Jg_callsWithWrongKind_54
        · refine x_iconst (v := 0) C d_Jg_callsWithWrongKind_53 (by decide) ?_
          exact x_zret C hr hlk rfl rfl d_Jg_callsWithWrongKind_54
    · refine x_iconst (v := 0) C d_Jg_callsWithWrongKind_53 (by decide) ?_
      exact x_zret C hr hlk rfl rfl d_Jg_callsWithWrongKind_54
def s_Jg_isOneCellOfFrame (gk : Nat → Nat → Int32) (gl : Nat → Nat → Int64) (gh : Nat → Nat → Int64) (a1 : Int32) : Int32 :=
  (x_let (s_Gs_kind gk 0 a1) fun r1 => (if r1 = 2 then (x_let (s_Gs_lo gl 0 a1) fun r3 => (x_let (s_Gs_hi gh 0 a1) fun r4 => (if r3 = r4 then (1) else (0)))) else (0)))
set_option maxHeartbeats 4000000 in
set_option maxRecDepth 100000 in
theorem c_Jg_isOneCellOfFrame {l : Launch} {D : va_G} {cA : Nat → ClassId} {ad : x_I → Nat} (ok : x_ok (x_k D cA ad)) {stp : Nat → Nat → Int32} {psz : Int32} {gk : Nat → Nat → Int32} {gl : Nat → Nat → Int64} {gh : Nat → Nat → Int64} {opn : Nat → Int32} {cki : Nat → Int32} {ckl : Nat → Int64} {mp : Nat → Nat → Int64} {rk : Nat → Int32} {rv : Nat → Int64} {ri : Nat → Int32} {chk : Int32} {mo : Nat → Nat → Int32} {mi : Nat → Int32} {ml : Nat → Int64} {mk : Nat → Int32} {mlo : Nat → Int64} {mhi : Nat → Int64} {pk : Nat → Int32} {ps : Nat → Int32} {pl : Nat → Int64} {ph : Nat → Int64} {mm : Nat → Int64} {out : Nat → Int64} (a1 : Int32) (h1 : vp_in a1 12) : x_M l y_Jg_isOneCellOfFrame (Cond.code y_Jg_isOneCellOfFrame b_Jg_isOneCellOfFrame 2 (Option.some Jvm.ClassFile.FieldType.boolean) :: x_Wd) { frames := 1, cells := 0, slots := 0, locals := 21 } (x_k D cA ad) (x_F ad cA) [(.ref (ad (9, 0))), (.int a1)] ((stp, psz, gk, gl, gh, opn, cki, ckl, mp, rk, rv, ri, chk), (mo, mi, ml, mk, mlo, mhi, pk, ps, pl, ph, mm), out) ((fun q : Int32 => ((some (.int (q)), ((stp, psz, gk, gl, gh, opn, cki, ckl, mp, rk, rv, ri, chk), (mo, mi, ml, mk, mlo, mhi, pk, ps, pl, ph, mm), out)) : Option Value × x_S)) (s_Jg_isOneCellOfFrame gk gl gh a1)) 0 0 := by
  refine x_start (κ := x_k D cA ad) (cc := b_Jg_isOneCellOfFrame) (F := x_F ad cA) (wr := (fun q : Int32 => ((some (.int (q)), ((stp, psz, gk, gl, gh, opn, cki, ckl, mp, rk, rv, ri, chk), (mo, mi, ml, mk, mlo, mhi, pk, ps, pl, ph, mm), out)) : Option Value × x_S))) (q := s_Jg_isOneCellOfFrame gk gl gh a1) (ret := (Option.some Jvm.ClassFile.FieldType.boolean)) (lv0 := [(0, (.ref (ad (9, 0)))), (1, (.int a1))]) ok (by decide) rfl (Nat.le_of_ble_eq_true rfl) rfl ?_
  intro p e s m below meth c C hr hlk
  unfold s_Jg_isOneCellOfFrame
  refine x_aload_n 0 C d_Jg_isOneCellOfFrame_0 rfl rfl ?_
  refine x_get (i := (9, 0)) (v := (.ref (ad (5, 0)))) 1 C m_9 rfl rfl i_Jg (by decide) (List.mem_cons_of_mem _ q_117) rfl d_Jg_isOneCellOfFrame_1 ?_
  refine x_iload_n 1 C d_Jg_isOneCellOfFrame_4 rfl rfl ?_
  refine x_cv (i := (5, 0)) (F := x_F ad cA) (As := [(.int a1)]) (rest := []) C k_Gs_kind q_482 (c_Gs_kind ok 0 (by decide) a1 h1) rfl rfl rfl (Nat.le_of_ble_eq_true rfl) (Nat.le_of_ble_eq_true rfl) (m_5 (by decide)) rfl rfl rfl rfl rfl (Nat.le_of_ble_eq_true rfl) d_Jg_isOneCellOfFrame_5 ⟨Nat.zero_le _, Nat.zero_le _⟩ ?_
  generalize hq1 : s_Gs_kind gk 0 a1 = r1
  refine x_lets ?_
  refine x_iconst (v := 2) C d_Jg_isOneCellOfFrame_8 (by decide) ?_
  refine x_icmp_ne 36 C d_Jg_isOneCellOfFrame_9 (by decide) (fun z2 => ?_) (fun z2 => ?_)
  · refine x_aload_n 0 C d_Jg_isOneCellOfFrame_12 rfl rfl ?_
    refine x_get (i := (9, 0)) (v := (.ref (ad (5, 0)))) 1 C m_9 rfl rfl i_Jg (by decide) (List.mem_cons_of_mem _ q_117) rfl d_Jg_isOneCellOfFrame_13 ?_
    refine x_iload_n 1 C d_Jg_isOneCellOfFrame_16 rfl rfl ?_
    refine x_cv (i := (5, 0)) (F := x_F ad cA) (As := [(.int a1)]) (rest := []) C k_Gs_lo q_494 (c_Gs_lo ok 0 (by decide) a1 h1) rfl rfl rfl (Nat.le_of_ble_eq_true rfl) (Nat.le_of_ble_eq_true rfl) (m_5 (by decide)) rfl rfl rfl rfl rfl (Nat.le_of_ble_eq_true rfl) d_Jg_isOneCellOfFrame_17 ⟨Nat.zero_le _, Nat.zero_le _⟩ ?_
    generalize hq3 : s_Gs_lo gl 0 a1 = r3
    refine x_lets ?_
    refine x_aload_n 0 C d_Jg_isOneCellOfFrame_20 rfl rfl ?_
    refine x_get (i := (9, 0)) (v := (.ref (ad (5, 0)))) 1 C m_9 rfl rfl i_Jg (by decide) (List.mem_cons_of_mem _ q_117) rfl d_Jg_isOneCellOfFrame_21 ?_
    refine x_iload_n 1 C d_Jg_isOneCellOfFrame_24 rfl rfl ?_
    refine x_cv (i := (5, 0)) (F := x_F ad cA) (As := [(.int a1)]) (rest := [(.long r3)]) C k_Gs_hi q_498 (c_Gs_hi ok 0 (by decide) a1 h1) rfl rfl rfl (Nat.le_of_ble_eq_true rfl) (Nat.le_of_ble_eq_true rfl) (m_5 (by decide)) rfl rfl rfl rfl rfl (Nat.le_of_ble_eq_true rfl) d_Jg_isOneCellOfFrame_25 ⟨Nat.zero_le _, Nat.zero_le _⟩ ?_
    generalize hq4 : s_Gs_hi gh 0 a1 = r4
    refine x_lets ?_
    refine x_lcmp_ne 36 C d_Jg_isOneCellOfFrame_28 d_Jg_isOneCellOfFrame_29 (by decide) (fun z5 => ?_) (fun z5 => ?_)
    · refine x_iconst (v := 1) C d_Jg_isOneCellOfFrame_32 (by decide) ?_
      refine x_goto 37 C d_Jg_isOneCellOfFrame_33 (by decide) ?_
      exact x_zret C hr hlk rfl rfl d_Jg_isOneCellOfFrame_37
    · refine x_iconst (v := 0) C d_Jg_isOneCellOfFrame_36 (by decide) ?_
      exact x_zret C hr hlk rfl rfl d_Jg_isOneCellOfFrame_37
  · refine x_iconst (v := 0) C d_Jg_isOneCellOfFrame_36 (by decide) ?_
    exact x_zret C hr hlk rfl rfl d_Jg_isOneCellOfFrame_37
def s_Jg_storesWrongKind (stp : Nat → Nat → Int32) (gk : Nat → Nat → Int32) (gl : Nat → Nat → Int64) (gh : Nat → Nat → Int64) (j : Nat) : Int32 :=
  (x_let (s_Gs_isPlace gk 0 (stp j 1)) fun r1 => (if r1 = 0 then (1) else (x_let (s_Jg_isOneCellOfFrame gk gl gh (stp j 1)) fun r3 => (if r3 = 0 then (x_let (s_Gs_isRange gk 0 (stp j 2)) fun r5 => (if r5 = 0 then (1) else (0))) else (0)))))
set_option maxHeartbeats 4000000 in
set_option maxRecDepth 100000 in
theorem c_Jg_storesWrongKind {l : Launch} {D : va_G} {cA : Nat → ClassId} {ad : x_I → Nat} (ok : x_ok (x_k D cA ad)) {stp : Nat → Nat → Int32} {psz : Int32} {gk : Nat → Nat → Int32} {gl : Nat → Nat → Int64} {gh : Nat → Nat → Int64} {opn : Nat → Int32} {cki : Nat → Int32} {ckl : Nat → Int64} {mp : Nat → Nat → Int64} {rk : Nat → Int32} {rv : Nat → Int64} {ri : Nat → Int32} {chk : Int32} {mo : Nat → Nat → Int32} {mi : Nat → Int32} {ml : Nat → Int64} {mk : Nat → Int32} {mlo : Nat → Int64} {mhi : Nat → Int64} {pk : Nat → Int32} {ps : Nat → Int32} {pl : Nat → Int64} {ph : Nat → Int64} {mm : Nat → Int64} {out : Nat → Int64} (j : Nat) (hj : j < 24) (hw : x_wf stp) : x_M l y_Jg_storesWrongKind (Cond.code y_Jg_storesWrongKind b_Jg_storesWrongKind 2 (Option.some Jvm.ClassFile.FieldType.boolean) :: x_Wd) { frames := 2, cells := 0, slots := 0, locals := 42 } (x_k D cA ad) (x_F ad cA) [(.ref (ad (9, 0))), (.ref (ad (3, j)))] ((stp, psz, gk, gl, gh, opn, cki, ckl, mp, rk, rv, ri, chk), (mo, mi, ml, mk, mlo, mhi, pk, ps, pl, ph, mm), out) ((fun q : Int32 => ((some (.int (q)), ((stp, psz, gk, gl, gh, opn, cki, ckl, mp, rk, rv, ri, chk), (mo, mi, ml, mk, mlo, mhi, pk, ps, pl, ph, mm), out)) : Option Value × x_S)) (s_Jg_storesWrongKind stp gk gl gh j)) 0 0 := by
  refine x_start (κ := x_k D cA ad) (cc := b_Jg_storesWrongKind) (F := x_F ad cA) (wr := (fun q : Int32 => ((some (.int (q)), ((stp, psz, gk, gl, gh, opn, cki, ckl, mp, rk, rv, ri, chk), (mo, mi, ml, mk, mlo, mhi, pk, ps, pl, ph, mm), out)) : Option Value × x_S))) (q := s_Jg_storesWrongKind stp gk gl gh j) (ret := (Option.some Jvm.ClassFile.FieldType.boolean)) (lv0 := [(0, (.ref (ad (9, 0)))), (1, (.ref (ad (3, j))))]) ok (by decide) rfl (Nat.le_of_ble_eq_true rfl) rfl ?_
  intro p e s m below meth c C hr hlk
  unfold s_Jg_storesWrongKind
  refine x_aload_n 0 C d_Jg_storesWrongKind_0 rfl rfl ?_
  refine x_get (i := (9, 0)) (v := (.ref (ad (5, 0)))) 1 C m_9 rfl rfl i_Jg (by decide) (List.mem_cons_of_mem _ q_117) rfl d_Jg_storesWrongKind_1 ?_
  refine x_aload_n 1 C d_Jg_storesWrongKind_4 rfl rfl ?_
  refine x_get (i := (3, j)) (v := (.int (stp j 1))) 1 C (m_3 hj) rfl rfl i_St (by decide) (List.mem_cons_of_mem _ q_50) rfl d_Jg_storesWrongKind_5 ?_
  refine x_cv (i := (5, 0)) (F := x_F ad cA) (As := [(.int (stp j 1))]) (rest := []) C k_Gs_isPlace q_474 (c_Gs_isPlace ok 0 (by decide) (stp j 1) (x_wfd hw hj)) rfl rfl rfl (Nat.le_of_ble_eq_true rfl) (Nat.le_of_ble_eq_true rfl) (m_5 (by decide)) rfl rfl rfl rfl rfl (Nat.le_of_ble_eq_true rfl) d_Jg_storesWrongKind_8 ⟨Nat.zero_le _, Nat.zero_le _⟩ ?_
  generalize hq1 : s_Gs_isPlace gk 0 (stp j 1) = r1
  refine x_lets ?_
  refine x_if_ne 16 C d_Jg_storesWrongKind_11 (by decide) (fun z2 => ?_) (fun z2 => ?_)
  · refine x_iconst (v := 1) C d_Jg_storesWrongKind_14 (by decide) ?_
    exact x_zret C hr hlk rfl rfl d_Jg_storesWrongKind_15
  · refine x_aload_n 0 C d_Jg_storesWrongKind_16 rfl rfl ?_
    refine x_aload_n 1 C d_Jg_storesWrongKind_17 rfl rfl ?_
    refine x_get (i := (3, j)) (v := (.int (stp j 1))) 1 C (m_3 hj) rfl rfl i_St (by decide) (List.mem_cons_of_mem _ q_50) rfl d_Jg_storesWrongKind_18 ?_
    refine x_cv (i := (9, 0)) (F := x_F ad cA) (As := [(.int (stp j 1))]) (rest := []) C k_Jg_isOneCellOfFrame q_490 (c_Jg_isOneCellOfFrame ok (stp j 1) (x_wfd hw hj)) rfl rfl rfl (Nat.le_of_ble_eq_true rfl) (Nat.le_of_ble_eq_true rfl) m_9 rfl rfl rfl rfl rfl (Nat.le_of_ble_eq_true rfl) d_Jg_storesWrongKind_21 ⟨Nat.zero_le _, Nat.zero_le _⟩ ?_
    generalize hq3 : s_Jg_isOneCellOfFrame gk gl gh (stp j 1) = r3
    refine x_lets ?_
    refine x_if_ne 45 C d_Jg_storesWrongKind_24 (by decide) (fun z4 => ?_) (fun z4 => ?_)
    · refine x_aload_n 0 C d_Jg_storesWrongKind_27 rfl rfl ?_
      refine x_get (i := (9, 0)) (v := (.ref (ad (5, 0)))) 1 C m_9 rfl rfl i_Jg (by decide) (List.mem_cons_of_mem _ q_117) rfl d_Jg_storesWrongKind_28 ?_
      refine x_aload_n 1 C d_Jg_storesWrongKind_31 rfl rfl ?_
      refine x_get (i := (3, j)) (v := (.int (stp j 2))) 2 C (m_3 hj) rfl rfl i_St (by decide) (List.mem_cons_of_mem _ q_55) rfl d_Jg_storesWrongKind_32 ?_
      refine x_cv (i := (5, 0)) (F := x_F ad cA) (As := [(.int (stp j 2))]) (rest := []) C k_Gs_isRange q_470 (c_Gs_isRange ok 0 (by decide) (stp j 2) (x_wfs hw hj)) rfl rfl rfl (Nat.le_of_ble_eq_true rfl) (Nat.le_of_ble_eq_true rfl) (m_5 (by decide)) rfl rfl rfl rfl rfl (Nat.le_of_ble_eq_true rfl) d_Jg_storesWrongKind_35 ⟨Nat.zero_le _, Nat.zero_le _⟩ ?_
      generalize hq5 : s_Gs_isRange gk 0 (stp j 2) = r5
      refine x_lets ?_
      refine x_if_ne 45 C d_Jg_storesWrongKind_38 (by decide) (fun z6 => ?_) (fun z6 => ?_)
      · refine x_iconst (v := 1) C d_Jg_storesWrongKind_41 (by decide) ?_
        refine x_goto 46 C d_Jg_storesWrongKind_42 (by decide) ?_
        exact x_zret C hr hlk rfl rfl d_Jg_storesWrongKind_46
      · refine x_iconst (v := 0) C d_Jg_storesWrongKind_45 (by decide) ?_
        exact x_zret C hr hlk rfl rfl d_Jg_storesWrongKind_46
    · refine x_iconst (v := 0) C d_Jg_storesWrongKind_45 (by decide) ?_
      exact x_zret C hr hlk rfl rfl d_Jg_storesWrongKind_46
theorem z_Jg_callsWithWrongKind {stp : Nat → Nat → Int32} {gk : Nat → Nat → Int32} {j : Nat} : narrow .boolean (.int (s_Jg_callsWithWrongKind stp gk j)) = .int (s_Jg_callsWithWrongKind stp gk j) := by
  unfold s_Jg_callsWithWrongKind
  (try simp only [x_let])
  repeat' split
  all_goals first | rfl | exact z_Gs_isEmpty
theorem z_Jg_storesWrongKind {stp : Nat → Nat → Int32} {gk : Nat → Nat → Int32} {gl : Nat → Nat → Int64} {gh : Nat → Nat → Int64} {j : Nat} : narrow .boolean (.int (s_Jg_storesWrongKind stp gk gl gh j)) = .int (s_Jg_storesWrongKind stp gk gl gh j) := by
  unfold s_Jg_storesWrongKind
  (try simp only [x_let])
  repeat' split
  all_goals first | rfl | exact z_Gs_isEmpty
def s_Jg_hasWrongKind (stp : Nat → Nat → Int32) (gk : Nat → Nat → Int32) (gl : Nat → Nat → Int64) (gh : Nat → Nat → Int64) (j : Nat) : Int32 :=
  (if (stp j 0) = 1 then (0) else if (stp j 0) = 2 then (x_let (s_Jg_isRangeOrPlace gk (stp j 1)) fun r3 => (if r3 = 0 then (1) else (0))) else if (stp j 0) = 3 then (x_let (s_Jg_isRangeOrPlace gk (stp j 1)) fun r6 => (if r6 = 0 then (1) else (x_let (s_Gs_isRange gk 0 (stp j 2)) fun r8 => (if r8 = 0 then (1) else (0))))) else if (stp j 0) = 10 then (x_let (s_Gs_isRange gk 0 (stp j 1)) fun r11 => (if r11 = 0 then (x_let (s_Jg_isMaybeMissing stp gk j) fun r13 => (if r13 = 0 then (1) else (0))) else (0))) else if (stp j 0) = 14 then (x_let (s_Gs_isPlace gk 0 (stp j 2)) fun r16 => (if r16 = 0 then (1) else (0))) else if (stp j 0) = 15 then (x_let (s_Jg_storesWrongKind stp gk gl gh j) fun r19 => (r19)) else if (stp j 0) = 16 then (x_let (s_Jg_callsWithWrongKind stp gk j) fun r21 => (r21)) else if (stp j 0) = 17 then (x_let (s_Gs_isRange gk 0 0) fun r23 => (if r23 = 0 then (1) else (0))) else (x_let (s_St_usesD stp j) fun r25 => (if r25 = 0 then (x_let (s_St_usesS stp j) fun r27 => (if r27 = 0 then (0) else (x_let (s_Gs_isRange gk 0 (stp j 2)) fun r29 => (if r29 = 0 then (1) else (0))))) else (x_let (s_Gs_isRange gk 0 (stp j 1)) fun r31 => (if r31 = 0 then (1) else (x_let (s_St_usesS stp j) fun r33 => (if r33 = 0 then (0) else (x_let (s_Gs_isRange gk 0 (stp j 2)) fun r35 => (if r35 = 0 then (1) else (0))))))))))
set_option maxHeartbeats 4000000 in
set_option maxRecDepth 100000 in
theorem c_Jg_hasWrongKind {l : Launch} {D : va_G} {cA : Nat → ClassId} {ad : x_I → Nat} (ok : x_ok (x_k D cA ad)) {stp : Nat → Nat → Int32} {psz : Int32} {gk : Nat → Nat → Int32} {gl : Nat → Nat → Int64} {gh : Nat → Nat → Int64} {opn : Nat → Int32} {cki : Nat → Int32} {ckl : Nat → Int64} {mp : Nat → Nat → Int64} {rk : Nat → Int32} {rv : Nat → Int64} {ri : Nat → Int32} {chk : Int32} {mo : Nat → Nat → Int32} {mi : Nat → Int32} {ml : Nat → Int64} {mk : Nat → Int32} {mlo : Nat → Int64} {mhi : Nat → Int64} {pk : Nat → Int32} {ps : Nat → Int32} {pl : Nat → Int64} {ph : Nat → Int64} {mm : Nat → Int64} {out : Nat → Int64} (j : Nat) (hj : j < 24) (hw : x_wf stp) : x_M l y_Jg_hasWrongKind (Cond.code y_Jg_hasWrongKind b_Jg_hasWrongKind 2 (Option.some Jvm.ClassFile.FieldType.boolean) :: x_Wd) { frames := 3, cells := 0, slots := 0, locals := 63 } (x_k D cA ad) (x_F ad cA) [(.ref (ad (9, 0))), (.ref (ad (3, j)))] ((stp, psz, gk, gl, gh, opn, cki, ckl, mp, rk, rv, ri, chk), (mo, mi, ml, mk, mlo, mhi, pk, ps, pl, ph, mm), out) ((fun q : Int32 => ((some (.int (q)), ((stp, psz, gk, gl, gh, opn, cki, ckl, mp, rk, rv, ri, chk), (mo, mi, ml, mk, mlo, mhi, pk, ps, pl, ph, mm), out)) : Option Value × x_S)) (s_Jg_hasWrongKind stp gk gl gh j)) 0 0 := by
  refine x_start (κ := x_k D cA ad) (cc := b_Jg_hasWrongKind) (F := x_F ad cA) (wr := (fun q : Int32 => ((some (.int (q)), ((stp, psz, gk, gl, gh, opn, cki, ckl, mp, rk, rv, ri, chk), (mo, mi, ml, mk, mlo, mhi, pk, ps, pl, ph, mm), out)) : Option Value × x_S))) (q := s_Jg_hasWrongKind stp gk gl gh j) (ret := (Option.some Jvm.ClassFile.FieldType.boolean)) (lv0 := [(0, (.ref (ad (9, 0)))), (1, (.ref (ad (3, j))))]) ok (by decide) rfl (Nat.le_of_ble_eq_true rfl) rfl ?_
  intro p e s m below meth c C hr hlk
  unfold s_Jg_hasWrongKind
  refine x_aload_n 1 C d_Jg_hasWrongKind_0 rfl rfl ?_
  refine x_get (i := (3, j)) (v := (.int (stp j 0))) 0 C (m_3 hj) rfl rfl i_St (by decide) (List.mem_cons_of_mem _ q_44) rfl d_Jg_hasWrongKind_1 ?_
  refine x_ite (fun z1 => ?_) (fun z1 => ?_)
  · refine x_tsw 88 C d_Jg_hasWrongKind_4 (by rw [z1]; decide) (by rw [z1]; decide) (by rw [z1]; rfl) (by decide) ?_
    refine x_iconst (v := 0) C d_Jg_hasWrongKind_88 (by decide) ?_
    exact x_zret C hr hlk rfl rfl d_Jg_hasWrongKind_89
  refine x_ite (fun z2 => ?_) (fun z2 => ?_)
  · refine x_tsw 90 C d_Jg_hasWrongKind_4 (by rw [z2]; decide) (by rw [z2]; decide) (by rw [z2]; rfl) (by decide) ?_
    refine x_aload_n 0 C d_Jg_hasWrongKind_90 rfl rfl ?_
    refine x_aload_n 1 C d_Jg_hasWrongKind_91 rfl rfl ?_
    refine x_get (i := (3, j)) (v := (.int (stp j 1))) 1 C (m_3 hj) rfl rfl i_St (by decide) (List.mem_cons_of_mem _ q_50) rfl d_Jg_hasWrongKind_92 ?_
    refine x_cv (i := (9, 0)) (F := x_F ad cA) (As := [(.int (stp j 1))]) (rest := []) C k_Jg_isRangeOrPlace q_466 (c_Jg_isRangeOrPlace ok (stp j 1) (x_wfd hw hj)) rfl rfl rfl (Nat.le_of_ble_eq_true rfl) (Nat.le_of_ble_eq_true rfl) m_9 rfl rfl rfl rfl rfl (Nat.le_of_ble_eq_true rfl) d_Jg_hasWrongKind_95 ⟨Nat.zero_le _, Nat.zero_le _⟩ ?_
    generalize hq3 : s_Jg_isRangeOrPlace gk (stp j 1) = r3
    refine x_lets ?_
    refine x_if_ne 105 C d_Jg_hasWrongKind_98 (by decide) (fun z4 => ?_) (fun z4 => ?_)
    · refine x_iconst (v := 1) C d_Jg_hasWrongKind_101 (by decide) ?_
      refine x_goto 106 C d_Jg_hasWrongKind_102 (by decide) ?_
      exact x_zret C hr hlk rfl rfl d_Jg_hasWrongKind_106
    · refine x_iconst (v := 0) C d_Jg_hasWrongKind_105 (by decide) ?_
      exact x_zret C hr hlk rfl rfl d_Jg_hasWrongKind_106
  refine x_ite (fun z5 => ?_) (fun z5 => ?_)
  · refine x_tsw 107 C d_Jg_hasWrongKind_4 (by rw [z5]; decide) (by rw [z5]; decide) (by rw [z5]; rfl) (by decide) ?_
    refine x_aload_n 0 C d_Jg_hasWrongKind_107 rfl rfl ?_
    refine x_aload_n 1 C d_Jg_hasWrongKind_108 rfl rfl ?_
    refine x_get (i := (3, j)) (v := (.int (stp j 1))) 1 C (m_3 hj) rfl rfl i_St (by decide) (List.mem_cons_of_mem _ q_50) rfl d_Jg_hasWrongKind_109 ?_
    refine x_cv (i := (9, 0)) (F := x_F ad cA) (As := [(.int (stp j 1))]) (rest := []) C k_Jg_isRangeOrPlace q_466 (c_Jg_isRangeOrPlace ok (stp j 1) (x_wfd hw hj)) rfl rfl rfl (Nat.le_of_ble_eq_true rfl) (Nat.le_of_ble_eq_true rfl) m_9 rfl rfl rfl rfl rfl (Nat.le_of_ble_eq_true rfl) d_Jg_hasWrongKind_112 ⟨Nat.zero_le _, Nat.zero_le _⟩ ?_
    generalize hq6 : s_Jg_isRangeOrPlace gk (stp j 1) = r6
    refine x_lets ?_
    refine x_if_eq 132 C d_Jg_hasWrongKind_115 (by decide) (fun z7 => ?_) (fun z7 => ?_)
    · refine x_iconst (v := 1) C d_Jg_hasWrongKind_132 (by decide) ?_
      refine x_goto 137 C d_Jg_hasWrongKind_133 (by decide) ?_
      exact x_zret C hr hlk rfl rfl d_Jg_hasWrongKind_137
    · refine x_aload_n 0 C d_Jg_hasWrongKind_118 rfl rfl ?_
      refine x_get (i := (9, 0)) (v := (.ref (ad (5, 0)))) 1 C m_9 rfl rfl i_Jg (by decide) (List.mem_cons_of_mem _ q_117) rfl d_Jg_hasWrongKind_119 ?_
      refine x_aload_n 1 C d_Jg_hasWrongKind_122 rfl rfl ?_
      refine x_get (i := (3, j)) (v := (.int (stp j 2))) 2 C (m_3 hj) rfl rfl i_St (by decide) (List.mem_cons_of_mem _ q_55) rfl d_Jg_hasWrongKind_123 ?_
      refine x_cv (i := (5, 0)) (F := x_F ad cA) (As := [(.int (stp j 2))]) (rest := []) C k_Gs_isRange q_470 (c_Gs_isRange ok 0 (by decide) (stp j 2) (x_wfs hw hj)) rfl rfl rfl (Nat.le_of_ble_eq_true rfl) (Nat.le_of_ble_eq_true rfl) (m_5 (by decide)) rfl rfl rfl rfl rfl (Nat.le_of_ble_eq_true rfl) d_Jg_hasWrongKind_126 ⟨Nat.zero_le _, Nat.zero_le _⟩ ?_
      generalize hq8 : s_Gs_isRange gk 0 (stp j 2) = r8
      refine x_lets ?_
      refine x_if_ne 136 C d_Jg_hasWrongKind_129 (by decide) (fun z9 => ?_) (fun z9 => ?_)
      · refine x_iconst (v := 1) C d_Jg_hasWrongKind_132 (by decide) ?_
        refine x_goto 137 C d_Jg_hasWrongKind_133 (by decide) ?_
        exact x_zret C hr hlk rfl rfl d_Jg_hasWrongKind_137
      · refine x_iconst (v := 0) C d_Jg_hasWrongKind_136 (by decide) ?_
        exact x_zret C hr hlk rfl rfl d_Jg_hasWrongKind_137
  refine x_ite (fun z10 => ?_) (fun z10 => ?_)
  · refine x_tsw 138 C d_Jg_hasWrongKind_4 (by rw [z10]; decide) (by rw [z10]; decide) (by rw [z10]; rfl) (by decide) ?_
    refine x_aload_n 0 C d_Jg_hasWrongKind_138 rfl rfl ?_
    refine x_get (i := (9, 0)) (v := (.ref (ad (5, 0)))) 1 C m_9 rfl rfl i_Jg (by decide) (List.mem_cons_of_mem _ q_117) rfl d_Jg_hasWrongKind_139 ?_
    refine x_aload_n 1 C d_Jg_hasWrongKind_142 rfl rfl ?_
    refine x_get (i := (3, j)) (v := (.int (stp j 1))) 1 C (m_3 hj) rfl rfl i_St (by decide) (List.mem_cons_of_mem _ q_50) rfl d_Jg_hasWrongKind_143 ?_
    refine x_cv (i := (5, 0)) (F := x_F ad cA) (As := [(.int (stp j 1))]) (rest := []) C k_Gs_isRange q_470 (c_Gs_isRange ok 0 (by decide) (stp j 1) (x_wfd hw hj)) rfl rfl rfl (Nat.le_of_ble_eq_true rfl) (Nat.le_of_ble_eq_true rfl) (m_5 (by decide)) rfl rfl rfl rfl rfl (Nat.le_of_ble_eq_true rfl) d_Jg_hasWrongKind_146 ⟨Nat.zero_le _, Nat.zero_le _⟩ ?_
    generalize hq11 : s_Gs_isRange gk 0 (stp j 1) = r11
    refine x_lets ?_
    refine x_if_ne 164 C d_Jg_hasWrongKind_149 (by decide) (fun z12 => ?_) (fun z12 => ?_)
    · refine x_aload_n 0 C d_Jg_hasWrongKind_152 rfl rfl ?_
      refine x_aload_n 1 C d_Jg_hasWrongKind_153 rfl rfl ?_
      refine x_cv (i := (9, 0)) (F := x_F ad cA) (As := [(.ref (ad (3, j)))]) (rest := []) C k_Jg_isMaybeMissing q_478 (c_Jg_isMaybeMissing ok j hj hw) rfl rfl rfl (Nat.le_of_ble_eq_true rfl) (Nat.le_of_ble_eq_true rfl) m_9 rfl rfl rfl rfl rfl (Nat.le_of_ble_eq_true rfl) d_Jg_hasWrongKind_154 ⟨Nat.zero_le _, Nat.zero_le _⟩ ?_
      generalize hq13 : s_Jg_isMaybeMissing stp gk j = r13
      refine x_lets ?_
      refine x_if_ne 164 C d_Jg_hasWrongKind_157 (by decide) (fun z14 => ?_) (fun z14 => ?_)
      · refine x_iconst (v := 1) C d_Jg_hasWrongKind_160 (by decide) ?_
        refine x_goto 165 C d_Jg_hasWrongKind_161 (by decide) ?_
        exact x_zret C hr hlk rfl rfl d_Jg_hasWrongKind_165
      · refine x_iconst (v := 0) C d_Jg_hasWrongKind_164 (by decide) ?_
        exact x_zret C hr hlk rfl rfl d_Jg_hasWrongKind_165
    · refine x_iconst (v := 0) C d_Jg_hasWrongKind_164 (by decide) ?_
      exact x_zret C hr hlk rfl rfl d_Jg_hasWrongKind_165
  refine x_ite (fun z15 => ?_) (fun z15 => ?_)
  · refine x_tsw 166 C d_Jg_hasWrongKind_4 (by rw [z15]; decide) (by rw [z15]; decide) (by rw [z15]; rfl) (by decide) ?_
    refine x_aload_n 0 C d_Jg_hasWrongKind_166 rfl rfl ?_
    refine x_get (i := (9, 0)) (v := (.ref (ad (5, 0)))) 1 C m_9 rfl rfl i_Jg (by decide) (List.mem_cons_of_mem _ q_117) rfl d_Jg_hasWrongKind_167 ?_
    refine x_aload_n 1 C d_Jg_hasWrongKind_170 rfl rfl ?_
    refine x_get (i := (3, j)) (v := (.int (stp j 2))) 2 C (m_3 hj) rfl rfl i_St (by decide) (List.mem_cons_of_mem _ q_55) rfl d_Jg_hasWrongKind_171 ?_
    refine x_cv (i := (5, 0)) (F := x_F ad cA) (As := [(.int (stp j 2))]) (rest := []) C k_Gs_isPlace q_474 (c_Gs_isPlace ok 0 (by decide) (stp j 2) (x_wfs hw hj)) rfl rfl rfl (Nat.le_of_ble_eq_true rfl) (Nat.le_of_ble_eq_true rfl) (m_5 (by decide)) rfl rfl rfl rfl rfl (Nat.le_of_ble_eq_true rfl) d_Jg_hasWrongKind_174 ⟨Nat.zero_le _, Nat.zero_le _⟩ ?_
    generalize hq16 : s_Gs_isPlace gk 0 (stp j 2) = r16
    refine x_lets ?_
    refine x_if_ne 184 C d_Jg_hasWrongKind_177 (by decide) (fun z17 => ?_) (fun z17 => ?_)
    · refine x_iconst (v := 1) C d_Jg_hasWrongKind_180 (by decide) ?_
      refine x_goto 185 C d_Jg_hasWrongKind_181 (by decide) ?_
      exact x_zret C hr hlk rfl rfl d_Jg_hasWrongKind_185
    · refine x_iconst (v := 0) C d_Jg_hasWrongKind_184 (by decide) ?_
      exact x_zret C hr hlk rfl rfl d_Jg_hasWrongKind_185
  refine x_ite (fun z18 => ?_) (fun z18 => ?_)
  · refine x_tsw 186 C d_Jg_hasWrongKind_4 (by rw [z18]; decide) (by rw [z18]; decide) (by rw [z18]; rfl) (by decide) ?_
    refine x_aload_n 0 C d_Jg_hasWrongKind_186 rfl rfl ?_
    refine x_aload_n 1 C d_Jg_hasWrongKind_187 rfl rfl ?_
    refine x_cv (i := (9, 0)) (F := x_F ad cA) (As := [(.ref (ad (3, j)))]) (rest := []) C k_Jg_storesWrongKind q_486 (c_Jg_storesWrongKind ok j hj hw) rfl rfl rfl (Nat.le_of_ble_eq_true rfl) (Nat.le_of_ble_eq_true rfl) m_9 rfl rfl rfl rfl rfl (Nat.le_of_ble_eq_true rfl) d_Jg_hasWrongKind_188 ⟨Nat.zero_le _, Nat.zero_le _⟩ ?_
    generalize hq19 : s_Jg_storesWrongKind stp gk gl gh j = r19
    refine x_lets ?_
    exact x_zret C hr hlk (by rw [← hq19]; exact z_Jg_storesWrongKind) rfl d_Jg_hasWrongKind_191
  refine x_ite (fun z20 => ?_) (fun z20 => ?_)
  · refine x_tsw 192 C d_Jg_hasWrongKind_4 (by rw [z20]; decide) (by rw [z20]; decide) (by rw [z20]; rfl) (by decide) ?_
    refine x_aload_n 0 C d_Jg_hasWrongKind_192 rfl rfl ?_
    refine x_aload_n 1 C d_Jg_hasWrongKind_193 rfl rfl ?_
    refine x_cv (i := (9, 0)) (F := x_F ad cA) (As := [(.ref (ad (3, j)))]) (rest := []) C k_Jg_callsWithWrongKind q_502 (c_Jg_callsWithWrongKind ok j hj) rfl rfl rfl (Nat.le_of_ble_eq_true rfl) (Nat.le_of_ble_eq_true rfl) m_9 rfl rfl rfl rfl rfl (Nat.le_of_ble_eq_true rfl) d_Jg_hasWrongKind_194 ⟨Nat.zero_le _, Nat.zero_le _⟩ ?_
    generalize hq21 : s_Jg_callsWithWrongKind stp gk j = r21
    refine x_lets ?_
    exact x_zret C hr hlk (by rw [← hq21]; exact z_Jg_callsWithWrongKind) rfl d_Jg_hasWrongKind_197
  refine x_ite (fun z22 => ?_) (fun z22 => ?_)
  · refine x_tsw 198 C d_Jg_hasWrongKind_4 (by rw [z22]; decide) (by rw [z22]; decide) (by rw [z22]; rfl) (by decide) ?_
    refine x_aload_n 0 C d_Jg_hasWrongKind_198 rfl rfl ?_
    refine x_get (i := (9, 0)) (v := (.ref (ad (5, 0)))) 1 C m_9 rfl rfl i_Jg (by decide) (List.mem_cons_of_mem _ q_117) rfl d_Jg_hasWrongKind_199 ?_
    refine x_iconst (v := 0) C d_Jg_hasWrongKind_202 (by decide) ?_
    refine x_cv (i := (5, 0)) (F := x_F ad cA) (As := [(.int 0)]) (rest := []) C k_Gs_isRange q_470 (c_Gs_isRange ok 0 (by decide) 0 (x_vin (by decide))) rfl rfl rfl (Nat.le_of_ble_eq_true rfl) (Nat.le_of_ble_eq_true rfl) (m_5 (by decide)) rfl rfl rfl rfl rfl (Nat.le_of_ble_eq_true rfl) d_Jg_hasWrongKind_203 ⟨Nat.zero_le _, Nat.zero_le _⟩ ?_
    generalize hq23 : s_Gs_isRange gk 0 0 = r23
    refine x_lets ?_
    refine x_if_ne 213 C d_Jg_hasWrongKind_206 (by decide) (fun z24 => ?_) (fun z24 => ?_)
    · refine x_iconst (v := 1) C d_Jg_hasWrongKind_209 (by decide) ?_
      refine x_goto 214 C d_Jg_hasWrongKind_210 (by decide) ?_
      exact x_zret C hr hlk rfl rfl d_Jg_hasWrongKind_214
    · refine x_iconst (v := 0) C d_Jg_hasWrongKind_213 (by decide) ?_
      exact x_zret C hr hlk rfl rfl d_Jg_hasWrongKind_214
  refine x_tswE 215 [1, 2, 3, 10, 14, 15, 16, 17] C d_Jg_hasWrongKind_4 (by decide) (List.forall_mem_cons.mpr ⟨x_nik z1 (by decide), List.forall_mem_cons.mpr ⟨x_nik z2 (by decide), List.forall_mem_cons.mpr ⟨x_nik z5 (by decide), List.forall_mem_cons.mpr ⟨x_nik z10 (by decide), List.forall_mem_cons.mpr ⟨x_nik z15 (by decide), List.forall_mem_cons.mpr ⟨x_nik z18 (by decide), List.forall_mem_cons.mpr ⟨x_nik z20 (by decide), List.forall_mem_cons.mpr ⟨x_nik z22 (by decide), fun _ h => absurd h List.not_mem_nil⟩⟩⟩⟩⟩⟩⟩⟩) (by decide) ?_
  refine x_aload_n 1 C d_Jg_hasWrongKind_215 rfl rfl ?_
  refine x_cv (i := (3, j)) (F := x_F ad cA) (As := []) (rest := []) C k_St_usesD q_451 (c_St_usesD ok j hj) rfl rfl rfl (Nat.le_of_ble_eq_true rfl) (Nat.le_of_ble_eq_true rfl) (m_3 hj) rfl rfl rfl rfl rfl (Nat.le_of_ble_eq_true rfl) d_Jg_hasWrongKind_216 ⟨Nat.zero_le _, Nat.zero_le _⟩ ?_
  generalize hq25 : s_St_usesD stp j = r25
  refine x_lets ?_
  refine x_if_eq 236 C d_Jg_hasWrongKind_219 (by decide) (fun z26 => ?_) (fun z26 => ?_)
  · refine x_aload_n 1 C d_Jg_hasWrongKind_236 rfl rfl ?_
    refine x_cv (i := (3, j)) (F := x_F ad cA) (As := []) (rest := []) C k_St_usesS q_455 (c_St_usesS ok j hj) rfl rfl rfl (Nat.le_of_ble_eq_true rfl) (Nat.le_of_ble_eq_true rfl) (m_3 hj) rfl rfl rfl rfl rfl (Nat.le_of_ble_eq_true rfl) d_Jg_hasWrongKind_237 ⟨Nat.zero_le _, Nat.zero_le _⟩ ?_
    generalize hq27 : s_St_usesS stp j = r27
    refine x_lets ?_
    refine x_if_eq 261 C d_Jg_hasWrongKind_240 (by decide) (fun z28 => ?_) (fun z28 => ?_)
    · refine x_iconst (v := 0) C d_Jg_hasWrongKind_261 (by decide) ?_
      exact x_zret C hr hlk rfl rfl d_Jg_hasWrongKind_262
    · refine x_aload_n 0 C d_Jg_hasWrongKind_243 rfl rfl ?_
      refine x_get (i := (9, 0)) (v := (.ref (ad (5, 0)))) 1 C m_9 rfl rfl i_Jg (by decide) (List.mem_cons_of_mem _ q_117) rfl d_Jg_hasWrongKind_244 ?_
      refine x_aload_n 1 C d_Jg_hasWrongKind_247 rfl rfl ?_
      refine x_get (i := (3, j)) (v := (.int (stp j 2))) 2 C (m_3 hj) rfl rfl i_St (by decide) (List.mem_cons_of_mem _ q_55) rfl d_Jg_hasWrongKind_248 ?_
      refine x_cv (i := (5, 0)) (F := x_F ad cA) (As := [(.int (stp j 2))]) (rest := []) C k_Gs_isRange q_470 (c_Gs_isRange ok 0 (by decide) (stp j 2) (x_wfs hw hj)) rfl rfl rfl (Nat.le_of_ble_eq_true rfl) (Nat.le_of_ble_eq_true rfl) (m_5 (by decide)) rfl rfl rfl rfl rfl (Nat.le_of_ble_eq_true rfl) d_Jg_hasWrongKind_251 ⟨Nat.zero_le _, Nat.zero_le _⟩ ?_
      generalize hq29 : s_Gs_isRange gk 0 (stp j 2) = r29
      refine x_lets ?_
      refine x_if_ne 261 C d_Jg_hasWrongKind_254 (by decide) (fun z30 => ?_) (fun z30 => ?_)
      · refine x_iconst (v := 1) C d_Jg_hasWrongKind_257 (by decide) ?_
        refine x_goto 262 C d_Jg_hasWrongKind_258 (by decide) ?_
        exact x_zret C hr hlk rfl rfl d_Jg_hasWrongKind_262
      · refine x_iconst (v := 0) C d_Jg_hasWrongKind_261 (by decide) ?_
        exact x_zret C hr hlk rfl rfl d_Jg_hasWrongKind_262
  · refine x_aload_n 0 C d_Jg_hasWrongKind_222 rfl rfl ?_
    refine x_get (i := (9, 0)) (v := (.ref (ad (5, 0)))) 1 C m_9 rfl rfl i_Jg (by decide) (List.mem_cons_of_mem _ q_117) rfl d_Jg_hasWrongKind_223 ?_
    refine x_aload_n 1 C d_Jg_hasWrongKind_226 rfl rfl ?_
    refine x_get (i := (3, j)) (v := (.int (stp j 1))) 1 C (m_3 hj) rfl rfl i_St (by decide) (List.mem_cons_of_mem _ q_50) rfl d_Jg_hasWrongKind_227 ?_
    refine x_cv (i := (5, 0)) (F := x_F ad cA) (As := [(.int (stp j 1))]) (rest := []) C k_Gs_isRange q_470 (c_Gs_isRange ok 0 (by decide) (stp j 1) (x_wfd hw hj)) rfl rfl rfl (Nat.le_of_ble_eq_true rfl) (Nat.le_of_ble_eq_true rfl) (m_5 (by decide)) rfl rfl rfl rfl rfl (Nat.le_of_ble_eq_true rfl) d_Jg_hasWrongKind_230 ⟨Nat.zero_le _, Nat.zero_le _⟩ ?_
    generalize hq31 : s_Gs_isRange gk 0 (stp j 1) = r31
    refine x_lets ?_
    refine x_if_eq 257 C d_Jg_hasWrongKind_233 (by decide) (fun z32 => ?_) (fun z32 => ?_)
    · refine x_iconst (v := 1) C d_Jg_hasWrongKind_257 (by decide) ?_
      refine x_goto 262 C d_Jg_hasWrongKind_258 (by decide) ?_
      exact x_zret C hr hlk rfl rfl d_Jg_hasWrongKind_262
    · refine x_aload_n 1 C d_Jg_hasWrongKind_236 rfl rfl ?_
      refine x_cv (i := (3, j)) (F := x_F ad cA) (As := []) (rest := []) C k_St_usesS q_455 (c_St_usesS ok j hj) rfl rfl rfl (Nat.le_of_ble_eq_true rfl) (Nat.le_of_ble_eq_true rfl) (m_3 hj) rfl rfl rfl rfl rfl (Nat.le_of_ble_eq_true rfl) d_Jg_hasWrongKind_237 ⟨Nat.zero_le _, Nat.zero_le _⟩ ?_
      generalize hq33 : s_St_usesS stp j = r33
      refine x_lets ?_
      refine x_if_eq 261 C d_Jg_hasWrongKind_240 (by decide) (fun z34 => ?_) (fun z34 => ?_)
      · refine x_iconst (v := 0) C d_Jg_hasWrongKind_261 (by decide) ?_
        exact x_zret C hr hlk rfl rfl d_Jg_hasWrongKind_262
      · refine x_aload_n 0 C d_Jg_hasWrongKind_243 rfl rfl ?_
        refine x_get (i := (9, 0)) (v := (.ref (ad (5, 0)))) 1 C m_9 rfl rfl i_Jg (by decide) (List.mem_cons_of_mem _ q_117) rfl d_Jg_hasWrongKind_244 ?_
        refine x_aload_n 1 C d_Jg_hasWrongKind_247 rfl rfl ?_
        refine x_get (i := (3, j)) (v := (.int (stp j 2))) 2 C (m_3 hj) rfl rfl i_St (by decide) (List.mem_cons_of_mem _ q_55) rfl d_Jg_hasWrongKind_248 ?_
        refine x_cv (i := (5, 0)) (F := x_F ad cA) (As := [(.int (stp j 2))]) (rest := []) C k_Gs_isRange q_470 (c_Gs_isRange ok 0 (by decide) (stp j 2) (x_wfs hw hj)) rfl rfl rfl (Nat.le_of_ble_eq_true rfl) (Nat.le_of_ble_eq_true rfl) (m_5 (by decide)) rfl rfl rfl rfl rfl (Nat.le_of_ble_eq_true rfl) d_Jg_hasWrongKind_251 ⟨Nat.zero_le _, Nat.zero_le _⟩ ?_
        generalize hq35 : s_Gs_isRange gk 0 (stp j 2) = r35
        refine x_lets ?_
        refine x_if_ne 261 C d_Jg_hasWrongKind_254 (by decide) (fun z36 => ?_) (fun z36 => ?_)
        · refine x_iconst (v := 1) C d_Jg_hasWrongKind_257 (by decide) ?_
          refine x_goto 262 C d_Jg_hasWrongKind_258 (by decide) ?_
          exact x_zret C hr hlk rfl rfl d_Jg_hasWrongKind_262
        · refine x_iconst (v := 0) C d_Jg_hasWrongKind_261 (by decide) ?_
          exact x_zret C hr hlk rfl rfl d_Jg_hasWrongKind_262
def lp_Jg_storesOverNoRange_77 (n : Nat) (gk : Nat → Nat → Int32) (j : Nat) (x2 : Int64) (x4 : Int64) (x6 : Int32) : Int32 := match n with
  | 0 => (0)
  | n + 1 => (if 6 ≤ x6 then (0) else (if (Int32.toInt64 x6) < x2 then lp_Jg_storesOverNoRange_77 n gk j x2 x4 (x6 + 1) else (if x4 < (Int32.toInt64 x6) then lp_Jg_storesOverNoRange_77 n gk j x2 x4 (x6 + 1) else (x_let (s_Gs_isEmpty gk 0 (6 + x6)) fun r11 => (if r11 = 0 then (x_let (s_Gs_isRange gk 0 (6 + x6)) fun r13 => (if r13 = 0 then (1) else lp_Jg_storesOverNoRange_77 n gk j x2 x4 (x6 + 1))) else lp_Jg_storesOverNoRange_77 n gk j x2 x4 (x6 + 1))))))
set_option maxHeartbeats 4000000 in
set_option maxRecDepth 100000 in
theorem cl_Jg_storesOverNoRange_77 {l : Launch} {D : va_G} {cA : Nat → ClassId} {ad : x_I → Nat} (ok : x_ok (x_k D cA ad)) {stp : Nat → Nat → Int32} {psz : Int32} {gk : Nat → Nat → Int32} {gl : Nat → Nat → Int64} {gh : Nat → Nat → Int64} {opn : Nat → Int32} {cki : Nat → Int32} {ckl : Nat → Int64} {mp : Nat → Nat → Int64} {rk : Nat → Int32} {rv : Nat → Int64} {ri : Nat → Int32} {chk : Int32} {mo : Nat → Nat → Int32} {mi : Nat → Int32} {ml : Nat → Int64} {mk : Nat → Int32} {mlo : Nat → Int64} {mhi : Nat → Int64} {pk : Nat → Int32} {ps : Nat → Int32} {pl : Nat → Int64} {ph : Nat → Int64} {mm : Nat → Int64} {out : Nat → Int64} {p : Program} {e : Env} {s : State} {m : MethodId} {args : Array Value} {below : List Frame} {meth : Method} {c : Code} (C : x_C p s m args c b_Jg_storesOverNoRange 8 R_Jg (Cond.code y_Jg_storesOverNoRange b_Jg_storesOverNoRange 8 (Option.some Jvm.ClassFile.FieldType.boolean) :: x_Wd) (x_k D cA ad)) (hr : meth.sig.returnType = (Option.some Jvm.ClassFile.FieldType.boolean)) (hlk : meth.locks = false) (j : Nat) (hj : j < 24) (hw : x_wf stp) : ∀ (n : Nat)  (x2 : Int64) (x4 : Int64) (x6 : Int32) (hv : x_lp x6 6 n), x_V p l e { frames := 2, cells := 0, slots := 0, locals := 42 } s m args below meth c (x_k D cA ad) 8 0 0 (x_E below (x_k D cA ad) args s 0 0 (x_F ad cA) (fun q : Int32 => ((some (.int (q)), ((stp, psz, gk, gl, gh, opn, cki, ckl, mp, rk, rv, ri, chk), (mo, mi, ml, mk, mlo, mhi, pk, ps, pl, ph, mm), out)) : Option Value × x_S)) (lp_Jg_storesOverNoRange_77 n gk j x2 x4 x6)) (x_F ad cA ((stp, psz, gk, gl, gh, opn, cki, ckl, mp, rk, rv, ri, chk), (mo, mi, ml, mk, mlo, mhi, pk, ps, pl, ph, mm), out)) 77 [(0, (.ref (ad (9, 0)))), (1, (.ref (ad (3, j)))), (2, (.long x2)), (4, (.long x4)), (6, (.int x6))] [] := by
  intro n
  induction n with
  | zero => intro  x2 x4 x6 hv; exact absurd hv x_lp0
  | succ n ih =>
    intro  x2 x4 x6 hv
    rw [lp_Jg_storesOverNoRange_77]
    refine x_iload 4 C d_Jg_storesOverNoRange_77 rfl ?_
    refine x_bipush (v := 6) C d_Jg_storesOverNoRange_79 (by decide) ?_
    refine x_icmp_ge 140 C d_Jg_storesOverNoRange_81 (by decide) (fun z8 => ?_) (fun z8 => ?_)
    · refine x_iconst (v := 0) C d_Jg_storesOverNoRange_140 (by decide) ?_
      exact x_zret C hr hlk rfl rfl d_Jg_storesOverNoRange_141
    · refine x_bipush (v := 6) C d_Jg_storesOverNoRange_84 (by decide) ?_
      refine x_iload 4 C d_Jg_storesOverNoRange_86 rfl ?_
      refine x_iadd C d_Jg_storesOverNoRange_88 ?_
      refine x_istore (lv' := [(7, (.int (6 + x6))), (0, (.ref (ad (9, 0)))), (1, (.ref (ad (3, j)))), (2, (.long x2)), (4, (.long x4)), (6, (.int x6))]) C d_Jg_storesOverNoRange_89 (by decide) rfl ?_
      refine x_iload 5 C d_Jg_storesOverNoRange_91 rfl ?_
      refine x_i2l C d_Jg_storesOverNoRange_93 ?_
      refine x_lload_n 3 C d_Jg_storesOverNoRange_94 rfl rfl ?_
      refine x_lcmp_lt 134 C d_Jg_storesOverNoRange_95 d_Jg_storesOverNoRange_96 (by decide) (fun z9 => ?_) (fun z9 => ?_)
      · refine x_iinc (lv' := [(6, (.int (x6 + 1))), (7, (.int (6 + x6))), (0, (.ref (ad (9, 0)))), (1, (.ref (ad (3, j)))), (2, (.long x2)), (4, (.long x4))]) 5 C d_Jg_storesOverNoRange_134 rfl rfl (by decide) rfl ?_
        refine x_goto 77 C d_Jg_storesOverNoRange_137 (by decide) ?_
        refine x_loc (lv' := [(0, (.ref (ad (9, 0)))), (1, (.ref (ad (3, j)))), (2, (.long x2)), (4, (.long x4)), (6, (.int (x6 + 1)))]) [2, 3, 4, 5, 0] rfl ?_
        exact ih  x2 x4 (x6 + 1) (x_lpS hv z8 (by decide) (by decide))
      · refine x_iload 5 C d_Jg_storesOverNoRange_99 rfl ?_
        refine x_i2l C d_Jg_storesOverNoRange_101 ?_
        refine x_lload 4 C d_Jg_storesOverNoRange_102 rfl ?_
        refine x_lcmp_gt 134 C d_Jg_storesOverNoRange_104 d_Jg_storesOverNoRange_105 (by decide) (fun z10 => ?_) (fun z10 => ?_)
        · refine x_iinc (lv' := [(6, (.int (x6 + 1))), (7, (.int (6 + x6))), (0, (.ref (ad (9, 0)))), (1, (.ref (ad (3, j)))), (2, (.long x2)), (4, (.long x4))]) 5 C d_Jg_storesOverNoRange_134 rfl rfl (by decide) rfl ?_
          refine x_goto 77 C d_Jg_storesOverNoRange_137 (by decide) ?_
          refine x_loc (lv' := [(0, (.ref (ad (9, 0)))), (1, (.ref (ad (3, j)))), (2, (.long x2)), (4, (.long x4)), (6, (.int (x6 + 1)))]) [2, 3, 4, 5, 0] rfl ?_
          exact ih  x2 x4 (x6 + 1) (x_lpS hv z8 (by decide) (by decide))
        · refine x_aload_n 1 C d_Jg_storesOverNoRange_108 rfl rfl ?_
          refine x_get (i := (9, 0)) (v := (.ref (ad (5, 0)))) 1 C m_9 rfl rfl i_Jg (by decide) (List.mem_cons_of_mem _ q_117) rfl d_Jg_storesOverNoRange_109 ?_
          refine x_iload 0 C d_Jg_storesOverNoRange_112 rfl ?_
          refine x_cv (i := (5, 0)) (F := x_F ad cA) (As := [(.int (6 + x6))]) (rest := []) C k_Gs_isEmpty q_447 (c_Gs_isEmpty ok 0 (by decide) (6 + x6) (x_lp6 hv z8 (by decide))) rfl rfl rfl (Nat.le_of_ble_eq_true rfl) (Nat.le_of_ble_eq_true rfl) (m_5 (by decide)) rfl rfl rfl rfl rfl (Nat.le_of_ble_eq_true rfl) d_Jg_storesOverNoRange_114 ⟨Nat.zero_le _, Nat.zero_le _⟩ ?_
          generalize hq11 : s_Gs_isEmpty gk 0 (6 + x6) = r11
          refine x_lets ?_
          refine x_if_ne 134 C d_Jg_storesOverNoRange_117 (by decide) (fun z12 => ?_) (fun z12 => ?_)
          · refine x_aload_n 1 C d_Jg_storesOverNoRange_120 rfl rfl ?_
            refine x_get (i := (9, 0)) (v := (.ref (ad (5, 0)))) 1 C m_9 rfl rfl i_Jg (by decide) (List.mem_cons_of_mem _ q_117) rfl d_Jg_storesOverNoRange_121 ?_
            refine x_iload 0 C d_Jg_storesOverNoRange_124 rfl ?_
            refine x_cv (i := (5, 0)) (F := x_F ad cA) (As := [(.int (6 + x6))]) (rest := []) C k_Gs_isRange q_470 (c_Gs_isRange ok 0 (by decide) (6 + x6) (x_lp6 hv z8 (by decide))) rfl rfl rfl (Nat.le_of_ble_eq_true rfl) (Nat.le_of_ble_eq_true rfl) (m_5 (by decide)) rfl rfl rfl rfl rfl (Nat.le_of_ble_eq_true rfl) d_Jg_storesOverNoRange_126 ⟨Nat.zero_le _, Nat.zero_le _⟩ ?_
            generalize hq13 : s_Gs_isRange gk 0 (6 + x6) = r13
            refine x_lets ?_
            refine x_if_ne 134 C d_Jg_storesOverNoRange_129 (by decide) (fun z14 => ?_) (fun z14 => ?_)
            · refine x_iconst (v := 1) C d_Jg_storesOverNoRange_132 (by decide) ?_
              exact x_zret C hr hlk rfl rfl d_Jg_storesOverNoRange_133
            · refine x_iinc (lv' := [(6, (.int (x6 + 1))), (7, (.int (6 + x6))), (0, (.ref (ad (9, 0)))), (1, (.ref (ad (3, j)))), (2, (.long x2)), (4, (.long x4))]) 5 C d_Jg_storesOverNoRange_134 rfl rfl (by decide) rfl ?_
              refine x_goto 77 C d_Jg_storesOverNoRange_137 (by decide) ?_
              refine x_loc (lv' := [(0, (.ref (ad (9, 0)))), (1, (.ref (ad (3, j)))), (2, (.long x2)), (4, (.long x4)), (6, (.int (x6 + 1)))]) [2, 3, 4, 5, 0] rfl ?_
              exact ih  x2 x4 (x6 + 1) (x_lpS hv z8 (by decide) (by decide))
          · refine x_iinc (lv' := [(6, (.int (x6 + 1))), (7, (.int (6 + x6))), (0, (.ref (ad (9, 0)))), (1, (.ref (ad (3, j)))), (2, (.long x2)), (4, (.long x4))]) 5 C d_Jg_storesOverNoRange_134 rfl rfl (by decide) rfl ?_
            refine x_goto 77 C d_Jg_storesOverNoRange_137 (by decide) ?_
            refine x_loc (lv' := [(0, (.ref (ad (9, 0)))), (1, (.ref (ad (3, j)))), (2, (.long x2)), (4, (.long x4)), (6, (.int (x6 + 1)))]) [2, 3, 4, 5, 0] rfl ?_
            exact ih  x2 x4 (x6 + 1) (x_lpS hv z8 (by decide) (by decide))
def s_Jg_storesOverNoRange (stp : Nat → Nat → Int32) (gk : Nat → Nat → Int32) (gl : Nat → Nat → Int64) (gh : Nat → Nat → Int64) (j : Nat) : Int32 :=
  (if (stp j 0) = 15 then (x_let (s_Gs_kind gk 0 (stp j 1)) fun r2 => (if r2 = 2 then (x_let (s_Jg_isOneCellOfFrame gk gl gh (stp j 1)) fun r4 => (if r4 = 0 then (x_let (s_Gs_lo gl 0 (stp j 1)) fun r6 => (x_let (s_Gs_hi gh 0 (stp j 1)) fun r7 => lp_Jg_storesOverNoRange_77 7 gk j (r6 + (Int32.toInt64 (stp j 3))) (r7 + (Int32.toInt64 (stp j 3))) 0)) else (0))) else (0))) else (0))
set_option maxHeartbeats 4000000 in
set_option maxRecDepth 100000 in
theorem c_Jg_storesOverNoRange {l : Launch} {D : va_G} {cA : Nat → ClassId} {ad : x_I → Nat} (ok : x_ok (x_k D cA ad)) {stp : Nat → Nat → Int32} {psz : Int32} {gk : Nat → Nat → Int32} {gl : Nat → Nat → Int64} {gh : Nat → Nat → Int64} {opn : Nat → Int32} {cki : Nat → Int32} {ckl : Nat → Int64} {mp : Nat → Nat → Int64} {rk : Nat → Int32} {rv : Nat → Int64} {ri : Nat → Int32} {chk : Int32} {mo : Nat → Nat → Int32} {mi : Nat → Int32} {ml : Nat → Int64} {mk : Nat → Int32} {mlo : Nat → Int64} {mhi : Nat → Int64} {pk : Nat → Int32} {ps : Nat → Int32} {pl : Nat → Int64} {ph : Nat → Int64} {mm : Nat → Int64} {out : Nat → Int64} (j : Nat) (hj : j < 24) (hw : x_wf stp) : x_M l y_Jg_storesOverNoRange (Cond.code y_Jg_storesOverNoRange b_Jg_storesOverNoRange 8 (Option.some Jvm.ClassFile.FieldType.boolean) :: x_Wd) { frames := 2, cells := 0, slots := 0, locals := 42 } (x_k D cA ad) (x_F ad cA) [(.ref (ad (9, 0))), (.ref (ad (3, j)))] ((stp, psz, gk, gl, gh, opn, cki, ckl, mp, rk, rv, ri, chk), (mo, mi, ml, mk, mlo, mhi, pk, ps, pl, ph, mm), out) ((fun q : Int32 => ((some (.int (q)), ((stp, psz, gk, gl, gh, opn, cki, ckl, mp, rk, rv, ri, chk), (mo, mi, ml, mk, mlo, mhi, pk, ps, pl, ph, mm), out)) : Option Value × x_S)) (s_Jg_storesOverNoRange stp gk gl gh j)) 0 0 := by
  refine x_start (κ := x_k D cA ad) (cc := b_Jg_storesOverNoRange) (F := x_F ad cA) (wr := (fun q : Int32 => ((some (.int (q)), ((stp, psz, gk, gl, gh, opn, cki, ckl, mp, rk, rv, ri, chk), (mo, mi, ml, mk, mlo, mhi, pk, ps, pl, ph, mm), out)) : Option Value × x_S))) (q := s_Jg_storesOverNoRange stp gk gl gh j) (ret := (Option.some Jvm.ClassFile.FieldType.boolean)) (lv0 := [(0, (.ref (ad (9, 0)))), (1, (.ref (ad (3, j))))]) ok (by decide) rfl (Nat.le_of_ble_eq_true rfl) rfl ?_
  intro p e s m below meth c C hr hlk
  unfold s_Jg_storesOverNoRange
  refine x_aload_n 1 C d_Jg_storesOverNoRange_0 rfl rfl ?_
  refine x_get (i := (3, j)) (v := (.int (stp j 0))) 0 C (m_3 hj) rfl rfl i_St (by decide) (List.mem_cons_of_mem _ q_44) rfl d_Jg_storesOverNoRange_1 ?_
  refine x_bipush (v := 15) C d_Jg_storesOverNoRange_4 (by decide) ?_
  refine x_icmp_ne 35 C d_Jg_storesOverNoRange_6 (by decide) (fun z1 => ?_) (fun z1 => ?_)
  · refine x_aload_n 0 C d_Jg_storesOverNoRange_9 rfl rfl ?_
    refine x_get (i := (9, 0)) (v := (.ref (ad (5, 0)))) 1 C m_9 rfl rfl i_Jg (by decide) (List.mem_cons_of_mem _ q_117) rfl d_Jg_storesOverNoRange_10 ?_
    refine x_aload_n 1 C d_Jg_storesOverNoRange_13 rfl rfl ?_
    refine x_get (i := (3, j)) (v := (.int (stp j 1))) 1 C (m_3 hj) rfl rfl i_St (by decide) (List.mem_cons_of_mem _ q_50) rfl d_Jg_storesOverNoRange_14 ?_
    refine x_cv (i := (5, 0)) (F := x_F ad cA) (As := [(.int (stp j 1))]) (rest := []) C k_Gs_kind q_482 (c_Gs_kind ok 0 (by decide) (stp j 1) (x_wfd hw hj)) rfl rfl rfl (Nat.le_of_ble_eq_true rfl) (Nat.le_of_ble_eq_true rfl) (m_5 (by decide)) rfl rfl rfl rfl rfl (Nat.le_of_ble_eq_true rfl) d_Jg_storesOverNoRange_17 ⟨Nat.zero_le _, Nat.zero_le _⟩ ?_
    generalize hq2 : s_Gs_kind gk 0 (stp j 1) = r2
    refine x_lets ?_
    refine x_iconst (v := 2) C d_Jg_storesOverNoRange_20 (by decide) ?_
    refine x_icmp_ne 35 C d_Jg_storesOverNoRange_21 (by decide) (fun z3 => ?_) (fun z3 => ?_)
    · refine x_aload_n 0 C d_Jg_storesOverNoRange_24 rfl rfl ?_
      refine x_aload_n 1 C d_Jg_storesOverNoRange_25 rfl rfl ?_
      refine x_get (i := (3, j)) (v := (.int (stp j 1))) 1 C (m_3 hj) rfl rfl i_St (by decide) (List.mem_cons_of_mem _ q_50) rfl d_Jg_storesOverNoRange_26 ?_
      refine x_cv (i := (9, 0)) (F := x_F ad cA) (As := [(.int (stp j 1))]) (rest := []) C k_Jg_isOneCellOfFrame q_490 (c_Jg_isOneCellOfFrame ok (stp j 1) (x_wfd hw hj)) rfl rfl rfl (Nat.le_of_ble_eq_true rfl) (Nat.le_of_ble_eq_true rfl) m_9 rfl rfl rfl rfl rfl (Nat.le_of_ble_eq_true rfl) d_Jg_storesOverNoRange_29 ⟨Nat.zero_le _, Nat.zero_le _⟩ ?_
      generalize hq4 : s_Jg_isOneCellOfFrame gk gl gh (stp j 1) = r4
      refine x_lets ?_
      refine x_if_eq 37 C d_Jg_storesOverNoRange_32 (by decide) (fun z5 => ?_) (fun z5 => ?_)
      · refine x_aload_n 0 C d_Jg_storesOverNoRange_37 rfl rfl ?_
        refine x_get (i := (9, 0)) (v := (.ref (ad (5, 0)))) 1 C m_9 rfl rfl i_Jg (by decide) (List.mem_cons_of_mem _ q_117) rfl d_Jg_storesOverNoRange_38 ?_
        refine x_aload_n 1 C d_Jg_storesOverNoRange_41 rfl rfl ?_
        refine x_get (i := (3, j)) (v := (.int (stp j 1))) 1 C (m_3 hj) rfl rfl i_St (by decide) (List.mem_cons_of_mem _ q_50) rfl d_Jg_storesOverNoRange_42 ?_
        refine x_cv (i := (5, 0)) (F := x_F ad cA) (As := [(.int (stp j 1))]) (rest := []) C k_Gs_lo q_494 (c_Gs_lo ok 0 (by decide) (stp j 1) (x_wfd hw hj)) rfl rfl rfl (Nat.le_of_ble_eq_true rfl) (Nat.le_of_ble_eq_true rfl) (m_5 (by decide)) rfl rfl rfl rfl rfl (Nat.le_of_ble_eq_true rfl) d_Jg_storesOverNoRange_45 ⟨Nat.zero_le _, Nat.zero_le _⟩ ?_
        generalize hq6 : s_Gs_lo gl 0 (stp j 1) = r6
        refine x_lets ?_
        refine x_aload_n 1 C d_Jg_storesOverNoRange_48 rfl rfl ?_
        refine x_get (i := (3, j)) (v := (.int (stp j 3))) 3 C (m_3 hj) rfl rfl i_St (by decide) (List.mem_cons_of_mem _ q_61) rfl d_Jg_storesOverNoRange_49 ?_
        refine x_i2l C d_Jg_storesOverNoRange_52 ?_
        refine x_ladd C d_Jg_storesOverNoRange_53 ?_
        refine x_lstore_n (lv' := [(2, (.long (r6 + (Int32.toInt64 (stp j 3))))), (0, (.ref (ad (9, 0)))), (1, (.ref (ad (3, j))))]) C d_Jg_storesOverNoRange_54 rfl (by decide) rfl ?_
        refine x_aload_n 1 C d_Jg_storesOverNoRange_55 rfl rfl ?_
        refine x_get (i := (9, 0)) (v := (.ref (ad (5, 0)))) 1 C m_9 rfl rfl i_Jg (by decide) (List.mem_cons_of_mem _ q_117) rfl d_Jg_storesOverNoRange_56 ?_
        refine x_aload_n 2 C d_Jg_storesOverNoRange_59 rfl rfl ?_
        refine x_get (i := (3, j)) (v := (.int (stp j 1))) 1 C (m_3 hj) rfl rfl i_St (by decide) (List.mem_cons_of_mem _ q_50) rfl d_Jg_storesOverNoRange_60 ?_
        refine x_cv (i := (5, 0)) (F := x_F ad cA) (As := [(.int (stp j 1))]) (rest := []) C k_Gs_hi q_498 (c_Gs_hi ok 0 (by decide) (stp j 1) (x_wfd hw hj)) rfl rfl rfl (Nat.le_of_ble_eq_true rfl) (Nat.le_of_ble_eq_true rfl) (m_5 (by decide)) rfl rfl rfl rfl rfl (Nat.le_of_ble_eq_true rfl) d_Jg_storesOverNoRange_63 ⟨Nat.zero_le _, Nat.zero_le _⟩ ?_
        generalize hq7 : s_Gs_hi gh 0 (stp j 1) = r7
        refine x_lets ?_
        refine x_aload_n 2 C d_Jg_storesOverNoRange_66 rfl rfl ?_
        refine x_get (i := (3, j)) (v := (.int (stp j 3))) 3 C (m_3 hj) rfl rfl i_St (by decide) (List.mem_cons_of_mem _ q_61) rfl d_Jg_storesOverNoRange_67 ?_
        refine x_i2l C d_Jg_storesOverNoRange_70 ?_
        refine x_ladd C d_Jg_storesOverNoRange_71 ?_
        refine x_lstore (lv' := [(4, (.long (r7 + (Int32.toInt64 (stp j 3))))), (2, (.long (r6 + (Int32.toInt64 (stp j 3))))), (0, (.ref (ad (9, 0)))), (1, (.ref (ad (3, j))))]) C d_Jg_storesOverNoRange_72 (by decide) rfl ?_
        refine x_iconst (v := 0) C d_Jg_storesOverNoRange_74 (by decide) ?_
        refine x_istore (lv' := [(6, (.int 0)), (4, (.long (r7 + (Int32.toInt64 (stp j 3))))), (2, (.long (r6 + (Int32.toInt64 (stp j 3))))), (0, (.ref (ad (9, 0)))), (1, (.ref (ad (3, j))))]) C d_Jg_storesOverNoRange_75 (by decide) rfl ?_
        refine x_loc (lv' := [(0, (.ref (ad (9, 0)))), (1, (.ref (ad (3, j)))), (2, (.long (r6 + (Int32.toInt64 (stp j 3))))), (4, (.long (r7 + (Int32.toInt64 (stp j 3))))), (6, (.int 0))]) [3, 4, 2, 1, 0] rfl ?_
        exact cl_Jg_storesOverNoRange_77 ok C hr hlk j hj hw 7  (r6 + (Int32.toInt64 (stp j 3))) (r7 + (Int32.toInt64 (stp j 3))) 0 ⟨by decide, by decide, by decide⟩
      · refine x_iconst (v := 0) C d_Jg_storesOverNoRange_35 (by decide) ?_
        exact x_zret C hr hlk rfl rfl d_Jg_storesOverNoRange_36
    · refine x_iconst (v := 0) C d_Jg_storesOverNoRange_35 (by decide) ?_
      exact x_zret C hr hlk rfl rfl d_Jg_storesOverNoRange_36
  · refine x_iconst (v := 0) C d_Jg_storesOverNoRange_35 (by decide) ?_
    exact x_zret C hr hlk rfl rfl d_Jg_storesOverNoRange_36
def s_Jg_movesTooFar (gk : Nat → Nat → Int32) (gl : Nat → Nat → Int64) (gh : Nat → Nat → Int64) (a1 : Int32) (a2 : Int64) (a3 : Int64) : Int32 :=
  (x_let (s_Gs_isPlace gk 0 a1) fun r1 => (if r1 = 0 then (0) else (x_let (s_Gs_lo gl 0 a1) fun r3 => (if (r3 + a2) < (-100) then (1) else (if 100 < (r3 + a2) then (1) else (x_let (s_Gs_hi gh 0 a1) fun r6 => (if (r6 + a3) < (-100) then (1) else (if (r6 + a3) ≤ 100 then (0) else (1)))))))))
set_option maxHeartbeats 4000000 in
set_option maxRecDepth 100000 in
theorem c_Jg_movesTooFar {l : Launch} {D : va_G} {cA : Nat → ClassId} {ad : x_I → Nat} (ok : x_ok (x_k D cA ad)) {stp : Nat → Nat → Int32} {psz : Int32} {gk : Nat → Nat → Int32} {gl : Nat → Nat → Int64} {gh : Nat → Nat → Int64} {opn : Nat → Int32} {cki : Nat → Int32} {ckl : Nat → Int64} {mp : Nat → Nat → Int64} {rk : Nat → Int32} {rv : Nat → Int64} {ri : Nat → Int32} {chk : Int32} {mo : Nat → Nat → Int32} {mi : Nat → Int32} {ml : Nat → Int64} {mk : Nat → Int32} {mlo : Nat → Int64} {mhi : Nat → Int64} {pk : Nat → Int32} {ps : Nat → Int32} {pl : Nat → Int64} {ph : Nat → Int64} {mm : Nat → Int64} {out : Nat → Int64} (a1 : Int32) (a2 : Int64) (a3 : Int64) (h1 : vp_in a1 12) : x_M l y_Jg_movesTooFar (Cond.code y_Jg_movesTooFar b_Jg_movesTooFar 6 (Option.some Jvm.ClassFile.FieldType.boolean) :: x_Wd) { frames := 1, cells := 0, slots := 0, locals := 21 } (x_k D cA ad) (x_F ad cA) [(.ref (ad (9, 0))), (.int a1), (.long a2), (.long a3)] ((stp, psz, gk, gl, gh, opn, cki, ckl, mp, rk, rv, ri, chk), (mo, mi, ml, mk, mlo, mhi, pk, ps, pl, ph, mm), out) ((fun q : Int32 => ((some (.int (q)), ((stp, psz, gk, gl, gh, opn, cki, ckl, mp, rk, rv, ri, chk), (mo, mi, ml, mk, mlo, mhi, pk, ps, pl, ph, mm), out)) : Option Value × x_S)) (s_Jg_movesTooFar gk gl gh a1 a2 a3)) 0 0 := by
  refine x_start (κ := x_k D cA ad) (cc := b_Jg_movesTooFar) (F := x_F ad cA) (wr := (fun q : Int32 => ((some (.int (q)), ((stp, psz, gk, gl, gh, opn, cki, ckl, mp, rk, rv, ri, chk), (mo, mi, ml, mk, mlo, mhi, pk, ps, pl, ph, mm), out)) : Option Value × x_S))) (q := s_Jg_movesTooFar gk gl gh a1 a2 a3) (ret := (Option.some Jvm.ClassFile.FieldType.boolean)) (lv0 := [(0, (.ref (ad (9, 0)))), (1, (.int a1)), (2, (.long a2)), (4, (.long a3))]) ok (by decide) rfl (Nat.le_of_ble_eq_true rfl) rfl ?_
  intro p e s m below meth c C hr hlk
  unfold s_Jg_movesTooFar
  refine x_aload_n 0 C d_Jg_movesTooFar_0 rfl rfl ?_
  refine x_get (i := (9, 0)) (v := (.ref (ad (5, 0)))) 1 C m_9 rfl rfl i_Jg (by decide) (List.mem_cons_of_mem _ q_117) rfl d_Jg_movesTooFar_1 ?_
  refine x_iload_n 1 C d_Jg_movesTooFar_4 rfl rfl ?_
  refine x_cv (i := (5, 0)) (F := x_F ad cA) (As := [(.int a1)]) (rest := []) C k_Gs_isPlace q_474 (c_Gs_isPlace ok 0 (by decide) a1 h1) rfl rfl rfl (Nat.le_of_ble_eq_true rfl) (Nat.le_of_ble_eq_true rfl) (m_5 (by decide)) rfl rfl rfl rfl rfl (Nat.le_of_ble_eq_true rfl) d_Jg_movesTooFar_5 ⟨Nat.zero_le _, Nat.zero_le _⟩ ?_
  generalize hq1 : s_Gs_isPlace gk 0 a1 = r1
  refine x_lets ?_
  refine x_if_eq 85 C d_Jg_movesTooFar_8 (by decide) (fun z2 => ?_) (fun z2 => ?_)
  · refine x_iconst (v := 0) C d_Jg_movesTooFar_85 (by decide) ?_
    exact x_zret C hr hlk rfl rfl d_Jg_movesTooFar_86
  · refine x_aload_n 0 C d_Jg_movesTooFar_11 rfl rfl ?_
    refine x_get (i := (9, 0)) (v := (.ref (ad (5, 0)))) 1 C m_9 rfl rfl i_Jg (by decide) (List.mem_cons_of_mem _ q_117) rfl d_Jg_movesTooFar_12 ?_
    refine x_iload_n 1 C d_Jg_movesTooFar_15 rfl rfl ?_
    refine x_cv (i := (5, 0)) (F := x_F ad cA) (As := [(.int a1)]) (rest := []) C k_Gs_lo q_494 (c_Gs_lo ok 0 (by decide) a1 h1) rfl rfl rfl (Nat.le_of_ble_eq_true rfl) (Nat.le_of_ble_eq_true rfl) (m_5 (by decide)) rfl rfl rfl rfl rfl (Nat.le_of_ble_eq_true rfl) d_Jg_movesTooFar_16 ⟨Nat.zero_le _, Nat.zero_le _⟩ ?_
    generalize hq3 : s_Gs_lo gl 0 a1 = r3
    refine x_lets ?_
    refine x_lload_n 2 C d_Jg_movesTooFar_19 rfl rfl ?_
    refine x_ladd C d_Jg_movesTooFar_20 ?_
    refine x_ldc2 (v := (-100)) C (List.mem_cons_of_mem _ q_518) d_Jg_movesTooFar_21 ?_
    refine x_lcmp_lt 81 C d_Jg_movesTooFar_24 d_Jg_movesTooFar_25 (by decide) (fun z4 => ?_) (fun z4 => ?_)
    · refine x_iconst (v := 1) C d_Jg_movesTooFar_81 (by decide) ?_
      refine x_goto 86 C d_Jg_movesTooFar_82 (by decide) ?_
      exact x_zret C hr hlk rfl rfl d_Jg_movesTooFar_86
    · refine x_aload_n 0 C d_Jg_movesTooFar_28 rfl rfl ?_
      refine x_get (i := (9, 0)) (v := (.ref (ad (5, 0)))) 1 C m_9 rfl rfl i_Jg (by decide) (List.mem_cons_of_mem _ q_117) rfl d_Jg_movesTooFar_29 ?_
      refine x_iload_n 1 C d_Jg_movesTooFar_32 rfl rfl ?_
      refine x_cv (i := (5, 0)) (F := x_F ad cA) (As := [(.int a1)]) (rest := []) C k_Gs_lo q_494 (c_Gs_lo ok 0 (by decide) a1 h1) rfl rfl rfl (Nat.le_of_ble_eq_true rfl) (Nat.le_of_ble_eq_true rfl) (m_5 (by decide)) rfl rfl rfl rfl rfl (Nat.le_of_ble_eq_true rfl) d_Jg_movesTooFar_33 ⟨Nat.zero_le _, Nat.zero_le _⟩ ?_
      rw [hq3]
      refine x_lload_n 2 C d_Jg_movesTooFar_36 rfl rfl ?_
      refine x_ladd C d_Jg_movesTooFar_37 ?_
      refine x_ldc2 (v := 100) C (List.mem_cons_of_mem _ q_519) d_Jg_movesTooFar_38 ?_
      refine x_lcmp_gt 81 C d_Jg_movesTooFar_41 d_Jg_movesTooFar_42 (by decide) (fun z5 => ?_) (fun z5 => ?_)
      · refine x_iconst (v := 1) C d_Jg_movesTooFar_81 (by decide) ?_
        refine x_goto 86 C d_Jg_movesTooFar_82 (by decide) ?_
        exact x_zret C hr hlk rfl rfl d_Jg_movesTooFar_86
      · refine x_aload_n 0 C d_Jg_movesTooFar_45 rfl rfl ?_
        refine x_get (i := (9, 0)) (v := (.ref (ad (5, 0)))) 1 C m_9 rfl rfl i_Jg (by decide) (List.mem_cons_of_mem _ q_117) rfl d_Jg_movesTooFar_46 ?_
        refine x_iload_n 1 C d_Jg_movesTooFar_49 rfl rfl ?_
        refine x_cv (i := (5, 0)) (F := x_F ad cA) (As := [(.int a1)]) (rest := []) C k_Gs_hi q_498 (c_Gs_hi ok 0 (by decide) a1 h1) rfl rfl rfl (Nat.le_of_ble_eq_true rfl) (Nat.le_of_ble_eq_true rfl) (m_5 (by decide)) rfl rfl rfl rfl rfl (Nat.le_of_ble_eq_true rfl) d_Jg_movesTooFar_50 ⟨Nat.zero_le _, Nat.zero_le _⟩ ?_
        generalize hq6 : s_Gs_hi gh 0 a1 = r6
        refine x_lets ?_
        refine x_lload 3 C d_Jg_movesTooFar_53 rfl ?_
        refine x_ladd C d_Jg_movesTooFar_55 ?_
        refine x_ldc2 (v := (-100)) C (List.mem_cons_of_mem _ q_518) d_Jg_movesTooFar_56 ?_
        refine x_lcmp_lt 81 C d_Jg_movesTooFar_59 d_Jg_movesTooFar_60 (by decide) (fun z7 => ?_) (fun z7 => ?_)
        · refine x_iconst (v := 1) C d_Jg_movesTooFar_81 (by decide) ?_
          refine x_goto 86 C d_Jg_movesTooFar_82 (by decide) ?_
          exact x_zret C hr hlk rfl rfl d_Jg_movesTooFar_86
        · refine x_aload_n 0 C d_Jg_movesTooFar_63 rfl rfl ?_
          refine x_get (i := (9, 0)) (v := (.ref (ad (5, 0)))) 1 C m_9 rfl rfl i_Jg (by decide) (List.mem_cons_of_mem _ q_117) rfl d_Jg_movesTooFar_64 ?_
          refine x_iload_n 1 C d_Jg_movesTooFar_67 rfl rfl ?_
          refine x_cv (i := (5, 0)) (F := x_F ad cA) (As := [(.int a1)]) (rest := []) C k_Gs_hi q_498 (c_Gs_hi ok 0 (by decide) a1 h1) rfl rfl rfl (Nat.le_of_ble_eq_true rfl) (Nat.le_of_ble_eq_true rfl) (m_5 (by decide)) rfl rfl rfl rfl rfl (Nat.le_of_ble_eq_true rfl) d_Jg_movesTooFar_68 ⟨Nat.zero_le _, Nat.zero_le _⟩ ?_
          rw [hq6]
          refine x_lload 3 C d_Jg_movesTooFar_71 rfl ?_
          refine x_ladd C d_Jg_movesTooFar_73 ?_
          refine x_ldc2 (v := 100) C (List.mem_cons_of_mem _ q_519) d_Jg_movesTooFar_74 ?_
          refine x_lcmp_le 85 C d_Jg_movesTooFar_77 d_Jg_movesTooFar_78 (by decide) (fun z8 => ?_) (fun z8 => ?_)
          · refine x_iconst (v := 0) C d_Jg_movesTooFar_85 (by decide) ?_
            exact x_zret C hr hlk rfl rfl d_Jg_movesTooFar_86
          · refine x_iconst (v := 1) C d_Jg_movesTooFar_81 (by decide) ?_
            refine x_goto 86 C d_Jg_movesTooFar_82 (by decide) ?_
            exact x_zret C hr hlk rfl rfl d_Jg_movesTooFar_86
def s_Jg_missesCells (gk : Nat → Nat → Int32) (gl : Nat → Nat → Int64) (gh : Nat → Nat → Int64) (a1 : Int32) (a2 : Int64) : Int32 :=
  (x_let (s_Gs_kind gk 0 a1) fun r1 => (if r1 = 2 then (x_let (s_Gs_lo gl 0 a1) fun r3 => (if (r3 + a2) < 0 then (1) else (x_let (s_Gs_hi gh 0 a1) fun r5 => (if (r5 + a2) < (Int32.toInt64 6) then (0) else (1))))) else (x_let (s_Gs_lo gl 0 a1) fun r7 => (if (r7 + a2) < 0 then (1) else (x_let (s_Gs_hi gh 0 a1) fun r9 => (if (r9 + a2) < (Int32.toInt64 2) then (0) else (1)))))))
set_option maxHeartbeats 4000000 in
set_option maxRecDepth 100000 in
theorem c_Jg_missesCells {l : Launch} {D : va_G} {cA : Nat → ClassId} {ad : x_I → Nat} (ok : x_ok (x_k D cA ad)) {stp : Nat → Nat → Int32} {psz : Int32} {gk : Nat → Nat → Int32} {gl : Nat → Nat → Int64} {gh : Nat → Nat → Int64} {opn : Nat → Int32} {cki : Nat → Int32} {ckl : Nat → Int64} {mp : Nat → Nat → Int64} {rk : Nat → Int32} {rv : Nat → Int64} {ri : Nat → Int32} {chk : Int32} {mo : Nat → Nat → Int32} {mi : Nat → Int32} {ml : Nat → Int64} {mk : Nat → Int32} {mlo : Nat → Int64} {mhi : Nat → Int64} {pk : Nat → Int32} {ps : Nat → Int32} {pl : Nat → Int64} {ph : Nat → Int64} {mm : Nat → Int64} {out : Nat → Int64} (a1 : Int32) (a2 : Int64) (h1 : vp_in a1 12) : x_M l y_Jg_missesCells (Cond.code y_Jg_missesCells b_Jg_missesCells 5 (Option.some Jvm.ClassFile.FieldType.boolean) :: x_Wd) { frames := 1, cells := 0, slots := 0, locals := 21 } (x_k D cA ad) (x_F ad cA) [(.ref (ad (9, 0))), (.int a1), (.long a2)] ((stp, psz, gk, gl, gh, opn, cki, ckl, mp, rk, rv, ri, chk), (mo, mi, ml, mk, mlo, mhi, pk, ps, pl, ph, mm), out) ((fun q : Int32 => ((some (.int (q)), ((stp, psz, gk, gl, gh, opn, cki, ckl, mp, rk, rv, ri, chk), (mo, mi, ml, mk, mlo, mhi, pk, ps, pl, ph, mm), out)) : Option Value × x_S)) (s_Jg_missesCells gk gl gh a1 a2)) 0 0 := by
  refine x_start (κ := x_k D cA ad) (cc := b_Jg_missesCells) (F := x_F ad cA) (wr := (fun q : Int32 => ((some (.int (q)), ((stp, psz, gk, gl, gh, opn, cki, ckl, mp, rk, rv, ri, chk), (mo, mi, ml, mk, mlo, mhi, pk, ps, pl, ph, mm), out)) : Option Value × x_S))) (q := s_Jg_missesCells gk gl gh a1 a2) (ret := (Option.some Jvm.ClassFile.FieldType.boolean)) (lv0 := [(0, (.ref (ad (9, 0)))), (1, (.int a1)), (2, (.long a2))]) ok (by decide) rfl (Nat.le_of_ble_eq_true rfl) rfl ?_
  intro p e s m below meth c C hr hlk
  unfold s_Jg_missesCells
  refine x_aload_n 0 C d_Jg_missesCells_0 rfl rfl ?_
  refine x_get (i := (9, 0)) (v := (.ref (ad (5, 0)))) 1 C m_9 rfl rfl i_Jg (by decide) (List.mem_cons_of_mem _ q_117) rfl d_Jg_missesCells_1 ?_
  refine x_iload_n 1 C d_Jg_missesCells_4 rfl rfl ?_
  refine x_cv (i := (5, 0)) (F := x_F ad cA) (As := [(.int a1)]) (rest := []) C k_Gs_kind q_482 (c_Gs_kind ok 0 (by decide) a1 h1) rfl rfl rfl (Nat.le_of_ble_eq_true rfl) (Nat.le_of_ble_eq_true rfl) (m_5 (by decide)) rfl rfl rfl rfl rfl (Nat.le_of_ble_eq_true rfl) d_Jg_missesCells_5 ⟨Nat.zero_le _, Nat.zero_le _⟩ ?_
  generalize hq1 : s_Gs_kind gk 0 a1 = r1
  refine x_lets ?_
  refine x_iconst (v := 2) C d_Jg_missesCells_8 (by decide) ?_
  refine x_icmp_ne 17 C d_Jg_missesCells_9 (by decide) (fun z2 => ?_) (fun z2 => ?_)
  · refine x_bipush (v := 6) C d_Jg_missesCells_12 (by decide) ?_
    refine x_goto 18 C d_Jg_missesCells_14 (by decide) ?_
    refine x_istore (lv' := [(4, (.int 6)), (0, (.ref (ad (9, 0)))), (1, (.int a1)), (2, (.long a2))]) C d_Jg_missesCells_18 (by decide) rfl ?_
    refine x_aload_n 1 C d_Jg_missesCells_20 rfl rfl ?_
    refine x_get (i := (9, 0)) (v := (.ref (ad (5, 0)))) 1 C m_9 rfl rfl i_Jg (by decide) (List.mem_cons_of_mem _ q_117) rfl d_Jg_missesCells_21 ?_
    refine x_iload_n 2 C d_Jg_missesCells_24 rfl rfl ?_
    refine x_cv (i := (5, 0)) (F := x_F ad cA) (As := [(.int a1)]) (rest := []) C k_Gs_lo q_494 (c_Gs_lo ok 0 (by decide) a1 h1) rfl rfl rfl (Nat.le_of_ble_eq_true rfl) (Nat.le_of_ble_eq_true rfl) (m_5 (by decide)) rfl rfl rfl rfl rfl (Nat.le_of_ble_eq_true rfl) d_Jg_missesCells_25 ⟨Nat.zero_le _, Nat.zero_le _⟩ ?_
    generalize hq3 : s_Gs_lo gl 0 a1 = r3
    refine x_lets ?_
    refine x_lload_n 3 C d_Jg_missesCells_28 rfl rfl ?_
    refine x_ladd C d_Jg_missesCells_29 ?_
    refine x_lconst (v := 0) C d_Jg_missesCells_30 (by decide) ?_
    refine x_lcmp_lt 52 C d_Jg_missesCells_31 d_Jg_missesCells_32 (by decide) (fun z4 => ?_) (fun z4 => ?_)
    · refine x_iconst (v := 1) C d_Jg_missesCells_52 (by decide) ?_
      refine x_goto 57 C d_Jg_missesCells_53 (by decide) ?_
      exact x_zret C hr hlk rfl rfl d_Jg_missesCells_57
    · refine x_aload_n 1 C d_Jg_missesCells_35 rfl rfl ?_
      refine x_get (i := (9, 0)) (v := (.ref (ad (5, 0)))) 1 C m_9 rfl rfl i_Jg (by decide) (List.mem_cons_of_mem _ q_117) rfl d_Jg_missesCells_36 ?_
      refine x_iload_n 2 C d_Jg_missesCells_39 rfl rfl ?_
      refine x_cv (i := (5, 0)) (F := x_F ad cA) (As := [(.int a1)]) (rest := []) C k_Gs_hi q_498 (c_Gs_hi ok 0 (by decide) a1 h1) rfl rfl rfl (Nat.le_of_ble_eq_true rfl) (Nat.le_of_ble_eq_true rfl) (m_5 (by decide)) rfl rfl rfl rfl rfl (Nat.le_of_ble_eq_true rfl) d_Jg_missesCells_40 ⟨Nat.zero_le _, Nat.zero_le _⟩ ?_
      generalize hq5 : s_Gs_hi gh 0 a1 = r5
      refine x_lets ?_
      refine x_lload_n 3 C d_Jg_missesCells_43 rfl rfl ?_
      refine x_ladd C d_Jg_missesCells_44 ?_
      refine x_iload 0 C d_Jg_missesCells_45 rfl ?_
      refine x_i2l C d_Jg_missesCells_47 ?_
      refine x_lcmp_lt 56 C d_Jg_missesCells_48 d_Jg_missesCells_49 (by decide) (fun z6 => ?_) (fun z6 => ?_)
      · refine x_iconst (v := 0) C d_Jg_missesCells_56 (by decide) ?_
        exact x_zret C hr hlk rfl rfl d_Jg_missesCells_57
      · refine x_iconst (v := 1) C d_Jg_missesCells_52 (by decide) ?_
        refine x_goto 57 C d_Jg_missesCells_53 (by decide) ?_
        exact x_zret C hr hlk rfl rfl d_Jg_missesCells_57
  · refine x_iconst (v := 2) C d_Jg_missesCells_17 (by decide) ?_
    refine x_istore (lv' := [(4, (.int 2)), (0, (.ref (ad (9, 0)))), (1, (.int a1)), (2, (.long a2))]) C d_Jg_missesCells_18 (by decide) rfl ?_
    refine x_aload_n 1 C d_Jg_missesCells_20 rfl rfl ?_
    refine x_get (i := (9, 0)) (v := (.ref (ad (5, 0)))) 1 C m_9 rfl rfl i_Jg (by decide) (List.mem_cons_of_mem _ q_117) rfl d_Jg_missesCells_21 ?_
    refine x_iload_n 2 C d_Jg_missesCells_24 rfl rfl ?_
    refine x_cv (i := (5, 0)) (F := x_F ad cA) (As := [(.int a1)]) (rest := []) C k_Gs_lo q_494 (c_Gs_lo ok 0 (by decide) a1 h1) rfl rfl rfl (Nat.le_of_ble_eq_true rfl) (Nat.le_of_ble_eq_true rfl) (m_5 (by decide)) rfl rfl rfl rfl rfl (Nat.le_of_ble_eq_true rfl) d_Jg_missesCells_25 ⟨Nat.zero_le _, Nat.zero_le _⟩ ?_
    generalize hq7 : s_Gs_lo gl 0 a1 = r7
    refine x_lets ?_
    refine x_lload_n 3 C d_Jg_missesCells_28 rfl rfl ?_
    refine x_ladd C d_Jg_missesCells_29 ?_
    refine x_lconst (v := 0) C d_Jg_missesCells_30 (by decide) ?_
    refine x_lcmp_lt 52 C d_Jg_missesCells_31 d_Jg_missesCells_32 (by decide) (fun z8 => ?_) (fun z8 => ?_)
    · refine x_iconst (v := 1) C d_Jg_missesCells_52 (by decide) ?_
      refine x_goto 57 C d_Jg_missesCells_53 (by decide) ?_
      exact x_zret C hr hlk rfl rfl d_Jg_missesCells_57
    · refine x_aload_n 1 C d_Jg_missesCells_35 rfl rfl ?_
      refine x_get (i := (9, 0)) (v := (.ref (ad (5, 0)))) 1 C m_9 rfl rfl i_Jg (by decide) (List.mem_cons_of_mem _ q_117) rfl d_Jg_missesCells_36 ?_
      refine x_iload_n 2 C d_Jg_missesCells_39 rfl rfl ?_
      refine x_cv (i := (5, 0)) (F := x_F ad cA) (As := [(.int a1)]) (rest := []) C k_Gs_hi q_498 (c_Gs_hi ok 0 (by decide) a1 h1) rfl rfl rfl (Nat.le_of_ble_eq_true rfl) (Nat.le_of_ble_eq_true rfl) (m_5 (by decide)) rfl rfl rfl rfl rfl (Nat.le_of_ble_eq_true rfl) d_Jg_missesCells_40 ⟨Nat.zero_le _, Nat.zero_le _⟩ ?_
      generalize hq9 : s_Gs_hi gh 0 a1 = r9
      refine x_lets ?_
      refine x_lload_n 3 C d_Jg_missesCells_43 rfl rfl ?_
      refine x_ladd C d_Jg_missesCells_44 ?_
      refine x_iload 0 C d_Jg_missesCells_45 rfl ?_
      refine x_i2l C d_Jg_missesCells_47 ?_
      refine x_lcmp_lt 56 C d_Jg_missesCells_48 d_Jg_missesCells_49 (by decide) (fun z10 => ?_) (fun z10 => ?_)
      · refine x_iconst (v := 0) C d_Jg_missesCells_56 (by decide) ?_
        exact x_zret C hr hlk rfl rfl d_Jg_missesCells_57
      · refine x_iconst (v := 1) C d_Jg_missesCells_52 (by decide) ?_
        refine x_goto 57 C d_Jg_missesCells_53 (by decide) ?_
        exact x_zret C hr hlk rfl rfl d_Jg_missesCells_57
theorem z_Jg_missesCells {gk : Nat → Nat → Int32} {gl : Nat → Nat → Int64} {gh : Nat → Nat → Int64} {a1 : Int32} {a2 : Int64} : narrow .boolean (.int (s_Jg_missesCells gk gl gh a1 a2)) = .int (s_Jg_missesCells gk gl gh a1 a2) := by
  unfold s_Jg_missesCells
  (try simp only [x_let])
  repeat' split
  all_goals first | rfl | exact z_Gs_isEmpty | exact z_Jg_callsWithWrongKind | exact z_Jg_storesWrongKind
theorem z_Jg_movesTooFar {gk : Nat → Nat → Int32} {gl : Nat → Nat → Int64} {gh : Nat → Nat → Int64} {a1 : Int32} {a2 : Int64} {a3 : Int64} : narrow .boolean (.int (s_Jg_movesTooFar gk gl gh a1 a2 a3)) = .int (s_Jg_movesTooFar gk gl gh a1 a2 a3) := by
  unfold s_Jg_movesTooFar
  (try simp only [x_let])
  repeat' split
  all_goals first | rfl | exact z_Gs_isEmpty | exact z_Jg_callsWithWrongKind | exact z_Jg_storesWrongKind
def s_Jg_goesOutside (stp : Nat → Nat → Int32) (gk : Nat → Nat → Int32) (gl : Nat → Nat → Int64) (gh : Nat → Nat → Int64) (j : Nat) : Int32 :=
  (if (stp j 0) = 2 then (x_let (s_Jg_movesTooFar gk gl gh (stp j 1) (Int32.toInt64 (stp j 3)) (Int32.toInt64 (stp j 3))) fun r2 => (r2)) else if (stp j 0) = 3 then (x_let (s_Gs_lo gl 0 (stp j 2)) fun r4 => (x_let (s_Gs_hi gh 0 (stp j 2)) fun r5 => (x_let (s_Jg_movesTooFar gk gl gh (stp j 1) r4 r5) fun r6 => (r6)))) else if (stp j 0) = 14 then (x_let (s_Jg_missesCells gk gl gh (stp j 2) (Int32.toInt64 (stp j 3))) fun r8 => (r8)) else if (stp j 0) = 15 then (x_let (s_Jg_missesCells gk gl gh (stp j 1) (Int32.toInt64 (stp j 3))) fun r10 => (r10)) else (0))
set_option maxHeartbeats 4000000 in
set_option maxRecDepth 100000 in
theorem c_Jg_goesOutside {l : Launch} {D : va_G} {cA : Nat → ClassId} {ad : x_I → Nat} (ok : x_ok (x_k D cA ad)) {stp : Nat → Nat → Int32} {psz : Int32} {gk : Nat → Nat → Int32} {gl : Nat → Nat → Int64} {gh : Nat → Nat → Int64} {opn : Nat → Int32} {cki : Nat → Int32} {ckl : Nat → Int64} {mp : Nat → Nat → Int64} {rk : Nat → Int32} {rv : Nat → Int64} {ri : Nat → Int32} {chk : Int32} {mo : Nat → Nat → Int32} {mi : Nat → Int32} {ml : Nat → Int64} {mk : Nat → Int32} {mlo : Nat → Int64} {mhi : Nat → Int64} {pk : Nat → Int32} {ps : Nat → Int32} {pl : Nat → Int64} {ph : Nat → Int64} {mm : Nat → Int64} {out : Nat → Int64} (j : Nat) (hj : j < 24) (hw : x_wf stp) : x_M l y_Jg_goesOutside (Cond.code y_Jg_goesOutside b_Jg_goesOutside 2 (Option.some Jvm.ClassFile.FieldType.boolean) :: x_Wd) { frames := 2, cells := 0, slots := 0, locals := 46 } (x_k D cA ad) (x_F ad cA) [(.ref (ad (9, 0))), (.ref (ad (3, j)))] ((stp, psz, gk, gl, gh, opn, cki, ckl, mp, rk, rv, ri, chk), (mo, mi, ml, mk, mlo, mhi, pk, ps, pl, ph, mm), out) ((fun q : Int32 => ((some (.int (q)), ((stp, psz, gk, gl, gh, opn, cki, ckl, mp, rk, rv, ri, chk), (mo, mi, ml, mk, mlo, mhi, pk, ps, pl, ph, mm), out)) : Option Value × x_S)) (s_Jg_goesOutside stp gk gl gh j)) 0 0 := by
  refine x_start (κ := x_k D cA ad) (cc := b_Jg_goesOutside) (F := x_F ad cA) (wr := (fun q : Int32 => ((some (.int (q)), ((stp, psz, gk, gl, gh, opn, cki, ckl, mp, rk, rv, ri, chk), (mo, mi, ml, mk, mlo, mhi, pk, ps, pl, ph, mm), out)) : Option Value × x_S))) (q := s_Jg_goesOutside stp gk gl gh j) (ret := (Option.some Jvm.ClassFile.FieldType.boolean)) (lv0 := [(0, (.ref (ad (9, 0)))), (1, (.ref (ad (3, j))))]) ok (by decide) rfl (Nat.le_of_ble_eq_true rfl) rfl ?_
  intro p e s m below meth c C hr hlk
  unfold s_Jg_goesOutside
  refine x_aload_n 1 C d_Jg_goesOutside_0 rfl rfl ?_
  refine x_get (i := (3, j)) (v := (.int (stp j 0))) 0 C (m_3 hj) rfl rfl i_St (by decide) (List.mem_cons_of_mem _ q_44) rfl d_Jg_goesOutside_1 ?_
  refine x_ite (fun z1 => ?_) (fun z1 => ?_)
  · refine x_lsw 48 C d_Jg_goesOutside_4 (by decide) (by first | (rw [z1]; done) | (rw [z1]; rfl)) (by decide) ?_
    refine x_aload_n 0 C d_Jg_goesOutside_48 rfl rfl ?_
    refine x_aload_n 1 C d_Jg_goesOutside_49 rfl rfl ?_
    refine x_get (i := (3, j)) (v := (.int (stp j 1))) 1 C (m_3 hj) rfl rfl i_St (by decide) (List.mem_cons_of_mem _ q_50) rfl d_Jg_goesOutside_50 ?_
    refine x_aload_n 1 C d_Jg_goesOutside_53 rfl rfl ?_
    refine x_get (i := (3, j)) (v := (.int (stp j 3))) 3 C (m_3 hj) rfl rfl i_St (by decide) (List.mem_cons_of_mem _ q_61) rfl d_Jg_goesOutside_54 ?_
    refine x_i2l C d_Jg_goesOutside_57 ?_
    refine x_aload_n 1 C d_Jg_goesOutside_58 rfl rfl ?_
    refine x_get (i := (3, j)) (v := (.int (stp j 3))) 3 C (m_3 hj) rfl rfl i_St (by decide) (List.mem_cons_of_mem _ q_61) rfl d_Jg_goesOutside_59 ?_
    refine x_i2l C d_Jg_goesOutside_62 ?_
    refine x_cv (i := (9, 0)) (F := x_F ad cA) (As := [(.int (stp j 1)), (.long (Int32.toInt64 (stp j 3))), (.long (Int32.toInt64 (stp j 3)))]) (rest := []) C k_Jg_movesTooFar q_514 (c_Jg_movesTooFar ok (stp j 1) (Int32.toInt64 (stp j 3)) (Int32.toInt64 (stp j 3)) (x_wfd hw hj)) rfl rfl rfl (Nat.le_of_ble_eq_true rfl) (Nat.le_of_ble_eq_true rfl) m_9 rfl rfl rfl rfl rfl (Nat.le_of_ble_eq_true rfl) d_Jg_goesOutside_63 ⟨Nat.zero_le _, Nat.zero_le _⟩ ?_
    generalize hq2 : s_Jg_movesTooFar gk gl gh (stp j 1) (Int32.toInt64 (stp j 3)) (Int32.toInt64 (stp j 3)) = r2
    refine x_lets ?_
    exact x_zret C hr hlk (by rw [← hq2]; exact z_Jg_movesTooFar) rfl d_Jg_goesOutside_66
  refine x_ite (fun z3 => ?_) (fun z3 => ?_)
  · refine x_lsw 67 C d_Jg_goesOutside_4 (by decide) (by first | (rw [z3]; done) | (rw [z3]; rfl)) (by decide) ?_
    refine x_aload_n 0 C d_Jg_goesOutside_67 rfl rfl ?_
    refine x_aload_n 1 C d_Jg_goesOutside_68 rfl rfl ?_
    refine x_get (i := (3, j)) (v := (.int (stp j 1))) 1 C (m_3 hj) rfl rfl i_St (by decide) (List.mem_cons_of_mem _ q_50) rfl d_Jg_goesOutside_69 ?_
    refine x_aload_n 0 C d_Jg_goesOutside_72 rfl rfl ?_
    refine x_get (i := (9, 0)) (v := (.ref (ad (5, 0)))) 1 C m_9 rfl rfl i_Jg (by decide) (List.mem_cons_of_mem _ q_117) rfl d_Jg_goesOutside_73 ?_
    refine x_aload_n 1 C d_Jg_goesOutside_76 rfl rfl ?_
    refine x_get (i := (3, j)) (v := (.int (stp j 2))) 2 C (m_3 hj) rfl rfl i_St (by decide) (List.mem_cons_of_mem _ q_55) rfl d_Jg_goesOutside_77 ?_
    refine x_cv (i := (5, 0)) (F := x_F ad cA) (As := [(.int (stp j 2))]) (rest := [(.int (stp j 1)), (.ref (ad (9, 0)))]) C k_Gs_lo q_494 (c_Gs_lo ok 0 (by decide) (stp j 2) (x_wfs hw hj)) rfl rfl rfl (Nat.le_of_ble_eq_true rfl) (Nat.le_of_ble_eq_true rfl) (m_5 (by decide)) rfl rfl rfl rfl rfl (Nat.le_of_ble_eq_true rfl) d_Jg_goesOutside_80 ⟨Nat.zero_le _, Nat.zero_le _⟩ ?_
    generalize hq4 : s_Gs_lo gl 0 (stp j 2) = r4
    refine x_lets ?_
    refine x_aload_n 0 C d_Jg_goesOutside_83 rfl rfl ?_
    refine x_get (i := (9, 0)) (v := (.ref (ad (5, 0)))) 1 C m_9 rfl rfl i_Jg (by decide) (List.mem_cons_of_mem _ q_117) rfl d_Jg_goesOutside_84 ?_
    refine x_aload_n 1 C d_Jg_goesOutside_87 rfl rfl ?_
    refine x_get (i := (3, j)) (v := (.int (stp j 2))) 2 C (m_3 hj) rfl rfl i_St (by decide) (List.mem_cons_of_mem _ q_55) rfl d_Jg_goesOutside_88 ?_
    refine x_cv (i := (5, 0)) (F := x_F ad cA) (As := [(.int (stp j 2))]) (rest := [(.long r4), (.int (stp j 1)), (.ref (ad (9, 0)))]) C k_Gs_hi q_498 (c_Gs_hi ok 0 (by decide) (stp j 2) (x_wfs hw hj)) rfl rfl rfl (Nat.le_of_ble_eq_true rfl) (Nat.le_of_ble_eq_true rfl) (m_5 (by decide)) rfl rfl rfl rfl rfl (Nat.le_of_ble_eq_true rfl) d_Jg_goesOutside_91 ⟨Nat.zero_le _, Nat.zero_le _⟩ ?_
    generalize hq5 : s_Gs_hi gh 0 (stp j 2) = r5
    refine x_lets ?_
    refine x_cv (i := (9, 0)) (F := x_F ad cA) (As := [(.int (stp j 1)), (.long r4), (.long r5)]) (rest := []) C k_Jg_movesTooFar q_514 (c_Jg_movesTooFar ok (stp j 1) r4 r5 (x_wfd hw hj)) rfl rfl rfl (Nat.le_of_ble_eq_true rfl) (Nat.le_of_ble_eq_true rfl) m_9 rfl rfl rfl rfl rfl (Nat.le_of_ble_eq_true rfl) d_Jg_goesOutside_94 ⟨Nat.zero_le _, Nat.zero_le _⟩ ?_
    generalize hq6 : s_Jg_movesTooFar gk gl gh (stp j 1) r4 r5 = r6
    refine x_lets ?_
    exact x_zret C hr hlk (by rw [← hq6]; exact z_Jg_movesTooFar) rfl d_Jg_goesOutside_97
  refine x_ite (fun z7 => ?_) (fun z7 => ?_)
  · refine x_lsw 98 C d_Jg_goesOutside_4 (by decide) (by first | (rw [z7]; done) | (rw [z7]; rfl)) (by decide) ?_
    refine x_aload_n 0 C d_Jg_goesOutside_98 rfl rfl ?_
    refine x_aload_n 1 C d_Jg_goesOutside_99 rfl rfl ?_
    refine x_get (i := (3, j)) (v := (.int (stp j 2))) 2 C (m_3 hj) rfl rfl i_St (by decide) (List.mem_cons_of_mem _ q_55) rfl d_Jg_goesOutside_100 ?_
    refine x_aload_n 1 C d_Jg_goesOutside_103 rfl rfl ?_
    refine x_get (i := (3, j)) (v := (.int (stp j 3))) 3 C (m_3 hj) rfl rfl i_St (by decide) (List.mem_cons_of_mem _ q_61) rfl d_Jg_goesOutside_104 ?_
    refine x_i2l C d_Jg_goesOutside_107 ?_
    refine x_cv (i := (9, 0)) (F := x_F ad cA) (As := [(.int (stp j 2)), (.long (Int32.toInt64 (stp j 3)))]) (rest := []) C k_Jg_missesCells q_520 (c_Jg_missesCells ok (stp j 2) (Int32.toInt64 (stp j 3)) (x_wfs hw hj)) rfl rfl rfl (Nat.le_of_ble_eq_true rfl) (Nat.le_of_ble_eq_true rfl) m_9 rfl rfl rfl rfl rfl (Nat.le_of_ble_eq_true rfl) d_Jg_goesOutside_108 ⟨Nat.zero_le _, Nat.zero_le _⟩ ?_
    generalize hq8 : s_Jg_missesCells gk gl gh (stp j 2) (Int32.toInt64 (stp j 3)) = r8
    refine x_lets ?_
    exact x_zret C hr hlk (by rw [← hq8]; exact z_Jg_missesCells) rfl d_Jg_goesOutside_111
  refine x_ite (fun z9 => ?_) (fun z9 => ?_)
  · refine x_lsw 112 C d_Jg_goesOutside_4 (by decide) (by first | (rw [z9]; done) | (rw [z9]; rfl)) (by decide) ?_
    refine x_aload_n 0 C d_Jg_goesOutside_112 rfl rfl ?_
    refine x_aload_n 1 C d_Jg_goesOutside_113 rfl rfl ?_
    refine x_get (i := (3, j)) (v := (.int (stp j 1))) 1 C (m_3 hj) rfl rfl i_St (by decide) (List.mem_cons_of_mem _ q_50) rfl d_Jg_goesOutside_114 ?_
    refine x_aload_n 1 C d_Jg_goesOutside_117 rfl rfl ?_
    refine x_get (i := (3, j)) (v := (.int (stp j 3))) 3 C (m_3 hj) rfl rfl i_St (by decide) (List.mem_cons_of_mem _ q_61) rfl d_Jg_goesOutside_118 ?_
    refine x_i2l C d_Jg_goesOutside_121 ?_
    refine x_cv (i := (9, 0)) (F := x_F ad cA) (As := [(.int (stp j 1)), (.long (Int32.toInt64 (stp j 3)))]) (rest := []) C k_Jg_missesCells q_520 (c_Jg_missesCells ok (stp j 1) (Int32.toInt64 (stp j 3)) (x_wfd hw hj)) rfl rfl rfl (Nat.le_of_ble_eq_true rfl) (Nat.le_of_ble_eq_true rfl) m_9 rfl rfl rfl rfl rfl (Nat.le_of_ble_eq_true rfl) d_Jg_goesOutside_122 ⟨Nat.zero_le _, Nat.zero_le _⟩ ?_
    generalize hq10 : s_Jg_missesCells gk gl gh (stp j 1) (Int32.toInt64 (stp j 3)) = r10
    refine x_lets ?_
    exact x_zret C hr hlk (by rw [← hq10]; exact z_Jg_missesCells) rfl d_Jg_goesOutside_125
  refine x_lswE 126 [2, 3, 14, 15] C d_Jg_goesOutside_4 (by decide) (List.forall_mem_cons.mpr ⟨x_nik z1 (by decide), List.forall_mem_cons.mpr ⟨x_nik z3 (by decide), List.forall_mem_cons.mpr ⟨x_nik z7 (by decide), List.forall_mem_cons.mpr ⟨x_nik z9 (by decide), fun _ h => absurd h List.not_mem_nil⟩⟩⟩⟩) (by decide) ?_
  refine x_iconst (v := 0) C d_Jg_goesOutside_126 (by decide) ?_
  exact x_zret C hr hlk rfl rfl d_Jg_goesOutside_127
def s_Jg_findsNoRow (stp : Nat → Nat → Int32) (gl : Nat → Nat → Int64) (gh : Nat → Nat → Int64) (j : Nat) : Int32 :=
  (x_let (s_St_isCallOf stp j 1) fun r1 => (if r1 = 0 then (0) else (x_let (s_Gs_lo gl 0 1) fun r3 => (if r3 < 0 then (1) else (x_let (s_Gs_hi gh 0 1) fun r5 => (if r5 ≤ 7 then (0) else (1)))))))
set_option maxHeartbeats 4000000 in
set_option maxRecDepth 100000 in
theorem c_Jg_findsNoRow {l : Launch} {D : va_G} {cA : Nat → ClassId} {ad : x_I → Nat} (ok : x_ok (x_k D cA ad)) {stp : Nat → Nat → Int32} {psz : Int32} {gk : Nat → Nat → Int32} {gl : Nat → Nat → Int64} {gh : Nat → Nat → Int64} {opn : Nat → Int32} {cki : Nat → Int32} {ckl : Nat → Int64} {mp : Nat → Nat → Int64} {rk : Nat → Int32} {rv : Nat → Int64} {ri : Nat → Int32} {chk : Int32} {mo : Nat → Nat → Int32} {mi : Nat → Int32} {ml : Nat → Int64} {mk : Nat → Int32} {mlo : Nat → Int64} {mhi : Nat → Int64} {pk : Nat → Int32} {ps : Nat → Int32} {pl : Nat → Int64} {ph : Nat → Int64} {mm : Nat → Int64} {out : Nat → Int64} (j : Nat) (hj : j < 24) : x_M l y_Jg_findsNoRow (Cond.code y_Jg_findsNoRow b_Jg_findsNoRow 2 (Option.some Jvm.ClassFile.FieldType.boolean) :: x_Wd) { frames := 1, cells := 0, slots := 0, locals := 21 } (x_k D cA ad) (x_F ad cA) [(.ref (ad (9, 0))), (.ref (ad (3, j)))] ((stp, psz, gk, gl, gh, opn, cki, ckl, mp, rk, rv, ri, chk), (mo, mi, ml, mk, mlo, mhi, pk, ps, pl, ph, mm), out) ((fun q : Int32 => ((some (.int (q)), ((stp, psz, gk, gl, gh, opn, cki, ckl, mp, rk, rv, ri, chk), (mo, mi, ml, mk, mlo, mhi, pk, ps, pl, ph, mm), out)) : Option Value × x_S)) (s_Jg_findsNoRow stp gl gh j)) 0 0 := by
  refine x_start (κ := x_k D cA ad) (cc := b_Jg_findsNoRow) (F := x_F ad cA) (wr := (fun q : Int32 => ((some (.int (q)), ((stp, psz, gk, gl, gh, opn, cki, ckl, mp, rk, rv, ri, chk), (mo, mi, ml, mk, mlo, mhi, pk, ps, pl, ph, mm), out)) : Option Value × x_S))) (q := s_Jg_findsNoRow stp gl gh j) (ret := (Option.some Jvm.ClassFile.FieldType.boolean)) (lv0 := [(0, (.ref (ad (9, 0)))), (1, (.ref (ad (3, j))))]) ok (by decide) rfl (Nat.le_of_ble_eq_true rfl) rfl ?_
  intro p e s m below meth c C hr hlk
  unfold s_Jg_findsNoRow
  refine x_aload_n 1 C d_Jg_findsNoRow_0 rfl rfl ?_
  refine x_iconst (v := 1) C d_Jg_findsNoRow_1 (by decide) ?_
  refine x_cv (i := (3, j)) (F := x_F ad cA) (As := [(.int 1)]) (rest := []) C k_St_isCallOf q_532 (c_St_isCallOf ok j hj 1) rfl rfl rfl (Nat.le_of_ble_eq_true rfl) (Nat.le_of_ble_eq_true rfl) (m_3 hj) rfl rfl rfl rfl rfl (Nat.le_of_ble_eq_true rfl) d_Jg_findsNoRow_2 ⟨Nat.zero_le _, Nat.zero_le _⟩ ?_
  generalize hq1 : s_St_isCallOf stp j 1 = r1
  refine x_lets ?_
  refine x_if_eq 40 C d_Jg_findsNoRow_5 (by decide) (fun z2 => ?_) (fun z2 => ?_)
  · refine x_iconst (v := 0) C d_Jg_findsNoRow_40 (by decide) ?_
    exact x_zret C hr hlk rfl rfl d_Jg_findsNoRow_41
  · refine x_aload_n 0 C d_Jg_findsNoRow_8 rfl rfl ?_
    refine x_get (i := (9, 0)) (v := (.ref (ad (5, 0)))) 1 C m_9 rfl rfl i_Jg (by decide) (List.mem_cons_of_mem _ q_117) rfl d_Jg_findsNoRow_9 ?_
    refine x_iconst (v := 1) C d_Jg_findsNoRow_12 (by decide) ?_
    refine x_cv (i := (5, 0)) (F := x_F ad cA) (As := [(.int 1)]) (rest := []) C k_Gs_lo q_494 (c_Gs_lo ok 0 (by decide) 1 (x_vin (by decide))) rfl rfl rfl (Nat.le_of_ble_eq_true rfl) (Nat.le_of_ble_eq_true rfl) (m_5 (by decide)) rfl rfl rfl rfl rfl (Nat.le_of_ble_eq_true rfl) d_Jg_findsNoRow_13 ⟨Nat.zero_le _, Nat.zero_le _⟩ ?_
    generalize hq3 : s_Gs_lo gl 0 1 = r3
    refine x_lets ?_
    refine x_lconst (v := 0) C d_Jg_findsNoRow_16 (by decide) ?_
    refine x_lcmp_lt 36 C d_Jg_findsNoRow_17 d_Jg_findsNoRow_18 (by decide) (fun z4 => ?_) (fun z4 => ?_)
    · refine x_iconst (v := 1) C d_Jg_findsNoRow_36 (by decide) ?_
      refine x_goto 41 C d_Jg_findsNoRow_37 (by decide) ?_
      exact x_zret C hr hlk rfl rfl d_Jg_findsNoRow_41
    · refine x_aload_n 0 C d_Jg_findsNoRow_21 rfl rfl ?_
      refine x_get (i := (9, 0)) (v := (.ref (ad (5, 0)))) 1 C m_9 rfl rfl i_Jg (by decide) (List.mem_cons_of_mem _ q_117) rfl d_Jg_findsNoRow_22 ?_
      refine x_iconst (v := 1) C d_Jg_findsNoRow_25 (by decide) ?_
      refine x_cv (i := (5, 0)) (F := x_F ad cA) (As := [(.int 1)]) (rest := []) C k_Gs_hi q_498 (c_Gs_hi ok 0 (by decide) 1 (x_vin (by decide))) rfl rfl rfl (Nat.le_of_ble_eq_true rfl) (Nat.le_of_ble_eq_true rfl) (m_5 (by decide)) rfl rfl rfl rfl rfl (Nat.le_of_ble_eq_true rfl) d_Jg_findsNoRow_26 ⟨Nat.zero_le _, Nat.zero_le _⟩ ?_
      generalize hq5 : s_Gs_hi gh 0 1 = r5
      refine x_lets ?_
      refine x_ldc2 (v := 7) C (List.mem_cons_of_mem _ q_536) d_Jg_findsNoRow_29 ?_
      refine x_lcmp_le 40 C d_Jg_findsNoRow_32 d_Jg_findsNoRow_33 (by decide) (fun z6 => ?_) (fun z6 => ?_)
      · refine x_iconst (v := 0) C d_Jg_findsNoRow_40 (by decide) ?_
        exact x_zret C hr hlk rfl rfl d_Jg_findsNoRow_41
      · refine x_iconst (v := 1) C d_Jg_findsNoRow_36 (by decide) ?_
        refine x_goto 41 C d_Jg_findsNoRow_37 (by decide) ?_
        exact x_zret C hr hlk rfl rfl d_Jg_findsNoRow_41
