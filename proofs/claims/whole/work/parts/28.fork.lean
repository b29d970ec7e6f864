def s_Fk_isMaybe (stp : Nat → Nat → Int32) (gk : Nat → Nat → Int32) (j : Nat) (o : Nat) : Int32 :=
  (x_let (s_Gs_kind gk o (stp j 1)) fun r1 => (if r1 = 4 then (1) else (0)))
set_option maxHeartbeats 4000000 in
set_option maxRecDepth 100000 in
theorem c_Fk_isMaybe {l : Launch} {D : va_G} {cA : Nat → ClassId} {ad : x_I → Nat} (ok : x_ok (x_k D cA ad)) {stp : Nat → Nat → Int32} {psz : Int32} {gk : Nat → Nat → Int32} {gl : Nat → Nat → Int64} {gh : Nat → Nat → Int64} {opn : Nat → Int32} {cki : Nat → Int32} {ckl : Nat → Int64} {mp : Nat → Nat → Int64} {rk : Nat → Int32} {rv : Nat → Int64} {ri : Nat → Int32} {chk : Int32} {mo : Nat → Nat → Int32} {mi : Nat → Int32} {ml : Nat → Int64} {mk : Nat → Int32} {mlo : Nat → Int64} {mhi : Nat → Int64} {pk : Nat → Int32} {ps : Nat → Int32} {pl : Nat → Int64} {ph : Nat → Int64} {mm : Nat → Int64} {out : Nat → Int64} (j : Nat) (hj : j < 24) (o : Nat) (ho : o < 25) (hw : x_wf stp) : x_M l y_Fk_isMaybe (Cond.code y_Fk_isMaybe b_Fk_isMaybe 2 (Option.some Jvm.ClassFile.FieldType.boolean) :: x_Wd) { frames := 1, cells := 0, slots := 0, locals := 21 } (x_k D cA ad) (x_F ad cA) [(.ref (ad (3, j))), (.ref (ad (5, o)))] ((stp, psz, gk, gl, gh, opn, cki, ckl, mp, rk, rv, ri, chk), (mo, mi, ml, mk, mlo, mhi, pk, ps, pl, ph, mm), out) ((fun q : Int32 => ((some (.int (q)), ((stp, psz, gk, gl, gh, opn, cki, ckl, mp, rk, rv, ri, chk), (mo, mi, ml, mk, mlo, mhi, pk, ps, pl, ph, mm), out)) : Option Value × x_S)) (s_Fk_isMaybe stp gk j o)) 0 0 := by
  refine x_start (κ := x_k D cA ad) (cc := b_Fk_isMaybe) (F := x_F ad cA) (wr := (fun q : Int32 => ((some (.int (q)), ((stp, psz, gk, gl, gh, opn, cki, ckl, mp, rk, rv, ri, chk), (mo, mi, ml, mk, mlo, mhi, pk, ps, pl, ph, mm), out)) : Option Value × x_S))) (q := s_Fk_isMaybe stp gk j o) (ret := (Option.some Jvm.ClassFile.FieldType.boolean)) (lv0 := [(0, (.ref (ad (3, j)))), (1, (.ref (ad (5, o))))]) ok (by decide) rfl (Nat.le_of_ble_eq_true rfl) rfl ?_
  intro p e s m below meth c C hr hlk
  unfold s_Fk_isMaybe
  refine x_aload_n 1 C d_Fk_isMaybe_0 rfl rfl ?_
  refine x_aload_n 0 C d_Fk_isMaybe_1 rfl rfl ?_
  refine x_get (i := (3, j)) (v := (.int (stp j 1))) 1 C (m_3 hj) rfl rfl i_St (by decide) (List.mem_cons_of_mem _ q_49) rfl d_Fk_isMaybe_2 ?_
  refine x_cv (i := (5, o)) (F := x_F ad cA) (As := [(.int (stp j 1))]) (rest := []) C k_Gs_kind q_575 (c_Gs_kind ok o ho (stp j 1) (x_wfd hw hj)) rfl rfl rfl (Nat.le_of_ble_eq_true rfl) (Nat.le_of_ble_eq_true rfl) (m_5 ho) rfl rfl rfl rfl rfl (Nat.le_of_ble_eq_true rfl) d_Fk_isMaybe_5 ⟨Nat.zero_le _, Nat.zero_le _⟩ ?_
  generalize hq1 : s_Gs_kind gk o (stp j 1) = r1
  refine x_lets ?_
  refine x_iconst (v := 4) C d_Fk_isMaybe_8 (by decide) ?_
  refine x_icmp_ne 16 C d_Fk_isMaybe_9 (by decide) (fun z2 => ?_) (fun z2 => ?_)
  · refine x_iconst (v := 1) C d_Fk_isMaybe_12 (by decide) ?_
    refine x_goto 17 C d_Fk_isMaybe_13 (by decide) ?_
    exact x_zret C hr hlk rfl rfl d_Fk_isMaybe_17
  · refine x_iconst (v := 0) C d_Fk_isMaybe_16 (by decide) ?_
    exact x_zret C hr hlk rfl rfl d_Fk_isMaybe_17
def s_Fk_leadsToTarget (stp : Nat → Nat → Int32) (gk : Nat → Nat → Int32) (gl : Nat → Nat → Int64) (gh : Nat → Nat → Int64) (j : Nat) (o : Nat) : Int32 :=
  (if (stp j 0) = 10 then (x_let (s_Fk_isMaybe stp gk j o) fun r2 => (if r2 = 0 then (x_let (s_Gs_lo gl o (stp j 1)) fun r4 => (if (Int32.toInt64 (stp j 3)) < r4 then (0) else (x_let (s_Gs_hi gh o (stp j 1)) fun r6 => (if r6 < (Int32.toInt64 (stp j 3)) then (0) else (1))))) else (1))) else if (stp j 0) = 11 then (x_let (s_Gs_hi gh o (stp j 1)) fun r9 => (if r9 ≤ (Int32.toInt64 (stp j 3)) then (0) else (1))) else if (stp j 0) = 12 then (if (stp j 1) = (stp j 2) then (0) else (x_let (s_Gs_lo gl o (stp j 1)) fun r13 => (x_let (s_Gs_hi gh o (stp j 2)) fun r14 => (if r14 ≤ r13 then (0) else (1))))) else (1))
set_option maxHeartbeats 4000000 in
set_option maxRecDepth 100000 in
theorem c_Fk_leadsToTarget {l : Launch} {D : va_G} {cA : Nat → ClassId} {ad : x_I → Nat} (ok : x_ok (x_k D cA ad)) {stp : Nat → Nat → Int32} {psz : Int32} {gk : Nat → Nat → Int32} {gl : Nat → Nat → Int64} {gh : Nat → Nat → Int64} {opn : Nat → Int32} {cki : Nat → Int32} {ckl : Nat → Int64} {mp : Nat → Nat → Int64} {rk : Nat → Int32} {rv : Nat → Int64} {ri : Nat → Int32} {chk : Int32} {mo : Nat → Nat → Int32} {mi : Nat → Int32} {ml : Nat → Int64} {mk : Nat → Int32} {mlo : Nat → Int64} {mhi : Nat → Int64} {pk : Nat → Int32} {ps : Nat → Int32} {pl : Nat → Int64} {ph : Nat → Int64} {mm : Nat → Int64} {out : Nat → Int64} (j : Nat) (hj : j < 24) (o : Nat) (ho : o < 25) (hw : x_wf stp) : x_M l y_Fk_leadsToTarget (Cond.code y_Fk_leadsToTarget b_Fk_leadsToTarget 2 (Option.some Jvm.ClassFile.FieldType.boolean) :: x_Wd) { frames := 2, cells := 0, slots := 0, locals := 42 } (x_k D cA ad) (x_F ad cA) [(.ref (ad (3, j))), (.ref (ad (5, o)))] ((stp, psz, gk, gl, gh, opn, cki, ckl, mp, rk, rv, ri, chk), (mo, mi, ml, mk, mlo, mhi, pk, ps, pl, ph, mm), out) ((fun q : Int32 => ((some (.int (q)), ((stp, psz, gk, gl, gh, opn, cki, ckl, mp, rk, rv, ri, chk), (mo, mi, ml, mk, mlo, mhi, pk, ps, pl, ph, mm), out)) : Option Value × x_S)) (s_Fk_leadsToTarget stp gk gl gh j o)) 0 0 := by
  refine x_start (κ := x_k D cA ad) (cc := b_Fk_leadsToTarget) (F := x_F ad cA) (wr := (fun q : Int32 => ((some (.int (q)), ((stp, psz, gk, gl, gh, opn, cki, ckl, mp, rk, rv, ri, chk), (mo, mi, ml, mk, mlo, mhi, pk, ps, pl, ph, mm), out)) : Option Value × x_S))) (q := s_Fk_leadsToTarget stp gk gl gh j o) (ret := (Option.some Jvm.ClassFile.FieldType.boolean)) (lv0 := [(0, (.ref (ad (3, j)))), (1, (.ref (ad (5, o))))]) ok (by decide) rfl (Nat.le_of_ble_eq_true rfl) rfl ?_
  intro p e s m below meth c C hr hlk
  unfold s_Fk_leadsToTarget
  refine x_aload_n 0 C d_Fk_leadsToTarget_0 rfl rfl ?_
  refine x_get (i := (3, j)) (v := (.int (stp j 0))) 0 C (m_3 hj) rfl rfl i_St (by decide) (List.mem_cons_of_mem _ q_42) rfl d_Fk_leadsToTarget_1 ?_
  refine x_ite (fun z1 => ?_) (fun z1 => ?_)
  · refine x_tsw 32 C d_Fk_leadsToTarget_4 (by rw [z1]; decide) (by rw [z1]; decide) (by rw [z1]; rfl) (by decide) ?_
    refine x_aload_n 0 C d_Fk_leadsToTarget_32 rfl rfl ?_
    refine x_aload_n 1 C d_Fk_leadsToTarget_33 rfl rfl ?_
    refine x_cs (F := x_F ad cA) (As := [(.ref (ad (3, j))), (.ref (ad (5, o)))]) (rest := []) C k_Fk_isMaybe q_572 (c_Fk_isMaybe ok j hj o ho hw) rfl rfl rfl (Nat.le_of_ble_eq_true rfl) (Nat.le_of_ble_eq_true rfl) rfl rfl (Nat.le_of_ble_eq_true rfl) d_Fk_leadsToTarget_34 ⟨Nat.zero_le _, Nat.zero_le _⟩ ?_
    generalize hq2 : s_Fk_isMaybe stp gk j o = r2
    refine x_lets ?_
    refine x_if_ne 74 C d_Fk_leadsToTarget_37 (by decide) (fun z3 => ?_) (fun z3 => ?_)
    · refine x_aload_n 1 C d_Fk_leadsToTarget_40 rfl rfl ?_
      refine x_aload_n 0 C d_Fk_leadsToTarget_41 rfl rfl ?_
      refine x_get (i := (3, j)) (v := (.int (stp j 1))) 1 C (m_3 hj) rfl rfl i_St (by decide) (List.mem_cons_of_mem _ q_49) rfl d_Fk_leadsToTarget_42 ?_
      refine x_cv (i := (5, o)) (F := x_F ad cA) (As := [(.int (stp j 1))]) (rest := []) C k_Gs_lo q_576 (c_Gs_lo ok o ho (stp j 1) (x_wfd hw hj)) rfl rfl rfl (Nat.le_of_ble_eq_true rfl) (Nat.le_of_ble_eq_true rfl) (m_5 ho) rfl rfl rfl rfl rfl (Nat.le_of_ble_eq_true rfl) d_Fk_leadsToTarget_45 ⟨Nat.zero_le _, Nat.zero_le _⟩ ?_
      generalize hq4 : s_Gs_lo gl o (stp j 1) = r4
      refine x_lets ?_
      refine x_aload_n 0 C d_Fk_leadsToTarget_48 rfl rfl ?_
      refine x_get (i := (3, j)) (v := (.int (stp j 3))) 3 C (m_3 hj) rfl rfl i_St (by decide) (List.mem_cons_of_mem _ q_59) rfl d_Fk_leadsToTarget_49 ?_
      refine x_i2l C d_Fk_leadsToTarget_52 ?_
      refine x_lcmp_gt 78 C d_Fk_leadsToTarget_53 d_Fk_leadsToTarget_54 (by decide) (fun z5 => ?_) (fun z5 => ?_)
      · refine x_iconst (v := 0) C d_Fk_leadsToTarget_78 (by decide) ?_
        exact x_zret C hr hlk rfl rfl d_Fk_leadsToTarget_79
      · refine x_aload_n 0 C d_Fk_leadsToTarget_57 rfl rfl ?_
        refine x_get (i := (3, j)) (v := (.int (stp j 3))) 3 C (m_3 hj) rfl rfl i_St (by decide) (List.mem_cons_of_mem _ q_59) rfl d_Fk_leadsToTarget_58 ?_
        refine x_i2l C d_Fk_leadsToTarget_61 ?_
        refine x_aload_n 1 C d_Fk_leadsToTarget_62 rfl rfl ?_
        refine x_aload_n 0 C d_Fk_leadsToTarget_63 rfl rfl ?_
        refine x_get (i := (3, j)) (v := (.int (stp j 1))) 1 C (m_3 hj) rfl rfl i_St (by decide) (List.mem_cons_of_mem _ q_49) rfl d_Fk_leadsToTarget_64 ?_
        refine x_cv (i := (5, o)) (F := x_F ad cA) (As := [(.int (stp j 1))]) (rest := [(.long (Int32.toInt64 (stp j 3)))]) C k_Gs_hi q_577 (c_Gs_hi ok o ho (stp j 1) (x_wfd hw hj)) rfl rfl rfl (Nat.le_of_ble_eq_true rfl) (Nat.le_of_ble_eq_true rfl) (m_5 ho) rfl rfl rfl rfl rfl (Nat.le_of_ble_eq_true rfl) d_Fk_leadsToTarget_67 ⟨Nat.zero_le _, Nat.zero_le _⟩ ?_
        generalize hq6 : s_Gs_hi gh o (stp j 1) = r6
        refine x_lets ?_
        refine x_lcmp_gt 78 C d_Fk_leadsToTarget_70 d_Fk_leadsToTarget_71 (by decide) (fun z7 => ?_) (fun z7 => ?_)
        · refine x_iconst (v := 0) C d_Fk_leadsToTarget_78 (by decide) ?_
          exact x_zret C hr hlk rfl rfl d_Fk_leadsToTarget_79
        · refine x_iconst (v := 1) C d_Fk_leadsToTarget_74 (by decide) ?_
          refine x_goto 79 C d_Fk_leadsToTarget_75 (by decide) ?_
          exact x_zret C hr hlk rfl rfl d_Fk_leadsToTarget_79
    · refine x_iconst (v := 1) C d_Fk_leadsToTarget_74 (by decide) ?_
      refine x_goto 79 C d_Fk_leadsToTarget_75 (by decide) ?_
      exact x_zret C hr hlk rfl rfl d_Fk_leadsToTarget_79
  refine x_ite (fun z8 => ?_) (fun z8 => ?_)
  · refine x_tsw 80 C d_Fk_leadsToTarget_4 (by rw [z8]; decide) (by rw [z8]; decide) (by rw [z8]; rfl) (by decide) ?_
    refine x_aload_n 1 C d_Fk_leadsToTarget_80 rfl rfl ?_
    refine x_aload_n 0 C d_Fk_leadsToTarget_81 rfl rfl ?_
    refine x_get (i := (3, j)) (v := (.int (stp j 1))) 1 C (m_3 hj) rfl rfl i_St (by decide) (List.mem_cons_of_mem _ q_49) rfl d_Fk_leadsToTarget_82 ?_
    refine x_cv (i := (5, o)) (F := x_F ad cA) (As := [(.int (stp j 1))]) (rest := []) C k_Gs_hi q_577 (c_Gs_hi ok o ho (stp j 1) (x_wfd hw hj)) rfl rfl rfl (Nat.le_of_ble_eq_true rfl) (Nat.le_of_ble_eq_true rfl) (m_5 ho) rfl rfl rfl rfl rfl (Nat.le_of_ble_eq_true rfl) d_Fk_leadsToTarget_85 ⟨Nat.zero_le _, Nat.zero_le _⟩ ?_
    generalize hq9 : s_Gs_hi gh o (stp j 1) = r9
    refine x_lets ?_
    refine x_aload_n 0 C d_Fk_leadsToTarget_88 rfl rfl ?_
    refine x_get (i := (3, j)) (v := (.int (stp j 3))) 3 C (m_3 hj) rfl rfl i_St (by decide) (List.mem_cons_of_mem _ q_59) rfl d_Fk_leadsToTarget_89 ?_
    refine x_i2l C d_Fk_leadsToTarget_92 ?_
    refine x_lcmp_le 101 C d_Fk_leadsToTarget_93 d_Fk_leadsToTarget_94 (by decide) (fun z10 => ?_) (fun z10 => ?_)
    · refine x_iconst (v := 0) C d_Fk_leadsToTarget_101 (by decide) ?_
      exact x_zret C hr hlk rfl rfl d_Fk_leadsToTarget_102
    · refine x_iconst (v := 1) C d_Fk_leadsToTarget_97 (by decide) ?_
      refine x_goto 102 C d_Fk_leadsToTarget_98 (by decide) ?_
      exact x_zret C hr hlk rfl rfl d_Fk_leadsToTarget_102
  refine x_ite (fun z11 => ?_) (fun z11 => ?_)
  · refine x_tsw 103 C d_Fk_leadsToTarget_4 (by rw [z11]; decide) (by rw [z11]; decide) (by rw [z11]; rfl) (by decide) ?_
    refine x_aload_n 0 C d_Fk_leadsToTarget_103 rfl rfl ?_
    refine x_get (i := (3, j)) (v := (.int (stp j 1))) 1 C (m_3 hj) rfl rfl i_St (by decide) (List.mem_cons_of_mem _ q_49) rfl d_Fk_leadsToTarget_104 ?_
    refine x_aload_n 0 C d_Fk_leadsToTarget_107 rfl rfl ?_
    refine x_get (i := (3, j)) (v := (.int (stp j 2))) 2 C (m_3 hj) rfl rfl i_St (by decide) (List.mem_cons_of_mem _ q_53) rfl d_Fk_leadsToTarget_108 ?_
    refine x_icmp_eq 138 C d_Fk_leadsToTarget_111 (by decide) (fun z12 => ?_) (fun z12 => ?_)
    · refine x_iconst (v := 0) C d_Fk_leadsToTarget_138 (by decide) ?_
      exact x_zret C hr hlk rfl rfl d_Fk_leadsToTarget_139
    · refine x_aload_n 1 C d_Fk_leadsToTarget_114 rfl rfl ?_
      refine x_aload_n 0 C d_Fk_leadsToTarget_115 rfl rfl ?_
      refine x_get (i := (3, j)) (v := (.int (stp j 1))) 1 C (m_3 hj) rfl rfl i_St (by decide) (List.mem_cons_of_mem _ q_49) rfl d_Fk_leadsToTarget_116 ?_
      refine x_cv (i := (5, o)) (F := x_F ad cA) (As := [(.int (stp j 1))]) (rest := []) C k_Gs_lo q_576 (c_Gs_lo ok o ho (stp j 1) (x_wfd hw hj)) rfl rfl rfl (Nat.le_of_ble_eq_true rfl) (Nat.le_of_ble_eq_true rfl) (m_5 ho) rfl rfl rfl rfl rfl (Nat.le_of_ble_eq_true rfl) d_Fk_leadsToTarget_119 ⟨Nat.zero_le _, Nat.zero_le _⟩ ?_
      generalize hq13 : s_Gs_lo gl o (stp j 1) = r13
      refine x_lets ?_
      refine x_aload_n 1 C d_Fk_leadsToTarget_122 rfl rfl ?_
      refine x_aload_n 0 C d_Fk_leadsToTarget_123 rfl rfl ?_
      refine x_get (i := (3, j)) (v := (.int (stp j 2))) 2 C (m_3 hj) rfl rfl i_St (by decide) (List.mem_cons_of_mem _ q_53) rfl d_Fk_leadsToTarget_124 ?_
      refine x_cv (i := (5, o)) (F := x_F ad cA) (As := [(.int (stp j 2))]) (rest := [(.long r13)]) C k_Gs_hi q_577 (c_Gs_hi ok o ho (stp j 2) (x_wfs hw hj)) rfl rfl rfl (Nat.le_of_ble_eq_true rfl) (Nat.le_of_ble_eq_true rfl) (m_5 ho) rfl rfl rfl rfl rfl (Nat.le_of_ble_eq_true rfl) d_Fk_leadsToTarget_127 ⟨Nat.zero_le _, Nat.zero_le _⟩ ?_
      generalize hq14 : s_Gs_hi gh o (stp j 2) = r14
      refine x_lets ?_
      refine x_lcmp_ge 138 C d_Fk_leadsToTarget_130 d_Fk_leadsToTarget_131 (by decide) (fun z15 => ?_) (fun z15 => ?_)
      · refine x_iconst (v := 0) C d_Fk_leadsToTarget_138 (by decide) ?_
        exact x_zret C hr hlk rfl rfl d_Fk_leadsToTarget_139
      · refine x_iconst (v := 1) C d_Fk_leadsToTarget_134 (by decide) ?_
        refine x_goto 139 C d_Fk_leadsToTarget_135 (by decide) ?_
        exact x_zret C hr hlk rfl rfl d_Fk_leadsToTarget_139
  refine x_tswE 140 [10, 11, 12] C d_Fk_leadsToTarget_4 (by decide) (List.forall_mem_cons.mpr ⟨x_nik z1 (by decide), List.forall_mem_cons.mpr ⟨x_nik z8 (by decide), List.forall_mem_cons.mpr ⟨x_nik z11 (by decide), fun _ h => absurd h List.not_mem_nil⟩⟩⟩) (by decide) ?_
  refine x_iconst (v := 1) C d_Fk_leadsToTarget_140 (by decide) ?_
  exact x_zret C hr hlk rfl rfl d_Fk_leadsToTarget_141
def s_Fk_leadsOn (stp : Nat → Nat → Int32) (gk : Nat → Nat → Int32) (gl : Nat → Nat → Int64) (gh : Nat → Nat → Int64) (j : Nat) (o : Nat) : Int32 :=
  (if (stp j 0) = 10 then (x_let (s_Fk_isMaybe stp gk j o) fun r2 => (if r2 = 0 then (x_let (s_Gs_lo gl o (stp j 1)) fun r4 => (if r4 = (Int32.toInt64 (stp j 3)) then (x_let (s_Gs_hi gh o (stp j 1)) fun r6 => (if r6 = (Int32.toInt64 (stp j 3)) then (0) else (1))) else (1))) else (1))) else if (stp j 0) = 11 then (x_let (s_Gs_lo gl o (stp j 1)) fun r9 => (if (Int32.toInt64 (stp j 3)) < r9 then (0) else (1))) else if (stp j 0) = 12 then (if (stp j 1) = (stp j 2) then (1) else (x_let (s_Gs_hi gh o (stp j 1)) fun r13 => (x_let (s_Gs_lo gl o (stp j 2)) fun r14 => (if r13 < r14 then (0) else (1))))) else (0))
set_option maxHeartbeats 4000000 in
set_option maxRecDepth 100000 in
theorem c_Fk_leadsOn {l : Launch} {D : va_G} {cA : Nat → ClassId} {ad : x_I → Nat} (ok : x_ok (x_k D cA ad)) {stp : Nat → Nat → Int32} {psz : Int32} {gk : Nat → Nat → Int32} {gl : Nat → Nat → Int64} {gh : Nat → Nat → Int64} {opn : Nat → Int32} {cki : Nat → Int32} {ckl : Nat → Int64} {mp : Nat → Nat → Int64} {rk : Nat → Int32} {rv : Nat → Int64} {ri : Nat → Int32} {chk : Int32} {mo : Nat → Nat → Int32} {mi : Nat → Int32} {ml : Nat → Int64} {mk : Nat → Int32} {mlo : Nat → Int64} {mhi : Nat → Int64} {pk : Nat → Int32} {ps : Nat → Int32} {pl : Nat → Int64} {ph : Nat → Int64} {mm : Nat → Int64} {out : Nat → Int64} (j : Nat) (hj : j < 24) (o : Nat) (ho : o < 25) (hw : x_wf stp) : x_M l y_Fk_leadsOn (Cond.code y_Fk_leadsOn b_Fk_leadsOn 2 (Option.some Jvm.ClassFile.FieldType.boolean) :: x_Wd) { frames := 2, cells := 0, slots := 0, locals := 42 } (x_k D cA ad) (x_F ad cA) [(.ref (ad (3, j))), (.ref (ad (5, o)))] ((stp, psz, gk, gl, gh, opn, cki, ckl, mp, rk, rv, ri, chk), (mo, mi, ml, mk, mlo, mhi, pk, ps, pl, ph, mm), out) ((fun q : Int32 => ((some (.int (q)), ((stp, psz, gk, gl, gh, opn, cki, ckl, mp, rk, rv, ri, chk), (mo, mi, ml, mk, mlo, mhi, pk, ps, pl, ph, mm), out)) : Option Value × x_S)) (s_Fk_leadsOn stp gk gl gh j o)) 0 0 := by
  refine x_start (κ := x_k D cA ad) (cc := b_Fk_leadsOn) (F := x_F ad cA) (wr := (fun q : Int32 => ((some (.int (q)), ((stp, psz, gk, gl, gh, opn, cki, ckl, mp, rk, rv, ri, chk), (mo, mi, ml, mk, mlo, mhi, pk, ps, pl, ph, mm), out)) : Option Value × x_S))) (q := s_Fk_leadsOn stp gk gl gh j o) (ret := (Option.some Jvm.ClassFile.FieldType.boolean)) (lv0 := [(0, (.ref (ad (3, j)))), (1, (.ref (ad (5, o))))]) ok (by decide) rfl (Nat.le_of_ble_eq_true rfl) rfl ?_
  intro p e s m below meth c C hr hlk
  unfold s_Fk_leadsOn
  refine x_aload_n 0 C d_Fk_leadsOn_0 rfl rfl ?_
  refine x_get (i := (3, j)) (v := (.int (stp j 0))) 0 C (m_3 hj) rfl rfl i_St (by decide) (List.mem_cons_of_mem _ q_42) rfl d_Fk_leadsOn_1 ?_
  refine x_ite (fun z1 => ?_) (fun z1 => ?_)
  · refine x_tsw 32 C d_Fk_leadsOn_4 (by rw [z1]; decide) (by rw [z1]; decide) (by rw [z1]; rfl) (by decide) ?_
    refine x_aload_n 0 C d_Fk_leadsOn_32 rfl rfl ?_
    refine x_aload_n 1 C d_Fk_leadsOn_33 rfl rfl ?_
    refine x_cs (F := x_F ad cA) (As := [(.ref (ad (3, j))), (.ref (ad (5, o)))]) (rest := []) C k_Fk_isMaybe q_572 (c_Fk_isMaybe ok j hj o ho hw) rfl rfl rfl (Nat.le_of_ble_eq_true rfl) (Nat.le_of_ble_eq_true rfl) rfl rfl (Nat.le_of_ble_eq_true rfl) d_Fk_leadsOn_34 ⟨Nat.zero_le _, Nat.zero_le _⟩ ?_
    generalize hq2 : s_Fk_isMaybe stp gk j o = r2
    refine x_lets ?_
    refine x_if_ne 74 C d_Fk_leadsOn_37 (by decide) (fun z3 => ?_) (fun z3 => ?_)
    · refine x_aload_n 1 C d_Fk_leadsOn_40 rfl rfl ?_
      refine x_aload_n 0 C d_Fk_leadsOn_41 rfl rfl ?_
      refine x_get (i := (3, j)) (v := (.int (stp j 1))) 1 C (m_3 hj) rfl rfl i_St (by decide) (List.mem_cons_of_mem _ q_49) rfl d_Fk_leadsOn_42 ?_
      refine x_cv (i := (5, o)) (F := x_F ad cA) (As := [(.int (stp j 1))]) (rest := []) C k_Gs_lo q_576 (c_Gs_lo ok o ho (stp j 1) (x_wfd hw hj)) rfl rfl rfl (Nat.le_of_ble_eq_true rfl) (Nat.le_of_ble_eq_true rfl) (m_5 ho) rfl rfl rfl rfl rfl (Nat.le_of_ble_eq_true rfl) d_Fk_leadsOn_45 ⟨Nat.zero_le _, Nat.zero_le _⟩ ?_
      generalize hq4 : s_Gs_lo gl o (stp j 1) = r4
      refine x_lets ?_
      refine x_aload_n 0 C d_Fk_leadsOn_48 rfl rfl ?_
      refine x_get (i := (3, j)) (v := (.int (stp j 3))) 3 C (m_3 hj) rfl rfl i_St (by decide) (List.mem_cons_of_mem _ q_59) rfl d_Fk_leadsOn_49 ?_
      refine x_i2l C d_Fk_leadsOn_52 ?_
      refine x_lcmp_ne 74 C d_Fk_leadsOn_53 d_Fk_leadsOn_54 (by decide) (fun z5 => ?_) (fun z5 => ?_)
      · refine x_aload_n 1 C d_Fk_leadsOn_57 rfl rfl ?_
        refine x_aload_n 0 C d_Fk_leadsOn_58 rfl rfl ?_
        refine x_get (i := (3, j)) (v := (.int (stp j 1))) 1 C (m_3 hj) rfl rfl i_St (by decide) (List.mem_cons_of_mem _ q_49) rfl d_Fk_leadsOn_59 ?_
        refine x_cv (i := (5, o)) (F := x_F ad cA) (As := [(.int (stp j 1))]) (rest := []) C k_Gs_hi q_577 (c_Gs_hi ok o ho (stp j 1) (x_wfd hw hj)) rfl rfl rfl (Nat.le_of_ble_eq_true rfl) (Nat.le_of_ble_eq_true rfl) (m_5 ho) rfl rfl rfl rfl rfl (Nat.le_of_ble_eq_true rfl) d_Fk_leadsOn_62 ⟨Nat.zero_le _, Nat.zero_le _⟩ ?_
        generalize hq6 : s_Gs_hi gh o (stp j 1) = r6
        refine x_lets ?_
        refine x_aload_n 0 C d_Fk_leadsOn_65 rfl rfl ?_
        refine x_get (i := (3, j)) (v := (.int (stp j 3))) 3 C (m_3 hj) rfl rfl i_St (by decide) (List.mem_cons_of_mem _ q_59) rfl d_Fk_leadsOn_66 ?_
        refine x_i2l C d_Fk_leadsOn_69 ?_
        refine x_lcmp_eq 78 C d_Fk_leadsOn_70 d_Fk_leadsOn_71 (by decide) (fun z7 => ?_) (fun z7 => ?_)
        · refine x_iconst (v := 0) C d_Fk_leadsOn_78 (by decide) ?_
          exact x_zret C hr hlk rfl rfl d_Fk_leadsOn_79
        · refine x_iconst (v := 1) C d_Fk_leadsOn_74 (by decide) ?_
          refine x_goto 79 C d_Fk_leadsOn_75 (by decide) ?_
          exact x_zret C hr hlk rfl rfl d_Fk_leadsOn_79
      · refine x_iconst (v := 1) C d_Fk_leadsOn_74 (by decide) ?_
        refine x_goto 79 C d_Fk_leadsOn_75 (by decide) ?_
        exact x_zret C hr hlk rfl rfl d_Fk_leadsOn_79
    · refine x_iconst (v := 1) C d_Fk_leadsOn_74 (by decide) ?_
      refine x_goto 79 C d_Fk_leadsOn_75 (by decide) ?_
      exact x_zret C hr hlk rfl rfl d_Fk_leadsOn_79
  refine x_ite (fun z8 => ?_) (fun z8 => ?_)
  · refine x_tsw 80 C d_Fk_leadsOn_4 (by rw [z8]; decide) (by rw [z8]; decide) (by rw [z8]; rfl) (by decide) ?_
    refine x_aload_n 1 C d_Fk_leadsOn_80 rfl rfl ?_
    refine x_aload_n 0 C d_Fk_leadsOn_81 rfl rfl ?_
    refine x_get (i := (3, j)) (v := (.int (stp j 1))) 1 C (m_3 hj) rfl rfl i_St (by decide) (List.mem_cons_of_mem _ q_49) rfl d_Fk_leadsOn_82 ?_
    refine x_cv (i := (5, o)) (F := x_F ad cA) (As := [(.int (stp j 1))]) (rest := []) C k_Gs_lo q_576 (c_Gs_lo ok o ho (stp j 1) (x_wfd hw hj)) rfl rfl rfl (Nat.le_of_ble_eq_true rfl) (Nat.le_of_ble_eq_true rfl) (m_5 ho) rfl rfl rfl rfl rfl (Nat.le_of_ble_eq_true rfl) d_Fk_leadsOn_85 ⟨Nat.zero_le _, Nat.zero_le _⟩ ?_
    generalize hq9 : s_Gs_lo gl o (stp j 1) = r9
    refine x_lets ?_
    refine x_aload_n 0 C d_Fk_leadsOn_88 rfl rfl ?_
    refine x_get (i := (3, j)) (v := (.int (stp j 3))) 3 C (m_3 hj) rfl rfl i_St (by decide) (List.mem_cons_of_mem _ q_59) rfl d_Fk_leadsOn_89 ?_
    refine x_i2l C d_Fk_leadsOn_92 ?_
    refine x_lcmp_gt 101 C d_Fk_leadsOn_93 d_Fk_leadsOn_94 (by decide) (fun z10 => ?_) (fun z10 => ?_)
    · refine x_iconst (v := 0) C d_Fk_leadsOn_101 (by decide) ?_
      exact x_zret C hr hlk rfl rfl d_Fk_leadsOn_102
    · refine x_iconst (v := 1) C d_Fk_leadsOn_97 (by decide) ?_
      refine x_goto 102 C d_Fk_leadsOn_98 (by decide) ?_
      exact x_zret C hr hlk rfl rfl d_Fk_leadsOn_102
  refine x_ite (fun z11 => ?_) (fun z11 => ?_)
  · refine x_tsw 103 C d_Fk_leadsOn_4 (by rw [z11]; decide) (by rw [z11]; decide) (by rw [z11]; rfl) (by decide) ?_
    refine x_aload_n 0 C d_Fk_leadsOn_103 rfl rfl ?_
    refine x_get (i := (3, j)) (v := (.int (stp j 1))) 1 C (m_3 hj) rfl rfl i_St (by decide) (List.mem_cons_of_mem _ q_49) rfl d_Fk_leadsOn_104 ?_
    refine x_aload_n 0 C d_Fk_leadsOn_107 rfl rfl ?_
    refine x_get (i := (3, j)) (v := (.int (stp j 2))) 2 C (m_3 hj) rfl rfl i_St (by decide) (List.mem_cons_of_mem _ q_53) rfl d_Fk_leadsOn_108 ?_
    refine x_icmp_eq 134 C d_Fk_leadsOn_111 (by decide) (fun z12 => ?_) (fun z12 => ?_)
    · refine x_iconst (v := 1) C d_Fk_leadsOn_134 (by decide) ?_
      refine x_goto 139 C d_Fk_leadsOn_135 (by decide) ?_
      exact x_zret C hr hlk rfl rfl d_Fk_leadsOn_139
    · refine x_aload_n 1 C d_Fk_leadsOn_114 rfl rfl ?_
      refine x_aload_n 0 C d_Fk_leadsOn_115 rfl rfl ?_
      refine x_get (i := (3, j)) (v := (.int (stp j 1))) 1 C (m_3 hj) rfl rfl i_St (by decide) (List.mem_cons_of_mem _ q_49) rfl d_Fk_leadsOn_116 ?_
      refine x_cv (i := (5, o)) (F := x_F ad cA) (As := [(.int (stp j 1))]) (rest := []) C k_Gs_hi q_577 (c_Gs_hi ok o ho (stp j 1) (x_wfd hw hj)) rfl rfl rfl (Nat.le_of_ble_eq_true rfl) (Nat.le_of_ble_eq_true rfl) (m_5 ho) rfl rfl rfl rfl rfl (Nat.le_of_ble_eq_true rfl) d_Fk_leadsOn_119 ⟨Nat.zero_le _, Nat.zero_le _⟩ ?_
      generalize hq13 : s_Gs_hi gh o (stp j 1) = r13
      refine x_lets ?_
      refine x_aload_n 1 C d_Fk_leadsOn_122 rfl rfl ?_
      refine x_aload_n 0 C d_Fk_leadsOn_123 rfl rfl ?_
      refine x_get (i := (3, j)) (v := (.int (stp j 2))) 2 C (m_3 hj) rfl rfl i_St (by decide) (List.mem_cons_of_mem _ q_53) rfl d_Fk_leadsOn_124 ?_
      refine x_cv (i := (5, o)) (F := x_F ad cA) (As := [(.int (stp j 2))]) (rest := [(.long r13)]) C k_Gs_lo q_576 (c_Gs_lo ok o ho (stp j 2) (x_wfs hw hj)) rfl rfl rfl (Nat.le_of_ble_eq_true rfl) (Nat.le_of_ble_eq_true rfl) (m_5 ho) rfl rfl rfl rfl rfl (Nat.le_of_ble_eq_true rfl) d_Fk_leadsOn_127 ⟨Nat.zero_le _, Nat.zero_le _⟩ ?_
      generalize hq14 : s_Gs_lo gl o (stp j 2) = r14
      refine x_lets ?_
      refine x_lcmp_lt 138 C d_Fk_leadsOn_130 d_Fk_leadsOn_131 (by decide) (fun z15 => ?_) (fun z15 => ?_)
      · refine x_iconst (v := 0) C d_Fk_leadsOn_138 (by decide) ?_
        exact x_zret C hr hlk rfl rfl d_Fk_leadsOn_139
      · refine x_iconst (v := 1) C d_Fk_leadsOn_134 (by decide) ?_
        refine x_goto 139 C d_Fk_leadsOn_135 (by decide) ?_
        exact x_zret C hr hlk rfl rfl d_Fk_leadsOn_139
  refine x_tswE 140 [10, 11, 12] C d_Fk_leadsOn_4 (by decide) (List.forall_mem_cons.mpr ⟨x_nik z1 (by decide), List.forall_mem_cons.mpr ⟨x_nik z8 (by decide), List.forall_mem_cons.mpr ⟨x_nik z11 (by decide), fun _ h => absurd h List.not_mem_nil⟩⟩⟩) (by decide) ?_
  refine x_iconst (v := 0) C d_Fk_leadsOn_140 (by decide) ?_
  exact x_zret C hr hlk rfl rfl d_Fk_leadsOn_141
def s_Fk_goToTarget (stp : Nat → Nat → Int32) (gk : Nat → Nat → Int32) (gl : Nat → Nat → Int64) (gh : Nat → Nat → Int64) (j : Nat) (o : Nat) : (Nat → Nat → Int32) × (Nat → Nat → Int64) × (Nat → Nat → Int64) :=
  (if (stp j 0) = 10 then (x_let (s_Gs_setRange gk gl gh o (stp j 1) (Int32.toInt64 (stp j 3)) (Int32.toInt64 (stp j 3))) fun (gk2, gl2, gh2) => (gk2, gl2, gh2)) else (if (stp j 0) = 11 then (x_let (s_Gs_lo gl o (stp j 1)) fun r4 => (x_let (s_Gs_hi gh o (stp j 1)) fun r5 => (x_let (s_Gs_setRange gk gl gh o (stp j 1) (if ((Int32.toInt64 (stp j 3)) + 1) < r4 then r4 else (Int32.toInt64 (stp j 3)) + 1) r5) fun (gk6, gl6, gh6) => (gk6, gl6, gh6)))) else (if (stp j 0) = 12 then (x_let (s_Gs_lo gl o (stp j 1)) fun r8 => (x_let (s_Gs_hi gh o (stp j 2)) fun r9 => (x_let (s_Gs_hi gh o (stp j 1)) fun r10 => (x_let (s_Gs_setRange gk gl gh o (stp j 1) r8 (if (r9 - 1) < r10 then r9 - 1 else r10)) fun (gk11, gl11, gh11) => (x_let (s_Gs_lo gl11 o (stp j 2)) fun r12 => (x_let (s_Gs_setRange gk11 gl11 gh11 o (stp j 2) (if (r8 + 1) < r12 then r12 else r8 + 1) r9) fun (gk13, gl13, gh13) => (gk13, gl13, gh13))))))) else (gk, gl, gh))))
set_option maxHeartbeats 4000000 in
set_option maxRecDepth 100000 in
theorem c_Fk_goToTarget {l : Launch} {D : va_G} {cA : Nat → ClassId} {ad : x_I → Nat} (ok : x_ok (x_k D cA ad)) {stp : Nat → Nat → Int32} {psz : Int32} {gk : Nat → Nat → Int32} {gl : Nat → Nat → Int64} {gh : Nat → Nat → Int64} {opn : Nat → Int32} {cki : Nat → Int32} {ckl : Nat → Int64} {mp : Nat → Nat → Int64} {rk : Nat → Int32} {rv : Nat → Int64} {ri : Nat → Int32} {chk : Int32} {mo : Nat → Nat → Int32} {mi : Nat → Int32} {ml : Nat → Int64} {mk : Nat → Int32} {mlo : Nat → Int64} {mhi : Nat → Int64} {pk : Nat → Int32} {ps : Nat → Int32} {pl : Nat → Int64} {ph : Nat → Int64} {mm : Nat → Int64} {out : Nat → Int64} (j : Nat) (hj : j < 24) (o : Nat) (ho : o < 25) (hw : x_wf stp) : x_M l y_Fk_goToTarget (Cond.code y_Fk_goToTarget b_Fk_goToTarget 9 (Option.none : Option Jvm.ClassFile.FieldType) :: x_Wd) { frames := 2, cells := 0, slots := 0, locals := 51 } (x_k D cA ad) (x_F ad cA) [(.ref (ad (3, j))), (.ref (ad (5, o)))] ((stp, psz, gk, gl, gh, opn, cki, ckl, mp, rk, rv, ri, chk), (mo, mi, ml, mk, mlo, mhi, pk, ps, pl, ph, mm), out) ((fun q : (Nat → Nat → Int32) × (Nat → Nat → Int64) × (Nat → Nat → Int64) => ((none, ((stp, psz, q.1, q.2.1, q.2.2, opn, cki, ckl, mp, rk, rv, ri, chk), (mo, mi, ml, mk, mlo, mhi, pk, ps, pl, ph, mm), out)) : Option Value × x_S)) (s_Fk_goToTarget stp gk gl gh j o)) 0 0 := by
  refine x_start (κ := x_k D cA ad) (cc := b_Fk_goToTarget) (F := x_F ad cA) (wr := (fun q : (Nat → Nat → Int32) × (Nat → Nat → Int64) × (Nat → Nat → Int64) => ((none, ((stp, psz, q.1, q.2.1, q.2.2, opn, cki, ckl, mp, rk, rv, ri, chk), (mo, mi, ml, mk, mlo, mhi, pk, ps, pl, ph, mm), out)) : Option Value × x_S))) (q := s_Fk_goToTarget stp gk gl gh j o) (ret := (Option.none : Option Jvm.ClassFile.FieldType)) (lv0 := [(0, (.ref (ad (3, j)))), (1, (.ref (ad (5, o))))]) ok (by decide) rfl (Nat.le_of_ble_eq_true rfl) rfl ?_
  intro p e s m below meth c C hr hlk
  unfold s_Fk_goToTarget
  refine x_aload_n 0 C d_Fk_goToTarget_0 rfl rfl ?_
  refine x_get (i := (3, j)) (v := (.int (stp j 1))) 1 C (m_3 hj) rfl rfl i_St (by decide) (List.mem_cons_of_mem _ q_49) rfl d_Fk_goToTarget_1 ?_
  refine x_istore_n (lv' := [(2, (.int (stp j 1))), (0, (.ref (ad (3, j)))), (1, (.ref (ad (5, o))))]) C d_Fk_goToTarget_4 rfl (by decide) rfl ?_
  refine x_aload_n 1 C d_Fk_goToTarget_5 rfl rfl ?_
  refine x_get (i := (3, j)) (v := (.int (stp j 3))) 3 C (m_3 hj) rfl rfl i_St (by decide) (List.mem_cons_of_mem _ q_59) rfl d_Fk_goToTarget_6 ?_
  refine x_i2l C d_Fk_goToTarget_9 ?_
  refine x_lstore_n (lv' := [(3, (.long (Int32.toInt64 (stp j 3)))), (2, (.int (stp j 1))), (0, (.ref (ad (3, j)))), (1, (.ref (ad (5, o))))]) C d_Fk_goToTarget_10 rfl (by decide) rfl ?_
  refine x_aload_n 2 C d_Fk_goToTarget_11 rfl rfl ?_
  refine x_get (i := (3, j)) (v := (.int (stp j 0))) 0 C (m_3 hj) rfl rfl i_St (by decide) (List.mem_cons_of_mem _ q_42) rfl d_Fk_goToTarget_12 ?_
  refine x_bipush (v := 10) C d_Fk_goToTarget_15 (by decide) ?_
  refine x_icmp_ne 30 C d_Fk_goToTarget_17 (by decide) (fun z1 => ?_) (fun z1 => ?_)
  · refine x_aload_n 3 C d_Fk_goToTarget_20 rfl rfl ?_
    refine x_iload_n 1 C d_Fk_goToTarget_21 rfl rfl ?_
    refine x_lload_n 0 C d_Fk_goToTarget_22 rfl rfl ?_
    refine x_lload_n 0 C d_Fk_goToTarget_23 rfl rfl ?_
    refine x_cv0 (i := (5, o)) (F := x_F ad cA) (As := [(.int (stp j 1)), (.long (Int32.toInt64 (stp j 3))), (.long (Int32.toInt64 (stp j 3)))]) (rest := []) C k_Gs_setRange q_584 (c_Gs_setRange ok o ho (stp j 1) (Int32.toInt64 (stp j 3)) (Int32.toInt64 (stp j 3)) (x_wfd hw hj)) rfl rfl rfl (Nat.le_of_ble_eq_true rfl) (Nat.le_of_ble_eq_true rfl) (m_5 ho) rfl rfl rfl rfl rfl (Nat.le_of_ble_eq_true rfl) d_Fk_goToTarget_24 ⟨Nat.zero_le _, Nat.zero_le _⟩ ?_
    generalize hq2 : s_Gs_setRange gk gl gh o (stp j 1) (Int32.toInt64 (stp j 3)) (Int32.toInt64 (stp j 3)) = q2
    obtain ⟨gk2, gl2, gh2⟩ := q2
    refine x_lets ?_
    dsimp only
    refine x_goto 133 C d_Fk_goToTarget_27 (by decide) ?_
    exact x_vret C hr hlk rfl d_Fk_goToTarget_133
  · refine x_aload_n 2 C d_Fk_goToTarget_30 rfl rfl ?_
    refine x_get (i := (3, j)) (v := (.int (stp j 0))) 0 C (m_3 hj) rfl rfl i_St (by decide) (List.mem_cons_of_mem _ q_42) rfl d_Fk_goToTarget_31 ?_
    refine x_bipush (v := 11) C d_Fk_goToTarget_34 (by decide) ?_
    refine x_icmp_ne 63 C d_Fk_goToTarget_36 (by decide) (fun z3 => ?_) (fun z3 => ?_)
    · refine x_aload_n 3 C d_Fk_goToTarget_39 rfl rfl ?_
      refine x_iload_n 1 C d_Fk_goToTarget_40 rfl rfl ?_
      refine x_aload_n 3 C d_Fk_goToTarget_41 rfl rfl ?_
      refine x_iload_n 1 C d_Fk_goToTarget_42 rfl rfl ?_
      refine x_cv (i := (5, o)) (F := x_F ad cA) (As := [(.int (stp j 1))]) (rest := [(.int (stp j 1)), (.ref (ad (5, o)))]) C k_Gs_lo q_576 (c_Gs_lo ok o ho (stp j 1) (x_wfd hw hj)) rfl rfl rfl (Nat.le_of_ble_eq_true rfl) (Nat.le_of_ble_eq_true rfl) (m_5 ho) rfl rfl rfl rfl rfl (Nat.le_of_ble_eq_true rfl) d_Fk_goToTarget_43 ⟨Nat.zero_le _, Nat.zero_le _⟩ ?_
      generalize hq4 : s_Gs_lo gl o (stp j 1) = r4
      refine x_lets ?_
      refine x_lload_n 0 C d_Fk_goToTarget_46 rfl rfl ?_
      refine x_lconst (v := 1) C d_Fk_goToTarget_47 (by decide) ?_
      refine x_ladd C d_Fk_goToTarget_48 ?_
      refine x_maxl C (List.mem_cons_of_mem _ q_588) (List.mem_cons_of_mem _ q_551) (List.mem_cons_of_mem _ q_16) (List.mem_cons_of_mem _ q_552) (Nat.le_of_ble_eq_true rfl) (Nat.le_of_ble_eq_true rfl) (Nat.zero_le _) (Nat.zero_le _) d_Fk_goToTarget_49 ?_
      refine x_aload_n 3 C d_Fk_goToTarget_52 rfl rfl ?_
      refine x_iload_n 1 C d_Fk_goToTarget_53 rfl rfl ?_
      refine x_cv (i := (5, o)) (F := x_F ad cA) (As := [(.int (stp j 1))]) (rest := [(.long (if ((Int32.toInt64 (stp j 3)) + 1) < r4 then r4 else (Int32.toInt64 (stp j 3)) + 1)), (.int (stp j 1)), (.ref (ad (5, o)))]) C k_Gs_hi q_577 (c_Gs_hi ok o ho (stp j 1) (x_wfd hw hj)) rfl rfl rfl (Nat.le_of_ble_eq_true rfl) (Nat.le_of_ble_eq_true rfl) (m_5 ho) rfl rfl rfl rfl rfl (Nat.le_of_ble_eq_true rfl) d_Fk_goToTarget_54 ⟨Nat.zero_le _, Nat.zero_le _⟩ ?_
      generalize hq5 : s_Gs_hi gh o (stp j 1) = r5
      refine x_lets ?_
      refine x_cv0 (i := (5, o)) (F := x_F ad cA) (As := [(.int (stp j 1)), (.long (if ((Int32.toInt64 (stp j 3)) + 1) < r4 then r4 else (Int32.toInt64 (stp j 3)) + 1)), (.long r5)]) (rest := []) C k_Gs_setRange q_584 (c_Gs_setRange ok o ho (stp j 1) (if ((Int32.toInt64 (stp j 3)) + 1) < r4 then r4 else (Int32.toInt64 (stp j 3)) + 1) r5 (x_wfd hw hj)) rfl rfl rfl (Nat.le_of_ble_eq_true rfl) (Nat.le_of_ble_eq_true rfl) (m_5 ho) rfl rfl rfl rfl rfl (Nat.le_of_ble_eq_true rfl) d_Fk_goToTarget_57 ⟨Nat.zero_le _, Nat.zero_le _⟩ ?_
      generalize hq6 : s_Gs_setRange gk gl gh o (stp j 1) (if ((Int32.toInt64 (stp j 3)) + 1) < r4 then r4 else (Int32.toInt64 (stp j 3)) + 1) r5 = q6
      obtain ⟨gk6, gl6, gh6⟩ := q6
      refine x_lets ?_
      dsimp only
      refine x_goto 133 C d_Fk_goToTarget_60 (by decide) ?_
      exact x_vret C hr hlk rfl d_Fk_goToTarget_133
    · refine x_aload_n 2 C d_Fk_goToTarget_63 rfl rfl ?_
      refine x_get (i := (3, j)) (v := (.int (stp j 0))) 0 C (m_3 hj) rfl rfl i_St (by decide) (List.mem_cons_of_mem _ q_42) rfl d_Fk_goToTarget_64 ?_
      refine x_bipush (v := 12) C d_Fk_goToTarget_67 (by decide) ?_
      refine x_icmp_ne 133 C d_Fk_goToTarget_69 (by decide) (fun z7 => ?_) (fun z7 => ?_)
      · refine x_aload_n 3 C d_Fk_goToTarget_72 rfl rfl ?_
        refine x_iload_n 1 C d_Fk_goToTarget_73 rfl rfl ?_
        refine x_cv (i := (5, o)) (F := x_F ad cA) (As := [(.int (stp j 1))]) (rest := []) C k_Gs_lo q_576 (c_Gs_lo ok o ho (stp j 1) (x_wfd hw hj)) rfl rfl rfl (Nat.le_of_ble_eq_true rfl) (Nat.le_of_ble_eq_true rfl) (m_5 ho) rfl rfl rfl rfl rfl (Nat.le_of_ble_eq_true rfl) d_Fk_goToTarget_74 ⟨Nat.zero_le _, Nat.zero_le _⟩ ?_
        generalize hq8 : s_Gs_lo gl o (stp j 1) = r8
        refine x_lets ?_
        refine x_lstore (lv' := [(5, (.long r8)), (3, (.long (Int32.toInt64 (stp j 3)))), (2, (.int (stp j 1))), (0, (.ref (ad (3, j)))), (1, (.ref (ad (5, o))))]) C d_Fk_goToTarget_77 (by decide) rfl ?_
        refine x_aload_n 4 C d_Fk_goToTarget_79 rfl rfl ?_
        refine x_aload_n 3 C d_Fk_goToTarget_80 rfl rfl ?_
        refine x_get (i := (3, j)) (v := (.int (stp j 2))) 2 C (m_3 hj) rfl rfl i_St (by decide) (List.mem_cons_of_mem _ q_53) rfl d_Fk_goToTarget_81 ?_
        refine x_cv (i := (5, o)) (F := x_F ad cA) (As := [(.int (stp j 2))]) (rest := []) C k_Gs_hi q_577 (c_Gs_hi ok o ho (stp j 2) (x_wfs hw hj)) rfl rfl rfl (Nat.le_of_ble_eq_true rfl) (Nat.le_of_ble_eq_true rfl) (m_5 ho) rfl rfl rfl rfl rfl (Nat.le_of_ble_eq_true rfl) d_Fk_goToTarget_84 ⟨Nat.zero_le _, Nat.zero_le _⟩ ?_
        generalize hq9 : s_Gs_hi gh o (stp j 2) = r9
        refine x_lets ?_
        refine x_lstore (lv' := [(7, (.long r9)), (5, (.long r8)), (3, (.long (Int32.toInt64 (stp j 3)))), (2, (.int (stp j 1))), (0, (.ref (ad (3, j)))), (1, (.ref (ad (5, o))))]) C d_Fk_goToTarget_87 (by decide) rfl ?_
        refine x_aload_n 5 C d_Fk_goToTarget_89 rfl rfl ?_
        refine x_iload_n 3 C d_Fk_goToTarget_90 rfl rfl ?_
        refine x_lload 1 C d_Fk_goToTarget_91 rfl ?_
        refine x_aload_n 5 C d_Fk_goToTarget_93 rfl rfl ?_
        refine x_iload_n 3 C d_Fk_goToTarget_94 rfl rfl ?_
        refine x_cv (i := (5, o)) (F := x_F ad cA) (As := [(.int (stp j 1))]) (rest := [(.long r8), (.int (stp j 1)), (.ref (ad (5, o)))]) C k_Gs_hi q_577 (c_Gs_hi ok o ho (stp j 1) (x_wfd hw hj)) rfl rfl rfl (Nat.le_of_ble_eq_true rfl) (Nat.le_of_ble_eq_true rfl) (m_5 ho) rfl rfl rfl rfl rfl (Nat.le_of_ble_eq_true rfl) d_Fk_goToTarget_95 ⟨Nat.zero_le _, Nat.zero_le _⟩ ?_
        generalize hq10 : s_Gs_hi gh o (stp j 1) = r10
        refine x_lets ?_
        refine x_lload 0 C d_Fk_goToTarget_98 rfl ?_
        refine x_lconst (v := 1) C d_Fk_goToTarget_100 (by decide) ?_
        refine x_lsub C d_Fk_goToTarget_101 ?_
        refine x_minl C (List.mem_cons_of_mem _ q_589) (List.mem_cons_of_mem _ q_548) (List.mem_cons_of_mem _ q_16) (List.mem_cons_of_mem _ q_549) (Nat.le_of_ble_eq_true rfl) (Nat.le_of_ble_eq_true rfl) (Nat.zero_le _) (Nat.zero_le _) d_Fk_goToTarget_102 ?_
        refine x_cv0 (i := (5, o)) (F := x_F ad cA) (As := [(.int (stp j 1)), (.long r8), (.long (if (r9 - 1) < r10 then r9 - 1 else r10))]) (rest := []) C k_Gs_setRange q_584 (c_Gs_setRange ok o ho (stp j 1) r8 (if (r9 - 1) < r10 then r9 - 1 else r10) (x_wfd hw hj)) rfl rfl rfl (Nat.le_of_ble_eq_true rfl) (Nat.le_of_ble_eq_true rfl) (m_5 ho) rfl rfl rfl rfl rfl (Nat.le_of_ble_eq_true rfl) d_Fk_goToTarget_105 ⟨Nat.zero_le _, Nat.zero_le _⟩ ?_
        generalize hq11 : s_Gs_setRange gk gl gh o (stp j 1) r8 (if (r9 - 1) < r10 then r9 - 1 else r10) = q11
        obtain ⟨gk11, gl11, gh11⟩ := q11
        refine x_lets ?_
        dsimp only
        refine x_aload_n 5 C d_Fk_goToTarget_108 rfl rfl ?_
        refine x_aload_n 4 C d_Fk_goToTarget_109 rfl rfl ?_
        refine x_get (i := (3, j)) (v := (.int (stp j 2))) 2 C (m_3 hj) rfl rfl i_St (by decide) (List.mem_cons_of_mem _ q_53) rfl d_Fk_goToTarget_110 ?_
        refine x_aload_n 5 C d_Fk_goToTarget_113 rfl rfl ?_
        refine x_aload_n 4 C d_Fk_goToTarget_114 rfl rfl ?_
        refine x_get (i := (3, j)) (v := (.int (stp j 2))) 2 C (m_3 hj) rfl rfl i_St (by decide) (List.mem_cons_of_mem _ q_53) rfl d_Fk_goToTarget_115 ?_
        refine x_cv (i := (5, o)) (F := x_F ad cA) (As := [(.int (stp j 2))]) (rest := [(.int (stp j 2)), (.ref (ad (5, o)))]) C k_Gs_lo q_576 (c_Gs_lo ok o ho (stp j 2) (x_wfs hw hj)) rfl rfl rfl (Nat.le_of_ble_eq_true rfl) (Nat.le_of_ble_eq_true rfl) (m_5 ho) rfl rfl rfl rfl rfl (Nat.le_of_ble_eq_true rfl) d_Fk_goToTarget_118 ⟨Nat.zero_le _, Nat.zero_le _⟩ ?_
        generalize hq12 : s_Gs_lo gl11 o (stp j 2) = r12
        refine x_lets ?_
        refine x_lload 1 C d_Fk_goToTarget_121 rfl ?_
        refine x_lconst (v := 1) C d_Fk_goToTarget_123 (by decide) ?_
        refine x_ladd C d_Fk_goToTarget_124 ?_
        refine x_maxl C (List.mem_cons_of_mem _ q_588) (List.mem_cons_of_mem _ q_551) (List.mem_cons_of_mem _ q_16) (List.mem_cons_of_mem _ q_552) (Nat.le_of_ble_eq_true rfl) (Nat.le_of_ble_eq_true rfl) (Nat.zero_le _) (Nat.zero_le _) d_Fk_goToTarget_125 ?_
        refine x_lload 0 C d_Fk_goToTarget_128 rfl ?_
        refine x_cv0 (i := (5, o)) (F := x_F ad cA) (As := [(.int (stp j 2)), (.long (if (r8 + 1) < r12 then r12 else r8 + 1)), (.long r9)]) (rest := []) C k_Gs_setRange q_584 (c_Gs_setRange ok o ho (stp j 2) (if (r8 + 1) < r12 then r12 else r8 + 1) r9 (x_wfs hw hj)) rfl rfl rfl (Nat.le_of_ble_eq_true rfl) (Nat.le_of_ble_eq_true rfl) (m_5 ho) rfl rfl rfl rfl rfl (Nat.le_of_ble_eq_true rfl) d_Fk_goToTarget_130 ⟨Nat.zero_le _, Nat.zero_le _⟩ ?_
        generalize hq13 : s_Gs_setRange gk11 gl11 gh11 o (stp j 2) (if (r8 + 1) < r12 then r12 else r8 + 1) r9 = q13
        obtain ⟨gk13, gl13, gh13⟩ := q13
        refine x_lets ?_
        dsimp only
        exact x_vret C hr hlk rfl d_Fk_goToTarget_133
      · exact x_vret C hr hlk rfl d_Fk_goToTarget_133
def s_Fk_goOn (stp : Nat → Nat → Int32) (gk : Nat → Nat → Int32) (gl : Nat → Nat → Int64) (gh : Nat → Nat → Int64) (j : Nat) (o : Nat) : (Nat → Nat → Int32) × (Nat → Nat → Int64) × (Nat → Nat → Int64) :=
  (if (stp j 0) = 10 then (x_let (s_Fk_isMaybe stp gk j o) fun r2 => (if r2 = 0 then (if (stp j 0) = 10 then (x_let (s_Gs_lo gl o (stp j 1)) fun r5 => (if r5 = (Int32.toInt64 (stp j 3)) then (x_let (s_Gs_hi gh o (stp j 1)) fun r7 => (if r7 = (Int32.toInt64 (stp j 3)) then (x_let (s_Gs_setRange gk gl gh o (stp j 1) ((Int32.toInt64 (stp j 3)) + 1) ((Int32.toInt64 (stp j 3)) - 1)) fun (gk9, gl9, gh9) => (gk9, gl9, gh9)) else (x_let (s_Gs_setRange gk gl gh o (stp j 1) ((Int32.toInt64 (stp j 3)) + 1) r7) fun (gk10, gl10, gh10) => (gk10, gl10, gh10)))) else (x_let (s_Gs_hi gh o (stp j 1)) fun r11 => (if r11 = (Int32.toInt64 (stp j 3)) then (x_let (s_Gs_setRange gk gl gh o (stp j 1) r5 ((Int32.toInt64 (stp j 3)) - 1)) fun (gk13, gl13, gh13) => (gk13, gl13, gh13)) else (x_let (s_Gs_setRange gk gl gh o (stp j 1) r5 r11) fun (gk14, gl14, gh14) => (gk14, gl14, gh14)))))) else (if (stp j 0) = 11 then (x_let (s_Gs_lo gl o (stp j 1)) fun r16 => (x_let (s_Gs_hi gh o (stp j 1)) fun r17 => (x_let (s_Gs_setRange gk gl gh o (stp j 1) r16 (if (Int32.toInt64 (stp j 3)) < r17 then Int32.toInt64 (stp j 3) else r17)) fun (gk18, gl18, gh18) => (gk18, gl18, gh18)))) else (if (stp j 0) = 12 then (if (stp j 1) = (stp j 2) then (gk, gl, gh) else (x_let (s_Gs_hi gh o (stp j 1)) fun r21 => (x_let (s_Gs_lo gl o (stp j 2)) fun r22 => (x_let (s_Gs_lo gl o (stp j 1)) fun r23 => (x_let (s_Gs_setRange gk gl gh o (stp j 1) (if r22 < r23 then r23 else r22) r21) fun (gk24, gl24, gh24) => (x_let (s_Gs_hi gh24 o (stp j 2)) fun r25 => (x_let (s_Gs_setRange gk24 gl24 gh24 o (stp j 2) r22 (if r21 < r25 then r21 else r25)) fun (gk26, gl26, gh26) => (gk26, gl26, gh26)))))))) else (gk, gl, gh)))) else (x_let (s_Gs_set gk gl gh o (stp j 1) 3 0 0) fun (gk27, gl27, gh27) => (gk27, gl27, gh27)))) else (if (stp j 0) = 10 then (x_let (s_Gs_lo gl o (stp j 1)) fun r29 => (if r29 = (Int32.toInt64 (stp j 3)) then (x_let (s_Gs_hi gh o (stp j 1)) fun r31 => (if r31 = (Int32.toInt64 (stp j 3)) then (x_let (s_Gs_setRange gk gl gh o (stp j 1) ((Int32.toInt64 (stp j 3)) + 1) ((Int32.toInt64 (stp j 3)) - 1)) fun (gk33, gl33, gh33) => (gk33, gl33, gh33)) else (x_let (s_Gs_setRange gk gl gh o (stp j 1) ((Int32.toInt64 (stp j 3)) + 1) r31) fun (gk34, gl34, gh34) => (gk34, gl34, gh34)))) else (x_let (s_Gs_hi gh o (stp j 1)) fun r35 => (if r35 = (Int32.toInt64 (stp j 3)) then (x_let (s_Gs_setRange gk gl gh o (stp j 1) r29 ((Int32.toInt64 (stp j 3)) - 1)) fun (gk37, gl37, gh37) => (gk37, gl37, gh37)) else (x_let (s_Gs_setRange gk gl gh o (stp j 1) r29 r35) fun (gk38, gl38, gh38) => (gk38, gl38, gh38)))))) else (if (stp j 0) = 11 then (x_let (s_Gs_lo gl o (stp j 1)) fun r40 => (x_let (s_Gs_hi gh o (stp j 1)) fun r41 => (x_let (s_Gs_setRange gk gl gh o (stp j 1) r40 (if (Int32.toInt64 (stp j 3)) < r41 then Int32.toInt64 (stp j 3) else r41)) fun (gk42, gl42, gh42) => (gk42, gl42, gh42)))) else (if (stp j 0) = 12 then (if (stp j 1) = (stp j 2) then (gk, gl, gh) else (x_let (s_Gs_hi gh o (stp j 1)) fun r45 => (x_let (s_Gs_lo gl o (stp j 2)) fun r46 => (x_let (s_Gs_lo gl o (stp j 1)) fun r47 => (x_let (s_Gs_setRange gk gl gh o (stp j 1) (if r46 < r47 then r47 else r46) r45) fun (gk48, gl48, gh48) => (x_let (s_Gs_hi gh48 o (stp j 2)) fun r49 => (x_let (s_Gs_setRange gk48 gl48 gh48 o (stp j 2) r46 (if r45 < r49 then r45 else r49)) fun (gk50, gl50, gh50) => (gk50, gl50, gh50)))))))) else (gk, gl, gh)))))
set_option maxHeartbeats 4000000 in
set_option maxRecDepth 100000 in
theorem c_Fk_goOn {l : Launch} {D : va_G} {cA : Nat → ClassId} {ad : x_I → Nat} (ok : x_ok (x_k D cA ad)) {stp : Nat → Nat → Int32} {psz : Int32} {gk : Nat → Nat → Int32} {gl : Nat → Nat → Int64} {gh : Nat → Nat → Int64} {opn : Nat → Int32} {cki : Nat → Int32} {ckl : Nat → Int64} {mp : Nat → Nat → Int64} {rk : Nat → Int32} {rv : Nat → Int64} {ri : Nat → Int32} {chk : Int32} {mo : Nat → Nat → Int32} {mi : Nat → Int32} {ml : Nat → Int64} {mk : Nat → Int32} {mlo : Nat → Int64} {mhi : Nat → Int64} {pk : Nat → Int32} {ps : Nat → Int32} {pl : Nat → Int64} {ph : Nat → Int64} {mm : Nat → Int64} {out : Nat → Int64} (j : Nat) (hj : j < 24) (o : Nat) (ho : o < 25) (hw : x_wf stp) : x_M l y_Fk_goOn (Cond.code y_Fk_goOn b_Fk_goOn 9 (Option.none : Option Jvm.ClassFile.FieldType) :: x_Wd) { frames := 2, cells := 0, slots := 0, locals := 51 } (x_k D cA ad) (x_F ad cA) [(.ref (ad (3, j))), (.ref (ad (5, o)))] ((stp, psz, gk, gl, gh, opn, cki, ckl, mp, rk, rv, ri, chk), (mo, mi, ml, mk, mlo, mhi, pk, ps, pl, ph, mm), out) ((fun q : (Nat → Nat → Int32) × (Nat → Nat → Int64) × (Nat → Nat → Int64) => ((none, ((stp, psz, q.1, q.2.1, q.2.2, opn, cki, ckl, mp, rk, rv, ri, chk), (mo, mi, ml, mk, mlo, mhi, pk, ps, pl, ph, mm), out)) : Option Value × x_S)) (s_Fk_goOn stp gk gl gh j o)) 0 0 := by
  refine x_start (κ := x_k D cA ad) (cc := b_Fk_goOn) (F := x_F ad cA) (wr := (fun q : (Nat → Nat → Int32) × (Nat → Nat → Int64) × (Nat → Nat → Int64) => ((none, ((stp, psz, q.1, q.2.1, q.2.2, opn, cki, ckl, mp, rk, rv, ri, chk), (mo, mi, ml, mk, mlo, mhi, pk, ps, pl, ph, mm), out)) : Option Value × x_S))) (q := s_Fk_goOn stp gk gl gh j o) (ret := (Option.none : Option Jvm.ClassFile.FieldType)) (lv0 := [(0, (.ref (ad (3, j)))), (1, (.ref (ad (5, o))))]) ok (by decide) rfl (Nat.le_of_ble_eq_true rfl) rfl ?_
  intro p e s m below meth c C hr hlk
  unfold s_Fk_goOn
  refine x_aload_n 0 C d_Fk_goOn_0 rfl rfl ?_
  refine x_get (i := (3, j)) (v := (.int (stp j 1))) 1 C (m_3 hj) rfl rfl i_St (by decide) (List.mem_cons_of_mem _ q_49) rfl d_Fk_goOn_1 ?_
  refine x_istore_n (lv' := [(2, (.int (stp j 1))), (0, (.ref (ad (3, j)))), (1, (.ref (ad (5, o))))]) C d_Fk_goOn_4 rfl (by decide) rfl ?_
  refine x_aload_n 1 C d_Fk_goOn_5 rfl rfl ?_
  refine x_get (i := (3, j)) (v := (.int (stp j 3))) 3 C (m_3 hj) rfl rfl i_St (by decide) (List.mem_cons_of_mem _ q_59) rfl d_Fk_goOn_6 ?_
  refine x_i2l C d_Fk_goOn_9 ?_
  refine x_lstore_n (lv' := [(3, (.long (Int32.toInt64 (stp j 3)))), (2, (.int (stp j 1))), (0, (.ref (ad (3, j)))), (1, (.ref (ad (5, o))))]) C d_Fk_goOn_10 rfl (by decide) rfl ?_
  refine x_aload_n 2 C d_Fk_goOn_11 rfl rfl ?_
  refine x_get (i := (3, j)) (v := (.int (stp j 0))) 0 C (m_3 hj) rfl rfl i_St (by decide) (List.mem_cons_of_mem _ q_42) rfl d_Fk_goOn_12 ?_
  refine x_bipush (v := 10) C d_Fk_goOn_15 (by decide) ?_
  refine x_icmp_ne 39 C d_Fk_goOn_17 (by decide) (fun z1 => ?_) (fun z1 => ?_)
  · refine x_aload_n 2 C d_Fk_goOn_20 rfl rfl ?_
    refine x_aload_n 3 C d_Fk_goOn_21 rfl rfl ?_
    refine x_cs (F := x_F ad cA) (As := [(.ref (ad (3, j))), (.ref (ad (5, o)))]) (rest := []) C k_Fk_isMaybe q_572 (c_Fk_isMaybe ok j hj o ho hw) rfl rfl rfl (Nat.le_of_ble_eq_true rfl) (Nat.le_of_ble_eq_true rfl) rfl rfl (Nat.le_of_ble_eq_true rfl) d_Fk_goOn_22 ⟨Nat.zero_le _, Nat.zero_le _⟩ ?_
    generalize hq2 : s_Fk_isMaybe stp gk j o = r2
    refine x_lets ?_
    refine x_if_eq 39 C d_Fk_goOn_25 (by decide) (fun z3 => ?_) (fun z3 => ?_)
    · refine x_aload_n 2 C d_Fk_goOn_39 rfl rfl ?_
      refine x_get (i := (3, j)) (v := (.int (stp j 0))) 0 C (m_3 hj) rfl rfl i_St (by decide) (List.mem_cons_of_mem _ q_42) rfl d_Fk_goOn_40 ?_
      refine x_bipush (v := 10) C d_Fk_goOn_43 (by decide) ?_
      refine x_icmp_ne 98 C d_Fk_goOn_45 (by decide) (fun z4 => ?_) (fun z4 => ?_)
      · refine x_aload_n 3 C d_Fk_goOn_48 rfl rfl ?_
        refine x_iload_n 1 C d_Fk_goOn_49 rfl rfl ?_
        refine x_aload_n 3 C d_Fk_goOn_50 rfl rfl ?_
        refine x_iload_n 1 C d_Fk_goOn_51 rfl rfl ?_
        refine x_cv (i := (5, o)) (F := x_F ad cA) (As := [(.int (stp j 1))]) (rest := [(.int (stp j 1)), (.ref (ad (5, o)))]) C k_Gs_lo q_576 (c_Gs_lo ok o ho (stp j 1) (x_wfd hw hj)) rfl rfl rfl (Nat.le_of_ble_eq_true rfl) (Nat.le_of_ble_eq_true rfl) (m_5 ho) rfl rfl rfl rfl rfl (Nat.le_of_ble_eq_true rfl) d_Fk_goOn_52 ⟨Nat.zero_le _, Nat.zero_le _⟩ ?_
        generalize hq5 : s_Gs_lo gl o (stp j 1) = r5
        refine x_lets ?_
        refine x_lload_n 0 C d_Fk_goOn_55 rfl rfl ?_
        refine x_lcmp_ne 66 C d_Fk_goOn_56 d_Fk_goOn_57 (by decide) (fun z6 => ?_) (fun z6 => ?_)
        · refine x_lload_n 0 C d_Fk_goOn_60 rfl rfl ?_
          refine x_lconst (v := 1) C d_Fk_goOn_61 (by decide) ?_
          refine x_ladd C d_Fk_goOn_62 ?_
          refine x_goto 71 C d_Fk_goOn_63 (by decide) ?_
          refine x_aload_n 3 C d_Fk_goOn_71 rfl rfl ?_
          refine x_iload_n 1 C d_Fk_goOn_72 rfl rfl ?_
          refine x_cv (i := (5, o)) (F := x_F ad cA) (As := [(.int (stp j 1))]) (rest := [(.long ((Int32.toInt64 (stp j 3)) + 1)), (.int (stp j 1)), (.ref (ad (5, o)))]) C k_Gs_hi q_577 (c_Gs_hi ok o ho (stp j 1) (x_wfd hw hj)) rfl rfl rfl (Nat.le_of_ble_eq_true rfl) (Nat.le_of_ble_eq_true rfl) (m_5 ho) rfl rfl rfl rfl rfl (Nat.le_of_ble_eq_true rfl) d_Fk_goOn_73 ⟨Nat.zero_le _, Nat.zero_le _⟩ ?_
          generalize hq7 : s_Gs_hi gh o (stp j 1) = r7
          refine x_lets ?_
          refine x_lload_n 0 C d_Fk_goOn_76 rfl rfl ?_
          refine x_lcmp_ne 87 C d_Fk_goOn_77 d_Fk_goOn_78 (by decide) (fun z8 => ?_) (fun z8 => ?_)
          · refine x_lload_n 0 C d_Fk_goOn_81 rfl rfl ?_
            refine x_lconst (v := 1) C d_Fk_goOn_82 (by decide) ?_
            refine x_lsub C d_Fk_goOn_83 ?_
            refine x_goto 92 C d_Fk_goOn_84 (by decide) ?_
            refine x_cv0 (i := (5, o)) (F := x_F ad cA) (As := [(.int (stp j 1)), (.long ((Int32.toInt64 (stp j 3)) + 1)), (.long ((Int32.toInt64 (stp j 3)) - 1))]) (rest := []) C k_Gs_setRange q_584 (c_Gs_setRange ok o ho (stp j 1) ((Int32.toInt64 (stp j 3)) + 1) ((Int32.toInt64 (stp j 3)) - 1) (x_wfd hw hj)) rfl rfl rfl (Nat.le_of_ble_eq_true rfl) (Nat.le_of_ble_eq_true rfl) (m_5 ho) rfl rfl rfl rfl rfl (Nat.le_of_ble_eq_true rfl) d_Fk_goOn_92 ⟨Nat.zero_le _, Nat.zero_le _⟩ ?_
            generalize hq9 : s_Gs_setRange gk gl gh o (stp j 1) ((Int32.toInt64 (stp j 3)) + 1) ((Int32.toInt64 (stp j 3)) - 1) = q9
            obtain ⟨gk9, gl9, gh9⟩ := q9
            refine x_lets ?_
            dsimp only
            refine x_goto 203 C d_Fk_goOn_95 (by decide) ?_
            exact x_vret C hr hlk rfl d_Fk_goOn_203
          · refine x_aload_n 3 C d_Fk_goOn_87 rfl rfl ?_
            refine x_iload_n 1 C d_Fk_goOn_88 rfl rfl ?_
            refine x_cv (i := (5, o)) (F := x_F ad cA) (As := [(.int (stp j 1))]) (rest := [(.long ((Int32.toInt64 (stp j 3)) + 1)), (.int (stp j 1)), (.ref (ad (5, o)))]) C k_Gs_hi q_577 (c_Gs_hi ok o ho (stp j 1) (x_wfd hw hj)) rfl rfl rfl (Nat.le_of_ble_eq_true rfl) (Nat.le_of_ble_eq_true rfl) (m_5 ho) rfl rfl rfl rfl rfl (Nat.le_of_ble_eq_true rfl) d_Fk_goOn_89 ⟨Nat.zero_le _, Nat.zero_le _⟩ ?_
            rw [hq7]
            refine x_cv0 (i := (5, o)) (F := x_F ad cA) (As := [(.int (stp j 1)), (.long ((Int32.toInt64 (stp j 3)) + 1)), (.long r7)]) (rest := []) C k_Gs_setRange q_584 (c_Gs_setRange ok o ho (stp j 1) ((Int32.toInt64 (stp j 3)) + 1) r7 (x_wfd hw hj)) rfl rfl rfl (Nat.le_of_ble_eq_true rfl) (Nat.le_of_ble_eq_true rfl) (m_5 ho) rfl rfl rfl rfl rfl (Nat.le_of_ble_eq_true rfl) d_Fk_goOn_92 ⟨Nat.zero_le _, Nat.zero_le _⟩ ?_
            generalize hq10 : s_Gs_setRange gk gl gh o (stp j 1) ((Int32.toInt64 (stp j 3)) + 1) r7 = q10
            obtain ⟨gk10, gl10, gh10⟩ := q10
            refine x_lets ?_
            dsimp only
            refine x_goto 203 C d_Fk_goOn_95 (by decide) ?_
            exact x_vret C hr hlk rfl d_Fk_goOn_203
        · refine x_aload_n 3 C d_Fk_goOn_66 rfl rfl ?_
          refine x_iload_n 1 C d_Fk_goOn_67 rfl rfl ?_
          refine x_cv (i := (5, o)) (F := x_F ad cA) (As := [(.int (stp j 1))]) (rest := [(.int (stp j 1)), (.ref (ad (5, o)))]) C k_Gs_lo q_576 (c_Gs_lo ok o ho (stp j 1) (x_wfd hw hj)) rfl rfl rfl (Nat.le_of_ble_eq_true rfl) (Nat.le_of_ble_eq_true rfl) (m_5 ho) rfl rfl rfl rfl rfl (Nat.le_of_ble_eq_true rfl) d_Fk_goOn_68 ⟨Nat.zero_le _, Nat.zero_le _⟩ ?_
          rw [hq5]
          refine x_aload_n 3 C d_Fk_goOn_71 rfl rfl ?_
          refine x_iload_n 1 C d_Fk_goOn_72 rfl rfl ?_
          refine x_cv (i := (5, o)) (F := x_F ad cA) (As := [(.int (stp j 1))]) (rest := [(.long r5), (.int (stp j 1)), (.ref (ad (5, o)))]) C k_Gs_hi q_577 (c_Gs_hi ok o ho (stp j 1) (x_wfd hw hj)) rfl rfl rfl (Nat.le_of_ble_eq_true rfl) (Nat.le_of_ble_eq_true rfl) (m_5 ho) rfl rfl rfl rfl rfl (Nat.le_of_ble_eq_true rfl) d_Fk_goOn_73 ⟨Nat.zero_le _, Nat.zero_le _⟩ ?_
          generalize hq11 : s_Gs_hi gh o (stp j 1) = r11
          refine x_lets ?_
          refine x_lload_n 0 C d_Fk_goOn_76 rfl rfl ?_
          refine x_lcmp_ne 87 C d_Fk_goOn_77 d_Fk_goOn_78 (by decide) (fun z12 => ?_) (fun z12 => ?_)
          · refine x_lload_n 0 C d_Fk_goOn_81 rfl rfl ?_
            refine x_lconst (v := 1) C d_Fk_goOn_82 (by decide) ?_
            refine x_lsub C d_Fk_goOn_83 ?_
            refine x_goto 92 C d_Fk_goOn_84 (by decide) ?_
            refine x_cv0 (i := (5, o)) (F := x_F ad cA) (As := [(.int (stp j 1)), (.long r5), (.long ((Int32.toInt64 (stp j 3)) - 1))]) (rest := []) C k_Gs_setRange q_584 (c_Gs_setRange ok o ho (stp j 1) r5 ((Int32.toInt64 (stp j 3)) - 1) (x_wfd hw hj)) rfl rfl rfl (Nat.le_of_ble_eq_true rfl) (Nat.le_of_ble_eq_true rfl) (m_5 ho) rfl rfl rfl rfl rfl (Nat.le_of_ble_eq_true rfl) d_Fk_goOn_92 ⟨Nat.zero_le _, Nat.zero_le _⟩ ?_
            generalize hq13 : s_Gs_setRange gk gl gh o (stp j 1) r5 ((Int32.toInt64 (stp j 3)) - 1) = q13
            obtain ⟨gk13, gl13, gh13⟩ := q13
            refine x_lets ?_
            dsimp only
            refine x_goto 203 C d_Fk_goOn_95 (by decide) ?_
            exact x_vret C hr hlk rfl d_Fk_goOn_203
          · refine x_aload_n 3 C d_Fk_goOn_87 rfl rfl ?_
            refine x_iload_n 1 C d_Fk_goOn_88 rfl rfl ?_
            refine x_cv (i := (5, o)) (F := x_F ad cA) (As := [(.int (stp j 1))]) (rest := [(.long r5), (.int (stp j 1)), (.ref (ad (5, o)))]) C k_Gs_hi q_577 (c_Gs_hi ok o ho (stp j 1) (x_wfd hw hj)) rfl rfl rfl (Nat.le_of_ble_eq_true rfl) (Nat.le_of_ble_eq_true rfl) (m_5 ho) rfl rfl rfl rfl rfl (Nat.le_of_ble_eq_true rfl) d_Fk_goOn_89 ⟨Nat.zero_le _, Nat.zero_le _⟩ ?_
            rw [hq11]
            refine x_cv0 (i := (5, o)) (F := x_F ad cA) (As := [(.int (stp j 1)), (.long r5), (.long r11)]) (rest := []) C k_Gs_setRange q_584 (c_Gs_setRange ok o ho (stp j 1) r5 r11 (x_wfd hw hj)) rfl rfl rfl (Nat.le_of_ble_eq_true rfl) (Nat.le_of_ble_eq_true rfl) (m_5 ho) rfl rfl rfl rfl rfl (Nat.le_of_ble_eq_true rfl) d_Fk_goOn_92 ⟨Nat.zero_le _, Nat.zero_le _⟩ ?_
            generalize hq14 : s_Gs_setRange gk gl gh o (stp j 1) r5 r11 = q14
            obtain ⟨gk14, gl14, gh14⟩ := q14
            refine x_lets ?_
            dsimp only
            refine x_goto 203 C d_Fk_goOn_95 (by decide) ?_
            exact x_vret C hr hlk rfl d_Fk_goOn_203
      · refine x_aload_n 2 C d_Fk_goOn_98 rfl rfl ?_
        refine x_get (i := (3, j)) (v := (.int (stp j 0))) 0 C (m_3 hj) rfl rfl i_St (by decide) (List.mem_cons_of_mem _ q_42) rfl d_Fk_goOn_99 ?_
        refine x_bipush (v := 11) C d_Fk_goOn_102 (by decide) ?_
        refine x_icmp_ne 129 C d_Fk_goOn_104 (by decide) (fun z15 => ?_) (fun z15 => ?_)
        · refine x_aload_n 3 C d_Fk_goOn_107 rfl rfl ?_
          refine x_iload_n 1 C d_Fk_goOn_108 rfl rfl ?_
          refine x_aload_n 3 C d_Fk_goOn_109 rfl rfl ?_
          refine x_iload_n 1 C d_Fk_goOn_110 rfl rfl ?_
          refine x_cv (i := (5, o)) (F := x_F ad cA) (As := [(.int (stp j 1))]) (rest := [(.int (stp j 1)), (.ref (ad (5, o)))]) C k_Gs_lo q_576 (c_Gs_lo ok o ho (stp j 1) (x_wfd hw hj)) rfl rfl rfl (Nat.le_of_ble_eq_true rfl) (Nat.le_of_ble_eq_true rfl) (m_5 ho) rfl rfl rfl rfl rfl (Nat.le_of_ble_eq_true rfl) d_Fk_goOn_111 ⟨Nat.zero_le _, Nat.zero_le _⟩ ?_
          generalize hq16 : s_Gs_lo gl o (stp j 1) = r16
          refine x_lets ?_
          refine x_aload_n 3 C d_Fk_goOn_114 rfl rfl ?_
          refine x_iload_n 1 C d_Fk_goOn_115 rfl rfl ?_
          refine x_cv (i := (5, o)) (F := x_F ad cA) (As := [(.int (stp j 1))]) (rest := [(.long r16), (.int (stp j 1)), (.ref (ad (5, o)))]) C k_Gs_hi q_577 (c_Gs_hi ok o ho (stp j 1) (x_wfd hw hj)) rfl rfl rfl (Nat.le_of_ble_eq_true rfl) (Nat.le_of_ble_eq_true rfl) (m_5 ho) rfl rfl rfl rfl rfl (Nat.le_of_ble_eq_true rfl) d_Fk_goOn_116 ⟨Nat.zero_le _, Nat.zero_le _⟩ ?_
          generalize hq17 : s_Gs_hi gh o (stp j 1) = r17
          refine x_lets ?_
          refine x_lload_n 0 C d_Fk_goOn_119 rfl rfl ?_
          refine x_minl C (List.mem_cons_of_mem _ q_589) (List.mem_cons_of_mem _ q_548) (List.mem_cons_of_mem _ q_16) (List.mem_cons_of_mem _ q_549) (Nat.le_of_ble_eq_true rfl) (Nat.le_of_ble_eq_true rfl) (Nat.zero_le _) (Nat.zero_le _) d_Fk_goOn_120 ?_
          refine x_cv0 (i := (5, o)) (F := x_F ad cA) (As := [(.int (stp j 1)), (.long r16), (.long (if (Int32.toInt64 (stp j 3)) < r17 then Int32.toInt64 (stp j 3) else r17))]) (rest := []) C k_Gs_setRange q_584 (c_Gs_setRange ok o ho (stp j 1) r16 (if (Int32.toInt64 (stp j 3)) < r17 then Int32.toInt64 (stp j 3) else r17) (x_wfd hw hj)) rfl rfl rfl (Nat.le_of_ble_eq_true rfl) (Nat.le_of_ble_eq_true rfl) (m_5 ho) rfl rfl rfl rfl rfl (Nat.le_of_ble_eq_true rfl) d_Fk_goOn_123 ⟨Nat.zero_le _, Nat.zero_le _⟩ ?_
          generalize hq18 : s_Gs_setRange gk gl gh o (stp j 1) r16 (if (Int32.toInt64 (stp j 3)) < r17 then Int32.toInt64 (stp j 3) else r17) = q18
          obtain ⟨gk18, gl18, gh18⟩ := q18
          refine x_lets ?_
          dsimp only
          refine x_goto 203 C d_Fk_goOn_126 (by decide) ?_
          exact x_vret C hr hlk rfl d_Fk_goOn_203
        · refine x_aload_n 2 C d_Fk_goOn_129 rfl rfl ?_
          refine x_get (i := (3, j)) (v := (.int (stp j 0))) 0 C (m_3 hj) rfl rfl i_St (by decide) (List.mem_cons_of_mem _ q_42) rfl d_Fk_goOn_130 ?_
          refine x_bipush (v := 12) C d_Fk_goOn_133 (by decide) ?_
          refine x_icmp_ne 203 C d_Fk_goOn_135 (by decide) (fun z19 => ?_) (fun z19 => ?_)
          · refine x_iload_n 1 C d_Fk_goOn_138 rfl rfl ?_
            refine x_aload_n 2 C d_Fk_goOn_139 rfl rfl ?_
            refine x_get (i := (3, j)) (v := (.int (stp j 2))) 2 C (m_3 hj) rfl rfl i_St (by decide) (List.mem_cons_of_mem _ q_53) rfl d_Fk_goOn_140 ?_
            refine x_icmp_eq 203 C d_Fk_goOn_143 (by decide) (fun z20 => ?_) (fun z20 => ?_)
            · exact x_vret C hr hlk rfl d_Fk_goOn_203
            · refine x_aload_n 3 C d_Fk_goOn_146 rfl rfl ?_
              refine x_iload_n 1 C d_Fk_goOn_147 rfl rfl ?_
              refine x_cv (i := (5, o)) (F := x_F ad cA) (As := [(.int (stp j 1))]) (rest := []) C k_Gs_hi q_577 (c_Gs_hi ok o ho (stp j 1) (x_wfd hw hj)) rfl rfl rfl (Nat.le_of_ble_eq_true rfl) (Nat.le_of_ble_eq_true rfl) (m_5 ho) rfl rfl rfl rfl rfl (Nat.le_of_ble_eq_true rfl) d_Fk_goOn_148 ⟨Nat.zero_le _, Nat.zero_le _⟩ ?_
              generalize hq21 : s_Gs_hi gh o (stp j 1) = r21
              refine x_lets ?_
              refine x_lstore (lv' := [(5, (.long r21)), (3, (.long (Int32.toInt64 (stp j 3)))), (2, (.int (stp j 1))), (0, (.ref (ad (3, j)))), (1, (.ref (ad (5, o))))]) C d_Fk_goOn_151 (by decide) rfl ?_
              refine x_aload_n 4 C d_Fk_goOn_153 rfl rfl ?_
              refine x_aload_n 3 C d_Fk_goOn_154 rfl rfl ?_
              refine x_get (i := (3, j)) (v := (.int (stp j 2))) 2 C (m_3 hj) rfl rfl i_St (by decide) (List.mem_cons_of_mem _ q_53) rfl d_Fk_goOn_155 ?_
              refine x_cv (i := (5, o)) (F := x_F ad cA) (As := [(.int (stp j 2))]) (rest := []) C k_Gs_lo q_576 (c_Gs_lo ok o ho (stp j 2) (x_wfs hw hj)) rfl rfl rfl (Nat.le_of_ble_eq_true rfl) (Nat.le_of_ble_eq_true rfl) (m_5 ho) rfl rfl rfl rfl rfl (Nat.le_of_ble_eq_true rfl) d_Fk_goOn_158 ⟨Nat.zero_le _, Nat.zero_le _⟩ ?_
              generalize hq22 : s_Gs_lo gl o (stp j 2) = r22
              refine x_lets ?_
              refine x_lstore (lv' := [(7, (.long r22)), (5, (.long r21)), (3, (.long (Int32.toInt64 (stp j 3)))), (2, (.int (stp j 1))), (0, (.ref (ad (3, j)))), (1, (.ref (ad (5, o))))]) C d_Fk_goOn_161 (by decide) rfl ?_
              refine x_aload_n 5 C d_Fk_goOn_163 rfl rfl ?_
              refine x_iload_n 3 C d_Fk_goOn_164 rfl rfl ?_
              refine x_aload_n 5 C d_Fk_goOn_165 rfl rfl ?_
              refine x_iload_n 3 C d_Fk_goOn_166 rfl rfl ?_
              refine x_cv (i := (5, o)) (F := x_F ad cA) (As := [(.int (stp j 1))]) (rest := [(.int (stp j 1)), (.ref (ad (5, o)))]) C k_Gs_lo q_576 (c_Gs_lo ok o ho (stp j 1) (x_wfd hw hj)) rfl rfl rfl (Nat.le_of_ble_eq_true rfl) (Nat.le_of_ble_eq_true rfl) (m_5 ho) rfl rfl rfl rfl rfl (Nat.le_of_ble_eq_true rfl) d_Fk_goOn_167 ⟨Nat.zero_le _, Nat.zero_le _⟩ ?_
              generalize hq23 : s_Gs_lo gl o (stp j 1) = r23
              refine x_lets ?_
              refine x_lload 0 C d_Fk_goOn_170 rfl ?_
              refine x_maxl C (List.mem_cons_of_mem _ q_588) (List.mem_cons_of_mem _ q_551) (List.mem_cons_of_mem _ q_16) (List.mem_cons_of_mem _ q_552) (Nat.le_of_ble_eq_true rfl) (Nat.le_of_ble_eq_true rfl) (Nat.zero_le _) (Nat.zero_le _) d_Fk_goOn_172 ?_
              refine x_lload 1 C d_Fk_goOn_175 rfl ?_
              refine x_cv0 (i := (5, o)) (F := x_F ad cA) (As := [(.int (stp j 1)), (.long (if r22 < r23 then r23 else r22)), (.long r21)]) (rest := []) C k_Gs_setRange q_584 (c_Gs_setRange ok o ho (stp j 1) (if r22 < r23 then r23 else r22) r21 (x_wfd hw hj)) rfl rfl rfl (Nat.le_of_ble_eq_true rfl) (Nat.le_of_ble_eq_true rfl) (m_5 ho) rfl rfl rfl rfl rfl (Nat.le_of_ble_eq_true rfl) d_Fk_goOn_177 ⟨Nat.zero_le _, Nat.zero_le _⟩ ?_
              generalize hq24 : s_Gs_setRange gk gl gh o (stp j 1) (if r22 < r23 then r23 else r22) r21 = q24
              obtain ⟨gk24, gl24, gh24⟩ := q24
              refine x_lets ?_
              dsimp only
              refine x_aload_n 5 C d_Fk_goOn_180 rfl rfl ?_
              refine x_aload_n 4 C d_Fk_goOn_181 rfl rfl ?_
              refine x_get (i := (3, j)) (v := (.int (stp j 2))) 2 C (m_3 hj) rfl rfl i_St (by decide) (List.mem_cons_of_mem _ q_53) rfl d_Fk_goOn_182 ?_
              refine x_lload 0 C d_Fk_goOn_185 rfl ?_
              refine x_aload_n 5 C d_Fk_goOn_187 rfl rfl ?_
              refine x_aload_n 4 C d_Fk_goOn_188 rfl rfl ?_
              refine x_get (i := (3, j)) (v := (.int (stp j 2))) 2 C (m_3 hj) rfl rfl i_St (by decide) (List.mem_cons_of_mem _ q_53) rfl d_Fk_goOn_189 ?_
              refine x_cv (i := (5, o)) (F := x_F ad cA) (As := [(.int (stp j 2))]) (rest := [(.long r22), (.int (stp j 2)), (.ref (ad (5, o)))]) C k_Gs_hi q_577 (c_Gs_hi ok o ho (stp j 2) (x_wfs hw hj)) rfl rfl rfl (Nat.le_of_ble_eq_true rfl) (Nat.le_of_ble_eq_true rfl) (m_5 ho) rfl rfl rfl rfl rfl (Nat.le_of_ble_eq_true rfl) d_Fk_goOn_192 ⟨Nat.zero_le _, Nat.zero_le _⟩ ?_
              generalize hq25 : s_Gs_hi gh24 o (stp j 2) = r25
              refine x_lets ?_
              refine x_lload 1 C d_Fk_goOn_195 rfl ?_
              refine x_minl C (List.mem_cons_of_mem _ q_589) (List.mem_cons_of_mem _ q_548) (List.mem_cons_of_mem _ q_16) (List.mem_cons_of_mem _ q_549) (Nat.le_of_ble_eq_true rfl) (Nat.le_of_ble_eq_true rfl) (Nat.zero_le _) (Nat.zero_le _) d_Fk_goOn_197 ?_
              refine x_cv0 (i := (5, o)) (F := x_F ad cA) (As := [(.int (stp j 2)), (.long r22), (.long (if r21 < r25 then r21 else r25))]) (rest := []) C k_Gs_setRange q_584 (c_Gs_setRange ok o ho (stp j 2) r22 (if r21 < r25 then r21 else r25) (x_wfs hw hj)) rfl rfl rfl (Nat.le_of_ble_eq_true rfl) (Nat.le_of_ble_eq_true rfl) (m_5 ho) rfl rfl rfl rfl rfl (Nat.le_of_ble_eq_true rfl) d_Fk_goOn_200 ⟨Nat.zero_le _, Nat.zero_le _⟩ ?_
              generalize hq26 : s_Gs_setRange gk24 gl24 gh24 o (stp j 2) r22 (if r21 < r25 then r21 else r25) = q26
              obtain ⟨gk26, gl26, gh26⟩ := q26
              refine x_lets ?_
              dsimp only
              exact x_vret C hr hlk rfl d_Fk_goOn_203
          · exact x_vret C hr hlk rfl d_Fk_goOn_203
    · refine x_aload_n 3 C d_Fk_goOn_28 rfl rfl ?_
      refine x_iload_n 1 C d_Fk_goOn_29 rfl rfl ?_
      refine x_iconst (v := 3) C d_Fk_goOn_30 (by decide) ?_
      refine x_lconst (v := 0) C d_Fk_goOn_31 (by decide) ?_
      refine x_lconst (v := 0) C d_Fk_goOn_32 (by decide) ?_
      refine x_cv0 (i := (5, o)) (F := x_F ad cA) (As := [(.int (stp j 1)), (.int 3), (.long 0), (.long 0)]) (rest := []) C k_Gs_set q_593 (c_Gs_set ok o ho (stp j 1) 3 0 0 (x_wfd hw hj)) rfl rfl rfl (Nat.le_of_ble_eq_true rfl) (Nat.le_of_ble_eq_true rfl) (m_5 ho) rfl rfl rfl rfl rfl (Nat.le_of_ble_eq_true rfl) d_Fk_goOn_33 ⟨Nat.zero_le _, Nat.zero_le _⟩ ?_
      generalize hq27 : s_Gs_set gk gl gh o (stp j 1) 3 0 0 = q27
      obtain ⟨gk27, gl27, gh27⟩ := q27
      refine x_lets ?_
      dsimp only
      refine x_goto 203 C d_Fk_goOn_36 (by decide) ?_
      exact x_vret C hr hlk rfl d_Fk_goOn_203
  · refine x_aload_n 2 C d_Fk_goOn_39 rfl rfl ?_
    refine x_get (i := (3, j)) (v := (.int (stp j 0))) 0 C (m_3 hj) rfl rfl i_St (by decide) (List.mem_cons_of_mem _ q_42) rfl d_Fk_goOn_40 ?_
    refine x_bipush (v := 10) C d_Fk_goOn_43 (by decide) ?_
    refine x_icmp_ne 98 C d_Fk_goOn_45 (by decide) (fun z28 => ?_) (fun z28 => ?_)
    · refine x_aload_n 3 C d_Fk_goOn_48 rfl rfl ?_
      refine x_iload_n 1 C d_Fk_goOn_49 rfl rfl ?_
      refine x_aload_n 3 C d_Fk_goOn_50 rfl rfl ?_
      refine x_iload_n 1 C d_Fk_goOn_51 rfl rfl ?_
      refine x_cv (i := (5, o)) (F := x_F ad cA) (As := [(.int (stp j 1))]) (rest := [(.int (stp j 1)), (.ref (ad (5, o)))]) C k_Gs_lo q_576 (c_Gs_lo ok o ho (stp j 1) (x_wfd hw hj)) rfl rfl rfl (Nat.le_of_ble_eq_true rfl) (Nat.le_of_ble_eq_true rfl) (m_5 ho) rfl rfl rfl rfl rfl (Nat.le_of_ble_eq_true rfl) d_Fk_goOn_52 ⟨Nat.zero_le _, Nat.zero_le _⟩ ?_
      generalize hq29 : s_Gs_lo gl o (stp j 1) = r29
      refine x_lets ?_
      refine x_lload_n 0 C d_Fk_goOn_55 rfl rfl ?_
      refine x_lcmp_ne 66 C d_Fk_goOn_56 d_Fk_goOn_57 (by decide) (fun z30 => ?_) (fun z30 => ?_)
      · refine x_lload_n 0 C d_Fk_goOn_60 rfl rfl ?_
        refine x_lconst (v := 1) C d_Fk_goOn_61 (by decide) ?_
        refine x_ladd C d_Fk_goOn_62 ?_
        refine x_goto 71 C d_Fk_goOn_63 (by decide) ?_
        refine x_aload_n 3 C d_Fk_goOn_71 rfl rfl ?_
        refine x_iload_n 1 C d_Fk_goOn_72 rfl rfl ?_
        refine x_cv (i := (5, o)) (F := x_F ad cA) (As := [(.int (stp j 1))]) (rest := [(.long ((Int32.toInt64 (stp j 3)) + 1)), (.int (stp j 1)), (.ref (ad (5, o)))]) C k_Gs_hi q_577 (c_Gs_hi ok o ho (stp j 1) (x_wfd hw hj)) rfl rfl rfl (Nat.le_of_ble_eq_true rfl) (Nat.le_of_ble_eq_true rfl) (m_5 ho) rfl rfl rfl rfl rfl (Nat.le_of_ble_eq_true rfl) d_Fk_goOn_73 ⟨Nat.zero_le _, Nat.zero_le _⟩ ?_
        generalize hq31 : s_Gs_hi gh o (stp j 1) = r31
        refine x_lets ?_
        refine x_lload_n 0 C d_Fk_goOn_76 rfl rfl ?_
        refine x_lcmp_ne 87 C d_Fk_goOn_77 d_Fk_goOn_78 (by decide) (fun z32 => ?_) (fun z32 => ?_)
        · refine x_lload_n 0 C d_Fk_goOn_81 rfl rfl ?_
          refine x_lconst (v := 1) C d_Fk_goOn_82 (by decide) ?_
          refine x_lsub C d_Fk_goOn_83 ?_
          refine x_goto 92 C d_Fk_goOn_84 (by decide) ?_
          refine x_cv0 (i := (5, o)) (F := x_F ad cA) (As := [(.int (stp j 1)), (.long ((Int32.toInt64 (stp j 3)) + 1)), (.long ((Int32.toInt64 (stp j 3)) - 1))]) (rest := []) C k_Gs_setRange q_584 (c_Gs_setRange ok o ho (stp j 1) ((Int32.toInt64 (stp j 3)) + 1) ((Int32.toInt64 (stp j 3)) - 1) (x_wfd hw hj)) rfl rfl rfl (Nat.le_of_ble_eq_true rfl) (Nat.le_of_ble_eq_true rfl) (m_5 ho) rfl rfl rfl rfl rfl (Nat.le_of_ble_eq_true rfl) d_Fk_goOn_92 ⟨Nat.zero_le _, Nat.zero_le _⟩ ?_
          generalize hq33 : s_Gs_setRange gk gl gh o (stp j 1) ((Int32.toInt64 (stp j 3)) + 1) ((Int32.toInt64 (stp j 3)) - 1) = q33
          obtain ⟨gk33, gl33, gh33⟩ := q33
          refine x_lets ?_
          dsimp only
          refine x_goto 203 C d_Fk_goOn_95 (by decide) ?_
          exact x_vret C hr hlk rfl d_Fk_goOn_203
        · refine x_aload_n 3 C d_Fk_goOn_87 rfl rfl ?_
          refine x_iload_n 1 C d_Fk_goOn_88 rfl rfl ?_
          refine x_cv (i := (5, o)) (F := x_F ad cA) (As := [(.int (stp j 1))]) (rest := [(.long ((Int32.toInt64 (stp j 3)) + 1)), (.int (stp j 1)), (.ref (ad (5, o)))]) C k_Gs_hi q_577 (c_Gs_hi ok o ho (stp j 1) (x_wfd hw hj)) rfl rfl rfl (Nat.le_of_ble_eq_true rfl) (Nat.le_of_ble_eq_true rfl) (m_5 ho) rfl rfl rfl rfl rfl (Nat.le_of_ble_eq_true rfl) d_Fk_goOn_89 ⟨Nat.zero_le _, Nat.zero_le _⟩ ?_
          rw [hq31]
          refine x_cv0 (i := (5, o)) (F := x_F ad cA) (As := [(.int (stp j 1)), (.long ((Int32.toInt64 (stp j 3)) + 1)), (.long r31)]) (rest := []) C k_Gs_setRange q_584 (c_Gs_setRange ok o ho (stp j 1) ((Int32.toInt64 (stp j 3)) + 1) r31 (x_wfd hw hj)) rfl rfl rfl (Nat.le_of_ble_eq_true rfl) (Nat.le_of_ble_eq_true rfl) (m_5 ho) rfl rfl rfl rfl rfl (Nat.le_of_ble_eq_true rfl) d_Fk_goOn_92 ⟨Nat.zero_le _, Nat.zero_le _⟩ ?_
          generalize hq34 : s_Gs_setRange gk gl gh o (stp j 1) ((Int32.toInt64 (stp j 3)) + 1) r31 = q34
          obtain ⟨gk34, gl34, gh34⟩ := q34
          refine x_lets ?_
          dsimp only
          refine x_goto 203 C d_Fk_goOn_95 (by decide) ?_
          exact x_vret C hr hlk rfl d_Fk_goOn_203
      · refine x_aload_n 3 C d_Fk_goOn_66 rfl rfl ?_
        refine x_iload_n 1 C d_Fk_goOn_67 rfl rfl ?_
        refine x_cv (i := (5, o)) (F := x_F ad cA) (As := [(.int (stp j 1))]) (rest := [(.int (stp j 1)), (.ref (ad (5, o)))]) C k_Gs_lo q_576 (c_Gs_lo ok o ho (stp j 1) (x_wfd hw hj)) rfl rfl rfl (Nat.le_of_ble_eq_true rfl) (Nat.le_of_ble_eq_true rfl) (m_5 ho) rfl rfl rfl rfl rfl (Nat.le_of_ble_eq_true rfl) d_Fk_goOn_68 ⟨Nat.zero_le _, Nat.zero_le _⟩ ?_
        rw [hq29]
        refine x_aload_n 3 C d_Fk_goOn_71 rfl rfl ?_
        refine x_iload_n 1 C d_Fk_goOn_72 rfl rfl ?_
        refine x_cv (i := (5, o)) (F := x_F ad cA) (As := [(.int (stp j 1))]) (rest := [(.long r29), (.int (stp j 1)), (.ref (ad (5, o)))]) C k_Gs_hi q_577 (c_Gs_hi ok o ho (stp j 1) (x_wfd hw hj)) rfl rfl rfl (Nat.le_of_ble_eq_true rfl) (Nat.le_of_ble_eq_true rfl) (m_5 ho) rfl rfl rfl rfl rfl (Nat.le_of_ble_eq_true rfl) d_Fk_goOn_73 ⟨Nat.zero_le _, Nat.zero_le _⟩ ?_
        generalize hq35 : s_Gs_hi gh o (stp j 1) = r35
        refine x_lets ?_
        refine x_lload_n 0 C d_Fk_goOn_76 rfl rfl ?_
        refine x_lcmp_ne 87 C d_Fk_goOn_77 d_Fk_goOn_78 (by decide) (fun z36 => ?_) (fun z36 => ?_)
        · refine x_lload_n 0 C d_Fk_goOn_81 rfl rfl ?_
          refine x_lconst (v := 1) C d_Fk_goOn_82 (by decide) ?_
          refine x_lsub C d_Fk_goOn_83 ?_
          refine x_goto 92 C d_Fk_goOn_84 (by decide) ?_
          refine x_cv0 (i := (5, o)) (F := x_F ad cA) (As := [(.int (stp j 1)), (.long r29), (.long ((Int32.toInt64 (stp j 3)) - 1))]) (rest := []) C k_Gs_setRange q_584 (c_Gs_setRange ok o ho (stp j 1) r29 ((Int32.toInt64 (stp j 3)) - 1) (x_wfd hw hj)) rfl rfl rfl (Nat.le_of_ble_eq_true rfl) (Nat.le_of_ble_eq_true rfl) (m_5 ho) rfl rfl rfl rfl rfl (Nat.le_of_ble_eq_true rfl) d_Fk_goOn_92 ⟨Nat.zero_le _, Nat.zero_le _⟩ ?_
          generalize hq37 : s_Gs_setRange gk gl gh o (stp j 1) r29 ((Int32.toInt64 (stp j 3)) - 1) = q37
          obtain ⟨gk37, gl37, gh37⟩ := q37
          refine x_lets ?_
          dsimp only
          refine x_goto 203 C d_Fk_goOn_95 (by decide) ?_
          exact x_vret C hr hlk rfl d_Fk_goOn_203
        · refine x_aload_n 3 C d_Fk_goOn_87 rfl rfl ?_
          refine x_iload_n 1 C d_Fk_goOn_88 rfl rfl ?_
          refine x_cv (i := (5, o)) (F := x_F ad cA) (As := [(.int (stp j 1))]) (rest := [(.long r29), (.int (stp j 1)), (.ref (ad (5, o)))]) C k_Gs_hi q_577 (c_Gs_hi ok o ho (stp j 1) (x_wfd hw hj)) rfl rfl rfl (Nat.le_of_ble_eq_true rfl) (Nat.le_of_ble_eq_true rfl) (m_5 ho) rfl rfl rfl rfl rfl (Nat.le_of_ble_eq_true rfl) d_Fk_goOn_89 ⟨Nat.zero_le _, Nat.zero_le _⟩ ?_
          rw [hq35]
          refine x_cv0 (i := (5, o)) (F := x_F ad cA) (As := [(.int (stp j 1)), (.long r29), (.long r35)]) (rest := []) C k_Gs_setRange q_584 (c_Gs_setRange ok o ho (stp j 1) r29 r35 (x_wfd hw hj)) rfl rfl rfl (Nat.le_of_ble_eq_true rfl) (Nat.le_of_ble_eq_true rfl) (m_5 ho) rfl rfl rfl rfl rfl (Nat.le_of_ble_eq_true rfl) d_Fk_goOn_92 ⟨Nat.zero_le _, Nat.zero_le _⟩ ?_
          generalize hq38 : s_Gs_setRange gk gl gh o (stp j 1) r29 r35 = q38
          obtain ⟨gk38, gl38, gh38⟩ := q38
          refine x_lets ?_
          dsimp only
          refine x_goto 203 C d_Fk_goOn_95 (by decide) ?_
          exact x_vret C hr hlk rfl d_Fk_goOn_203
    · refine x_aload_n 2 C d_Fk_goOn_98 rfl rfl ?_
      refine x_get (i := (3, j)) (v := (.int (stp j 0))) 0 C (m_3 hj) rfl rfl i_St (by decide) (List.mem_cons_of_mem _ q_42) rfl d_Fk_goOn_99 ?_
      refine x_bipush (v := 11) C d_Fk_goOn_102 (by decide) ?_
      refine x_icmp_ne 129 C d_Fk_goOn_104 (by decide) (fun z39 => ?_) (fun z39 => ?_)
      · refine x_aload_n 3 C d_Fk_goOn_107 rfl rfl ?_
        refine x_iload_n 1 C d_Fk_goOn_108 rfl rfl ?_
        refine x_aload_n 3 C d_Fk_goOn_109 rfl rfl ?_
        refine x_iload_n 1 C d_Fk_goOn_110 rfl rfl ?_
        refine x_cv (i := (5, o)) (F := x_F ad cA) (As := [(.int (stp j 1))]) (rest := [(.int (stp j 1)), (.ref (ad (5, o)))]) C k_Gs_lo q_576 (c_Gs_lo ok o ho (stp j 1) (x_wfd hw hj)) rfl rfl rfl (Nat.le_of_ble_eq_true rfl) (Nat.le_of_ble_eq_true rfl) (m_5 ho) rfl rfl rfl rfl rfl (Nat.le_of_ble_eq_true rfl) d_Fk_goOn_111 ⟨Nat.zero_le _, Nat.zero_le _⟩ ?_
        generalize hq40 : s_Gs_lo gl o (stp j 1) = r40
        refine x_lets ?_
        refine x_aload_n 3 C d_Fk_goOn_114 rfl rfl ?_
        refine x_iload_n 1 C d_Fk_goOn_115 rfl rfl ?_
        refine x_cv (i := (5, o)) (F := x_F ad cA) (As := [(.int (stp j 1))]) (rest := [(.long r40), (.int (stp j 1)), (.ref (ad (5, o)))]) C k_Gs_hi q_577 (c_Gs_hi ok o ho (stp j 1) (x_wfd hw hj)) rfl rfl rfl (Nat.le_of_ble_eq_true rfl) (Nat.le_of_ble_eq_true rfl) (m_5 ho) rfl rfl rfl rfl rfl (Nat.le_of_ble_eq_true rfl) d_Fk_goOn_116 ⟨Nat.zero_le _, Nat.zero_le _⟩ ?_
        generalize hq41 : s_Gs_hi gh o (stp j 1) = r41
        refine x_lets ?_
        refine x_lload_n 0 C d_Fk_goOn_119 rfl rfl ?_
        refine x_minl C (List.mem_cons_of_mem _ q_589) (List.mem_cons_of_mem _ q_548) (List.mem_cons_of_mem _ q_16) (List.mem_cons_of_mem _ q_549) (Nat.le_of_ble_eq_true rfl) (Nat.le_of_ble_eq_true rfl) (Nat.zero_le _) (Nat.zero_le _) d_Fk_goOn_120 ?_
        refine x_cv0 (i := (5, o)) (F := x_F ad cA) (As := [(.int (stp j 1)), (.long r40), (.long (if (Int32.toInt64 (stp j 3)) < r41 then Int32.toInt64 (stp j 3) else r41))]) (rest := []) C k_Gs_setRange q_584 (c_Gs_setRange ok o ho (stp j 1) r40 (if (Int32.toInt64 (stp j 3)) < r41 then Int32.toInt64 (stp j 3) else r41) (x_wfd hw hj)) rfl rfl rfl (Nat.le_of_ble_eq_true rfl) (Nat.le_of_ble_eq_true rfl) (m_5 ho) rfl rfl rfl rfl rfl (Nat.le_of_ble_eq_true rfl) d_Fk_goOn_123 ⟨Nat.zero_le _, Nat.zero_le _⟩ ?_
        generalize hq42 : s_Gs_setRange gk gl gh o (stp j 1) r40 (if (Int32.toInt64 (stp j 3)) < r41 then Int32.toInt64 (stp j 3) else r41) = q42
        obtain ⟨gk42, gl42, gh42⟩ := q42
        refine x_lets ?_
        dsimp only
        refine x_goto 203 C d_Fk_goOn_126 (by decide) ?_
        exact x_vret C hr hlk rfl d_Fk_goOn_203
      · refine x_aload_n 2 C d_Fk_goOn_129 rfl rfl ?_
        refine x_get (i := (3, j)) (v := (.int (stp j 0))) 0 C (m_3 hj) rfl rfl i_St (by decide) (List.mem_cons_of_mem _ q_42) rfl d_Fk_goOn_130 ?_
        refine x_bipush (v := 12) C d_Fk_goOn_133 (by decide) ?_
        refine x_icmp_ne 203 C d_Fk_goOn_135 (by decide) (fun z43 => ?_) (fun z43 => ?_)
        · refine x_iload_n 1 C d_Fk_goOn_138 rfl rfl ?_
          refine x_aload_n 2 C d_Fk_goOn_139 rfl rfl ?_
          refine x_get (i := (3, j)) (v := (.int (stp j 2))) 2 C (m_3 hj) rfl rfl i_St (by decide) (List.mem_cons_of_mem _ q_53) rfl d_Fk_goOn_140 ?_
          refine x_icmp_eq 203 C d_Fk_goOn_143 (by decide) (fun z44 => ?_) (fun z44 => ?_)
          · exact x_vret C hr hlk rfl d_Fk_goOn_203
          · refine x_aload_n 3 C d_Fk_goOn_146 rfl rfl ?_
            refine x_iload_n 1 C d_Fk_goOn_147 rfl rfl ?_
            refine x_cv (i := (5, o)) (F := x_F ad cA) (As := [(.int (stp j 1))]) (rest := []) C k_Gs_hi q_577 (c_Gs_hi ok o ho (stp j 1) (x_wfd hw hj)) rfl rfl rfl (Nat.le_of_ble_eq_true rfl) (Nat.le_of_ble_eq_true rfl) (m_5 ho) rfl rfl rfl rfl rfl (Nat.le_of_ble_eq_true rfl) d_Fk_goOn_148 ⟨Nat.zero_le _, Nat.zero_le _⟩ ?_
            generalize hq45 : s_Gs_hi gh o (stp j 1) = r45
            refine x_lets ?_
            refine x_lstore (lv' := [(5, (.long r45)), (3, (.long (Int32.toInt64 (stp j 3)))), (2, (.int (stp j 1))), (0, (.ref (ad (3, j)))), (1, (.ref (ad (5, o))))]) C d_Fk_goOn_151 (by decide) rfl ?_
            refine x_aload_n 4 C d_Fk_goOn_153 rfl rfl ?_
            refine x_aload_n 3 C d_Fk_goOn_154 rfl rfl ?_
            refine x_get (i := (3, j)) (v := (.int (stp j 2))) 2 C (m_3 hj) rfl rfl i_St (by decide) (List.mem_cons_of_mem _ q_53) rfl d_Fk_goOn_155 ?_
            refine x_cv (i := (5, o)) (F := x_F ad cA) (As := [(.int (stp j 2))]) (rest := []) C k_Gs_lo q_576 (c_Gs_lo ok o ho (stp j 2) (x_wfs hw hj)) rfl rfl rfl (Nat.le_of_ble_eq_true rfl) (Nat.le_of_ble_eq_true rfl) (m_5 ho) rfl rfl rfl rfl rfl (Nat.le_of_ble_eq_true rfl) d_Fk_goOn_158 ⟨Nat.zero_le _, Nat.zero_le _⟩ ?_
            generalize hq46 : s_Gs_lo gl o (stp j 2) = r46
            refine x_lets ?_
            refine x_lstore (lv' := [(7, (.long r46)), (5, (.long r45)), (3, (.long (Int32.toInt64 (stp j 3)))), (2, (.int (stp j 1))), (0, (.ref (ad (3, j)))), (1, (.ref (ad (5, o))))]) C d_Fk_goOn_161 (by decide) rfl ?_
            refine x_aload_n 5 C d_Fk_goOn_163 rfl rfl ?_
            refine x_iload_n 3 C d_Fk_goOn_164 rfl rfl ?_
            refine x_aload_n 5 C d_Fk_goOn_165 rfl rfl ?_
            refine x_iload_n 3 C d_Fk_goOn_166 rfl rfl ?_
            refine x_cv (i := (5, o)) (F := x_F ad cA) (As := [(.int (stp j 1))]) (rest := [(.int (stp j 1)), (.ref (ad (5, o)))]) C k_Gs_lo q_576 (c_Gs_lo ok o ho (stp j 1) (x_wfd hw hj)) rfl rfl rfl (Nat.le_of_ble_eq_true rfl) (Nat.le_of_ble_eq_true rfl) (m_5 ho) rfl rfl rfl rfl rfl (Nat.le_of_ble_eq_true rfl) d_Fk_goOn_167 ⟨Nat.zero_le _, Nat.zero_le _⟩ ?_
            generalize hq47 : s_Gs_lo gl o (stp j 1) = r47
            refine x_lets ?_
            refine x_lload 0 C d_Fk_goOn_170 rfl ?_
            refine x_maxl C (List.mem_cons_of_mem _ q_588) (List.mem_cons_of_mem _ q_551) (List.mem_cons_of_mem _ q_16) (List.mem_cons_of_mem _ q_552) (Nat.le_of_ble_eq_true rfl) (Nat.le_of_ble_eq_true rfl) (Nat.zero_le _) (Nat.zero_le _) d_Fk_goOn_172 ?_
            refine x_lload 1 C d_Fk_goOn_175 rfl ?_
            refine x_cv0 (i := (5, o)) (F := x_F ad cA) (As := [(.int (stp j 1)), (.long (if r46 < r47 then r47 else r46)), (.long r45)]) (rest := []) C k_Gs_setRange q_584 (c_Gs_setRange ok o ho (stp j 1) (if r46 < r47 then r47 else r46) r45 (x_wfd hw hj)) rfl rfl rfl (Nat.le_of_ble_eq_true rfl) (Nat.le_of_ble_eq_true rfl) (m_5 ho) rfl rfl rfl rfl rfl (Nat.le_of_ble_eq_true rfl) d_Fk_goOn_177 ⟨Nat.zero_le _, Nat.zero_le _⟩ ?_
            generalize hq48 : s_Gs_setRange gk gl gh o (stp j 1) (if r46 < r47 then r47 else r46) r45 = q48
            obtain ⟨gk48, gl48, gh48⟩ := q48
            refine x_lets ?_
            dsimp only
            refine x_aload_n 5 C d_Fk_goOn_180 rfl rfl ?_
            refine x_aload_n 4 C d_Fk_goOn_181 rfl rfl ?_
            refine x_get (i := (3, j)) (v := (.int (stp j 2))) 2 C (m_3 hj) rfl rfl i_St (by decide) (List.mem_cons_of_mem _ q_53) rfl d_Fk_goOn_182 ?_
            refine x_lload 0 C d_Fk_goOn_185 rfl ?_
            refine x_aload_n 5 C d_Fk_goOn_187 rfl rfl ?_
            refine x_aload_n 4 C d_Fk_goOn_188 rfl rfl ?_
            refine x_get (i := (3, j)) (v := (.int (stp j 2))) 2 C (m_3 hj) rfl rfl i_St (by decide) (List.mem_cons_of_mem _ q_53) rfl d_Fk_goOn_189 ?_
            refine x_cv (i := (5, o)) (F := x_F ad cA) (As := [(.int (stp j 2))]) (rest := [(.long r46), (.int (stp j 2)), (.ref (ad (5, o)))]) C k_Gs_hi q_577 (c_Gs_hi ok o ho (stp j 2) (x_wfs hw hj)) rfl rfl rfl (Nat.le_of_ble_eq_true rfl) (Nat.le_of_ble_eq_true rfl) (m_5 ho) rfl rfl rfl rfl rfl (Nat.le_of_ble_eq_true rfl) d_Fk_goOn_192 ⟨Nat.zero_le _, Nat.zero_le _⟩ ?_
            generalize hq49 : s_Gs_hi gh48 o (stp j 2) = r49
            refine x_lets ?_
            refine x_lload 1 C d_Fk_goOn_195 rfl ?_
            refine x_minl C (List.mem_cons_of_mem _ q_589) (List.mem_cons_of_mem _ q_548) (List.mem_cons_of_mem _ q_16) (List.mem_cons_of_mem _ q_549) (Nat.le_of_ble_eq_true rfl) (Nat.le_of_ble_eq_true rfl) (Nat.zero_le _) (Nat.zero_le _) d_Fk_goOn_197 ?_
            refine x_cv0 (i := (5, o)) (F := x_F ad cA) (As := [(.int (stp j 2)), (.long r46), (.long (if r45 < r49 then r45 else r49))]) (rest := []) C k_Gs_setRange q_584 (c_Gs_setRange ok o ho (stp j 2) r46 (if r45 < r49 then r45 else r49) (x_wfs hw hj)) rfl rfl rfl (Nat.le_of_ble_eq_true rfl) (Nat.le_of_ble_eq_true rfl) (m_5 ho) rfl rfl rfl rfl rfl (Nat.le_of_ble_eq_true rfl) d_Fk_goOn_200 ⟨Nat.zero_le _, Nat.zero_le _⟩ ?_
            generalize hq50 : s_Gs_setRange gk48 gl48 gh48 o (stp j 2) r46 (if r45 < r49 then r45 else r49) = q50
            obtain ⟨gk50, gl50, gh50⟩ := q50
            refine x_lets ?_
            dsimp only
            exact x_vret C hr hlk rfl d_Fk_goOn_203
        · exact x_vret C hr hlk rfl d_Fk_goOn_203
