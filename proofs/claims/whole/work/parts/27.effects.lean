def s_Ef_sumWraps (a1 : Int64) (a2 : Int64) (a3 : Int64) : Int32 :=
  (if 0 ≤ ((a1 ^^^ a3) &&& (a2 ^^^ a3)) then (0) else (1))
set_option maxHeartbeats 4000000 in
set_option maxRecDepth 100000 in
theorem c_Ef_sumWraps {l : Launch} {D : va_G} {cA : Nat → ClassId} {ad : x_I → Nat} (ok : x_ok (x_k D cA ad)) {stp : Nat → Nat → Int32} {psz : Int32} {gk : Nat → Nat → Int32} {gl : Nat → Nat → Int64} {gh : Nat → Nat → Int64} {opn : Nat → Int32} {cki : Nat → Int32} {ckl : Nat → Int64} {mp : Nat → Nat → Int64} {rk : Nat → Int32} {rv : Nat → Int64} {ri : Nat → Int32} {chk : Int32} {mo : Nat → Nat → Int32} {mi : Nat → Int32} {ml : Nat → Int64} {mk : Nat → Int32} {mlo : Nat → Int64} {mhi : Nat → Int64} {pk : Nat → Int32} {ps : Nat → Int32} {pl : Nat → Int64} {ph : Nat → Int64} {mm : Nat → Int64} {out : Nat → Int64} (a1 : Int64) (a2 : Int64) (a3 : Int64) : x_M l y_Ef_sumWraps (Cond.code y_Ef_sumWraps b_Ef_sumWraps 6 (Option.some Jvm.ClassFile.FieldType.boolean) :: x_Wd) { frames := 0, cells := 0, slots := 0, locals := 0 } (x_k D cA ad) (x_F ad cA) [(.long a1), (.long a2), (.long a3)] ((stp, psz, gk, gl, gh, opn, cki, ckl, mp, rk, rv, ri, chk), (mo, mi, ml, mk, mlo, mhi, pk, ps, pl, ph, mm), out) ((fun q : Int32 => ((some (.int (q)), ((stp, psz, gk, gl, gh, opn, cki, ckl, mp, rk, rv, ri, chk), (mo, mi, ml, mk, mlo, mhi, pk, ps, pl, ph, mm), out)) : Option Value × x_S)) (s_Ef_sumWraps a1 a2 a3)) 0 0 := by
  refine x_start (κ := x_k D cA ad) (cc := b_Ef_sumWraps) (F := x_F ad cA) (wr := (fun q : Int32 => ((some (.int (q)), ((stp, psz, gk, gl, gh, opn, cki, ckl, mp, rk, rv, ri, chk), (mo, mi, ml, mk, mlo, mhi, pk, ps, pl, ph, mm), out)) : Option Value × x_S))) (q := s_Ef_sumWraps a1 a2 a3) (ret := (Option.some Jvm.ClassFile.FieldType.boolean)) (lv0 := [(0, (.long a1)), (2, (.long a2)), (4, (.long a3))]) ok (by decide) rfl (Nat.le_of_ble_eq_true rfl) rfl ?_
  intro p e s m below meth c C hr hlk
  unfold s_Ef_sumWraps
  refine x_lload_n 0 C d_Ef_sumWraps_0 rfl rfl ?_
  refine x_lload 2 C d_Ef_sumWraps_1 rfl ?_
  refine x_lxor C d_Ef_sumWraps_3 ?_
  refine x_lload_n 1 C d_Ef_sumWraps_4 rfl rfl ?_
  refine x_lload 2 C d_Ef_sumWraps_5 rfl ?_
  refine x_lxor C d_Ef_sumWraps_7 ?_
  refine x_land C d_Ef_sumWraps_8 ?_
  refine x_lconst (v := 0) C d_Ef_sumWraps_9 (by decide) ?_
  refine x_lcmp_ge 18 C d_Ef_sumWraps_10 d_Ef_sumWraps_11 (by decide) (fun z1 => ?_) (fun z1 => ?_)
  · refine x_iconst (v := 0) C d_Ef_sumWraps_18 (by decide) ?_
    exact x_zret C hr hlk rfl rfl d_Ef_sumWraps_19
  · refine x_iconst (v := 1) C d_Ef_sumWraps_14 (by decide) ?_
    refine x_goto 19 C d_Ef_sumWraps_15 (by decide) ?_
    exact x_zret C hr hlk rfl rfl d_Ef_sumWraps_19
def s_Ef_differenceWraps (a1 : Int64) (a2 : Int64) (a3 : Int64) : Int32 :=
  (if 0 ≤ ((a1 ^^^ a2) &&& (a1 ^^^ a3)) then (0) else (1))
set_option maxHeartbeats 4000000 in
set_option maxRecDepth 100000 in
theorem c_Ef_differenceWraps {l : Launch} {D : va_G} {cA : Nat → ClassId} {ad : x_I → Nat} (ok : x_ok (x_k D cA ad)) {stp : Nat → Nat → Int32} {psz : Int32} {gk : Nat → Nat → Int32} {gl : Nat → Nat → Int64} {gh : Nat → Nat → Int64} {opn : Nat → Int32} {cki : Nat → Int32} {ckl : Nat → Int64} {mp : Nat → Nat → Int64} {rk : Nat → Int32} {rv : Nat → Int64} {ri : Nat → Int32} {chk : Int32} {mo : Nat → Nat → Int32} {mi : Nat → Int32} {ml : Nat → Int64} {mk : Nat → Int32} {mlo : Nat → Int64} {mhi : Nat → Int64} {pk : Nat → Int32} {ps : Nat → Int32} {pl : Nat → Int64} {ph : Nat → Int64} {mm : Nat → Int64} {out : Nat → Int64} (a1 : Int64) (a2 : Int64) (a3 : Int64) : x_M l y_Ef_differenceWraps (Cond.code y_Ef_differenceWraps b_Ef_differenceWraps 6 (Option.some Jvm.ClassFile.FieldType.boolean) :: x_Wd) { frames := 0, cells := 0, slots := 0, locals := 0 } (x_k D cA ad) (x_F ad cA) [(.long a1), (.long a2), (.long a3)] ((stp, psz, gk, gl, gh, opn, cki, ckl, mp, rk, rv, ri, chk), (mo, mi, ml, mk, mlo, mhi, pk, ps, pl, ph, mm), out) ((fun q : Int32 => ((some (.int (q)), ((stp, psz, gk, gl, gh, opn, cki, ckl, mp, rk, rv, ri, chk), (mo, mi, ml, mk, mlo, mhi, pk, ps, pl, ph, mm), out)) : Option Value × x_S)) (s_Ef_differenceWraps a1 a2 a3)) 0 0 := by
  refine x_start (κ := x_k D cA ad) (cc := b_Ef_differenceWraps) (F := x_F ad cA) (wr := (fun q : Int32 => ((some (.int (q)), ((stp, psz, gk, gl, gh, opn, cki, ckl, mp, rk, rv, ri, chk), (mo, mi, ml, mk, mlo, mhi, pk, ps, pl, ph, mm), out)) : Option Value × x_S))) (q := s_Ef_differenceWraps a1 a2 a3) (ret := (Option.some Jvm.ClassFile.FieldType.boolean)) (lv0 := [(0, (.long a1)), (2, (.long a2)), (4, (.long a3))]) ok (by decide) rfl (Nat.le_of_ble_eq_true rfl) rfl ?_
  intro p e s m below meth c C hr hlk
  unfold s_Ef_differenceWraps
  refine x_lload_n 0 C d_Ef_differenceWraps_0 rfl rfl ?_
  refine x_lload_n 1 C d_Ef_differenceWraps_1 rfl rfl ?_
  refine x_lxor C d_Ef_differenceWraps_2 ?_
  refine x_lload_n 0 C d_Ef_differenceWraps_3 rfl rfl ?_
  refine x_lload 2 C d_Ef_differenceWraps_4 rfl ?_
  refine x_lxor C d_Ef_differenceWraps_6 ?_
  refine x_land C d_Ef_differenceWraps_7 ?_
  refine x_lconst (v := 0) C d_Ef_differenceWraps_8 (by decide) ?_
  refine x_lcmp_ge 17 C d_Ef_differenceWraps_9 d_Ef_differenceWraps_10 (by decide) (fun z1 => ?_) (fun z1 => ?_)
  · refine x_iconst (v := 0) C d_Ef_differenceWraps_17 (by decide) ?_
    exact x_zret C hr hlk rfl rfl d_Ef_differenceWraps_18
  · refine x_iconst (v := 1) C d_Ef_differenceWraps_13 (by decide) ?_
    refine x_goto 18 C d_Ef_differenceWraps_14 (by decide) ?_
    exact x_zret C hr hlk rfl rfl d_Ef_differenceWraps_18
def s_Ef_isFactor (a1 : Int64) : Int32 :=
  (if a1 < (-2147483648) then (0) else (if 2147483648 < a1 then (0) else (1)))
set_option maxHeartbeats 4000000 in
set_option maxRecDepth 100000 in
theorem c_Ef_isFactor {l : Launch} {D : va_G} {cA : Nat → ClassId} {ad : x_I → Nat} (ok : x_ok (x_k D cA ad)) {stp : Nat → Nat → Int32} {psz : Int32} {gk : Nat → Nat → Int32} {gl : Nat → Nat → Int64} {gh : Nat → Nat → Int64} {opn : Nat → Int32} {cki : Nat → Int32} {ckl : Nat → Int64} {mp : Nat → Nat → Int64} {rk : Nat → Int32} {rv : Nat → Int64} {ri : Nat → Int32} {chk : Int32} {mo : Nat → Nat → Int32} {mi : Nat → Int32} {ml : Nat → Int64} {mk : Nat → Int32} {mlo : Nat → Int64} {mhi : Nat → Int64} {pk : Nat → Int32} {ps : Nat → Int32} {pl : Nat → Int64} {ph : Nat → Int64} {mm : Nat → Int64} {out : Nat → Int64} (a1 : Int64) : x_M l y_Ef_isFactor (Cond.code y_Ef_isFactor b_Ef_isFactor 2 (Option.some Jvm.ClassFile.FieldType.boolean) :: x_Wd) { frames := 0, cells := 0, slots := 0, locals := 0 } (x_k D cA ad) (x_F ad cA) [(.long a1)] ((stp, psz, gk, gl, gh, opn, cki, ckl, mp, rk, rv, ri, chk), (mo, mi, ml, mk, mlo, mhi, pk, ps, pl, ph, mm), out) ((fun q : Int32 => ((some (.int (q)), ((stp, psz, gk, gl, gh, opn, cki, ckl, mp, rk, rv, ri, chk), (mo, mi, ml, mk, mlo, mhi, pk, ps, pl, ph, mm), out)) : Option Value × x_S)) (s_Ef_isFactor a1)) 0 0 := by
  refine x_start (κ := x_k D cA ad) (cc := b_Ef_isFactor) (F := x_F ad cA) (wr := (fun q : Int32 => ((some (.int (q)), ((stp, psz, gk, gl, gh, opn, cki, ckl, mp, rk, rv, ri, chk), (mo, mi, ml, mk, mlo, mhi, pk, ps, pl, ph, mm), out)) : Option Value × x_S))) (q := s_Ef_isFactor a1) (ret := (Option.some Jvm.ClassFile.FieldType.boolean)) (lv0 := [(0, (.long a1))]) ok (by decide) rfl (Nat.le_of_ble_eq_true rfl) rfl ?_
  intro p e s m below meth c C hr hlk
  unfold s_Ef_isFactor
  refine x_lload_n 0 C d_Ef_isFactor_0 rfl rfl ?_
  refine x_ldc2 (v := (-2147483648)) C (List.mem_cons_of_mem _ q_629) d_Ef_isFactor_1 ?_
  refine x_lcmp_lt 20 C d_Ef_isFactor_4 d_Ef_isFactor_5 (by decide) (fun z1 => ?_) (fun z1 => ?_)
  · refine x_iconst (v := 0) C d_Ef_isFactor_20 (by decide) ?_
    exact x_zret C hr hlk rfl rfl d_Ef_isFactor_21
  · refine x_lload_n 0 C d_Ef_isFactor_8 rfl rfl ?_
    refine x_ldc2 (v := 2147483648) C (List.mem_cons_of_mem _ q_630) d_Ef_isFactor_9 ?_
    refine x_lcmp_gt 20 C d_Ef_isFactor_12 d_Ef_isFactor_13 (by decide) (fun z2 => ?_) (fun z2 => ?_)
    · refine x_iconst (v := 0) C d_Ef_isFactor_20 (by decide) ?_
      exact x_zret C hr hlk rfl rfl d_Ef_isFactor_21
    · refine x_iconst (v := 1) C d_Ef_isFactor_16 (by decide) ?_
      refine x_goto 21 C d_Ef_isFactor_17 (by decide) ?_
      exact x_zret C hr hlk rfl rfl d_Ef_isFactor_21
def s_Ef_move (gk : Nat → Nat → Int32) (gl : Nat → Nat → Int64) (gh : Nat → Nat → Int64) (a1 : Int32) (a2 : Int64) (a3 : Int64) : (Nat → Nat → Int32) × (Nat → Nat → Int64) × (Nat → Nat → Int64) :=
  (x_let (s_Gs_lo gl 0 a1) fun r1 => (x_let (s_Gs_hi gh 0 a1) fun r2 => (x_let (s_Ef_sumWraps r1 a2 (r1 + a2)) fun r3 => (if r3 = 0 then (x_let (s_Ef_sumWraps r2 a3 (r2 + a3)) fun r5 => (if r5 = 0 then (x_let (s_Gs_kind gk 0 a1) fun r7 => (x_let (s_Gs_set gk gl gh 0 a1 r7 (r1 + a2) (r2 + a3)) fun (gk8, gl8, gh8) => (gk8, gl8, gh8))) else (x_let (s_Gs_setAny gk gl gh 0 a1) fun (gk9, gl9, gh9) => (gk9, gl9, gh9)))) else (x_let (s_Gs_setAny gk gl gh 0 a1) fun (gk10, gl10, gh10) => (gk10, gl10, gh10))))))
set_option maxHeartbeats 4000000 in
set_option maxRecDepth 100000 in
theorem c_Ef_move {l : Launch} {D : va_G} {cA : Nat → ClassId} {ad : x_I → Nat} (ok : x_ok (x_k D cA ad)) {stp : Nat → Nat → Int32} {psz : Int32} {gk : Nat → Nat → Int32} {gl : Nat → Nat → Int64} {gh : Nat → Nat → Int64} {opn : Nat → Int32} {cki : Nat → Int32} {ckl : Nat → Int64} {mp : Nat → Nat → Int64} {rk : Nat → Int32} {rv : Nat → Int64} {ri : Nat → Int32} {chk : Int32} {mo : Nat → Nat → Int32} {mi : Nat → Int32} {ml : Nat → Int64} {mk : Nat → Int32} {mlo : Nat → Int64} {mhi : Nat → Int64} {pk : Nat → Int32} {ps : Nat → Int32} {pl : Nat → Int64} {ph : Nat → Int64} {mm : Nat → Int64} {out : Nat → Int64} (a1 : Int32) (a2 : Int64) (a3 : Int64) (h1 : vp_in a1 12) : x_M l y_Ef_move (Cond.code y_Ef_move b_Ef_move 10 (Option.none : Option Jvm.ClassFile.FieldType) :: x_Wd) { frames := 2, cells := 0, slots := 0, locals := 47 } (x_k D cA ad) (x_F ad cA) [(.ref (ad (10, 0))), (.int a1), (.long a2), (.long a3)] ((stp, psz, gk, gl, gh, opn, cki, ckl, mp, rk, rv, ri, chk), (mo, mi, ml, mk, mlo, mhi, pk, ps, pl, ph, mm), out) ((fun q : (Nat → Nat → Int32) × (Nat → Nat → Int64) × (Nat → Nat → Int64) => ((none, ((stp, psz, q.1, q.2.1, q.2.2, opn, cki, ckl, mp, rk, rv, ri, chk), (mo, mi, ml, mk, mlo, mhi, pk, ps, pl, ph, mm), out)) : Option Value × x_S)) (s_Ef_move gk gl gh a1 a2 a3)) 0 0 := by
  refine x_start (κ := x_k D cA ad) (cc := b_Ef_move) (F := x_F ad cA) (wr := (fun q : (Nat → Nat → Int32) × (Nat → Nat → Int64) × (Nat → Nat → Int64) => ((none, ((stp, psz, q.1, q.2.1, q.2.2, opn, cki, ckl, mp, rk, rv, ri, chk), (mo, mi, ml, mk, mlo, mhi, pk, ps, pl, ph, mm), out)) : Option Value × x_S))) (q := s_Ef_move gk gl gh a1 a2 a3) (ret := (Option.none : Option Jvm.ClassFile.FieldType)) (lv0 := [(0, (.ref (ad (10, 0)))), (1, (.int a1)), (2, (.long a2)), (4, (.long a3))]) ok (by decide) rfl (Nat.le_of_ble_eq_true rfl) rfl ?_
  intro p e s m below meth c C hr hlk
  unfold s_Ef_move
  refine x_aload_n 0 C d_Ef_move_0 rfl rfl ?_
  refine x_get (i := (10, 0)) (v := (.ref (ad (5, 0)))) 0 C m_10 rfl rfl i_Ef (by decide) (List.mem_cons_of_mem _ q_129) rfl d_Ef_move_1 ?_
  refine x_iload_n 1 C d_Ef_move_4 rfl rfl ?_
  refine x_cv (i := (5, 0)) (F := x_F ad cA) (As := [(.int a1)]) (rest := []) C k_Gs_lo q_607 (c_Gs_lo ok 0 (by decide) a1 h1) rfl rfl rfl (Nat.le_of_ble_eq_true rfl) (Nat.le_of_ble_eq_true rfl) (m_5 (by decide)) rfl rfl rfl rfl rfl (Nat.le_of_ble_eq_true rfl) d_Ef_move_5 ⟨Nat.zero_le _, Nat.zero_le _⟩ ?_
  generalize hq1 : s_Gs_lo gl 0 a1 = r1
  refine x_lets ?_
  refine x_lload_n 2 C d_Ef_move_8 rfl rfl ?_
  refine x_ladd C d_Ef_move_9 ?_
  refine x_lstore (lv' := [(6, (.long (r1 + a2))), (0, (.ref (ad (10, 0)))), (1, (.int a1)), (2, (.long a2)), (4, (.long a3))]) C d_Ef_move_10 (by decide) rfl ?_
  refine x_aload_n 1 C d_Ef_move_12 rfl rfl ?_
  refine x_get (i := (10, 0)) (v := (.ref (ad (5, 0)))) 0 C m_10 rfl rfl i_Ef (by decide) (List.mem_cons_of_mem _ q_129) rfl d_Ef_move_13 ?_
  refine x_iload_n 2 C d_Ef_move_16 rfl rfl ?_
  refine x_cv (i := (5, 0)) (F := x_F ad cA) (As := [(.int a1)]) (rest := []) C k_Gs_hi q_608 (c_Gs_hi ok 0 (by decide) a1 h1) rfl rfl rfl (Nat.le_of_ble_eq_true rfl) (Nat.le_of_ble_eq_true rfl) (m_5 (by decide)) rfl rfl rfl rfl rfl (Nat.le_of_ble_eq_true rfl) d_Ef_move_17 ⟨Nat.zero_le _, Nat.zero_le _⟩ ?_
  generalize hq2 : s_Gs_hi gh 0 a1 = r2
  refine x_lets ?_
  refine x_lload 4 C d_Ef_move_20 rfl ?_
  refine x_ladd C d_Ef_move_22 ?_
  refine x_lstore (lv' := [(8, (.long (r2 + a3))), (6, (.long (r1 + a2))), (0, (.ref (ad (10, 0)))), (1, (.int a1)), (2, (.long a2)), (4, (.long a3))]) C d_Ef_move_23 (by decide) rfl ?_
  refine x_aload_n 2 C d_Ef_move_25 rfl rfl ?_
  refine x_get (i := (10, 0)) (v := (.ref (ad (5, 0)))) 0 C m_10 rfl rfl i_Ef (by decide) (List.mem_cons_of_mem _ q_129) rfl d_Ef_move_26 ?_
  refine x_iload_n 3 C d_Ef_move_29 rfl rfl ?_
  refine x_cv (i := (5, 0)) (F := x_F ad cA) (As := [(.int a1)]) (rest := []) C k_Gs_lo q_607 (c_Gs_lo ok 0 (by decide) a1 h1) rfl rfl rfl (Nat.le_of_ble_eq_true rfl) (Nat.le_of_ble_eq_true rfl) (m_5 (by decide)) rfl rfl rfl rfl rfl (Nat.le_of_ble_eq_true rfl) d_Ef_move_30 ⟨Nat.zero_le _, Nat.zero_le _⟩ ?_
  rw [hq1]
  refine x_lload_n 4 C d_Ef_move_33 rfl rfl ?_
  refine x_lload 1 C d_Ef_move_34 rfl ?_
  refine x_cs (F := x_F ad cA) (As := [(.long r1), (.long a2), (.long (r1 + a2))]) (rest := []) C k_Ef_sumWraps q_609 (c_Ef_sumWraps ok r1 a2 (r1 + a2)) rfl rfl rfl (Nat.le_of_ble_eq_true rfl) (Nat.le_of_ble_eq_true rfl) rfl rfl (Nat.le_of_ble_eq_true rfl) d_Ef_move_36 ⟨Nat.zero_le _, Nat.zero_le _⟩ ?_
  generalize hq3 : s_Ef_sumWraps r1 a2 (r1 + a2) = r3
  refine x_lets ?_
  refine x_if_ne 60 C d_Ef_move_39 (by decide) (fun z4 => ?_) (fun z4 => ?_)
  · refine x_aload_n 2 C d_Ef_move_42 rfl rfl ?_
    refine x_get (i := (10, 0)) (v := (.ref (ad (5, 0)))) 0 C m_10 rfl rfl i_Ef (by decide) (List.mem_cons_of_mem _ q_129) rfl d_Ef_move_43 ?_
    refine x_iload_n 3 C d_Ef_move_46 rfl rfl ?_
    refine x_cv (i := (5, 0)) (F := x_F ad cA) (As := [(.int a1)]) (rest := []) C k_Gs_hi q_608 (c_Gs_hi ok 0 (by decide) a1 h1) rfl rfl rfl (Nat.le_of_ble_eq_true rfl) (Nat.le_of_ble_eq_true rfl) (m_5 (by decide)) rfl rfl rfl rfl rfl (Nat.le_of_ble_eq_true rfl) d_Ef_move_47 ⟨Nat.zero_le _, Nat.zero_le _⟩ ?_
    rw [hq2]
    refine x_lload 5 C d_Ef_move_50 rfl ?_
    refine x_lload 0 C d_Ef_move_52 rfl ?_
    refine x_cs (F := x_F ad cA) (As := [(.long r2), (.long a3), (.long (r2 + a3))]) (rest := []) C k_Ef_sumWraps q_609 (c_Ef_sumWraps ok r2 a3 (r2 + a3)) rfl rfl rfl (Nat.le_of_ble_eq_true rfl) (Nat.le_of_ble_eq_true rfl) rfl rfl (Nat.le_of_ble_eq_true rfl) d_Ef_move_54 ⟨Nat.zero_le _, Nat.zero_le _⟩ ?_
    generalize hq5 : s_Ef_sumWraps r2 a3 (r2 + a3) = r5
    refine x_lets ?_
    refine x_if_eq 71 C d_Ef_move_57 (by decide) (fun z6 => ?_) (fun z6 => ?_)
    · refine x_aload_n 2 C d_Ef_move_71 rfl rfl ?_
      refine x_get (i := (10, 0)) (v := (.ref (ad (5, 0)))) 0 C m_10 rfl rfl i_Ef (by decide) (List.mem_cons_of_mem _ q_129) rfl d_Ef_move_72 ?_
      refine x_iload_n 3 C d_Ef_move_75 rfl rfl ?_
      refine x_aload_n 2 C d_Ef_move_76 rfl rfl ?_
      refine x_get (i := (10, 0)) (v := (.ref (ad (5, 0)))) 0 C m_10 rfl rfl i_Ef (by decide) (List.mem_cons_of_mem _ q_129) rfl d_Ef_move_77 ?_
      refine x_iload_n 3 C d_Ef_move_80 rfl rfl ?_
      refine x_cv (i := (5, 0)) (F := x_F ad cA) (As := [(.int a1)]) (rest := [(.int a1), (.ref (ad (5, 0)))]) C k_Gs_kind q_613 (c_Gs_kind ok 0 (by decide) a1 h1) rfl rfl rfl (Nat.le_of_ble_eq_true rfl) (Nat.le_of_ble_eq_true rfl) (m_5 (by decide)) rfl rfl rfl rfl rfl (Nat.le_of_ble_eq_true rfl) d_Ef_move_81 ⟨Nat.zero_le _, Nat.zero_le _⟩ ?_
      generalize hq7 : s_Gs_kind gk 0 a1 = r7
      refine x_lets ?_
      refine x_lload 1 C d_Ef_move_84 rfl ?_
      refine x_lload 0 C d_Ef_move_86 rfl ?_
      refine x_cv0 (i := (5, 0)) (F := x_F ad cA) (As := [(.int a1), (.int r7), (.long (r1 + a2)), (.long (r2 + a3))]) (rest := []) C k_Gs_set q_614 (c_Gs_set ok 0 (by decide) a1 r7 (r1 + a2) (r2 + a3) h1) rfl rfl rfl (Nat.le_of_ble_eq_true rfl) (Nat.le_of_ble_eq_true rfl) (m_5 (by decide)) rfl rfl rfl rfl rfl (Nat.le_of_ble_eq_true rfl) d_Ef_move_88 ⟨Nat.zero_le _, Nat.zero_le _⟩ ?_
      generalize hq8 : s_Gs_set gk gl gh 0 a1 r7 (r1 + a2) (r2 + a3) = q8
      obtain ⟨gk8, gl8, gh8⟩ := q8
      refine x_lets ?_
      dsimp only
      exact x_vret C hr hlk rfl d_Ef_move_91
    · refine x_aload_n 2 C d_Ef_move_60 rfl rfl ?_
      refine x_get (i := (10, 0)) (v := (.ref (ad (5, 0)))) 0 C m_10 rfl rfl i_Ef (by decide) (List.mem_cons_of_mem _ q_129) rfl d_Ef_move_61 ?_
      refine x_iload_n 3 C d_Ef_move_64 rfl rfl ?_
      refine x_cv0 (i := (5, 0)) (F := x_F ad cA) (As := [(.int a1)]) (rest := []) C k_Gs_setAny q_612 (c_Gs_setAny ok 0 (by decide) a1 h1) rfl rfl rfl (Nat.le_of_ble_eq_true rfl) (Nat.le_of_ble_eq_true rfl) (m_5 (by decide)) rfl rfl rfl rfl rfl (Nat.le_of_ble_eq_true rfl) d_Ef_move_65 ⟨Nat.zero_le _, Nat.zero_le _⟩ ?_
      generalize hq9 : s_Gs_setAny gk gl gh 0 a1 = q9
      obtain ⟨gk9, gl9, gh9⟩ := q9
      refine x_lets ?_
      dsimp only
      refine x_goto 91 C d_Ef_move_68 (by decide) ?_
      exact x_vret C hr hlk rfl d_Ef_move_91
  · refine x_aload_n 2 C d_Ef_move_60 rfl rfl ?_
    refine x_get (i := (10, 0)) (v := (.ref (ad (5, 0)))) 0 C m_10 rfl rfl i_Ef (by decide) (List.mem_cons_of_mem _ q_129) rfl d_Ef_move_61 ?_
    refine x_iload_n 3 C d_Ef_move_64 rfl rfl ?_
    refine x_cv0 (i := (5, 0)) (F := x_F ad cA) (As := [(.int a1)]) (rest := []) C k_Gs_setAny q_612 (c_Gs_setAny ok 0 (by decide) a1 h1) rfl rfl rfl (Nat.le_of_ble_eq_true rfl) (Nat.le_of_ble_eq_true rfl) (m_5 (by decide)) rfl rfl rfl rfl rfl (Nat.le_of_ble_eq_true rfl) d_Ef_move_65 ⟨Nat.zero_le _, Nat.zero_le _⟩ ?_
    generalize hq10 : s_Gs_setAny gk gl gh 0 a1 = q10
    obtain ⟨gk10, gl10, gh10⟩ := q10
    refine x_lets ?_
    dsimp only
    refine x_goto 91 C d_Ef_move_68 (by decide) ?_
    exact x_vret C hr hlk rfl d_Ef_move_91
def s_Ef_subtract (gk : Nat → Nat → Int32) (gl : Nat → Nat → Int64) (gh : Nat → Nat → Int64) (a1 : Int32) (a2 : Int64) (a3 : Int64) : (Nat → Nat → Int32) × (Nat → Nat → Int64) × (Nat → Nat → Int64) :=
  (x_let (s_Gs_lo gl 0 a1) fun r1 => (x_let (s_Gs_hi gh 0 a1) fun r2 => (x_let (s_Ef_differenceWraps r1 a3 (r1 - a3)) fun r3 => (if r3 = 0 then (x_let (s_Ef_differenceWraps r2 a2 (r2 - a2)) fun r5 => (if r5 = 0 then (x_let (s_Gs_setRange gk gl gh 0 a1 (r1 - a3) (r2 - a2)) fun (gk7, gl7, gh7) => (gk7, gl7, gh7)) else (x_let (s_Gs_setAny gk gl gh 0 a1) fun (gk8, gl8, gh8) => (gk8, gl8, gh8)))) else (x_let (s_Gs_setAny gk gl gh 0 a1) fun (gk9, gl9, gh9) => (gk9, gl9, gh9))))))
set_option maxHeartbeats 4000000 in
set_option maxRecDepth 100000 in
theorem c_Ef_subtract {l : Launch} {D : va_G} {cA : Nat → ClassId} {ad : x_I → Nat} (ok : x_ok (x_k D cA ad)) {stp : Nat → Nat → Int32} {psz : Int32} {gk : Nat → Nat → Int32} {gl : Nat → Nat → Int64} {gh : Nat → Nat → Int64} {opn : Nat → Int32} {cki : Nat → Int32} {ckl : Nat → Int64} {mp : Nat → Nat → Int64} {rk : Nat → Int32} {rv : Nat → Int64} {ri : Nat → Int32} {chk : Int32} {mo : Nat → Nat → Int32} {mi : Nat → Int32} {ml : Nat → Int64} {mk : Nat → Int32} {mlo : Nat → Int64} {mhi : Nat → Int64} {pk : Nat → Int32} {ps : Nat → Int32} {pl : Nat → Int64} {ph : Nat → Int64} {mm : Nat → Int64} {out : Nat → Int64} (a1 : Int32) (a2 : Int64) (a3 : Int64) (h1 : vp_in a1 12) : x_M l y_Ef_subtract (Cond.code y_Ef_subtract b_Ef_subtract 10 (Option.none : Option Jvm.ClassFile.FieldType) :: x_Wd) { frames := 2, cells := 0, slots := 0, locals := 51 } (x_k D cA ad) (x_F ad cA) [(.ref (ad (10, 0))), (.int a1), (.long a2), (.long a3)] ((stp, psz, gk, gl, gh, opn, cki, ckl, mp, rk, rv, ri, chk), (mo, mi, ml, mk, mlo, mhi, pk, ps, pl, ph, mm), out) ((fun q : (Nat → Nat → Int32) × (Nat → Nat → Int64) × (Nat → Nat → Int64) => ((none, ((stp, psz, q.1, q.2.1, q.2.2, opn, cki, ckl, mp, rk, rv, ri, chk), (mo, mi, ml, mk, mlo, mhi, pk, ps, pl, ph, mm), out)) : Option Value × x_S)) (s_Ef_subtract gk gl gh a1 a2 a3)) 0 0 := by
  refine x_start (κ := x_k D cA ad) (cc := b_Ef_subtract) (F := x_F ad cA) (wr := (fun q : (Nat → Nat → Int32) × (Nat → Nat → Int64) × (Nat → Nat → Int64) => ((none, ((stp, psz, q.1, q.2.1, q.2.2, opn, cki, ckl, mp, rk, rv, ri, chk), (mo, mi, ml, mk, mlo, mhi, pk, ps, pl, ph, mm), out)) : Option Value × x_S))) (q := s_Ef_subtract gk gl gh a1 a2 a3) (ret := (Option.none : Option Jvm.ClassFile.FieldType)) (lv0 := [(0, (.ref (ad (10, 0)))), (1, (.int a1)), (2, (.long a2)), (4, (.long a3))]) ok (by decide) rfl (Nat.le_of_ble_eq_true rfl) rfl ?_
  intro p e s m below meth c C hr hlk
  unfold s_Ef_subtract
  refine x_aload_n 0 C d_Ef_subtract_0 rfl rfl ?_
  refine x_get (i := (10, 0)) (v := (.ref (ad (5, 0)))) 0 C m_10 rfl rfl i_Ef (by decide) (List.mem_cons_of_mem _ q_129) rfl d_Ef_subtract_1 ?_
  refine x_iload_n 1 C d_Ef_subtract_4 rfl rfl ?_
  refine x_cv (i := (5, 0)) (F := x_F ad cA) (As := [(.int a1)]) (rest := []) C k_Gs_lo q_607 (c_Gs_lo ok 0 (by decide) a1 h1) rfl rfl rfl (Nat.le_of_ble_eq_true rfl) (Nat.le_of_ble_eq_true rfl) (m_5 (by decide)) rfl rfl rfl rfl rfl (Nat.le_of_ble_eq_true rfl) d_Ef_subtract_5 ⟨Nat.zero_le _, Nat.zero_le _⟩ ?_
  generalize hq1 : s_Gs_lo gl 0 a1 = r1
  refine x_lets ?_
  refine x_lload 3 C d_Ef_subtract_8 rfl ?_
  refine x_lsub C d_Ef_subtract_10 ?_
  refine x_lstore (lv' := [(6, (.long (r1 - a3))), (0, (.ref (ad (10, 0)))), (1, (.int a1)), (2, (.long a2)), (4, (.long a3))]) C d_Ef_subtract_11 (by decide) rfl ?_
  refine x_aload_n 1 C d_Ef_subtract_13 rfl rfl ?_
  refine x_get (i := (10, 0)) (v := (.ref (ad (5, 0)))) 0 C m_10 rfl rfl i_Ef (by decide) (List.mem_cons_of_mem _ q_129) rfl d_Ef_subtract_14 ?_
  refine x_iload_n 2 C d_Ef_subtract_17 rfl rfl ?_
  refine x_cv (i := (5, 0)) (F := x_F ad cA) (As := [(.int a1)]) (rest := []) C k_Gs_hi q_608 (c_Gs_hi ok 0 (by decide) a1 h1) rfl rfl rfl (Nat.le_of_ble_eq_true rfl) (Nat.le_of_ble_eq_true rfl) (m_5 (by decide)) rfl rfl rfl rfl rfl (Nat.le_of_ble_eq_true rfl) d_Ef_subtract_18 ⟨Nat.zero_le _, Nat.zero_le _⟩ ?_
  generalize hq2 : s_Gs_hi gh 0 a1 = r2
  refine x_lets ?_
  refine x_lload_n 3 C d_Ef_subtract_21 rfl rfl ?_
  refine x_lsub C d_Ef_subtract_22 ?_
  refine x_lstore (lv' := [(8, (.long (r2 - a2))), (6, (.long (r1 - a3))), (0, (.ref (ad (10, 0)))), (1, (.int a1)), (2, (.long a2)), (4, (.long a3))]) C d_Ef_subtract_23 (by decide) rfl ?_
  refine x_aload_n 2 C d_Ef_subtract_25 rfl rfl ?_
  refine x_get (i := (10, 0)) (v := (.ref (ad (5, 0)))) 0 C m_10 rfl rfl i_Ef (by decide) (List.mem_cons_of_mem _ q_129) rfl d_Ef_subtract_26 ?_
  refine x_iload_n 3 C d_Ef_subtract_29 rfl rfl ?_
  refine x_cv (i := (5, 0)) (F := x_F ad cA) (As := [(.int a1)]) (rest := []) C k_Gs_lo q_607 (c_Gs_lo ok 0 (by decide) a1 h1) rfl rfl rfl (Nat.le_of_ble_eq_true rfl) (Nat.le_of_ble_eq_true rfl) (m_5 (by decide)) rfl rfl rfl rfl rfl (Nat.le_of_ble_eq_true rfl) d_Ef_subtract_30 ⟨Nat.zero_le _, Nat.zero_le _⟩ ?_
  rw [hq1]
  refine x_lload 5 C d_Ef_subtract_33 rfl ?_
  refine x_lload 1 C d_Ef_subtract_35 rfl ?_
  refine x_cs (F := x_F ad cA) (As := [(.long r1), (.long a3), (.long (r1 - a3))]) (rest := []) C k_Ef_differenceWraps q_619 (c_Ef_differenceWraps ok r1 a3 (r1 - a3)) rfl rfl rfl (Nat.le_of_ble_eq_true rfl) (Nat.le_of_ble_eq_true rfl) rfl rfl (Nat.le_of_ble_eq_true rfl) d_Ef_subtract_37 ⟨Nat.zero_le _, Nat.zero_le _⟩ ?_
  generalize hq3 : s_Ef_differenceWraps r1 a3 (r1 - a3) = r3
  refine x_lets ?_
  refine x_if_ne 60 C d_Ef_subtract_40 (by decide) (fun z4 => ?_) (fun z4 => ?_)
  · refine x_aload_n 2 C d_Ef_subtract_43 rfl rfl ?_
    refine x_get (i := (10, 0)) (v := (.ref (ad (5, 0)))) 0 C m_10 rfl rfl i_Ef (by decide) (List.mem_cons_of_mem _ q_129) rfl d_Ef_subtract_44 ?_
    refine x_iload_n 3 C d_Ef_subtract_47 rfl rfl ?_
    refine x_cv (i := (5, 0)) (F := x_F ad cA) (As := [(.int a1)]) (rest := []) C k_Gs_hi q_608 (c_Gs_hi ok 0 (by decide) a1 h1) rfl rfl rfl (Nat.le_of_ble_eq_true rfl) (Nat.le_of_ble_eq_true rfl) (m_5 (by decide)) rfl rfl rfl rfl rfl (Nat.le_of_ble_eq_true rfl) d_Ef_subtract_48 ⟨Nat.zero_le _, Nat.zero_le _⟩ ?_
    rw [hq2]
    refine x_lload_n 4 C d_Ef_subtract_51 rfl rfl ?_
    refine x_lload 0 C d_Ef_subtract_52 rfl ?_
    refine x_cs (F := x_F ad cA) (As := [(.long r2), (.long a2), (.long (r2 - a2))]) (rest := []) C k_Ef_differenceWraps q_619 (c_Ef_differenceWraps ok r2 a2 (r2 - a2)) rfl rfl rfl (Nat.le_of_ble_eq_true rfl) (Nat.le_of_ble_eq_true rfl) rfl rfl (Nat.le_of_ble_eq_true rfl) d_Ef_subtract_54 ⟨Nat.zero_le _, Nat.zero_le _⟩ ?_
    generalize hq5 : s_Ef_differenceWraps r2 a2 (r2 - a2) = r5
    refine x_lets ?_
    refine x_if_eq 71 C d_Ef_subtract_57 (by decide) (fun z6 => ?_) (fun z6 => ?_)
    · refine x_aload_n 2 C d_Ef_subtract_71 rfl rfl ?_
      refine x_get (i := (10, 0)) (v := (.ref (ad (5, 0)))) 0 C m_10 rfl rfl i_Ef (by decide) (List.mem_cons_of_mem _ q_129) rfl d_Ef_subtract_72 ?_
      refine x_iload_n 3 C d_Ef_subtract_75 rfl rfl ?_
      refine x_lload 1 C d_Ef_subtract_76 rfl ?_
      refine x_lload 0 C d_Ef_subtract_78 rfl ?_
      refine x_cv0 (i := (5, 0)) (F := x_F ad cA) (As := [(.int a1), (.long (r1 - a3)), (.long (r2 - a2))]) (rest := []) C k_Gs_setRange q_598 (c_Gs_setRange ok 0 (by decide) a1 (r1 - a3) (r2 - a2) h1) rfl rfl rfl (Nat.le_of_ble_eq_true rfl) (Nat.le_of_ble_eq_true rfl) (m_5 (by decide)) rfl rfl rfl rfl rfl (Nat.le_of_ble_eq_true rfl) d_Ef_subtract_80 ⟨Nat.zero_le _, Nat.zero_le _⟩ ?_
      generalize hq7 : s_Gs_setRange gk gl gh 0 a1 (r1 - a3) (r2 - a2) = q7
      obtain ⟨gk7, gl7, gh7⟩ := q7
      refine x_lets ?_
      dsimp only
      exact x_vret C hr hlk rfl d_Ef_subtract_83
    · refine x_aload_n 2 C d_Ef_subtract_60 rfl rfl ?_
      refine x_get (i := (10, 0)) (v := (.ref (ad (5, 0)))) 0 C m_10 rfl rfl i_Ef (by decide) (List.mem_cons_of_mem _ q_129) rfl d_Ef_subtract_61 ?_
      refine x_iload_n 3 C d_Ef_subtract_64 rfl rfl ?_
      refine x_cv0 (i := (5, 0)) (F := x_F ad cA) (As := [(.int a1)]) (rest := []) C k_Gs_setAny q_612 (c_Gs_setAny ok 0 (by decide) a1 h1) rfl rfl rfl (Nat.le_of_ble_eq_true rfl) (Nat.le_of_ble_eq_true rfl) (m_5 (by decide)) rfl rfl rfl rfl rfl (Nat.le_of_ble_eq_true rfl) d_Ef_subtract_65 ⟨Nat.zero_le _, Nat.zero_le _⟩ ?_
      generalize hq8 : s_Gs_setAny gk gl gh 0 a1 = q8
      obtain ⟨gk8, gl8, gh8⟩ := q8
      refine x_lets ?_
      dsimp only
      refine x_goto 83 C d_Ef_subtract_68 (by decide) ?_
      exact x_vret C hr hlk rfl d_Ef_subtract_83
  · refine x_aload_n 2 C d_Ef_subtract_60 rfl rfl ?_
    refine x_get (i := (10, 0)) (v := (.ref (ad (5, 0)))) 0 C m_10 rfl rfl i_Ef (by decide) (List.mem_cons_of_mem _ q_129) rfl d_Ef_subtract_61 ?_
    refine x_iload_n 3 C d_Ef_subtract_64 rfl rfl ?_
    refine x_cv0 (i := (5, 0)) (F := x_F ad cA) (As := [(.int a1)]) (rest := []) C k_Gs_setAny q_612 (c_Gs_setAny ok 0 (by decide) a1 h1) rfl rfl rfl (Nat.le_of_ble_eq_true rfl) (Nat.le_of_ble_eq_true rfl) (m_5 (by decide)) rfl rfl rfl rfl rfl (Nat.le_of_ble_eq_true rfl) d_Ef_subtract_65 ⟨Nat.zero_le _, Nat.zero_le _⟩ ?_
    generalize hq9 : s_Gs_setAny gk gl gh 0 a1 = q9
    obtain ⟨gk9, gl9, gh9⟩ := q9
    refine x_lets ?_
    dsimp only
    refine x_goto 83 C d_Ef_subtract_68 (by decide) ?_
    exact x_vret C hr hlk rfl d_Ef_subtract_83
def s_Ef_multiply (gk : Nat → Nat → Int32) (gl : Nat → Nat → Int64) (gh : Nat → Nat → Int64) (a1 : Int32) (a2 : Int64) : (Nat → Nat → Int32) × (Nat → Nat → Int64) × (Nat → Nat → Int64) :=
  (x_let (s_Gs_lo gl 0 a1) fun r1 => (x_let (s_Ef_isFactor r1) fun r2 => (if r2 = 0 then (x_let (s_Gs_setAny gk gl gh 0 a1) fun (gk4, gl4, gh4) => (gk4, gl4, gh4)) else (x_let (s_Gs_hi gh 0 a1) fun r5 => (x_let (s_Ef_isFactor r5) fun r6 => (if r6 = 0 then (x_let (s_Gs_setAny gk gl gh 0 a1) fun (gk8, gl8, gh8) => (gk8, gl8, gh8)) else (x_let (s_Gs_setBetween gk gl gh 0 a1 (r1 * a2) (r5 * a2)) fun (gk9, gl9, gh9) => (gk9, gl9, gh9))))))))
set_option maxHeartbeats 4000000 in
set_option maxRecDepth 100000 in
theorem c_Ef_multiply {l : Launch} {D : va_G} {cA : Nat → ClassId} {ad : x_I → Nat} (ok : x_ok (x_k D cA ad)) {stp : Nat → Nat → Int32} {psz : Int32} {gk : Nat → Nat → Int32} {gl : Nat → Nat → Int64} {gh : Nat → Nat → Int64} {opn : Nat → Int32} {cki : Nat → Int32} {ckl : Nat → Int64} {mp : Nat → Nat → Int64} {rk : Nat → Int32} {rv : Nat → Int64} {ri : Nat → Int32} {chk : Int32} {mo : Nat → Nat → Int32} {mi : Nat → Int32} {ml : Nat → Int64} {mk : Nat → Int32} {mlo : Nat → Int64} {mhi : Nat → Int64} {pk : Nat → Int32} {ps : Nat → Int32} {pl : Nat → Int64} {ph : Nat → Int64} {mm : Nat → Int64} {out : Nat → Int64} (a1 : Int32) (a2 : Int64) (h1 : vp_in a1 12) : x_M l y_Ef_multiply (Cond.code y_Ef_multiply b_Ef_multiply 4 (Option.none : Option Jvm.ClassFile.FieldType) :: x_Wd) { frames := 2, cells := 0, slots := 0, locals := 51 } (x_k D cA ad) (x_F ad cA) [(.ref (ad (10, 0))), (.int a1), (.long a2)] ((stp, psz, gk, gl, gh, opn, cki, ckl, mp, rk, rv, ri, chk), (mo, mi, ml, mk, mlo, mhi, pk, ps, pl, ph, mm), out) ((fun q : (Nat → Nat → Int32) × (Nat → Nat → Int64) × (Nat → Nat → Int64) => ((none, ((stp, psz, q.1, q.2.1, q.2.2, opn, cki, ckl, mp, rk, rv, ri, chk), (mo, mi, ml, mk, mlo, mhi, pk, ps, pl, ph, mm), out)) : Option Value × x_S)) (s_Ef_multiply gk gl gh a1 a2)) 0 0 := by
  refine x_start (κ := x_k D cA ad) (cc := b_Ef_multiply) (F := x_F ad cA) (wr := (fun q : (Nat → Nat → Int32) × (Nat → Nat → Int64) × (Nat → Nat → Int64) => ((none, ((stp, psz, q.1, q.2.1, q.2.2, opn, cki, ckl, mp, rk, rv, ri, chk), (mo, mi, ml, mk, mlo, mhi, pk, ps, pl, ph, mm), out)) : Option Value × x_S))) (q := s_Ef_multiply gk gl gh a1 a2) (ret := (Option.none : Option Jvm.ClassFile.FieldType)) (lv0 := [(0, (.ref (ad (10, 0)))), (1, (.int a1)), (2, (.long a2))]) ok (by decide) rfl (Nat.le_of_ble_eq_true rfl) rfl ?_
  intro p e s m below meth c C hr hlk
  unfold s_Ef_multiply
  refine x_aload_n 0 C d_Ef_multiply_0 rfl rfl ?_
  refine x_get (i := (10, 0)) (v := (.ref (ad (5, 0)))) 0 C m_10 rfl rfl i_Ef (by decide) (List.mem_cons_of_mem _ q_129) rfl d_Ef_multiply_1 ?_
  refine x_iload_n 1 C d_Ef_multiply_4 rfl rfl ?_
  refine x_cv (i := (5, 0)) (F := x_F ad cA) (As := [(.int a1)]) (rest := []) C k_Gs_lo q_607 (c_Gs_lo ok 0 (by decide) a1 h1) rfl rfl rfl (Nat.le_of_ble_eq_true rfl) (Nat.le_of_ble_eq_true rfl) (m_5 (by decide)) rfl rfl rfl rfl rfl (Nat.le_of_ble_eq_true rfl) d_Ef_multiply_5 ⟨Nat.zero_le _, Nat.zero_le _⟩ ?_
  generalize hq1 : s_Gs_lo gl 0 a1 = r1
  refine x_lets ?_
  refine x_cs (F := x_F ad cA) (As := [(.long r1)]) (rest := []) C k_Ef_isFactor q_626 (c_Ef_isFactor ok r1) rfl rfl rfl (Nat.le_of_ble_eq_true rfl) (Nat.le_of_ble_eq_true rfl) rfl rfl (Nat.le_of_ble_eq_true rfl) d_Ef_multiply_8 ⟨Nat.zero_le _, Nat.zero_le _⟩ ?_
  generalize hq2 : s_Ef_isFactor r1 = r2
  refine x_lets ?_
  refine x_if_eq 59 C d_Ef_multiply_11 (by decide) (fun z3 => ?_) (fun z3 => ?_)
  · refine x_aload_n 0 C d_Ef_multiply_59 rfl rfl ?_
    refine x_get (i := (10, 0)) (v := (.ref (ad (5, 0)))) 0 C m_10 rfl rfl i_Ef (by decide) (List.mem_cons_of_mem _ q_129) rfl d_Ef_multiply_60 ?_
    refine x_iload_n 1 C d_Ef_multiply_63 rfl rfl ?_
    refine x_cv0 (i := (5, 0)) (F := x_F ad cA) (As := [(.int a1)]) (rest := []) C k_Gs_setAny q_612 (c_Gs_setAny ok 0 (by decide) a1 h1) rfl rfl rfl (Nat.le_of_ble_eq_true rfl) (Nat.le_of_ble_eq_true rfl) (m_5 (by decide)) rfl rfl rfl rfl rfl (Nat.le_of_ble_eq_true rfl) d_Ef_multiply_64 ⟨Nat.zero_le _, Nat.zero_le _⟩ ?_
    generalize hq4 : s_Gs_setAny gk gl gh 0 a1 = q4
    obtain ⟨gk4, gl4, gh4⟩ := q4
    refine x_lets ?_
    dsimp only
    exact x_vret C hr hlk rfl d_Ef_multiply_67
  · refine x_aload_n 0 C d_Ef_multiply_14 rfl rfl ?_
    refine x_get (i := (10, 0)) (v := (.ref (ad (5, 0)))) 0 C m_10 rfl rfl i_Ef (by decide) (List.mem_cons_of_mem _ q_129) rfl d_Ef_multiply_15 ?_
    refine x_iload_n 1 C d_Ef_multiply_18 rfl rfl ?_
    refine x_cv (i := (5, 0)) (F := x_F ad cA) (As := [(.int a1)]) (rest := []) C k_Gs_hi q_608 (c_Gs_hi ok 0 (by decide) a1 h1) rfl rfl rfl (Nat.le_of_ble_eq_true rfl) (Nat.le_of_ble_eq_true rfl) (m_5 (by decide)) rfl rfl rfl rfl rfl (Nat.le_of_ble_eq_true rfl) d_Ef_multiply_19 ⟨Nat.zero_le _, Nat.zero_le _⟩ ?_
    generalize hq5 : s_Gs_hi gh 0 a1 = r5
    refine x_lets ?_
    refine x_cs (F := x_F ad cA) (As := [(.long r5)]) (rest := []) C k_Ef_isFactor q_626 (c_Ef_isFactor ok r5) rfl rfl rfl (Nat.le_of_ble_eq_true rfl) (Nat.le_of_ble_eq_true rfl) rfl rfl (Nat.le_of_ble_eq_true rfl) d_Ef_multiply_22 ⟨Nat.zero_le _, Nat.zero_le _⟩ ?_
    generalize hq6 : s_Ef_isFactor r5 = r6
    refine x_lets ?_
    refine x_if_eq 59 C d_Ef_multiply_25 (by decide) (fun z7 => ?_) (fun z7 => ?_)
    · refine x_aload_n 0 C d_Ef_multiply_59 rfl rfl ?_
      refine x_get (i := (10, 0)) (v := (.ref (ad (5, 0)))) 0 C m_10 rfl rfl i_Ef (by decide) (List.mem_cons_of_mem _ q_129) rfl d_Ef_multiply_60 ?_
      refine x_iload_n 1 C d_Ef_multiply_63 rfl rfl ?_
      refine x_cv0 (i := (5, 0)) (F := x_F ad cA) (As := [(.int a1)]) (rest := []) C k_Gs_setAny q_612 (c_Gs_setAny ok 0 (by decide) a1 h1) rfl rfl rfl (Nat.le_of_ble_eq_true rfl) (Nat.le_of_ble_eq_true rfl) (m_5 (by decide)) rfl rfl rfl rfl rfl (Nat.le_of_ble_eq_true rfl) d_Ef_multiply_64 ⟨Nat.zero_le _, Nat.zero_le _⟩ ?_
      generalize hq8 : s_Gs_setAny gk gl gh 0 a1 = q8
      obtain ⟨gk8, gl8, gh8⟩ := q8
      refine x_lets ?_
      dsimp only
      exact x_vret C hr hlk rfl d_Ef_multiply_67
    · refine x_aload_n 0 C d_Ef_multiply_28 rfl rfl ?_
      refine x_get (i := (10, 0)) (v := (.ref (ad (5, 0)))) 0 C m_10 rfl rfl i_Ef (by decide) (List.mem_cons_of_mem _ q_129) rfl d_Ef_multiply_29 ?_
      refine x_iload_n 1 C d_Ef_multiply_32 rfl rfl ?_
      refine x_aload_n 0 C d_Ef_multiply_33 rfl rfl ?_
      refine x_get (i := (10, 0)) (v := (.ref (ad (5, 0)))) 0 C m_10 rfl rfl i_Ef (by decide) (List.mem_cons_of_mem _ q_129) rfl d_Ef_multiply_34 ?_
      refine x_iload_n 1 C d_Ef_multiply_37 rfl rfl ?_
      refine x_cv (i := (5, 0)) (F := x_F ad cA) (As := [(.int a1)]) (rest := [(.int a1), (.ref (ad (5, 0)))]) C k_Gs_lo q_607 (c_Gs_lo ok 0 (by decide) a1 h1) rfl rfl rfl (Nat.le_of_ble_eq_true rfl) (Nat.le_of_ble_eq_true rfl) (m_5 (by decide)) rfl rfl rfl rfl rfl (Nat.le_of_ble_eq_true rfl) d_Ef_multiply_38 ⟨Nat.zero_le _, Nat.zero_le _⟩ ?_
      rw [hq1]
      refine x_lload_n 2 C d_Ef_multiply_41 rfl rfl ?_
      refine x_lmul C d_Ef_multiply_42 ?_
      refine x_aload_n 0 C d_Ef_multiply_43 rfl rfl ?_
      refine x_get (i := (10, 0)) (v := (.ref (ad (5, 0)))) 0 C m_10 rfl rfl i_Ef (by decide) (List.mem_cons_of_mem _ q_129) rfl d_Ef_multiply_44 ?_
      refine x_iload_n 1 C d_Ef_multiply_47 rfl rfl ?_
      refine x_cv (i := (5, 0)) (F := x_F ad cA) (As := [(.int a1)]) (rest := [(.long (r1 * a2)), (.int a1), (.ref (ad (5, 0)))]) C k_Gs_hi q_608 (c_Gs_hi ok 0 (by decide) a1 h1) rfl rfl rfl (Nat.le_of_ble_eq_true rfl) (Nat.le_of_ble_eq_true rfl) (m_5 (by decide)) rfl rfl rfl rfl rfl (Nat.le_of_ble_eq_true rfl) d_Ef_multiply_48 ⟨Nat.zero_le _, Nat.zero_le _⟩ ?_
      rw [hq5]
      refine x_lload_n 2 C d_Ef_multiply_51 rfl rfl ?_
      refine x_lmul C d_Ef_multiply_52 ?_
      refine x_cv0 (i := (5, 0)) (F := x_F ad cA) (As := [(.int a1), (.long (r1 * a2)), (.long (r5 * a2))]) (rest := []) C k_Gs_setBetween q_631 (c_Gs_setBetween ok 0 (by decide) a1 (r1 * a2) (r5 * a2) h1) rfl rfl rfl (Nat.le_of_ble_eq_true rfl) (Nat.le_of_ble_eq_true rfl) (m_5 (by decide)) rfl rfl rfl rfl rfl (Nat.le_of_ble_eq_true rfl) d_Ef_multiply_53 ⟨Nat.zero_le _, Nat.zero_le _⟩ ?_
      generalize hq9 : s_Gs_setBetween gk gl gh 0 a1 (r1 * a2) (r5 * a2) = q9
      obtain ⟨gk9, gl9, gh9⟩ := q9
      refine x_lets ?_
      dsimp only
      refine x_goto 67 C d_Ef_multiply_56 (by decide) ?_
      exact x_vret C hr hlk rfl d_Ef_multiply_67
def s_Ef_mask (gk : Nat → Nat → Int32) (gl : Nat → Nat → Int64) (gh : Nat → Nat → Int64) (a1 : Int32) (a2 : Int64) : (Nat → Nat → Int32) × (Nat → Nat → Int64) × (Nat → Nat → Int64) :=
  (x_let (s_Gs_lo gl 0 a1) fun r1 => (x_let (s_Gs_hi gh 0 a1) fun r2 => (if r1 = r2 then (x_let (s_Gs_setRange gk gl gh 0 a1 (r1 &&& a2) (r1 &&& a2)) fun (gk4, gl4, gh4) => (gk4, gl4, gh4)) else (if 0 ≤ a2 then (if 0 ≤ r1 then (x_let (s_Gs_setRange gk gl gh 0 a1 0 (if r2 < a2 then r2 else a2)) fun (gk7, gl7, gh7) => (gk7, gl7, gh7)) else (x_let (s_Gs_setRange gk gl gh 0 a1 0 a2) fun (gk8, gl8, gh8) => (gk8, gl8, gh8))) else (x_let (s_Gs_setAny gk gl gh 0 a1) fun (gk9, gl9, gh9) => (gk9, gl9, gh9))))))
set_option maxHeartbeats 4000000 in
set_option maxRecDepth 100000 in
theorem c_Ef_mask {l : Launch} {D : va_G} {cA : Nat → ClassId} {ad : x_I → Nat} (ok : x_ok (x_k D cA ad)) {stp : Nat → Nat → Int32} {psz : Int32} {gk : Nat → Nat → Int32} {gl : Nat → Nat → Int64} {gh : Nat → Nat → Int64} {opn : Nat → Int32} {cki : Nat → Int32} {ckl : Nat → Int64} {mp : Nat → Nat → Int64} {rk : Nat → Int32} {rv : Nat → Int64} {ri : Nat → Int32} {chk : Int32} {mo : Nat → Nat → Int32} {mi : Nat → Int32} {ml : Nat → Int64} {mk : Nat → Int32} {mlo : Nat → Int64} {mhi : Nat → Int64} {pk : Nat → Int32} {ps : Nat → Int32} {pl : Nat → Int64} {ph : Nat → Int64} {mm : Nat → Int64} {out : Nat → Int64} (a1 : Int32) (a2 : Int64) (h1 : vp_in a1 12) : x_M l y_Ef_mask (Cond.code y_Ef_mask b_Ef_mask 4 (Option.none : Option Jvm.ClassFile.FieldType) :: x_Wd) { frames := 2, cells := 0, slots := 0, locals := 51 } (x_k D cA ad) (x_F ad cA) [(.ref (ad (10, 0))), (.int a1), (.long a2)] ((stp, psz, gk, gl, gh, opn, cki, ckl, mp, rk, rv, ri, chk), (mo, mi, ml, mk, mlo, mhi, pk, ps, pl, ph, mm), out) ((fun q : (Nat → Nat → Int32) × (Nat → Nat → Int64) × (Nat → Nat → Int64) => ((none, ((stp, psz, q.1, q.2.1, q.2.2, opn, cki, ckl, mp, rk, rv, ri, chk), (mo, mi, ml, mk, mlo, mhi, pk, ps, pl, ph, mm), out)) : Option Value × x_S)) (s_Ef_mask gk gl gh a1 a2)) 0 0 := by
  refine x_start (κ := x_k D cA ad) (cc := b_Ef_mask) (F := x_F ad cA) (wr := (fun q : (Nat → Nat → Int32) × (Nat → Nat → Int64) × (Nat → Nat → Int64) => ((none, ((stp, psz, q.1, q.2.1, q.2.2, opn, cki, ckl, mp, rk, rv, ri, chk), (mo, mi, ml, mk, mlo, mhi, pk, ps, pl, ph, mm), out)) : Option Value × x_S))) (q := s_Ef_mask gk gl gh a1 a2) (ret := (Option.none : Option Jvm.ClassFile.FieldType)) (lv0 := [(0, (.ref (ad (10, 0)))), (1, (.int a1)), (2, (.long a2))]) ok (by decide) rfl (Nat.le_of_ble_eq_true rfl) rfl ?_
  intro p e s m below meth c C hr hlk
  unfold s_Ef_mask
  refine x_aload_n 0 C d_Ef_mask_0 rfl rfl ?_
  refine x_get (i := (10, 0)) (v := (.ref (ad (5, 0)))) 0 C m_10 rfl rfl i_Ef (by decide) (List.mem_cons_of_mem _ q_129) rfl d_Ef_mask_1 ?_
  refine x_iload_n 1 C d_Ef_mask_4 rfl rfl ?_
  refine x_cv (i := (5, 0)) (F := x_F ad cA) (As := [(.int a1)]) (rest := []) C k_Gs_lo q_607 (c_Gs_lo ok 0 (by decide) a1 h1) rfl rfl rfl (Nat.le_of_ble_eq_true rfl) (Nat.le_of_ble_eq_true rfl) (m_5 (by decide)) rfl rfl rfl rfl rfl (Nat.le_of_ble_eq_true rfl) d_Ef_mask_5 ⟨Nat.zero_le _, Nat.zero_le _⟩ ?_
  generalize hq1 : s_Gs_lo gl 0 a1 = r1
  refine x_lets ?_
  refine x_aload_n 0 C d_Ef_mask_8 rfl rfl ?_
  refine x_get (i := (10, 0)) (v := (.ref (ad (5, 0)))) 0 C m_10 rfl rfl i_Ef (by decide) (List.mem_cons_of_mem _ q_129) rfl d_Ef_mask_9 ?_
  refine x_iload_n 1 C d_Ef_mask_12 rfl rfl ?_
  refine x_cv (i := (5, 0)) (F := x_F ad cA) (As := [(.int a1)]) (rest := [(.long r1)]) C k_Gs_hi q_608 (c_Gs_hi ok 0 (by decide) a1 h1) rfl rfl rfl (Nat.le_of_ble_eq_true rfl) (Nat.le_of_ble_eq_true rfl) (m_5 (by decide)) rfl rfl rfl rfl rfl (Nat.le_of_ble_eq_true rfl) d_Ef_mask_13 ⟨Nat.zero_le _, Nat.zero_le _⟩ ?_
  generalize hq2 : s_Gs_hi gh 0 a1 = r2
  refine x_lets ?_
  refine x_lcmp_ne 51 C d_Ef_mask_16 d_Ef_mask_17 (by decide) (fun z3 => ?_) (fun z3 => ?_)
  · refine x_aload_n 0 C d_Ef_mask_20 rfl rfl ?_
    refine x_get (i := (10, 0)) (v := (.ref (ad (5, 0)))) 0 C m_10 rfl rfl i_Ef (by decide) (List.mem_cons_of_mem _ q_129) rfl d_Ef_mask_21 ?_
    refine x_iload_n 1 C d_Ef_mask_24 rfl rfl ?_
    refine x_aload_n 0 C d_Ef_mask_25 rfl rfl ?_
    refine x_get (i := (10, 0)) (v := (.ref (ad (5, 0)))) 0 C m_10 rfl rfl i_Ef (by decide) (List.mem_cons_of_mem _ q_129) rfl d_Ef_mask_26 ?_
    refine x_iload_n 1 C d_Ef_mask_29 rfl rfl ?_
    refine x_cv (i := (5, 0)) (F := x_F ad cA) (As := [(.int a1)]) (rest := [(.int a1), (.ref (ad (5, 0)))]) C k_Gs_lo q_607 (c_Gs_lo ok 0 (by decide) a1 h1) rfl rfl rfl (Nat.le_of_ble_eq_true rfl) (Nat.le_of_ble_eq_true rfl) (m_5 (by decide)) rfl rfl rfl rfl rfl (Nat.le_of_ble_eq_true rfl) d_Ef_mask_30 ⟨Nat.zero_le _, Nat.zero_le _⟩ ?_
    rw [hq1]
    refine x_lload_n 2 C d_Ef_mask_33 rfl rfl ?_
    refine x_land C d_Ef_mask_34 ?_
    refine x_aload_n 0 C d_Ef_mask_35 rfl rfl ?_
    refine x_get (i := (10, 0)) (v := (.ref (ad (5, 0)))) 0 C m_10 rfl rfl i_Ef (by decide) (List.mem_cons_of_mem _ q_129) rfl d_Ef_mask_36 ?_
    refine x_iload_n 1 C d_Ef_mask_39 rfl rfl ?_
    refine x_cv (i := (5, 0)) (F := x_F ad cA) (As := [(.int a1)]) (rest := [(.long (r1 &&& a2)), (.int a1), (.ref (ad (5, 0)))]) C k_Gs_lo q_607 (c_Gs_lo ok 0 (by decide) a1 h1) rfl rfl rfl (Nat.le_of_ble_eq_true rfl) (Nat.le_of_ble_eq_true rfl) (m_5 (by decide)) rfl rfl rfl rfl rfl (Nat.le_of_ble_eq_true rfl) d_Ef_mask_40 ⟨Nat.zero_le _, Nat.zero_le _⟩ ?_
    rw [hq1]
    refine x_lload_n 2 C d_Ef_mask_43 rfl rfl ?_
    refine x_land C d_Ef_mask_44 ?_
    refine x_cv0 (i := (5, 0)) (F := x_F ad cA) (As := [(.int a1), (.long (r1 &&& a2)), (.long (r1 &&& a2))]) (rest := []) C k_Gs_setRange q_598 (c_Gs_setRange ok 0 (by decide) a1 (r1 &&& a2) (r1 &&& a2) h1) rfl rfl rfl (Nat.le_of_ble_eq_true rfl) (Nat.le_of_ble_eq_true rfl) (m_5 (by decide)) rfl rfl rfl rfl rfl (Nat.le_of_ble_eq_true rfl) d_Ef_mask_45 ⟨Nat.zero_le _, Nat.zero_le _⟩ ?_
    generalize hq4 : s_Gs_setRange gk gl gh 0 a1 (r1 &&& a2) (r1 &&& a2) = q4
    obtain ⟨gk4, gl4, gh4⟩ := q4
    refine x_lets ?_
    dsimp only
    refine x_goto 106 C d_Ef_mask_48 (by decide) ?_
    exact x_vret C hr hlk rfl d_Ef_mask_106
  · refine x_lload_n 2 C d_Ef_mask_51 rfl rfl ?_
    refine x_lconst (v := 0) C d_Ef_mask_52 (by decide) ?_
    refine x_lcmp_ge 68 C d_Ef_mask_53 d_Ef_mask_54 (by decide) (fun z5 => ?_) (fun z5 => ?_)
    · refine x_aload_n 0 C d_Ef_mask_68 rfl rfl ?_
      refine x_get (i := (10, 0)) (v := (.ref (ad (5, 0)))) 0 C m_10 rfl rfl i_Ef (by decide) (List.mem_cons_of_mem _ q_129) rfl d_Ef_mask_69 ?_
      refine x_iload_n 1 C d_Ef_mask_72 rfl rfl ?_
      refine x_lconst (v := 0) C d_Ef_mask_73 (by decide) ?_
      refine x_aload_n 0 C d_Ef_mask_74 rfl rfl ?_
      refine x_get (i := (10, 0)) (v := (.ref (ad (5, 0)))) 0 C m_10 rfl rfl i_Ef (by decide) (List.mem_cons_of_mem _ q_129) rfl d_Ef_mask_75 ?_
      refine x_iload_n 1 C d_Ef_mask_78 rfl rfl ?_
      refine x_cv (i := (5, 0)) (F := x_F ad cA) (As := [(.int a1)]) (rest := [(.long 0), (.int a1), (.ref (ad (5, 0)))]) C k_Gs_lo q_607 (c_Gs_lo ok 0 (by decide) a1 h1) rfl rfl rfl (Nat.le_of_ble_eq_true rfl) (Nat.le_of_ble_eq_true rfl) (m_5 (by decide)) rfl rfl rfl rfl rfl (Nat.le_of_ble_eq_true rfl) d_Ef_mask_79 ⟨Nat.zero_le _, Nat.zero_le _⟩ ?_
      rw [hq1]
      refine x_lconst (v := 0) C d_Ef_mask_82 (by decide) ?_
      refine x_lcmp_ge 91 C d_Ef_mask_83 d_Ef_mask_84 (by decide) (fun z6 => ?_) (fun z6 => ?_)
      · refine x_lload_n 2 C d_Ef_mask_91 rfl rfl ?_
        refine x_aload_n 0 C d_Ef_mask_92 rfl rfl ?_
        refine x_get (i := (10, 0)) (v := (.ref (ad (5, 0)))) 0 C m_10 rfl rfl i_Ef (by decide) (List.mem_cons_of_mem _ q_129) rfl d_Ef_mask_93 ?_
        refine x_iload_n 1 C d_Ef_mask_96 rfl rfl ?_
        refine x_cv (i := (5, 0)) (F := x_F ad cA) (As := [(.int a1)]) (rest := [(.long a2), (.long 0), (.int a1), (.ref (ad (5, 0)))]) C k_Gs_hi q_608 (c_Gs_hi ok 0 (by decide) a1 h1) rfl rfl rfl (Nat.le_of_ble_eq_true rfl) (Nat.le_of_ble_eq_true rfl) (m_5 (by decide)) rfl rfl rfl rfl rfl (Nat.le_of_ble_eq_true rfl) d_Ef_mask_97 ⟨Nat.zero_le _, Nat.zero_le _⟩ ?_
        rw [hq2]
        refine x_minl C (List.mem_cons_of_mem _ q_641) (List.mem_cons_of_mem _ q_548) (List.mem_cons_of_mem _ q_16) (List.mem_cons_of_mem _ q_549) (Nat.le_of_ble_eq_true rfl) (Nat.le_of_ble_eq_true rfl) (Nat.zero_le _) (Nat.zero_le _) d_Ef_mask_100 ?_
        refine x_cv0 (i := (5, 0)) (F := x_F ad cA) (As := [(.int a1), (.long 0), (.long (if r2 < a2 then r2 else a2))]) (rest := []) C k_Gs_setRange q_598 (c_Gs_setRange ok 0 (by decide) a1 0 (if r2 < a2 then r2 else a2) h1) rfl rfl rfl (Nat.le_of_ble_eq_true rfl) (Nat.le_of_ble_eq_true rfl) (m_5 (by decide)) rfl rfl rfl rfl rfl (Nat.le_of_ble_eq_true rfl) d_Ef_mask_103 ⟨Nat.zero_le _, Nat.zero_le _⟩ ?_
        generalize hq7 : s_Gs_setRange gk gl gh 0 a1 0 (if r2 < a2 then r2 else a2) = q7
        obtain ⟨gk7, gl7, gh7⟩ := q7
        refine x_lets ?_
        dsimp only
        exact x_vret C hr hlk rfl d_Ef_mask_106
      · refine x_lload_n 2 C d_Ef_mask_87 rfl rfl ?_
        refine x_goto 103 C d_Ef_mask_88 (by decide) ?_
        refine x_cv0 (i := (5, 0)) (F := x_F ad cA) (As := [(.int a1), (.long 0), (.long a2)]) (rest := []) C k_Gs_setRange q_598 (c_Gs_setRange ok 0 (by decide) a1 0 a2 h1) rfl rfl rfl (Nat.le_of_ble_eq_true rfl) (Nat.le_of_ble_eq_true rfl) (m_5 (by decide)) rfl rfl rfl rfl rfl (Nat.le_of_ble_eq_true rfl) d_Ef_mask_103 ⟨Nat.zero_le _, Nat.zero_le _⟩ ?_
        generalize hq8 : s_Gs_setRange gk gl gh 0 a1 0 a2 = q8
        obtain ⟨gk8, gl8, gh8⟩ := q8
        refine x_lets ?_
        dsimp only
        exact x_vret C hr hlk rfl d_Ef_mask_106
    · refine x_aload_n 0 C d_Ef_mask_57 rfl rfl ?_
      refine x_get (i := (10, 0)) (v := (.ref (ad (5, 0)))) 0 C m_10 rfl rfl i_Ef (by decide) (List.mem_cons_of_mem _ q_129) rfl d_Ef_mask_58 ?_
      refine x_iload_n 1 C d_Ef_mask_61 rfl rfl ?_
      refine x_cv0 (i := (5, 0)) (F := x_F ad cA) (As := [(.int a1)]) (rest := []) C k_Gs_setAny q_612 (c_Gs_setAny ok 0 (by decide) a1 h1) rfl rfl rfl (Nat.le_of_ble_eq_true rfl) (Nat.le_of_ble_eq_true rfl) (m_5 (by decide)) rfl rfl rfl rfl rfl (Nat.le_of_ble_eq_true rfl) d_Ef_mask_62 ⟨Nat.zero_le _, Nat.zero_le _⟩ ?_
      generalize hq9 : s_Gs_setAny gk gl gh 0 a1 = q9
      obtain ⟨gk9, gl9, gh9⟩ := q9
      refine x_lets ?_
      dsimp only
      refine x_goto 106 C d_Ef_mask_65 (by decide) ?_
      exact x_vret C hr hlk rfl d_Ef_mask_106
def s_Ef_divide (gk : Nat → Nat → Int32) (gl : Nat → Nat → Int64) (gh : Nat → Nat → Int64) (a1 : Int32) (a2 : Int64) : (Nat → Nat → Int32) × (Nat → Nat → Int64) × (Nat → Nat → Int64) :=
  (if a2 = 0 then (x_let (s_Gs_setAny gk gl gh 0 a1) fun (gk2, gl2, gh2) => (gk2, gl2, gh2)) else (if a2 = (-1) then (x_let (s_Gs_lo gl 0 a1) fun r4 => (if r4 = (-9223372036854775808) then (x_let (s_Gs_setAny gk gl gh 0 a1) fun (gk6, gl6, gh6) => (gk6, gl6, gh6)) else (x_let (s_Gs_hi gh 0 a1) fun r7 => (x_let (s_Gs_setBetween gk gl gh 0 a1 (r4 / a2) (r7 / a2)) fun (gk8, gl8, gh8) => (gk8, gl8, gh8))))) else (x_let (s_Gs_lo gl 0 a1) fun r9 => (x_let (s_Gs_hi gh 0 a1) fun r10 => (x_let (s_Gs_setBetween gk gl gh 0 a1 (r9 / a2) (r10 / a2)) fun (gk11, gl11, gh11) => (gk11, gl11, gh11))))))
set_option maxHeartbeats 4000000 in
set_option maxRecDepth 100000 in
theorem c_Ef_divide {l : Launch} {D : va_G} {cA : Nat → ClassId} {ad : x_I → Nat} (ok : x_ok (x_k D cA ad)) {stp : Nat → Nat → Int32} {psz : Int32} {gk : Nat → Nat → Int32} {gl : Nat → Nat → Int64} {gh : Nat → Nat → Int64} {opn : Nat → Int32} {cki : Nat → Int32} {ckl : Nat → Int64} {mp : Nat → Nat → Int64} {rk : Nat → Int32} {rv : Nat → Int64} {ri : Nat → Int32} {chk : Int32} {mo : Nat → Nat → Int32} {mi : Nat → Int32} {ml : Nat → Int64} {mk : Nat → Int32} {mlo : Nat → Int64} {mhi : Nat → Int64} {pk : Nat → Int32} {ps : Nat → Int32} {pl : Nat → Int64} {ph : Nat → Int64} {mm : Nat → Int64} {out : Nat → Int64} (a1 : Int32) (a2 : Int64) (h1 : vp_in a1 12) : x_M l y_Ef_divide (Cond.code y_Ef_divide b_Ef_divide 4 (Option.none : Option Jvm.ClassFile.FieldType) :: x_Wd) { frames := 2, cells := 0, slots := 0, locals := 51 } (x_k D cA ad) (x_F ad cA) [(.ref (ad (10, 0))), (.int a1), (.long a2)] ((stp, psz, gk, gl, gh, opn, cki, ckl, mp, rk, rv, ri, chk), (mo, mi, ml, mk, mlo, mhi, pk, ps, pl, ph, mm), out) ((fun q : (Nat → Nat → Int32) × (Nat → Nat → Int64) × (Nat → Nat → Int64) => ((none, ((stp, psz, q.1, q.2.1, q.2.2, opn, cki, ckl, mp, rk, rv, ri, chk), (mo, mi, ml, mk, mlo, mhi, pk, ps, pl, ph, mm), out)) : Option Value × x_S)) (s_Ef_divide gk gl gh a1 a2)) 0 0 := by
  refine x_start (κ := x_k D cA ad) (cc := b_Ef_divide) (F := x_F ad cA) (wr := (fun q : (Nat → Nat → Int32) × (Nat → Nat → Int64) × (Nat → Nat → Int64) => ((none, ((stp, psz, q.1, q.2.1, q.2.2, opn, cki, ckl, mp, rk, rv, ri, chk), (mo, mi, ml, mk, mlo, mhi, pk, ps, pl, ph, mm), out)) : Option Value × x_S))) (q := s_Ef_divide gk gl gh a1 a2) (ret := (Option.none : Option Jvm.ClassFile.FieldType)) (lv0 := [(0, (.ref (ad (10, 0)))), (1, (.int a1)), (2, (.long a2))]) ok (by decide) rfl (Nat.le_of_ble_eq_true rfl) rfl ?_
  intro p e s m below meth c C hr hlk
  unfold s_Ef_divide
  refine x_lload_n 2 C d_Ef_divide_0 rfl rfl ?_
  refine x_lconst (v := 0) C d_Ef_divide_1 (by decide) ?_
  refine x_lcmp_eq 29 C d_Ef_divide_2 d_Ef_divide_3 (by decide) (fun z1 => ?_) (fun z1 => ?_)
  · refine x_aload_n 0 C d_Ef_divide_29 rfl rfl ?_
    refine x_get (i := (10, 0)) (v := (.ref (ad (5, 0)))) 0 C m_10 rfl rfl i_Ef (by decide) (List.mem_cons_of_mem _ q_129) rfl d_Ef_divide_30 ?_
    refine x_iload_n 1 C d_Ef_divide_33 rfl rfl ?_
    refine x_cv0 (i := (5, 0)) (F := x_F ad cA) (As := [(.int a1)]) (rest := []) C k_Gs_setAny q_612 (c_Gs_setAny ok 0 (by decide) a1 h1) rfl rfl rfl (Nat.le_of_ble_eq_true rfl) (Nat.le_of_ble_eq_true rfl) (m_5 (by decide)) rfl rfl rfl rfl rfl (Nat.le_of_ble_eq_true rfl) d_Ef_divide_34 ⟨Nat.zero_le _, Nat.zero_le _⟩ ?_
    generalize hq2 : s_Gs_setAny gk gl gh 0 a1 = q2
    obtain ⟨gk2, gl2, gh2⟩ := q2
    refine x_lets ?_
    dsimp only
    refine x_goto 68 C d_Ef_divide_37 (by decide) ?_
    exact x_vret C hr hlk rfl d_Ef_divide_68
  · refine x_lload_n 2 C d_Ef_divide_6 rfl rfl ?_
    refine x_ldc2 (v := (-1)) C (List.mem_cons_of_mem _ q_646) d_Ef_divide_7 ?_
    refine x_lcmp_ne 40 C d_Ef_divide_10 d_Ef_divide_11 (by decide) (fun z3 => ?_) (fun z3 => ?_)
    · refine x_aload_n 0 C d_Ef_divide_14 rfl rfl ?_
      refine x_get (i := (10, 0)) (v := (.ref (ad (5, 0)))) 0 C m_10 rfl rfl i_Ef (by decide) (List.mem_cons_of_mem _ q_129) rfl d_Ef_divide_15 ?_
      refine x_iload_n 1 C d_Ef_divide_18 rfl rfl ?_
      refine x_cv (i := (5, 0)) (F := x_F ad cA) (As := [(.int a1)]) (rest := []) C k_Gs_lo q_607 (c_Gs_lo ok 0 (by decide) a1 h1) rfl rfl rfl (Nat.le_of_ble_eq_true rfl) (Nat.le_of_ble_eq_true rfl) (m_5 (by decide)) rfl rfl rfl rfl rfl (Nat.le_of_ble_eq_true rfl) d_Ef_divide_19 ⟨Nat.zero_le _, Nat.zero_le _⟩ ?_
      generalize hq4 : s_Gs_lo gl 0 a1 = r4
      refine x_lets ?_
      refine x_ldc2 (v := (-9223372036854775808)) C (List.mem_cons_of_mem _ q_647) d_Ef_divide_22 ?_
      refine x_lcmp_ne 40 C d_Ef_divide_25 d_Ef_divide_26 (by decide) (fun z5 => ?_) (fun z5 => ?_)
      · refine x_aload_n 0 C d_Ef_divide_29 rfl rfl ?_
        refine x_get (i := (10, 0)) (v := (.ref (ad (5, 0)))) 0 C m_10 rfl rfl i_Ef (by decide) (List.mem_cons_of_mem _ q_129) rfl d_Ef_divide_30 ?_
        refine x_iload_n 1 C d_Ef_divide_33 rfl rfl ?_
        refine x_cv0 (i := (5, 0)) (F := x_F ad cA) (As := [(.int a1)]) (rest := []) C k_Gs_setAny q_612 (c_Gs_setAny ok 0 (by decide) a1 h1) rfl rfl rfl (Nat.le_of_ble_eq_true rfl) (Nat.le_of_ble_eq_true rfl) (m_5 (by decide)) rfl rfl rfl rfl rfl (Nat.le_of_ble_eq_true rfl) d_Ef_divide_34 ⟨Nat.zero_le _, Nat.zero_le _⟩ ?_
        generalize hq6 : s_Gs_setAny gk gl gh 0 a1 = q6
        obtain ⟨gk6, gl6, gh6⟩ := q6
        refine x_lets ?_
        dsimp only
        refine x_goto 68 C d_Ef_divide_37 (by decide) ?_
        exact x_vret C hr hlk rfl d_Ef_divide_68
      · refine x_aload_n 0 C d_Ef_divide_40 rfl rfl ?_
        refine x_get (i := (10, 0)) (v := (.ref (ad (5, 0)))) 0 C m_10 rfl rfl i_Ef (by decide) (List.mem_cons_of_mem _ q_129) rfl d_Ef_divide_41 ?_
        refine x_iload_n 1 C d_Ef_divide_44 rfl rfl ?_
        refine x_aload_n 0 C d_Ef_divide_45 rfl rfl ?_
        refine x_get (i := (10, 0)) (v := (.ref (ad (5, 0)))) 0 C m_10 rfl rfl i_Ef (by decide) (List.mem_cons_of_mem _ q_129) rfl d_Ef_divide_46 ?_
        refine x_iload_n 1 C d_Ef_divide_49 rfl rfl ?_
        refine x_cv (i := (5, 0)) (F := x_F ad cA) (As := [(.int a1)]) (rest := [(.int a1), (.ref (ad (5, 0)))]) C k_Gs_lo q_607 (c_Gs_lo ok 0 (by decide) a1 h1) rfl rfl rfl (Nat.le_of_ble_eq_true rfl) (Nat.le_of_ble_eq_true rfl) (m_5 (by decide)) rfl rfl rfl rfl rfl (Nat.le_of_ble_eq_true rfl) d_Ef_divide_50 ⟨Nat.zero_le _, Nat.zero_le _⟩ ?_
        rw [hq4]
        refine x_lload_n 2 C d_Ef_divide_53 rfl rfl ?_
        refine x_ldiv C z1 d_Ef_divide_54 ?_
        refine x_aload_n 0 C d_Ef_divide_55 rfl rfl ?_
        refine x_get (i := (10, 0)) (v := (.ref (ad (5, 0)))) 0 C m_10 rfl rfl i_Ef (by decide) (List.mem_cons_of_mem _ q_129) rfl d_Ef_divide_56 ?_
        refine x_iload_n 1 C d_Ef_divide_59 rfl rfl ?_
        refine x_cv (i := (5, 0)) (F := x_F ad cA) (As := [(.int a1)]) (rest := [(.long (r4 / a2)), (.int a1), (.ref (ad (5, 0)))]) C k_Gs_hi q_608 (c_Gs_hi ok 0 (by decide) a1 h1) rfl rfl rfl (Nat.le_of_ble_eq_true rfl) (Nat.le_of_ble_eq_true rfl) (m_5 (by decide)) rfl rfl rfl rfl rfl (Nat.le_of_ble_eq_true rfl) d_Ef_divide_60 ⟨Nat.zero_le _, Nat.zero_le _⟩ ?_
        generalize hq7 : s_Gs_hi gh 0 a1 = r7
        refine x_lets ?_
        refine x_lload_n 2 C d_Ef_divide_63 rfl rfl ?_
        refine x_ldiv C z1 d_Ef_divide_64 ?_
        refine x_cv0 (i := (5, 0)) (F := x_F ad cA) (As := [(.int a1), (.long (r4 / a2)), (.long (r7 / a2))]) (rest := []) C k_Gs_setBetween q_631 (c_Gs_setBetween ok 0 (by decide) a1 (r4 / a2) (r7 / a2) h1) rfl rfl rfl (Nat.le_of_ble_eq_true rfl) (Nat.le_of_ble_eq_true rfl) (m_5 (by decide)) rfl rfl rfl rfl rfl (Nat.le_of_ble_eq_true rfl) d_Ef_divide_65 ⟨Nat.zero_le _, Nat.zero_le _⟩ ?_
        generalize hq8 : s_Gs_setBetween gk gl gh 0 a1 (r4 / a2) (r7 / a2) = q8
        obtain ⟨gk8, gl8, gh8⟩ := q8
        refine x_lets ?_
        dsimp only
        exact x_vret C hr hlk rfl d_Ef_divide_68
    · refine x_aload_n 0 C d_Ef_divide_40 rfl rfl ?_
      refine x_get (i := (10, 0)) (v := (.ref (ad (5, 0)))) 0 C m_10 rfl rfl i_Ef (by decide) (List.mem_cons_of_mem _ q_129) rfl d_Ef_divide_41 ?_
      refine x_iload_n 1 C d_Ef_divide_44 rfl rfl ?_
      refine x_aload_n 0 C d_Ef_divide_45 rfl rfl ?_
      refine x_get (i := (10, 0)) (v := (.ref (ad (5, 0)))) 0 C m_10 rfl rfl i_Ef (by decide) (List.mem_cons_of_mem _ q_129) rfl d_Ef_divide_46 ?_
      refine x_iload_n 1 C d_Ef_divide_49 rfl rfl ?_
      refine x_cv (i := (5, 0)) (F := x_F ad cA) (As := [(.int a1)]) (rest := [(.int a1), (.ref (ad (5, 0)))]) C k_Gs_lo q_607 (c_Gs_lo ok 0 (by decide) a1 h1) rfl rfl rfl (Nat.le_of_ble_eq_true rfl) (Nat.le_of_ble_eq_true rfl) (m_5 (by decide)) rfl rfl rfl rfl rfl (Nat.le_of_ble_eq_true rfl) d_Ef_divide_50 ⟨Nat.zero_le _, Nat.zero_le _⟩ ?_
      generalize hq9 : s_Gs_lo gl 0 a1 = r9
      refine x_lets ?_
      refine x_lload_n 2 C d_Ef_divide_53 rfl rfl ?_
      refine x_ldiv C z1 d_Ef_divide_54 ?_
      refine x_aload_n 0 C d_Ef_divide_55 rfl rfl ?_
      refine x_get (i := (10, 0)) (v := (.ref (ad (5, 0)))) 0 C m_10 rfl rfl i_Ef (by decide) (List.mem_cons_of_mem _ q_129) rfl d_Ef_divide_56 ?_
      refine x_iload_n 1 C d_Ef_divide_59 rfl rfl ?_
      refine x_cv (i := (5, 0)) (F := x_F ad cA) (As := [(.int a1)]) (rest := [(.long (r9 / a2)), (.int a1), (.ref (ad (5, 0)))]) C k_Gs_hi q_608 (c_Gs_hi ok 0 (by decide) a1 h1) rfl rfl rfl (Nat.le_of_ble_eq_true rfl) (Nat.le_of_ble_eq_true rfl) (m_5 (by decide)) rfl rfl rfl rfl rfl (Nat.le_of_ble_eq_true rfl) d_Ef_divide_60 ⟨Nat.zero_le _, Nat.zero_le _⟩ ?_
      generalize hq10 : s_Gs_hi gh 0 a1 = r10
      refine x_lets ?_
      refine x_lload_n 2 C d_Ef_divide_63 rfl rfl ?_
      refine x_ldiv C z1 d_Ef_divide_64 ?_
      refine x_cv0 (i := (5, 0)) (F := x_F ad cA) (As := [(.int a1), (.long (r9 / a2)), (.long (r10 / a2))]) (rest := []) C k_Gs_setBetween q_631 (c_Gs_setBetween ok 0 (by decide) a1 (r9 / a2) (r10 / a2) h1) rfl rfl rfl (Nat.le_of_ble_eq_true rfl) (Nat.le_of_ble_eq_true rfl) (m_5 (by decide)) rfl rfl rfl rfl rfl (Nat.le_of_ble_eq_true rfl) d_Ef_divide_65 ⟨Nat.zero_le _, Nat.zero_le _⟩ ?_
      generalize hq11 : s_Gs_setBetween gk gl gh 0 a1 (r9 / a2) (r10 / a2) = q11
      obtain ⟨gk11, gl11, gh11⟩ := q11
      refine x_lets ?_
      dsimp only
      exact x_vret C hr hlk rfl d_Ef_divide_68
def s_Ef_negate (gk : Nat → Nat → Int32) (gl : Nat → Nat → Int64) (gh : Nat → Nat → Int64) (a1 : Int32) : (Nat → Nat → Int32) × (Nat → Nat → Int64) × (Nat → Nat → Int64) :=
  (x_let (s_Gs_lo gl 0 a1) fun r1 => (if r1 = (-9223372036854775808) then (x_let (s_Gs_setAny gk gl gh 0 a1) fun (gk3, gl3, gh3) => (gk3, gl3, gh3)) else (x_let (s_Gs_hi gh 0 a1) fun r4 => (x_let (s_Gs_setRange gk gl gh 0 a1 (-r4) (-r1)) fun (gk5, gl5, gh5) => (gk5, gl5, gh5)))))
set_option maxHeartbeats 4000000 in
set_option maxRecDepth 100000 in
theorem c_Ef_negate {l : Launch} {D : va_G} {cA : Nat → ClassId} {ad : x_I → Nat} (ok : x_ok (x_k D cA ad)) {stp : Nat → Nat → Int32} {psz : Int32} {gk : Nat → Nat → Int32} {gl : Nat → Nat → Int64} {gh : Nat → Nat → Int64} {opn : Nat → Int32} {cki : Nat → Int32} {ckl : Nat → Int64} {mp : Nat → Nat → Int64} {rk : Nat → Int32} {rv : Nat → Int64} {ri : Nat → Int32} {chk : Int32} {mo : Nat → Nat → Int32} {mi : Nat → Int32} {ml : Nat → Int64} {mk : Nat → Int32} {mlo : Nat → Int64} {mhi : Nat → Int64} {pk : Nat → Int32} {ps : Nat → Int32} {pl : Nat → Int64} {ph : Nat → Int64} {mm : Nat → Int64} {out : Nat → Int64} (a1 : Int32) (h1 : vp_in a1 12) : x_M l y_Ef_negate (Cond.code y_Ef_negate b_Ef_negate 2 (Option.none : Option Jvm.ClassFile.FieldType) :: x_Wd) { frames := 2, cells := 0, slots := 0, locals := 51 } (x_k D cA ad) (x_F ad cA) [(.ref (ad (10, 0))), (.int a1)] ((stp, psz, gk, gl, gh, opn, cki, ckl, mp, rk, rv, ri, chk), (mo, mi, ml, mk, mlo, mhi, pk, ps, pl, ph, mm), out) ((fun q : (Nat → Nat → Int32) × (Nat → Nat → Int64) × (Nat → Nat → Int64) => ((none, ((stp, psz, q.1, q.2.1, q.2.2, opn, cki, ckl, mp, rk, rv, ri, chk), (mo, mi, ml, mk, mlo, mhi, pk, ps, pl, ph, mm), out)) : Option Value × x_S)) (s_Ef_negate gk gl gh a1)) 0 0 := by
  refine x_start (κ := x_k D cA ad) (cc := b_Ef_negate) (F := x_F ad cA) (wr := (fun q : (Nat → Nat → Int32) × (Nat → Nat → Int64) × (Nat → Nat → Int64) => ((none, ((stp, psz, q.1, q.2.1, q.2.2, opn, cki, ckl, mp, rk, rv, ri, chk), (mo, mi, ml, mk, mlo, mhi, pk, ps, pl, ph, mm), out)) : Option Value × x_S))) (q := s_Ef_negate gk gl gh a1) (ret := (Option.none : Option Jvm.ClassFile.FieldType)) (lv0 := [(0, (.ref (ad (10, 0)))), (1, (.int a1))]) ok (by decide) rfl (Nat.le_of_ble_eq_true rfl) rfl ?_
  intro p e s m below meth c C hr hlk
  unfold s_Ef_negate
  refine x_aload_n 0 C d_Ef_negate_0 rfl rfl ?_
  refine x_get (i := (10, 0)) (v := (.ref (ad (5, 0)))) 0 C m_10 rfl rfl i_Ef (by decide) (List.mem_cons_of_mem _ q_129) rfl d_Ef_negate_1 ?_
  refine x_iload_n 1 C d_Ef_negate_4 rfl rfl ?_
  refine x_cv (i := (5, 0)) (F := x_F ad cA) (As := [(.int a1)]) (rest := []) C k_Gs_lo q_607 (c_Gs_lo ok 0 (by decide) a1 h1) rfl rfl rfl (Nat.le_of_ble_eq_true rfl) (Nat.le_of_ble_eq_true rfl) (m_5 (by decide)) rfl rfl rfl rfl rfl (Nat.le_of_ble_eq_true rfl) d_Ef_negate_5 ⟨Nat.zero_le _, Nat.zero_le _⟩ ?_
  generalize hq1 : s_Gs_lo gl 0 a1 = r1
  refine x_lets ?_
  refine x_ldc2 (v := (-9223372036854775808)) C (List.mem_cons_of_mem _ q_647) d_Ef_negate_8 ?_
  refine x_lcmp_ne 26 C d_Ef_negate_11 d_Ef_negate_12 (by decide) (fun z2 => ?_) (fun z2 => ?_)
  · refine x_aload_n 0 C d_Ef_negate_15 rfl rfl ?_
    refine x_get (i := (10, 0)) (v := (.ref (ad (5, 0)))) 0 C m_10 rfl rfl i_Ef (by decide) (List.mem_cons_of_mem _ q_129) rfl d_Ef_negate_16 ?_
    refine x_iload_n 1 C d_Ef_negate_19 rfl rfl ?_
    refine x_cv0 (i := (5, 0)) (F := x_F ad cA) (As := [(.int a1)]) (rest := []) C k_Gs_setAny q_612 (c_Gs_setAny ok 0 (by decide) a1 h1) rfl rfl rfl (Nat.le_of_ble_eq_true rfl) (Nat.le_of_ble_eq_true rfl) (m_5 (by decide)) rfl rfl rfl rfl rfl (Nat.le_of_ble_eq_true rfl) d_Ef_negate_20 ⟨Nat.zero_le _, Nat.zero_le _⟩ ?_
    generalize hq3 : s_Gs_setAny gk gl gh 0 a1 = q3
    obtain ⟨gk3, gl3, gh3⟩ := q3
    refine x_lets ?_
    dsimp only
    refine x_goto 52 C d_Ef_negate_23 (by decide) ?_
    exact x_vret C hr hlk rfl d_Ef_negate_52
  · refine x_aload_n 0 C d_Ef_negate_26 rfl rfl ?_
    refine x_get (i := (10, 0)) (v := (.ref (ad (5, 0)))) 0 C m_10 rfl rfl i_Ef (by decide) (List.mem_cons_of_mem _ q_129) rfl d_Ef_negate_27 ?_
    refine x_iload_n 1 C d_Ef_negate_30 rfl rfl ?_
    refine x_aload_n 0 C d_Ef_negate_31 rfl rfl ?_
    refine x_get (i := (10, 0)) (v := (.ref (ad (5, 0)))) 0 C m_10 rfl rfl i_Ef (by decide) (List.mem_cons_of_mem _ q_129) rfl d_Ef_negate_32 ?_
    refine x_iload_n 1 C d_Ef_negate_35 rfl rfl ?_
    refine x_cv (i := (5, 0)) (F := x_F ad cA) (As := [(.int a1)]) (rest := [(.int a1), (.ref (ad (5, 0)))]) C k_Gs_hi q_608 (c_Gs_hi ok 0 (by decide) a1 h1) rfl rfl rfl (Nat.le_of_ble_eq_true rfl) (Nat.le_of_ble_eq_true rfl) (m_5 (by decide)) rfl rfl rfl rfl rfl (Nat.le_of_ble_eq_true rfl) d_Ef_negate_36 ⟨Nat.zero_le _, Nat.zero_le _⟩ ?_
    generalize hq4 : s_Gs_hi gh 0 a1 = r4
    refine x_lets ?_
    refine x_lneg C d_Ef_negate_39 ?_
    refine x_aload_n 0 C d_Ef_negate_40 rfl rfl ?_
    refine x_get (i := (10, 0)) (v := (.ref (ad (5, 0)))) 0 C m_10 rfl rfl i_Ef (by decide) (List.mem_cons_of_mem _ q_129) rfl d_Ef_negate_41 ?_
    refine x_iload_n 1 C d_Ef_negate_44 rfl rfl ?_
    refine x_cv (i := (5, 0)) (F := x_F ad cA) (As := [(.int a1)]) (rest := [(.long (-r4)), (.int a1), (.ref (ad (5, 0)))]) C k_Gs_lo q_607 (c_Gs_lo ok 0 (by decide) a1 h1) rfl rfl rfl (Nat.le_of_ble_eq_true rfl) (Nat.le_of_ble_eq_true rfl) (m_5 (by decide)) rfl rfl rfl rfl rfl (Nat.le_of_ble_eq_true rfl) d_Ef_negate_45 ⟨Nat.zero_le _, Nat.zero_le _⟩ ?_
    rw [hq1]
    refine x_lneg C d_Ef_negate_48 ?_
    refine x_cv0 (i := (5, 0)) (F := x_F ad cA) (As := [(.int a1), (.long (-r4)), (.long (-r1))]) (rest := []) C k_Gs_setRange q_598 (c_Gs_setRange ok 0 (by decide) a1 (-r4) (-r1) h1) rfl rfl rfl (Nat.le_of_ble_eq_true rfl) (Nat.le_of_ble_eq_true rfl) (m_5 (by decide)) rfl rfl rfl rfl rfl (Nat.le_of_ble_eq_true rfl) d_Ef_negate_49 ⟨Nat.zero_le _, Nat.zero_le _⟩ ?_
    generalize hq5 : s_Gs_setRange gk gl gh 0 a1 (-r4) (-r1) = q5
    obtain ⟨gk5, gl5, gh5⟩ := q5
    refine x_lets ?_
    dsimp only
    exact x_vret C hr hlk rfl d_Ef_negate_52
def lp_Ef_load_67 (n : Nat) (stp : Nat → Nat → Int32) (gk : Nat → Nat → Int32) (gl : Nat → Nat → Int64) (gh : Nat → Nat → Int64) (j : Nat) (x2 : Int64) (x4 : Int64) (x6 : Int32) : (Nat → Nat → Int32) × (Nat → Nat → Int64) × (Nat → Nat → Int64) := match n with
  | 0 => (gk, gl, gh)
  | n + 1 => (if 6 ≤ x6 then (gk, gl, gh) else (if (Int32.toInt64 x6) = x2 then (x_let (s_Gs_copy gk gl gh 0 (stp j 1) (6 + x6)) fun (gk7, gl7, gh7) => lp_Ef_load_67 n stp gk7 gl7 gh7 j x2 x4 (x6 + 1)) else (if (Int32.toInt64 x6) ≤ x2 then lp_Ef_load_67 n stp gk gl gh j x2 x4 (x6 + 1) else (if x4 < (Int32.toInt64 x6) then lp_Ef_load_67 n stp gk gl gh j x2 x4 (x6 + 1) else (x_let (s_Gs_lo gl 0 (6 + x6)) fun r10 => (x_let (s_Gs_hi gh 0 (6 + x6)) fun r11 => (x_let (s_Gs_widen gk gl gh 0 (stp j 1) r10 r11) fun (gk12, gl12, gh12) => lp_Ef_load_67 n stp gk12 gl12 gh12 j x2 x4 (x6 + 1))))))))
set_option maxHeartbeats 4000000 in
set_option maxRecDepth 100000 in
theorem cl_Ef_load_67 {l : Launch} {D : va_G} {cA : Nat → ClassId} {ad : x_I → Nat} (ok : x_ok (x_k D cA ad)) {stp : Nat → Nat → Int32} {psz : Int32} {opn : Nat → Int32} {cki : Nat → Int32} {ckl : Nat → Int64} {mp : Nat → Nat → Int64} {rk : Nat → Int32} {rv : Nat → Int64} {ri : Nat → Int32} {chk : Int32} {mo : Nat → Nat → Int32} {mi : Nat → Int32} {ml : Nat → Int64} {mk : Nat → Int32} {mlo : Nat → Int64} {mhi : Nat → Int64} {pk : Nat → Int32} {ps : Nat → Int32} {pl : Nat → Int64} {ph : Nat → Int64} {mm : Nat → Int64} {out : Nat → Int64} {p : Program} {e : Env} {s : State} {m : MethodId} {args : Array Value} {below : List Frame} {meth : Method} {c : Code} (C : x_C p s m args c b_Ef_load 8 R_Ef (Cond.code y_Ef_load b_Ef_load 8 (Option.none : Option Jvm.ClassFile.FieldType) :: x_Wd) (x_k D cA ad)) (hr : meth.sig.returnType = (Option.none : Option Jvm.ClassFile.FieldType)) (hlk : meth.locks = false) (j : Nat) (hj : j < 24) (hw : x_wf stp) : ∀ (n : Nat) (gk : Nat → Nat → Int32) (gl : Nat → Nat → Int64) (gh : Nat → Nat → Int64) (x2 : Int64) (x4 : Int64) (x6 : Int32) (hv : x_lp x6 6 n), x_V p l e { frames := 2, cells := 0, slots := 0, locals := 51 } s m args below meth c (x_k D cA ad) 8 0 0 (x_E below (x_k D cA ad) args s 0 0 (x_F ad cA) (fun q : (Nat → Nat → Int32) × (Nat → Nat → Int64) × (Nat → Nat → Int64) => ((none, ((stp, psz, q.1, q.2.1, q.2.2, opn, cki, ckl, mp, rk, rv, ri, chk), (mo, mi, ml, mk, mlo, mhi, pk, ps, pl, ph, mm), out)) : Option Value × x_S)) (lp_Ef_load_67 n stp gk gl gh j x2 x4 x6)) (x_F ad cA ((stp, psz, gk, gl, gh, opn, cki, ckl, mp, rk, rv, ri, chk), (mo, mi, ml, mk, mlo, mhi, pk, ps, pl, ph, mm), out)) 67 [(0, (.ref (ad (10, 0)))), (1, (.ref (ad (3, j)))), (2, (.long x2)), (4, (.long x4)), (6, (.int x6))] [] := by
  intro n
  induction n with
  | zero => intro gk gl gh x2 x4 x6 hv; exact absurd hv x_lp0
  | succ n ih =>
    intro gk gl gh x2 x4 x6 hv
    rw [lp_Ef_load_67]
    refine x_iload 4 C d_Ef_load_67 rfl ?_
    refine x_bipush (v := 6) C d_Ef_load_69 (by decide) ?_
    refine x_icmp_ge 157 C d_Ef_load_71 (by decide) (fun z5 => ?_) (fun z5 => ?_)
    · exact x_vret C hr hlk rfl d_Ef_load_157
    · refine x_bipush (v := 6) C d_Ef_load_74 (by decide) ?_
      refine x_iload 4 C d_Ef_load_76 rfl ?_
      refine x_iadd C d_Ef_load_78 ?_
      refine x_istore (lv' := [(7, (.int (6 + x6))), (0, (.ref (ad (10, 0)))), (1, (.ref (ad (3, j)))), (2, (.long x2)), (4, (.long x4)), (6, (.int x6))]) C d_Ef_load_79 (by decide) rfl ?_
      refine x_iload 5 C d_Ef_load_81 rfl ?_
      refine x_i2l C d_Ef_load_83 ?_
      refine x_lload_n 3 C d_Ef_load_84 rfl rfl ?_
      refine x_lcmp_ne 105 C d_Ef_load_85 d_Ef_load_86 (by decide) (fun z6 => ?_) (fun z6 => ?_)
      · refine x_aload_n 1 C d_Ef_load_89 rfl rfl ?_
        refine x_get (i := (10, 0)) (v := (.ref (ad (5, 0)))) 0 C m_10 rfl rfl i_Ef (by decide) (List.mem_cons_of_mem _ q_129) rfl d_Ef_load_90 ?_
        refine x_aload_n 2 C d_Ef_load_93 rfl rfl ?_
        refine x_get (i := (3, j)) (v := (.int (stp j 1))) 1 C (m_3 hj) rfl rfl i_St (by decide) (List.mem_cons_of_mem _ q_48) rfl d_Ef_load_94 ?_
        refine x_iload 0 C d_Ef_load_97 rfl ?_
        refine x_cv0 (i := (5, 0)) (F := x_F ad cA) (As := [(.int (stp j 1)), (.int (6 + x6))]) (rest := []) C k_Gs_copy q_599 (c_Gs_copy ok 0 (by decide) (stp j 1) (6 + x6) (x_wfd hw hj) (x_lp6 hv z5 (by decide))) rfl rfl rfl (Nat.le_of_ble_eq_true rfl) (Nat.le_of_ble_eq_true rfl) (m_5 (by decide)) rfl rfl rfl rfl rfl (Nat.le_of_ble_eq_true rfl) d_Ef_load_99 ⟨Nat.zero_le _, Nat.zero_le _⟩ ?_
        generalize hq7 : s_Gs_copy gk gl gh 0 (stp j 1) (6 + x6) = q7
        obtain ⟨gk7, gl7, gh7⟩ := q7
        refine x_lets ?_
        dsimp only
        refine x_goto 151 C d_Ef_load_102 (by decide) ?_
        refine x_iinc (lv' := [(6, (.int (x6 + 1))), (7, (.int (6 + x6))), (0, (.ref (ad (10, 0)))), (1, (.ref (ad (3, j)))), (2, (.long x2)), (4, (.long x4))]) 5 C d_Ef_load_151 rfl rfl (by decide) rfl ?_
        refine x_goto 67 C d_Ef_load_154 (by decide) ?_
        refine x_loc (lv' := [(0, (.ref (ad (10, 0)))), (1, (.ref (ad (3, j)))), (2, (.long x2)), (4, (.long x4)), (6, (.int (x6 + 1)))]) [2, 3, 4, 5, 0] rfl ?_
        exact ih gk7 gl7 gh7 x2 x4 (x6 + 1) (x_lpS hv z5 (by decide) (by decide))
      · refine x_iload 5 C d_Ef_load_105 rfl ?_
        refine x_i2l C d_Ef_load_107 ?_
        refine x_lload_n 3 C d_Ef_load_108 rfl rfl ?_
        refine x_lcmp_le 151 C d_Ef_load_109 d_Ef_load_110 (by decide) (fun z8 => ?_) (fun z8 => ?_)
        · refine x_iinc (lv' := [(6, (.int (x6 + 1))), (7, (.int (6 + x6))), (0, (.ref (ad (10, 0)))), (1, (.ref (ad (3, j)))), (2, (.long x2)), (4, (.long x4))]) 5 C d_Ef_load_151 rfl rfl (by decide) rfl ?_
          refine x_goto 67 C d_Ef_load_154 (by decide) ?_
          refine x_loc (lv' := [(0, (.ref (ad (10, 0)))), (1, (.ref (ad (3, j)))), (2, (.long x2)), (4, (.long x4)), (6, (.int (x6 + 1)))]) [2, 3, 4, 5, 0] rfl ?_
          exact ih gk gl gh x2 x4 (x6 + 1) (x_lpS hv z5 (by decide) (by decide))
        · refine x_iload 5 C d_Ef_load_113 rfl ?_
          refine x_i2l C d_Ef_load_115 ?_
          refine x_lload 4 C d_Ef_load_116 rfl ?_
          refine x_lcmp_gt 151 C d_Ef_load_118 d_Ef_load_119 (by decide) (fun z9 => ?_) (fun z9 => ?_)
          · refine x_iinc (lv' := [(6, (.int (x6 + 1))), (7, (.int (6 + x6))), (0, (.ref (ad (10, 0)))), (1, (.ref (ad (3, j)))), (2, (.long x2)), (4, (.long x4))]) 5 C d_Ef_load_151 rfl rfl (by decide) rfl ?_
            refine x_goto 67 C d_Ef_load_154 (by decide) ?_
            refine x_loc (lv' := [(0, (.ref (ad (10, 0)))), (1, (.ref (ad (3, j)))), (2, (.long x2)), (4, (.long x4)), (6, (.int (x6 + 1)))]) [2, 3, 4, 5, 0] rfl ?_
            exact ih gk gl gh x2 x4 (x6 + 1) (x_lpS hv z5 (by decide) (by decide))
          · refine x_aload_n 1 C d_Ef_load_122 rfl rfl ?_
            refine x_get (i := (10, 0)) (v := (.ref (ad (5, 0)))) 0 C m_10 rfl rfl i_Ef (by decide) (List.mem_cons_of_mem _ q_129) rfl d_Ef_load_123 ?_
            refine x_aload_n 2 C d_Ef_load_126 rfl rfl ?_
            refine x_get (i := (3, j)) (v := (.int (stp j 1))) 1 C (m_3 hj) rfl rfl i_St (by decide) (List.mem_cons_of_mem _ q_48) rfl d_Ef_load_127 ?_
            refine x_aload_n 1 C d_Ef_load_130 rfl rfl ?_
            refine x_get (i := (10, 0)) (v := (.ref (ad (5, 0)))) 0 C m_10 rfl rfl i_Ef (by decide) (List.mem_cons_of_mem _ q_129) rfl d_Ef_load_131 ?_
            refine x_iload 0 C d_Ef_load_134 rfl ?_
            refine x_cv (i := (5, 0)) (F := x_F ad cA) (As := [(.int (6 + x6))]) (rest := [(.int (stp j 1)), (.ref (ad (5, 0)))]) C k_Gs_lo q_607 (c_Gs_lo ok 0 (by decide) (6 + x6) (x_lp6 hv z5 (by decide))) rfl rfl rfl (Nat.le_of_ble_eq_true rfl) (Nat.le_of_ble_eq_true rfl) (m_5 (by decide)) rfl rfl rfl rfl rfl (Nat.le_of_ble_eq_true rfl) d_Ef_load_136 ⟨Nat.zero_le _, Nat.zero_le _⟩ ?_
            generalize hq10 : s_Gs_lo gl 0 (6 + x6) = r10
            refine x_lets ?_
            refine x_aload_n 1 C d_Ef_load_139 rfl rfl ?_
            refine x_get (i := (10, 0)) (v := (.ref (ad (5, 0)))) 0 C m_10 rfl rfl i_Ef (by decide) (List.mem_cons_of_mem _ q_129) rfl d_Ef_load_140 ?_
            refine x_iload 0 C d_Ef_load_143 rfl ?_
            refine x_cv (i := (5, 0)) (F := x_F ad cA) (As := [(.int (6 + x6))]) (rest := [(.long r10), (.int (stp j 1)), (.ref (ad (5, 0)))]) C k_Gs_hi q_608 (c_Gs_hi ok 0 (by decide) (6 + x6) (x_lp6 hv z5 (by decide))) rfl rfl rfl (Nat.le_of_ble_eq_true rfl) (Nat.le_of_ble_eq_true rfl) (m_5 (by decide)) rfl rfl rfl rfl rfl (Nat.le_of_ble_eq_true rfl) d_Ef_load_145 ⟨Nat.zero_le _, Nat.zero_le _⟩ ?_
            generalize hq11 : s_Gs_hi gh 0 (6 + x6) = r11
            refine x_lets ?_
            refine x_cv0 (i := (5, 0)) (F := x_F ad cA) (As := [(.int (stp j 1)), (.long r10), (.long r11)]) (rest := []) C k_Gs_widen q_656 (c_Gs_widen ok 0 (by decide) (stp j 1) r10 r11 (x_wfd hw hj)) rfl rfl rfl (Nat.le_of_ble_eq_true rfl) (Nat.le_of_ble_eq_true rfl) (m_5 (by decide)) rfl rfl rfl rfl rfl (Nat.le_of_ble_eq_true rfl) d_Ef_load_148 ⟨Nat.zero_le _, Nat.zero_le _⟩ ?_
            generalize hq12 : s_Gs_widen gk gl gh 0 (stp j 1) r10 r11 = q12
            obtain ⟨gk12, gl12, gh12⟩ := q12
            refine x_lets ?_
            dsimp only
            refine x_iinc (lv' := [(6, (.int (x6 + 1))), (7, (.int (6 + x6))), (0, (.ref (ad (10, 0)))), (1, (.ref (ad (3, j)))), (2, (.long x2)), (4, (.long x4))]) 5 C d_Ef_load_151 rfl rfl (by decide) rfl ?_
            refine x_goto 67 C d_Ef_load_154 (by decide) ?_
            refine x_loc (lv' := [(0, (.ref (ad (10, 0)))), (1, (.ref (ad (3, j)))), (2, (.long x2)), (4, (.long x4)), (6, (.int (x6 + 1)))]) [2, 3, 4, 5, 0] rfl ?_
            exact ih gk12 gl12 gh12 x2 x4 (x6 + 1) (x_lpS hv z5 (by decide) (by decide))
def s_Ef_load (stp : Nat → Nat → Int32) (gk : Nat → Nat → Int32) (gl : Nat → Nat → Int64) (gh : Nat → Nat → Int64) (j : Nat) : (Nat → Nat → Int32) × (Nat → Nat → Int64) × (Nat → Nat → Int64) :=
  (x_let (s_Gs_kind gk 0 (stp j 2)) fun r1 => (if r1 = 2 then (x_let (s_Gs_lo gl 0 (stp j 2)) fun r3 => (x_let (s_Gs_hi gh 0 (stp j 2)) fun r4 => lp_Ef_load_67 7 stp gk gl gh j (r3 + (Int32.toInt64 (stp j 3))) (r4 + (Int32.toInt64 (stp j 3))) 0)) else (x_let (s_Gs_setAny gk gl gh 0 (stp j 1)) fun (gk13, gl13, gh13) => (gk13, gl13, gh13))))
set_option maxHeartbeats 4000000 in
set_option maxRecDepth 100000 in
theorem c_Ef_load {l : Launch} {D : va_G} {cA : Nat → ClassId} {ad : x_I → Nat} (ok : x_ok (x_k D cA ad)) {stp : Nat → Nat → Int32} {psz : Int32} {gk : Nat → Nat → Int32} {gl : Nat → Nat → Int64} {gh : Nat → Nat → Int64} {opn : Nat → Int32} {cki : Nat → Int32} {ckl : Nat → Int64} {mp : Nat → Nat → Int64} {rk : Nat → Int32} {rv : Nat → Int64} {ri : Nat → Int32} {chk : Int32} {mo : Nat → Nat → Int32} {mi : Nat → Int32} {ml : Nat → Int64} {mk : Nat → Int32} {mlo : Nat → Int64} {mhi : Nat → Int64} {pk : Nat → Int32} {ps : Nat → Int32} {pl : Nat → Int64} {ph : Nat → Int64} {mm : Nat → Int64} {out : Nat → Int64} (j : Nat) (hj : j < 24) (hw : x_wf stp) : x_M l y_Ef_load (Cond.code y_Ef_load b_Ef_load 8 (Option.none : Option Jvm.ClassFile.FieldType) :: x_Wd) { frames := 2, cells := 0, slots := 0, locals := 51 } (x_k D cA ad) (x_F ad cA) [(.ref (ad (10, 0))), (.ref (ad (3, j)))] ((stp, psz, gk, gl, gh, opn, cki, ckl, mp, rk, rv, ri, chk), (mo, mi, ml, mk, mlo, mhi, pk, ps, pl, ph, mm), out) ((fun q : (Nat → Nat → Int32) × (Nat → Nat → Int64) × (Nat → Nat → Int64) => ((none, ((stp, psz, q.1, q.2.1, q.2.2, opn, cki, ckl, mp, rk, rv, ri, chk), (mo, mi, ml, mk, mlo, mhi, pk, ps, pl, ph, mm), out)) : Option Value × x_S)) (s_Ef_load stp gk gl gh j)) 0 0 := by
  refine x_start (κ := x_k D cA ad) (cc := b_Ef_load) (F := x_F ad cA) (wr := (fun q : (Nat → Nat → Int32) × (Nat → Nat → Int64) × (Nat → Nat → Int64) => ((none, ((stp, psz, q.1, q.2.1, q.2.2, opn, cki, ckl, mp, rk, rv, ri, chk), (mo, mi, ml, mk, mlo, mhi, pk, ps, pl, ph, mm), out)) : Option Value × x_S))) (q := s_Ef_load stp gk gl gh j) (ret := (Option.none : Option Jvm.ClassFile.FieldType)) (lv0 := [(0, (.ref (ad (10, 0)))), (1, (.ref (ad (3, j))))]) ok (by decide) rfl (Nat.le_of_ble_eq_true rfl) rfl ?_
  intro p e s m below meth c C hr hlk
  unfold s_Ef_load
  refine x_aload_n 0 C d_Ef_load_0 rfl rfl ?_
  refine x_get (i := (10, 0)) (v := (.ref (ad (5, 0)))) 0 C m_10 rfl rfl i_Ef (by decide) (List.mem_cons_of_mem _ q_129) rfl d_Ef_load_1 ?_
  refine x_aload_n 1 C d_Ef_load_4 rfl rfl ?_
  refine x_get (i := (3, j)) (v := (.int (stp j 2))) 2 C (m_3 hj) rfl rfl i_St (by decide) (List.mem_cons_of_mem _ q_54) rfl d_Ef_load_5 ?_
  refine x_cv (i := (5, 0)) (F := x_F ad cA) (As := [(.int (stp j 2))]) (rest := []) C k_Gs_kind q_613 (c_Gs_kind ok 0 (by decide) (stp j 2) (x_wfs hw hj)) rfl rfl rfl (Nat.le_of_ble_eq_true rfl) (Nat.le_of_ble_eq_true rfl) (m_5 (by decide)) rfl rfl rfl rfl rfl (Nat.le_of_ble_eq_true rfl) d_Ef_load_8 ⟨Nat.zero_le _, Nat.zero_le _⟩ ?_
  generalize hq1 : s_Gs_kind gk 0 (stp j 2) = r1
  refine x_lets ?_
  refine x_iconst (v := 2) C d_Ef_load_11 (by decide) ?_
  refine x_icmp_eq 27 C d_Ef_load_12 (by decide) (fun z2 => ?_) (fun z2 => ?_)
  · refine x_aload_n 0 C d_Ef_load_27 rfl rfl ?_
    refine x_get (i := (10, 0)) (v := (.ref (ad (5, 0)))) 0 C m_10 rfl rfl i_Ef (by decide) (List.mem_cons_of_mem _ q_129) rfl d_Ef_load_28 ?_
    refine x_aload_n 1 C d_Ef_load_31 rfl rfl ?_
    refine x_get (i := (3, j)) (v := (.int (stp j 2))) 2 C (m_3 hj) rfl rfl i_St (by decide) (List.mem_cons_of_mem _ q_54) rfl d_Ef_load_32 ?_
    refine x_cv (i := (5, 0)) (F := x_F ad cA) (As := [(.int (stp j 2))]) (rest := []) C k_Gs_lo q_607 (c_Gs_lo ok 0 (by decide) (stp j 2) (x_wfs hw hj)) rfl rfl rfl (Nat.le_of_ble_eq_true rfl) (Nat.le_of_ble_eq_true rfl) (m_5 (by decide)) rfl rfl rfl rfl rfl (Nat.le_of_ble_eq_true rfl) d_Ef_load_35 ⟨Nat.zero_le _, Nat.zero_le _⟩ ?_
    generalize hq3 : s_Gs_lo gl 0 (stp j 2) = r3
    refine x_lets ?_
    refine x_aload_n 1 C d_Ef_load_38 rfl rfl ?_
    refine x_get (i := (3, j)) (v := (.int (stp j 3))) 3 C (m_3 hj) rfl rfl i_St (by decide) (List.mem_cons_of_mem _ q_60) rfl d_Ef_load_39 ?_
    refine x_i2l C d_Ef_load_42 ?_
    refine x_ladd C d_Ef_load_43 ?_
    refine x_lstore_n (lv' := [(2, (.long (r3 + (Int32.toInt64 (stp j 3))))), (0, (.ref (ad (10, 0)))), (1, (.ref (ad (3, j))))]) C d_Ef_load_44 rfl (by decide) rfl ?_
    refine x_aload_n 1 C d_Ef_load_45 rfl rfl ?_
    refine x_get (i := (10, 0)) (v := (.ref (ad (5, 0)))) 0 C m_10 rfl rfl i_Ef (by decide) (List.mem_cons_of_mem _ q_129) rfl d_Ef_load_46 ?_
    refine x_aload_n 2 C d_Ef_load_49 rfl rfl ?_
    refine x_get (i := (3, j)) (v := (.int (stp j 2))) 2 C (m_3 hj) rfl rfl i_St (by decide) (List.mem_cons_of_mem _ q_54) rfl d_Ef_load_50 ?_
    refine x_cv (i := (5, 0)) (F := x_F ad cA) (As := [(.int (stp j 2))]) (rest := []) C k_Gs_hi q_608 (c_Gs_hi ok 0 (by decide) (stp j 2) (x_wfs hw hj)) rfl rfl rfl (Nat.le_of_ble_eq_true rfl) (Nat.le_of_ble_eq_true rfl) (m_5 (by decide)) rfl rfl rfl rfl rfl (Nat.le_of_ble_eq_true rfl) d_Ef_load_53 ⟨Nat.zero_le _, Nat.zero_le _⟩ ?_
    generalize hq4 : s_Gs_hi gh 0 (stp j 2) = r4
    refine x_lets ?_
    refine x_aload_n 2 C d_Ef_load_56 rfl rfl ?_
    refine x_get (i := (3, j)) (v := (.int (stp j 3))) 3 C (m_3 hj) rfl rfl i_St (by decide) (List.mem_cons_of_mem _ q_60) rfl d_Ef_load_57 ?_
    refine x_i2l C d_Ef_load_60 ?_
    refine x_ladd C d_Ef_load_61 ?_
    refine x_lstore (lv' := [(4, (.long (r4 + (Int32.toInt64 (stp j 3))))), (2, (.long (r3 + (Int32.toInt64 (stp j 3))))), (0, (.ref (ad (10, 0)))), (1, (.ref (ad (3, j))))]) C d_Ef_load_62 (by decide) rfl ?_
    refine x_iconst (v := 0) C d_Ef_load_64 (by decide) ?_
    refine x_istore (lv' := [(6, (.int 0)), (4, (.long (r4 + (Int32.toInt64 (stp j 3))))), (2, (.long (r3 + (Int32.toInt64 (stp j 3))))), (0, (.ref (ad (10, 0)))), (1, (.ref (ad (3, j))))]) C d_Ef_load_65 (by decide) rfl ?_
    refine x_loc (lv' := [(0, (.ref (ad (10, 0)))), (1, (.ref (ad (3, j)))), (2, (.long (r3 + (Int32.toInt64 (stp j 3))))), (4, (.long (r4 + (Int32.toInt64 (stp j 3))))), (6, (.int 0))]) [3, 4, 2, 1, 0] rfl ?_
    exact cl_Ef_load_67 ok C hr hlk j hj hw 7 gk gl gh (r3 + (Int32.toInt64 (stp j 3))) (r4 + (Int32.toInt64 (stp j 3))) 0 ⟨by decide, by decide, by decide⟩
  · refine x_aload_n 0 C d_Ef_load_15 rfl rfl ?_
    refine x_get (i := (10, 0)) (v := (.ref (ad (5, 0)))) 0 C m_10 rfl rfl i_Ef (by decide) (List.mem_cons_of_mem _ q_129) rfl d_Ef_load_16 ?_
    refine x_aload_n 1 C d_Ef_load_19 rfl rfl ?_
    refine x_get (i := (3, j)) (v := (.int (stp j 1))) 1 C (m_3 hj) rfl rfl i_St (by decide) (List.mem_cons_of_mem _ q_48) rfl d_Ef_load_20 ?_
    refine x_cv0 (i := (5, 0)) (F := x_F ad cA) (As := [(.int (stp j 1))]) (rest := []) C k_Gs_setAny q_612 (c_Gs_setAny ok 0 (by decide) (stp j 1) (x_wfd hw hj)) rfl rfl rfl (Nat.le_of_ble_eq_true rfl) (Nat.le_of_ble_eq_true rfl) (m_5 (by decide)) rfl rfl rfl rfl rfl (Nat.le_of_ble_eq_true rfl) d_Ef_load_23 ⟨Nat.zero_le _, Nat.zero_le _⟩ ?_
    generalize hq13 : s_Gs_setAny gk gl gh 0 (stp j 1) = q13
    obtain ⟨gk13, gl13, gh13⟩ := q13
    refine x_lets ?_
    dsimp only
    exact x_vret C hr hlk rfl d_Ef_load_26
def lp_Ef_store_56 (n : Nat) (stp : Nat → Nat → Int32) (gk : Nat → Nat → Int32) (gl : Nat → Nat → Int64) (gh : Nat → Nat → Int64) (j : Nat) (x2 : Int64) (x4 : Int64) (x6 : Int32) : (Nat → Nat → Int32) × (Nat → Nat → Int64) × (Nat → Nat → Int64) := match n with
  | 0 => (gk, gl, gh)
  | n + 1 => (if 6 ≤ x6 then (gk, gl, gh) else (if (Int32.toInt64 x6) = x2 then (if x2 = x4 then (x_let (s_Gs_copy gk gl gh 0 (6 + x6) (stp j 2)) fun (gk8, gl8, gh8) => lp_Ef_store_56 n stp gk8 gl8 gh8 j x2 x4 (x6 + 1)) else (if (Int32.toInt64 x6) < x2 then lp_Ef_store_56 n stp gk gl gh j x2 x4 (x6 + 1) else (if x4 < (Int32.toInt64 x6) then lp_Ef_store_56 n stp gk gl gh j x2 x4 (x6 + 1) else (x_let (s_Gs_isRange gk 0 (6 + x6)) fun r11 => (if r11 = 0 then lp_Ef_store_56 n stp gk gl gh j x2 x4 (x6 + 1) else (x_let (s_Gs_lo gl 0 (stp j 2)) fun r13 => (x_let (s_Gs_hi gh 0 (stp j 2)) fun r14 => (x_let (s_Gs_widen gk gl gh 0 (6 + x6) r13 r14) fun (gk15, gl15, gh15) => lp_Ef_store_56 n stp gk15 gl15 gh15 j x2 x4 (x6 + 1))))))))) else (if (Int32.toInt64 x6) < x2 then lp_Ef_store_56 n stp gk gl gh j x2 x4 (x6 + 1) else (if x4 < (Int32.toInt64 x6) then lp_Ef_store_56 n stp gk gl gh j x2 x4 (x6 + 1) else (x_let (s_Gs_isRange gk 0 (6 + x6)) fun r18 => (if r18 = 0 then lp_Ef_store_56 n stp gk gl gh j x2 x4 (x6 + 1) else (x_let (s_Gs_lo gl 0 (stp j 2)) fun r20 => (x_let (s_Gs_hi gh 0 (stp j 2)) fun r21 => (x_let (s_Gs_widen gk gl gh 0 (6 + x6) r20 r21) fun (gk22, gl22, gh22) => lp_Ef_store_56 n stp gk22 gl22 gh22 j x2 x4 (x6 + 1))))))))))
set_option maxHeartbeats 4000000 in
set_option maxRecDepth 100000 in
theorem cl_Ef_store_56 {l : Launch} {D : va_G} {cA : Nat → ClassId} {ad : x_I → Nat} (ok : x_ok (x_k D cA ad)) {stp : Nat → Nat → Int32} {psz : Int32} {opn : Nat → Int32} {cki : Nat → Int32} {ckl : Nat → Int64} {mp : Nat → Nat → Int64} {rk : Nat → Int32} {rv : Nat → Int64} {ri : Nat → Int32} {chk : Int32} {mo : Nat → Nat → Int32} {mi : Nat → Int32} {ml : Nat → Int64} {mk : Nat → Int32} {mlo : Nat → Int64} {mhi : Nat → Int64} {pk : Nat → Int32} {ps : Nat → Int32} {pl : Nat → Int64} {ph : Nat → Int64} {mm : Nat → Int64} {out : Nat → Int64} {p : Program} {e : Env} {s : State} {m : MethodId} {args : Array Value} {below : List Frame} {meth : Method} {c : Code} (C : x_C p s m args c b_Ef_store 8 R_Ef (Cond.code y_Ef_store b_Ef_store 8 (Option.none : Option Jvm.ClassFile.FieldType) :: x_Wd) (x_k D cA ad)) (hr : meth.sig.returnType = (Option.none : Option Jvm.ClassFile.FieldType)) (hlk : meth.locks = false) (j : Nat) (hj : j < 24) (hw : x_wf stp) : ∀ (n : Nat) (gk : Nat → Nat → Int32) (gl : Nat → Nat → Int64) (gh : Nat → Nat → Int64) (x2 : Int64) (x4 : Int64) (x6 : Int32) (hv : x_lp x6 6 n), x_V p l e { frames := 2, cells := 0, slots := 0, locals := 51 } s m args below meth c (x_k D cA ad) 8 0 0 (x_E below (x_k D cA ad) args s 0 0 (x_F ad cA) (fun q : (Nat → Nat → Int32) × (Nat → Nat → Int64) × (Nat → Nat → Int64) => ((none, ((stp, psz, q.1, q.2.1, q.2.2, opn, cki, ckl, mp, rk, rv, ri, chk), (mo, mi, ml, mk, mlo, mhi, pk, ps, pl, ph, mm), out)) : Option Value × x_S)) (lp_Ef_store_56 n stp gk gl gh j x2 x4 x6)) (x_F ad cA ((stp, psz, gk, gl, gh, opn, cki, ckl, mp, rk, rv, ri, chk), (mo, mi, ml, mk, mlo, mhi, pk, ps, pl, ph, mm), out)) 56 [(0, (.ref (ad (10, 0)))), (1, (.ref (ad (3, j)))), (2, (.long x2)), (4, (.long x4)), (6, (.int x6))] [] := by
  intro n
  induction n with
  | zero => intro gk gl gh x2 x4 x6 hv; exact absurd hv x_lp0
  | succ n ih =>
    intro gk gl gh x2 x4 x6 hv
    rw [lp_Ef_store_56]
    refine x_iload 4 C d_Ef_store_56 rfl ?_
    refine x_bipush (v := 6) C d_Ef_store_58 (by decide) ?_
    refine x_icmp_ge 167 C d_Ef_store_60 (by decide) (fun z5 => ?_) (fun z5 => ?_)
    · exact x_vret C hr hlk rfl d_Ef_store_167
    · refine x_bipush (v := 6) C d_Ef_store_63 (by decide) ?_
      refine x_iload 4 C d_Ef_store_65 rfl ?_
      refine x_iadd C d_Ef_store_67 ?_
      refine x_istore (lv' := [(7, (.int (6 + x6))), (0, (.ref (ad (10, 0)))), (1, (.ref (ad (3, j)))), (2, (.long x2)), (4, (.long x4)), (6, (.int x6))]) C d_Ef_store_68 (by decide) rfl ?_
      refine x_iload 5 C d_Ef_store_70 rfl ?_
      refine x_i2l C d_Ef_store_72 ?_
      refine x_lload_n 3 C d_Ef_store_73 rfl rfl ?_
      refine x_lcmp_ne 101 C d_Ef_store_74 d_Ef_store_75 (by decide) (fun z6 => ?_) (fun z6 => ?_)
      · refine x_lload_n 3 C d_Ef_store_78 rfl rfl ?_
        refine x_lload 4 C d_Ef_store_79 rfl ?_
        refine x_lcmp_ne 101 C d_Ef_store_81 d_Ef_store_82 (by decide) (fun z7 => ?_) (fun z7 => ?_)
        · refine x_aload_n 1 C d_Ef_store_85 rfl rfl ?_
          refine x_get (i := (10, 0)) (v := (.ref (ad (5, 0)))) 0 C m_10 rfl rfl i_Ef (by decide) (List.mem_cons_of_mem _ q_129) rfl d_Ef_store_86 ?_
          refine x_iload 0 C d_Ef_store_89 rfl ?_
          refine x_aload_n 2 C d_Ef_store_91 rfl rfl ?_
          refine x_get (i := (3, j)) (v := (.int (stp j 2))) 2 C (m_3 hj) rfl rfl i_St (by decide) (List.mem_cons_of_mem _ q_54) rfl d_Ef_store_92 ?_
          refine x_cv0 (i := (5, 0)) (F := x_F ad cA) (As := [(.int (6 + x6)), (.int (stp j 2))]) (rest := []) C k_Gs_copy q_599 (c_Gs_copy ok 0 (by decide) (6 + x6) (stp j 2) (x_lp6 hv z5 (by decide)) (x_wfs hw hj)) rfl rfl rfl (Nat.le_of_ble_eq_true rfl) (Nat.le_of_ble_eq_true rfl) (m_5 (by decide)) rfl rfl rfl rfl rfl (Nat.le_of_ble_eq_true rfl) d_Ef_store_95 ⟨Nat.zero_le _, Nat.zero_le _⟩ ?_
          generalize hq8 : s_Gs_copy gk gl gh 0 (6 + x6) (stp j 2) = q8
          obtain ⟨gk8, gl8, gh8⟩ := q8
          refine x_lets ?_
          dsimp only
          refine x_goto 161 C d_Ef_store_98 (by decide) ?_
          refine x_iinc (lv' := [(6, (.int (x6 + 1))), (7, (.int (6 + x6))), (0, (.ref (ad (10, 0)))), (1, (.ref (ad (3, j)))), (2, (.long x2)), (4, (.long x4))]) 5 C d_Ef_store_161 rfl rfl (by decide) rfl ?_
          refine x_goto 56 C d_Ef_store_164 (by decide) ?_
          refine x_loc (lv' := [(0, (.ref (ad (10, 0)))), (1, (.ref (ad (3, j)))), (2, (.long x2)), (4, (.long x4)), (6, (.int (x6 + 1)))]) [2, 3, 4, 5, 0] rfl ?_
          exact ih gk8 gl8 gh8 x2 x4 (x6 + 1) (x_lpS hv z5 (by decide) (by decide))
        · refine x_iload 5 C d_Ef_store_101 rfl ?_
          refine x_i2l C d_Ef_store_103 ?_
          refine x_lload_n 3 C d_Ef_store_104 rfl rfl ?_
          refine x_lcmp_lt 161 C d_Ef_store_105 d_Ef_store_106 (by decide) (fun z9 => ?_) (fun z9 => ?_)
          · refine x_iinc (lv' := [(6, (.int (x6 + 1))), (7, (.int (6 + x6))), (0, (.ref (ad (10, 0)))), (1, (.ref (ad (3, j)))), (2, (.long x2)), (4, (.long x4))]) 5 C d_Ef_store_161 rfl rfl (by decide) rfl ?_
            refine x_goto 56 C d_Ef_store_164 (by decide) ?_
            refine x_loc (lv' := [(0, (.ref (ad (10, 0)))), (1, (.ref (ad (3, j)))), (2, (.long x2)), (4, (.long x4)), (6, (.int (x6 + 1)))]) [2, 3, 4, 5, 0] rfl ?_
            exact ih gk gl gh x2 x4 (x6 + 1) (x_lpS hv z5 (by decide) (by decide))
          · refine x_iload 5 C d_Ef_store_109 rfl ?_
            refine x_i2l C d_Ef_store_111 ?_
            refine x_lload 4 C d_Ef_store_112 rfl ?_
            refine x_lcmp_gt 161 C d_Ef_store_114 d_Ef_store_115 (by decide) (fun z10 => ?_) (fun z10 => ?_)
            · refine x_iinc (lv' := [(6, (.int (x6 + 1))), (7, (.int (6 + x6))), (0, (.ref (ad (10, 0)))), (1, (.ref (ad (3, j)))), (2, (.long x2)), (4, (.long x4))]) 5 C d_Ef_store_161 rfl rfl (by decide) rfl ?_
              refine x_goto 56 C d_Ef_store_164 (by decide) ?_
              refine x_loc (lv' := [(0, (.ref (ad (10, 0)))), (1, (.ref (ad (3, j)))), (2, (.long x2)), (4, (.long x4)), (6, (.int (x6 + 1)))]) [2, 3, 4, 5, 0] rfl ?_
              exact ih gk gl gh x2 x4 (x6 + 1) (x_lpS hv z5 (by decide) (by decide))
            · refine x_aload_n 1 C d_Ef_store_118 rfl rfl ?_
              refine x_get (i := (10, 0)) (v := (.ref (ad (5, 0)))) 0 C m_10 rfl rfl i_Ef (by decide) (List.mem_cons_of_mem _ q_129) rfl d_Ef_store_119 ?_
              refine x_iload 0 C d_Ef_store_122 rfl ?_
              refine x_cv (i := (5, 0)) (F := x_F ad cA) (As := [(.int (6 + x6))]) (rest := []) C k_Gs_isRange q_664 (c_Gs_isRange ok 0 (by decide) (6 + x6) (x_lp6 hv z5 (by decide))) rfl rfl rfl (Nat.le_of_ble_eq_true rfl) (Nat.le_of_ble_eq_true rfl) (m_5 (by decide)) rfl rfl rfl rfl rfl (Nat.le_of_ble_eq_true rfl) d_Ef_store_124 ⟨Nat.zero_le _, Nat.zero_le _⟩ ?_
              generalize hq11 : s_Gs_isRange gk 0 (6 + x6) = r11
              refine x_lets ?_
              refine x_if_eq 161 C d_Ef_store_127 (by decide) (fun z12 => ?_) (fun z12 => ?_)
              · refine x_iinc (lv' := [(6, (.int (x6 + 1))), (7, (.int (6 + x6))), (0, (.ref (ad (10, 0)))), (1, (.ref (ad (3, j)))), (2, (.long x2)), (4, (.long x4))]) 5 C d_Ef_store_161 rfl rfl (by decide) rfl ?_
                refine x_goto 56 C d_Ef_store_164 (by decide) ?_
                refine x_loc (lv' := [(0, (.ref (ad (10, 0)))), (1, (.ref (ad (3, j)))), (2, (.long x2)), (4, (.long x4)), (6, (.int (x6 + 1)))]) [2, 3, 4, 5, 0] rfl ?_
                exact ih gk gl gh x2 x4 (x6 + 1) (x_lpS hv z5 (by decide) (by decide))
              · refine x_aload_n 1 C d_Ef_store_130 rfl rfl ?_
                refine x_get (i := (10, 0)) (v := (.ref (ad (5, 0)))) 0 C m_10 rfl rfl i_Ef (by decide) (List.mem_cons_of_mem _ q_129) rfl d_Ef_store_131 ?_
                refine x_iload 0 C d_Ef_store_134 rfl ?_
                refine x_aload_n 1 C d_Ef_store_136 rfl rfl ?_
                refine x_get (i := (10, 0)) (v := (.ref (ad (5, 0)))) 0 C m_10 rfl rfl i_Ef (by decide) (List.mem_cons_of_mem _ q_129) rfl d_Ef_store_137 ?_
                refine x_aload_n 2 C d_Ef_store_140 rfl rfl ?_
                refine x_get (i := (3, j)) (v := (.int (stp j 2))) 2 C (m_3 hj) rfl rfl i_St (by decide) (List.mem_cons_of_mem _ q_54) rfl d_Ef_store_141 ?_
                refine x_cv (i := (5, 0)) (F := x_F ad cA) (As := [(.int (stp j 2))]) (rest := [(.int (6 + x6)), (.ref (ad (5, 0)))]) C k_Gs_lo q_607 (c_Gs_lo ok 0 (by decide) (stp j 2) (x_wfs hw hj)) rfl rfl rfl (Nat.le_of_ble_eq_true rfl) (Nat.le_of_ble_eq_true rfl) (m_5 (by decide)) rfl rfl rfl rfl rfl (Nat.le_of_ble_eq_true rfl) d_Ef_store_144 ⟨Nat.zero_le _, Nat.zero_le _⟩ ?_
                generalize hq13 : s_Gs_lo gl 0 (stp j 2) = r13
                refine x_lets ?_
                refine x_aload_n 1 C d_Ef_store_147 rfl rfl ?_
                refine x_get (i := (10, 0)) (v := (.ref (ad (5, 0)))) 0 C m_10 rfl rfl i_Ef (by decide) (List.mem_cons_of_mem _ q_129) rfl d_Ef_store_148 ?_
                refine x_aload_n 2 C d_Ef_store_151 rfl rfl ?_
                refine x_get (i := (3, j)) (v := (.int (stp j 2))) 2 C (m_3 hj) rfl rfl i_St (by decide) (List.mem_cons_of_mem _ q_54) rfl d_Ef_store_152 ?_
                refine x_cv (i := (5, 0)) (F := x_F ad cA) (As := [(.int (stp j 2))]) (rest := [(.long r13), (.int (6 + x6)), (.ref (ad (5, 0)))]) C k_Gs_hi q_608 (c_Gs_hi ok 0 (by decide) (stp j 2) (x_wfs hw hj)) rfl rfl rfl (Nat.le_of_ble_eq_true rfl) (Nat.le_of_ble_eq_true rfl) (m_5 (by decide)) rfl rfl rfl rfl rfl (Nat.le_of_ble_eq_true rfl) d_Ef_store_155 ⟨Nat.zero_le _, Nat.zero_le _⟩ ?_
                generalize hq14 : s_Gs_hi gh 0 (stp j 2) = r14
                refine x_lets ?_
                refine x_cv0 (i := (5, 0)) (F := x_F ad cA) (As := [(.int (6 + x6)), (.long r13), (.long r14)]) (rest := []) C k_Gs_widen q_656 (c_Gs_widen ok 0 (by decide) (6 + x6) r13 r14 (x_lp6 hv z5 (by decide))) rfl rfl rfl (Nat.le_of_ble_eq_true rfl) (Nat.le_of_ble_eq_true rfl) (m_5 (by decide)) rfl rfl rfl rfl rfl (Nat.le_of_ble_eq_true rfl) d_Ef_store_158 ⟨Nat.zero_le _, Nat.zero_le _⟩ ?_
                generalize hq15 : s_Gs_widen gk gl gh 0 (6 + x6) r13 r14 = q15
                obtain ⟨gk15, gl15, gh15⟩ := q15
                refine x_lets ?_
                dsimp only
                refine x_iinc (lv' := [(6, (.int (x6 + 1))), (7, (.int (6 + x6))), (0, (.ref (ad (10, 0)))), (1, (.ref (ad (3, j)))), (2, (.long x2)), (4, (.long x4))]) 5 C d_Ef_store_161 rfl rfl (by decide) rfl ?_
                refine x_goto 56 C d_Ef_store_164 (by decide) ?_
                refine x_loc (lv' := [(0, (.ref (ad (10, 0)))), (1, (.ref (ad (3, j)))), (2, (.long x2)), (4, (.long x4)), (6, (.int (x6 + 1)))]) [2, 3, 4, 5, 0] rfl ?_
                exact ih gk15 gl15 gh15 x2 x4 (x6 + 1) (x_lpS hv z5 (by decide) (by decide))
      · refine x_iload 5 C d_Ef_store_101 rfl ?_
        refine x_i2l C d_Ef_store_103 ?_
        refine x_lload_n 3 C d_Ef_store_104 rfl rfl ?_
        refine x_lcmp_lt 161 C d_Ef_store_105 d_Ef_store_106 (by decide) (fun z16 => ?_) (fun z16 => ?_)
        · refine x_iinc (lv' := [(6, (.int (x6 + 1))), (7, (.int (6 + x6))), (0, (.ref (ad (10, 0)))), (1, (.ref (ad (3, j)))), (2, (.long x2)), (4, (.long x4))]) 5 C d_Ef_store_161 rfl rfl (by decide) rfl ?_
          refine x_goto 56 C d_Ef_store_164 (by decide) ?_
          refine x_loc (lv' := [(0, (.ref (ad (10, 0)))), (1, (.ref (ad (3, j)))), (2, (.long x2)), (4, (.long x4)), (6, (.int (x6 + 1)))]) [2, 3, 4, 5, 0] rfl ?_
          exact ih gk gl gh x2 x4 (x6 + 1) (x_lpS hv z5 (by decide) (by decide))
        · refine x_iload 5 C d_Ef_store_109 rfl ?_
          refine x_i2l C d_Ef_store_111 ?_
          refine x_lload 4 C d_Ef_store_112 rfl ?_
          refine x_lcmp_gt 161 C d_Ef_store_114 d_Ef_store_115 (by decide) (fun z17 => ?_) (fun z17 => ?_)
          · refine x_iinc (lv' := [(6, (.int (x6 + 1))), (7, (.int (6 + x6))), (0, (.ref (ad (10, 0)))), (1, (.ref (ad (3, j)))), (2, (.long x2)), (4, (.long x4))]) 5 C d_Ef_store_161 rfl rfl (by decide) rfl ?_
            refine x_goto 56 C d_Ef_store_164 (by decide) ?_
            refine x_loc (lv' := [(0, (.ref (ad (10, 0)))), (1, (.ref (ad (3, j)))), (2, (.long x2)), (4, (.long x4)), (6, (.int (x6 + 1)))]) [2, 3, 4, 5, 0] rfl ?_
            exact ih gk gl gh x2 x4 (x6 + 1) (x_lpS hv z5 (by decide) (by decide))
          · refine x_aload_n 1 C d_Ef_store_118 rfl rfl ?_
            refine x_get (i := (10, 0)) (v := (.ref (ad (5, 0)))) 0 C m_10 rfl rfl i_Ef (by decide) (List.mem_cons_of_mem _ q_129) rfl d_Ef_store_119 ?_
            refine x_iload 0 C d_Ef_store_122 rfl ?_
            refine x_cv (i := (5, 0)) (F := x_F ad cA) (As := [(.int (6 + x6))]) (rest := []) C k_Gs_isRange q_664 (c_Gs_isRange ok 0 (by decide) (6 + x6) (x_lp6 hv z5 (by decide))) rfl rfl rfl (Nat.le_of_ble_eq_true rfl) (Nat.le_of_ble_eq_true rfl) (m_5 (by decide)) rfl rfl rfl rfl rfl (Nat.le_of_ble_eq_true rfl) d_Ef_store_124 ⟨Nat.zero_le _, Nat.zero_le _⟩ ?_
            generalize hq18 : s_Gs_isRange gk 0 (6 + x6) = r18
            refine x_lets ?_
            refine x_if_eq 161 C d_Ef_store_127 (by decide) (fun z19 => ?_) (fun z19 => ?_)
            · refine x_iinc (lv' := [(6, (.int (x6 + 1))), (7, (.int (6 + x6))), (0, (.ref (ad (10, 0)))), (1, (.ref (ad (3, j)))), (2, (.long x2)), (4, (.long x4))]) 5 C d_Ef_store_161 rfl rfl (by decide) rfl ?_
              refine x_goto 56 C d_Ef_store_164 (by decide) ?_
              refine x_loc (lv' := [(0, (.ref (ad (10, 0)))), (1, (.ref (ad (3, j)))), (2, (.long x2)), (4, (.long x4)), (6, (.int (x6 + 1)))]) [2, 3, 4, 5, 0] rfl ?_
              exact ih gk gl gh x2 x4 (x6 + 1) (x_lpS hv z5 (by decide) (by decide))
            · refine x_aload_n 1 C d_Ef_store_130 rfl rfl ?_
              refine x_get (i := (10, 0)) (v := (.ref (ad (5, 0)))) 0 C m_10 rfl rfl i_Ef (by decide) (List.mem_cons_of_mem _ q_129) rfl d_Ef_store_131 ?_
              refine x_iload 0 C d_Ef_store_134 rfl ?_
              refine x_aload_n 1 C d_Ef_store_136 rfl rfl ?_
              refine x_get (i := (10, 0)) (v := (.ref (ad (5, 0)))) 0 C m_10 rfl rfl i_Ef (by decide) (List.mem_cons_of_mem _ q_129) rfl d_Ef_store_137 ?_
              refine x_aload_n 2 C d_Ef_store_140 rfl rfl ?_
              refine x_get (i := (3, j)) (v := (.int (stp j 2))) 2 C (m_3 hj) rfl rfl i_St (by decide) (List.mem_cons_of_mem _ q_54) rfl d_Ef_store_141 ?_
              refine x_cv (i := (5, 0)) (F := x_F ad cA) (As := [(.int (stp j 2))]) (rest := [(.int (6 + x6)), (.ref (ad (5, 0)))]) C k_Gs_lo q_607 (c_Gs_lo ok 0 (by decide) (stp j 2) (x_wfs hw hj)) rfl rfl rfl (Nat.le_of_ble_eq_true rfl) (Nat.le_of_ble_eq_true rfl) (m_5 (by decide)) rfl rfl rfl rfl rfl (Nat.le_of_ble_eq_true rfl) d_Ef_store_144 ⟨Nat.zero_le _, Nat.zero_le _⟩ ?_
              generalize hq20 : s_Gs_lo gl 0 (stp j 2) = r20
              refine x_lets ?_
              refine x_aload_n 1 C d_Ef_store_147 rfl rfl ?_
              refine x_get (i := (10, 0)) (v := (.ref (ad (5, 0)))) 0 C m_10 rfl rfl i_Ef (by decide) (List.mem_cons_of_mem _ q_129) rfl d_Ef_store_148 ?_
              refine x_aload_n 2 C d_Ef_store_151 rfl rfl ?_
              refine x_get (i := (3, j)) (v := (.int (stp j 2))) 2 C (m_3 hj) rfl rfl i_St (by decide) (List.mem_cons_of_mem _ q_54) rfl d_Ef_store_152 ?_
              refine x_cv (i := (5, 0)) (F := x_F ad cA) (As := [(.int (stp j 2))]) (rest := [(.long r20), (.int (6 + x6)), (.ref (ad (5, 0)))]) C k_Gs_hi q_608 (c_Gs_hi ok 0 (by decide) (stp j 2) (x_wfs hw hj)) rfl rfl rfl (Nat.le_of_ble_eq_true rfl) (Nat.le_of_ble_eq_true rfl) (m_5 (by decide)) rfl rfl rfl rfl rfl (Nat.le_of_ble_eq_true rfl) d_Ef_store_155 ⟨Nat.zero_le _, Nat.zero_le _⟩ ?_
              generalize hq21 : s_Gs_hi gh 0 (stp j 2) = r21
              refine x_lets ?_
              refine x_cv0 (i := (5, 0)) (F := x_F ad cA) (As := [(.int (6 + x6)), (.long r20), (.long r21)]) (rest := []) C k_Gs_widen q_656 (c_Gs_widen ok 0 (by decide) (6 + x6) r20 r21 (x_lp6 hv z5 (by decide))) rfl rfl rfl (Nat.le_of_ble_eq_true rfl) (Nat.le_of_ble_eq_true rfl) (m_5 (by decide)) rfl rfl rfl rfl rfl (Nat.le_of_ble_eq_true rfl) d_Ef_store_158 ⟨Nat.zero_le _, Nat.zero_le _⟩ ?_
              generalize hq22 : s_Gs_widen gk gl gh 0 (6 + x6) r20 r21 = q22
              obtain ⟨gk22, gl22, gh22⟩ := q22
              refine x_lets ?_
              dsimp only
              refine x_iinc (lv' := [(6, (.int (x6 + 1))), (7, (.int (6 + x6))), (0, (.ref (ad (10, 0)))), (1, (.ref (ad (3, j)))), (2, (.long x2)), (4, (.long x4))]) 5 C d_Ef_store_161 rfl rfl (by decide) rfl ?_
              refine x_goto 56 C d_Ef_store_164 (by decide) ?_
              refine x_loc (lv' := [(0, (.ref (ad (10, 0)))), (1, (.ref (ad (3, j)))), (2, (.long x2)), (4, (.long x4)), (6, (.int (x6 + 1)))]) [2, 3, 4, 5, 0] rfl ?_
              exact ih gk22 gl22 gh22 x2 x4 (x6 + 1) (x_lpS hv z5 (by decide) (by decide))
def s_Ef_store (stp : Nat → Nat → Int32) (gk : Nat → Nat → Int32) (gl : Nat → Nat → Int64) (gh : Nat → Nat → Int64) (j : Nat) : (Nat → Nat → Int32) × (Nat → Nat → Int64) × (Nat → Nat → Int64) :=
  (x_let (s_Gs_kind gk 0 (stp j 1)) fun r1 => (if r1 = 2 then (x_let (s_Gs_lo gl 0 (stp j 1)) fun r3 => (x_let (s_Gs_hi gh 0 (stp j 1)) fun r4 => lp_Ef_store_56 7 stp gk gl gh j (r3 + (Int32.toInt64 (stp j 3))) (r4 + (Int32.toInt64 (stp j 3))) 0)) else (gk, gl, gh)))
set_option maxHeartbeats 4000000 in
set_option maxRecDepth 100000 in
theorem c_Ef_store {l : Launch} {D : va_G} {cA : Nat → ClassId} {ad : x_I → Nat} (ok : x_ok (x_k D cA ad)) {stp : Nat → Nat → Int32} {psz : Int32} {gk : Nat → Nat → Int32} {gl : Nat → Nat → Int64} {gh : Nat → Nat → Int64} {opn : Nat → Int32} {cki : Nat → Int32} {ckl : Nat → Int64} {mp : Nat → Nat → Int64} {rk : Nat → Int32} {rv : Nat → Int64} {ri : Nat → Int32} {chk : Int32} {mo : Nat → Nat → Int32} {mi : Nat → Int32} {ml : Nat → Int64} {mk : Nat → Int32} {mlo : Nat → Int64} {mhi : Nat → Int64} {pk : Nat → Int32} {ps : Nat → Int32} {pl : Nat → Int64} {ph : Nat → Int64} {mm : Nat → Int64} {out : Nat → Int64} (j : Nat) (hj : j < 24) (hw : x_wf stp) : x_M l y_Ef_store (Cond.code y_Ef_store b_Ef_store 8 (Option.none : Option Jvm.ClassFile.FieldType) :: x_Wd) { frames := 2, cells := 0, slots := 0, locals := 51 } (x_k D cA ad) (x_F ad cA) [(.ref (ad (10, 0))), (.ref (ad (3, j)))] ((stp, psz, gk, gl, gh, opn, cki, ckl, mp, rk, rv, ri, chk), (mo, mi, ml, mk, mlo, mhi, pk, ps, pl, ph, mm), out) ((fun q : (Nat → Nat → Int32) × (Nat → Nat → Int64) × (Nat → Nat → Int64) => ((none, ((stp, psz, q.1, q.2.1, q.2.2, opn, cki, ckl, mp, rk, rv, ri, chk), (mo, mi, ml, mk, mlo, mhi, pk, ps, pl, ph, mm), out)) : Option Value × x_S)) (s_Ef_store stp gk gl gh j)) 0 0 := by
  refine x_start (κ := x_k D cA ad) (cc := b_Ef_store) (F := x_F ad cA) (wr := (fun q : (Nat → Nat → Int32) × (Nat → Nat → Int64) × (Nat → Nat → Int64) => ((none, ((stp, psz, q.1, q.2.1, q.2.2, opn, cki, ckl, mp, rk, rv, ri, chk), (mo, mi, ml, mk, mlo, mhi, pk, ps, pl, ph, mm), out)) : Option Value × x_S))) (q := s_Ef_store stp gk gl gh j) (ret := (Option.none : Option Jvm.ClassFile.FieldType)) (lv0 := [(0, (.ref (ad (10, 0)))), (1, (.ref (ad (3, j))))]) ok (by decide) rfl (Nat.le_of_ble_eq_true rfl) rfl ?_
  intro p e s m below meth c C hr hlk
  unfold s_Ef_store
  refine x_aload_n 0 C d_Ef_store_0 rfl rfl ?_
  refine x_get (i := (10, 0)) (v := (.ref (ad (5, 0)))) 0 C m_10 rfl rfl i_Ef (by decide) (List.mem_cons_of_mem _ q_129) rfl d_Ef_store_1 ?_
  refine x_aload_n 1 C d_Ef_store_4 rfl rfl ?_
  refine x_get (i := (3, j)) (v := (.int (stp j 1))) 1 C (m_3 hj) rfl rfl i_St (by decide) (List.mem_cons_of_mem _ q_48) rfl d_Ef_store_5 ?_
  refine x_cv (i := (5, 0)) (F := x_F ad cA) (As := [(.int (stp j 1))]) (rest := []) C k_Gs_kind q_613 (c_Gs_kind ok 0 (by decide) (stp j 1) (x_wfd hw hj)) rfl rfl rfl (Nat.le_of_ble_eq_true rfl) (Nat.le_of_ble_eq_true rfl) (m_5 (by decide)) rfl rfl rfl rfl rfl (Nat.le_of_ble_eq_true rfl) d_Ef_store_8 ⟨Nat.zero_le _, Nat.zero_le _⟩ ?_
  generalize hq1 : s_Gs_kind gk 0 (stp j 1) = r1
  refine x_lets ?_
  refine x_iconst (v := 2) C d_Ef_store_11 (by decide) ?_
  refine x_icmp_eq 16 C d_Ef_store_12 (by decide) (fun z2 => ?_) (fun z2 => ?_)
  · refine x_aload_n 0 C d_Ef_store_16 rfl rfl ?_
    refine x_get (i := (10, 0)) (v := (.ref (ad (5, 0)))) 0 C m_10 rfl rfl i_Ef (by decide) (List.mem_cons_of_mem _ q_129) rfl d_Ef_store_17 ?_
    refine x_aload_n 1 C d_Ef_store_20 rfl rfl ?_
    refine x_get (i := (3, j)) (v := (.int (stp j 1))) 1 C (m_3 hj) rfl rfl i_St (by decide) (List.mem_cons_of_mem _ q_48) rfl d_Ef_store_21 ?_
    refine x_cv (i := (5, 0)) (F := x_F ad cA) (As := [(.int (stp j 1))]) (rest := []) C k_Gs_lo q_607 (c_Gs_lo ok 0 (by decide) (stp j 1) (x_wfd hw hj)) rfl rfl rfl (Nat.le_of_ble_eq_true rfl) (Nat.le_of_ble_eq_true rfl) (m_5 (by decide)) rfl rfl rfl rfl rfl (Nat.le_of_ble_eq_true rfl) d_Ef_store_24 ⟨Nat.zero_le _, Nat.zero_le _⟩ ?_
    generalize hq3 : s_Gs_lo gl 0 (stp j 1) = r3
    refine x_lets ?_
    refine x_aload_n 1 C d_Ef_store_27 rfl rfl ?_
    refine x_get (i := (3, j)) (v := (.int (stp j 3))) 3 C (m_3 hj) rfl rfl i_St (by decide) (List.mem_cons_of_mem _ q_60) rfl d_Ef_store_28 ?_
    refine x_i2l C d_Ef_store_31 ?_
    refine x_ladd C d_Ef_store_32 ?_
    refine x_lstore_n (lv' := [(2, (.long (r3 + (Int32.toInt64 (stp j 3))))), (0, (.ref (ad (10, 0)))), (1, (.ref (ad (3, j))))]) C d_Ef_store_33 rfl (by decide) rfl ?_
    refine x_aload_n 1 C d_Ef_store_34 rfl rfl ?_
    refine x_get (i := (10, 0)) (v := (.ref (ad (5, 0)))) 0 C m_10 rfl rfl i_Ef (by decide) (List.mem_cons_of_mem _ q_129) rfl d_Ef_store_35 ?_
    refine x_aload_n 2 C d_Ef_store_38 rfl rfl ?_
    refine x_get (i := (3, j)) (v := (.int (stp j 1))) 1 C (m_3 hj) rfl rfl i_St (by decide) (List.mem_cons_of_mem _ q_48) rfl d_Ef_store_39 ?_
    refine x_cv (i := (5, 0)) (F := x_F ad cA) (As := [(.int (stp j 1))]) (rest := []) C k_Gs_hi q_608 (c_Gs_hi ok 0 (by decide) (stp j 1) (x_wfd hw hj)) rfl rfl rfl (Nat.le_of_ble_eq_true rfl) (Nat.le_of_ble_eq_true rfl) (m_5 (by decide)) rfl rfl rfl rfl rfl (Nat.le_of_ble_eq_true rfl) d_Ef_store_42 ⟨Nat.zero_le _, Nat.zero_le _⟩ ?_
    generalize hq4 : s_Gs_hi gh 0 (stp j 1) = r4
    refine x_lets ?_
    refine x_aload_n 2 C d_Ef_store_45 rfl rfl ?_
    refine x_get (i := (3, j)) (v := (.int (stp j 3))) 3 C (m_3 hj) rfl rfl i_St (by decide) (List.mem_cons_of_mem _ q_60) rfl d_Ef_store_46 ?_
    refine x_i2l C d_Ef_store_49 ?_
    refine x_ladd C d_Ef_store_50 ?_
    refine x_lstore (lv' := [(4, (.long (r4 + (Int32.toInt64 (stp j 3))))), (2, (.long (r3 + (Int32.toInt64 (stp j 3))))), (0, (.ref (ad (10, 0)))), (1, (.ref (ad (3, j))))]) C d_Ef_store_51 (by decide) rfl ?_
    refine x_iconst (v := 0) C d_Ef_store_53 (by decide) ?_
    refine x_istore (lv' := [(6, (.int 0)), (4, (.long (r4 + (Int32.toInt64 (stp j 3))))), (2, (.long (r3 + (Int32.toInt64 (stp j 3))))), (0, (.ref (ad (10, 0)))), (1, (.ref (ad (3, j))))]) C d_Ef_store_54 (by decide) rfl ?_
    refine x_loc (lv' := [(0, (.ref (ad (10, 0)))), (1, (.ref (ad (3, j)))), (2, (.long (r3 + (Int32.toInt64 (stp j 3))))), (4, (.long (r4 + (Int32.toInt64 (stp j 3))))), (6, (.int 0))]) [3, 4, 2, 1, 0] rfl ?_
    exact cl_Ef_store_56 ok C hr hlk j hj hw 7 gk gl gh (r3 + (Int32.toInt64 (stp j 3))) (r4 + (Int32.toInt64 (stp j 3))) 0 ⟨by decide, by decide, by decide⟩
  · exact x_vret C hr hlk rfl d_Ef_store_15
def s_Ef_call (gk : Nat → Nat → Int32) (gl : Nat → Nat → Int64) (gh : Nat → Nat → Int64) (a1 : Int32) : (Nat → Nat → Int32) × (Nat → Nat → Int64) × (Nat → Nat → Int64) :=
  (if a1 = 0 then (x_let (s_Gs_setRange gk gl gh 0 0 0 99) fun (gk2, gl2, gh2) => (x_let (s_Gs_clear gk2 gl2 gh2 0 1) fun (gk3, gl3, gh3) => (x_let (s_Gs_clear gk3 gl3 gh3 0 2) fun (gk4, gl4, gh4) => (x_let (s_Gs_clear gk4 gl4 gh4 0 3) fun (gk5, gl5, gh5) => (gk5, gl5, gh5))))) else (if a1 = 1 then (x_let (s_Gs_set gk gl gh 0 0 4 0 0) fun (gk7, gl7, gh7) => (x_let (s_Gs_clear gk7 gl7 gh7 0 1) fun (gk8, gl8, gh8) => (x_let (s_Gs_clear gk8 gl8 gh8 0 2) fun (gk9, gl9, gh9) => (x_let (s_Gs_clear gk9 gl9 gh9 0 3) fun (gk10, gl10, gh10) => (gk10, gl10, gh10))))) else (x_let (s_Gs_lo gl 0 1) fun r11 => (x_let (s_Gs_lo gl 0 2) fun r12 => (x_let (s_Gs_hi gh 0 1) fun r13 => (x_let (s_Gs_hi gh 0 2) fun r14 => (x_let (s_Gs_setRange gk gl gh 0 0 (if r12 < r11 then r11 else r12) (if r14 < r13 then r13 else r14)) fun (gk15, gl15, gh15) => (x_let (s_Gs_clear gk15 gl15 gh15 0 1) fun (gk16, gl16, gh16) => (x_let (s_Gs_clear gk16 gl16 gh16 0 2) fun (gk17, gl17, gh17) => (x_let (s_Gs_clear gk17 gl17 gh17 0 3) fun (gk18, gl18, gh18) => (gk18, gl18, gh18)))))))))))
set_option maxHeartbeats 4000000 in
set_option maxRecDepth 100000 in
theorem c_Ef_call {l : Launch} {D : va_G} {cA : Nat → ClassId} {ad : x_I → Nat} (ok : x_ok (x_k D cA ad)) {stp : Nat → Nat → Int32} {psz : Int32} {gk : Nat → Nat → Int32} {gl : Nat → Nat → Int64} {gh : Nat → Nat → Int64} {opn : Nat → Int32} {cki : Nat → Int32} {ckl : Nat → Int64} {mp : Nat → Nat → Int64} {rk : Nat → Int32} {rv : Nat → Int64} {ri : Nat → Int32} {chk : Int32} {mo : Nat → Nat → Int32} {mi : Nat → Int32} {ml : Nat → Int64} {mk : Nat → Int32} {mlo : Nat → Int64} {mhi : Nat → Int64} {pk : Nat → Int32} {ps : Nat → Int32} {pl : Nat → Int64} {ph : Nat → Int64} {mm : Nat → Int64} {out : Nat → Int64} (a1 : Int32) : x_M l y_Ef_call (Cond.code y_Ef_call b_Ef_call 2 (Option.none : Option Jvm.ClassFile.FieldType) :: x_Wd) { frames := 2, cells := 0, slots := 0, locals := 51 } (x_k D cA ad) (x_F ad cA) [(.ref (ad (10, 0))), (.int a1)] ((stp, psz, gk, gl, gh, opn, cki, ckl, mp, rk, rv, ri, chk), (mo, mi, ml, mk, mlo, mhi, pk, ps, pl, ph, mm), out) ((fun q : (Nat → Nat → Int32) × (Nat → Nat → Int64) × (Nat → Nat → Int64) => ((none, ((stp, psz, q.1, q.2.1, q.2.2, opn, cki, ckl, mp, rk, rv, ri, chk), (mo, mi, ml, mk, mlo, mhi, pk, ps, pl, ph, mm), out)) : Option Value × x_S)) (s_Ef_call gk gl gh a1)) 0 0 := by
  refine x_start (κ := x_k D cA ad) (cc := b_Ef_call) (F := x_F ad cA) (wr := (fun q : (Nat → Nat → Int32) × (Nat → Nat → Int64) × (Nat → Nat → Int64) => ((none, ((stp, psz, q.1, q.2.1, q.2.2, opn, cki, ckl, mp, rk, rv, ri, chk), (mo, mi, ml, mk, mlo, mhi, pk, ps, pl, ph, mm), out)) : Option Value × x_S))) (q := s_Ef_call gk gl gh a1) (ret := (Option.none : Option Jvm.ClassFile.FieldType)) (lv0 := [(0, (.ref (ad (10, 0)))), (1, (.int a1))]) ok (by decide) rfl (Nat.le_of_ble_eq_true rfl) rfl ?_
  intro p e s m below meth c C hr hlk
  unfold s_Ef_call
  refine x_iload_n 1 C d_Ef_call_0 rfl rfl ?_
  refine x_if_ne 19 C d_Ef_call_1 (by decide) (fun z1 => ?_) (fun z1 => ?_)
  · refine x_aload_n 0 C d_Ef_call_4 rfl rfl ?_
    refine x_get (i := (10, 0)) (v := (.ref (ad (5, 0)))) 0 C m_10 rfl rfl i_Ef (by decide) (List.mem_cons_of_mem _ q_129) rfl d_Ef_call_5 ?_
    refine x_iconst (v := 0) C d_Ef_call_8 (by decide) ?_
    refine x_lconst (v := 0) C d_Ef_call_9 (by decide) ?_
    refine x_ldc2 (v := 99) C (List.mem_cons_of_mem _ q_669) d_Ef_call_10 ?_
    refine x_cv0 (i := (5, 0)) (F := x_F ad cA) (As := [(.int 0), (.long 0), (.long 99)]) (rest := []) C k_Gs_setRange q_598 (c_Gs_setRange ok 0 (by decide) 0 0 99 (x_vin (by decide))) rfl rfl rfl (Nat.le_of_ble_eq_true rfl) (Nat.le_of_ble_eq_true rfl) (m_5 (by decide)) rfl rfl rfl rfl rfl (Nat.le_of_ble_eq_true rfl) d_Ef_call_13 ⟨Nat.zero_le _, Nat.zero_le _⟩ ?_
    generalize hq2 : s_Gs_setRange gk gl gh 0 0 0 99 = q2
    obtain ⟨gk2, gl2, gh2⟩ := q2
    refine x_lets ?_
    dsimp only
    refine x_goto 84 C d_Ef_call_16 (by decide) ?_
    refine x_aload_n 0 C d_Ef_call_84 rfl rfl ?_
    refine x_get (i := (10, 0)) (v := (.ref (ad (5, 0)))) 0 C m_10 rfl rfl i_Ef (by decide) (List.mem_cons_of_mem _ q_129) rfl d_Ef_call_85 ?_
    refine x_iconst (v := 1) C d_Ef_call_88 (by decide) ?_
    refine x_cv0 (i := (5, 0)) (F := x_F ad cA) (As := [(.int 1)]) (rest := []) C k_Gs_clear q_671 (c_Gs_clear ok 0 (by decide) 1 (x_vin (by decide))) rfl rfl rfl (Nat.le_of_ble_eq_true rfl) (Nat.le_of_ble_eq_true rfl) (m_5 (by decide)) rfl rfl rfl rfl rfl (Nat.le_of_ble_eq_true rfl) d_Ef_call_89 ⟨Nat.zero_le _, Nat.zero_le _⟩ ?_
    generalize hq3 : s_Gs_clear gk2 gl2 gh2 0 1 = q3
    obtain ⟨gk3, gl3, gh3⟩ := q3
    refine x_lets ?_
    dsimp only
    refine x_aload_n 0 C d_Ef_call_92 rfl rfl ?_
    refine x_get (i := (10, 0)) (v := (.ref (ad (5, 0)))) 0 C m_10 rfl rfl i_Ef (by decide) (List.mem_cons_of_mem _ q_129) rfl d_Ef_call_93 ?_
    refine x_iconst (v := 2) C d_Ef_call_96 (by decide) ?_
    refine x_cv0 (i := (5, 0)) (F := x_F ad cA) (As := [(.int 2)]) (rest := []) C k_Gs_clear q_671 (c_Gs_clear ok 0 (by decide) 2 (x_vin (by decide))) rfl rfl rfl (Nat.le_of_ble_eq_true rfl) (Nat.le_of_ble_eq_true rfl) (m_5 (by decide)) rfl rfl rfl rfl rfl (Nat.le_of_ble_eq_true rfl) d_Ef_call_97 ⟨Nat.zero_le _, Nat.zero_le _⟩ ?_
    generalize hq4 : s_Gs_clear gk3 gl3 gh3 0 2 = q4
    obtain ⟨gk4, gl4, gh4⟩ := q4
    refine x_lets ?_
    dsimp only
    refine x_aload_n 0 C d_Ef_call_100 rfl rfl ?_
    refine x_get (i := (10, 0)) (v := (.ref (ad (5, 0)))) 0 C m_10 rfl rfl i_Ef (by decide) (List.mem_cons_of_mem _ q_129) rfl d_Ef_call_101 ?_
    refine x_iconst (v := 3) C d_Ef_call_104 (by decide) ?_
    refine x_cv0 (i := (5, 0)) (F := x_F ad cA) (As := [(.int 3)]) (rest := []) C k_Gs_clear q_671 (c_Gs_clear ok 0 (by decide) 3 (x_vin (by decide))) rfl rfl rfl (Nat.le_of_ble_eq_true rfl) (Nat.le_of_ble_eq_true rfl) (m_5 (by decide)) rfl rfl rfl rfl rfl (Nat.le_of_ble_eq_true rfl) d_Ef_call_105 ⟨Nat.zero_le _, Nat.zero_le _⟩ ?_
    generalize hq5 : s_Gs_clear gk4 gl4 gh4 0 3 = q5
    obtain ⟨gk5, gl5, gh5⟩ := q5
    refine x_lets ?_
    dsimp only
    exact x_vret C hr hlk rfl d_Ef_call_108
  · refine x_iload_n 1 C d_Ef_call_19 rfl rfl ?_
    refine x_iconst (v := 1) C d_Ef_call_20 (by decide) ?_
    refine x_icmp_ne 38 C d_Ef_call_21 (by decide) (fun z6 => ?_) (fun z6 => ?_)
    · refine x_aload_n 0 C d_Ef_call_24 rfl rfl ?_
      refine x_get (i := (10, 0)) (v := (.ref (ad (5, 0)))) 0 C m_10 rfl rfl i_Ef (by decide) (List.mem_cons_of_mem _ q_129) rfl d_Ef_call_25 ?_
      refine x_iconst (v := 0) C d_Ef_call_28 (by decide) ?_
      refine x_iconst (v := 4) C d_Ef_call_29 (by decide) ?_
      refine x_lconst (v := 0) C d_Ef_call_30 (by decide) ?_
      refine x_lconst (v := 0) C d_Ef_call_31 (by decide) ?_
      refine x_cv0 (i := (5, 0)) (F := x_F ad cA) (As := [(.int 0), (.int 4), (.long 0), (.long 0)]) (rest := []) C k_Gs_set q_614 (c_Gs_set ok 0 (by decide) 0 4 0 0 (x_vin (by decide))) rfl rfl rfl (Nat.le_of_ble_eq_true rfl) (Nat.le_of_ble_eq_true rfl) (m_5 (by decide)) rfl rfl rfl rfl rfl (Nat.le_of_ble_eq_true rfl) d_Ef_call_32 ⟨Nat.zero_le _, Nat.zero_le _⟩ ?_
      generalize hq7 : s_Gs_set gk gl gh 0 0 4 0 0 = q7
      obtain ⟨gk7, gl7, gh7⟩ := q7
      refine x_lets ?_
      dsimp only
      refine x_goto 84 C d_Ef_call_35 (by decide) ?_
      refine x_aload_n 0 C d_Ef_call_84 rfl rfl ?_
      refine x_get (i := (10, 0)) (v := (.ref (ad (5, 0)))) 0 C m_10 rfl rfl i_Ef (by decide) (List.mem_cons_of_mem _ q_129) rfl d_Ef_call_85 ?_
      refine x_iconst (v := 1) C d_Ef_call_88 (by decide) ?_
      refine x_cv0 (i := (5, 0)) (F := x_F ad cA) (As := [(.int 1)]) (rest := []) C k_Gs_clear q_671 (c_Gs_clear ok 0 (by decide) 1 (x_vin (by decide))) rfl rfl rfl (Nat.le_of_ble_eq_true rfl) (Nat.le_of_ble_eq_true rfl) (m_5 (by decide)) rfl rfl rfl rfl rfl (Nat.le_of_ble_eq_true rfl) d_Ef_call_89 ⟨Nat.zero_le _, Nat.zero_le _⟩ ?_
      generalize hq8 : s_Gs_clear gk7 gl7 gh7 0 1 = q8
      obtain ⟨gk8, gl8, gh8⟩ := q8
      refine x_lets ?_
      dsimp only
      refine x_aload_n 0 C d_Ef_call_92 rfl rfl ?_
      refine x_get (i := (10, 0)) (v := (.ref (ad (5, 0)))) 0 C m_10 rfl rfl i_Ef (by decide) (List.mem_cons_of_mem _ q_129) rfl d_Ef_call_93 ?_
      refine x_iconst (v := 2) C d_Ef_call_96 (by decide) ?_
      refine x_cv0 (i := (5, 0)) (F := x_F ad cA) (As := [(.int 2)]) (rest := []) C k_Gs_clear q_671 (c_Gs_clear ok 0 (by decide) 2 (x_vin (by decide))) rfl rfl rfl (Nat.le_of_ble_eq_true rfl) (Nat.le_of_ble_eq_true rfl) (m_5 (by decide)) rfl rfl rfl rfl rfl (Nat.le_of_ble_eq_true rfl) d_Ef_call_97 ⟨Nat.zero_le _, Nat.zero_le _⟩ ?_
      generalize hq9 : s_Gs_clear gk8 gl8 gh8 0 2 = q9
      obtain ⟨gk9, gl9, gh9⟩ := q9
      refine x_lets ?_
      dsimp only
      refine x_aload_n 0 C d_Ef_call_100 rfl rfl ?_
      refine x_get (i := (10, 0)) (v := (.ref (ad (5, 0)))) 0 C m_10 rfl rfl i_Ef (by decide) (List.mem_cons_of_mem _ q_129) rfl d_Ef_call_101 ?_
      refine x_iconst (v := 3) C d_Ef_call_104 (by decide) ?_
      refine x_cv0 (i := (5, 0)) (F := x_F ad cA) (As := [(.int 3)]) (rest := []) C k_Gs_clear q_671 (c_Gs_clear ok 0 (by decide) 3 (x_vin (by decide))) rfl rfl rfl (Nat.le_of_ble_eq_true rfl) (Nat.le_of_ble_eq_true rfl) (m_5 (by decide)) rfl rfl rfl rfl rfl (Nat.le_of_ble_eq_true rfl) d_Ef_call_105 ⟨Nat.zero_le _, Nat.zero_le _⟩ ?_
      generalize hq10 : s_Gs_clear gk9 gl9 gh9 0 3 = q10
      obtain ⟨gk10, gl10, gh10⟩ := q10
      refine x_lets ?_
      dsimp only
      exact x_vret C hr hlk rfl d_Ef_call_108
    · refine x_aload_n 0 C d_Ef_call_38 rfl rfl ?_
      refine x_get (i := (10, 0)) (v := (.ref (ad (5, 0)))) 0 C m_10 rfl rfl i_Ef (by decide) (List.mem_cons_of_mem _ q_129) rfl d_Ef_call_39 ?_
      refine x_iconst (v := 0) C d_Ef_call_42 (by decide) ?_
      refine x_aload_n 0 C d_Ef_call_43 rfl rfl ?_
      refine x_get (i := (10, 0)) (v := (.ref (ad (5, 0)))) 0 C m_10 rfl rfl i_Ef (by decide) (List.mem_cons_of_mem _ q_129) rfl d_Ef_call_44 ?_
      refine x_iconst (v := 1) C d_Ef_call_47 (by decide) ?_
      refine x_cv (i := (5, 0)) (F := x_F ad cA) (As := [(.int 1)]) (rest := [(.int 0), (.ref (ad (5, 0)))]) C k_Gs_lo q_607 (c_Gs_lo ok 0 (by decide) 1 (x_vin (by decide))) rfl rfl rfl (Nat.le_of_ble_eq_true rfl) (Nat.le_of_ble_eq_true rfl) (m_5 (by decide)) rfl rfl rfl rfl rfl (Nat.le_of_ble_eq_true rfl) d_Ef_call_48 ⟨Nat.zero_le _, Nat.zero_le _⟩ ?_
      generalize hq11 : s_Gs_lo gl 0 1 = r11
      refine x_lets ?_
      refine x_aload_n 0 C d_Ef_call_51 rfl rfl ?_
      refine x_get (i := (10, 0)) (v := (.ref (ad (5, 0)))) 0 C m_10 rfl rfl i_Ef (by decide) (List.mem_cons_of_mem _ q_129) rfl d_Ef_call_52 ?_
      refine x_iconst (v := 2) C d_Ef_call_55 (by decide) ?_
      refine x_cv (i := (5, 0)) (F := x_F ad cA) (As := [(.int 2)]) (rest := [(.long r11), (.int 0), (.ref (ad (5, 0)))]) C k_Gs_lo q_607 (c_Gs_lo ok 0 (by decide) 2 (x_vin (by decide))) rfl rfl rfl (Nat.le_of_ble_eq_true rfl) (Nat.le_of_ble_eq_true rfl) (m_5 (by decide)) rfl rfl rfl rfl rfl (Nat.le_of_ble_eq_true rfl) d_Ef_call_56 ⟨Nat.zero_le _, Nat.zero_le _⟩ ?_
      generalize hq12 : s_Gs_lo gl 0 2 = r12
      refine x_lets ?_
      refine x_maxl C (List.mem_cons_of_mem _ q_670) (List.mem_cons_of_mem _ q_551) (List.mem_cons_of_mem _ q_16) (List.mem_cons_of_mem _ q_552) (Nat.le_of_ble_eq_true rfl) (Nat.le_of_ble_eq_true rfl) (Nat.zero_le _) (Nat.zero_le _) d_Ef_call_59 ?_
      refine x_aload_n 0 C d_Ef_call_62 rfl rfl ?_
      refine x_get (i := (10, 0)) (v := (.ref (ad (5, 0)))) 0 C m_10 rfl rfl i_Ef (by decide) (List.mem_cons_of_mem _ q_129) rfl d_Ef_call_63 ?_
      refine x_iconst (v := 1) C d_Ef_call_66 (by decide) ?_
      refine x_cv (i := (5, 0)) (F := x_F ad cA) (As := [(.int 1)]) (rest := [(.long (if r12 < r11 then r11 else r12)), (.int 0), (.ref (ad (5, 0)))]) C k_Gs_hi q_608 (c_Gs_hi ok 0 (by decide) 1 (x_vin (by decide))) rfl rfl rfl (Nat.le_of_ble_eq_true rfl) (Nat.le_of_ble_eq_true rfl) (m_5 (by decide)) rfl rfl rfl rfl rfl (Nat.le_of_ble_eq_true rfl) d_Ef_call_67 ⟨Nat.zero_le _, Nat.zero_le _⟩ ?_
      generalize hq13 : s_Gs_hi gh 0 1 = r13
      refine x_lets ?_
      refine x_aload_n 0 C d_Ef_call_70 rfl rfl ?_
      refine x_get (i := (10, 0)) (v := (.ref (ad (5, 0)))) 0 C m_10 rfl rfl i_Ef (by decide) (List.mem_cons_of_mem _ q_129) rfl d_Ef_call_71 ?_
      refine x_iconst (v := 2) C d_Ef_call_74 (by decide) ?_
      refine x_cv (i := (5, 0)) (F := x_F ad cA) (As := [(.int 2)]) (rest := [(.long r13), (.long (if r12 < r11 then r11 else r12)), (.int 0), (.ref (ad (5, 0)))]) C k_Gs_hi q_608 (c_Gs_hi ok 0 (by decide) 2 (x_vin (by decide))) rfl rfl rfl (Nat.le_of_ble_eq_true rfl) (Nat.le_of_ble_eq_true rfl) (m_5 (by decide)) rfl rfl rfl rfl rfl (Nat.le_of_ble_eq_true rfl) d_Ef_call_75 ⟨Nat.zero_le _, Nat.zero_le _⟩ ?_
      generalize hq14 : s_Gs_hi gh 0 2 = r14
      refine x_lets ?_
      refine x_maxl C (List.mem_cons_of_mem _ q_670) (List.mem_cons_of_mem _ q_551) (List.mem_cons_of_mem _ q_16) (List.mem_cons_of_mem _ q_552) (Nat.le_of_ble_eq_true rfl) (Nat.le_of_ble_eq_true rfl) (Nat.zero_le _) (Nat.zero_le _) d_Ef_call_78 ?_
      refine x_cv0 (i := (5, 0)) (F := x_F ad cA) (As := [(.int 0), (.long (if r12 < r11 then r11 else r12)), (.long (if r14 < r13 then r13 else r14))]) (rest := []) C k_Gs_setRange q_598 (c_Gs_setRange ok 0 (by decide) 0 (if r12 < r11 then r11 else r12) (if r14 < r13 then r13 else r14) (x_vin (by decide))) rfl rfl rfl (Nat.le_of_ble_eq_true rfl) (Nat.le_of_ble_eq_true rfl) (m_5 (by decide)) rfl rfl rfl rfl rfl (Nat.le_of_ble_eq_true rfl) d_Ef_call_81 ⟨Nat.zero_le _, Nat.zero_le _⟩ ?_
      generalize hq15 : s_Gs_setRange gk gl gh 0 0 (if r12 < r11 then r11 else r12) (if r14 < r13 then r13 else r14) = q15
      obtain ⟨gk15, gl15, gh15⟩ := q15
      refine x_lets ?_
      dsimp only
      refine x_aload_n 0 C d_Ef_call_84 rfl rfl ?_
      refine x_get (i := (10, 0)) (v := (.ref (ad (5, 0)))) 0 C m_10 rfl rfl i_Ef (by decide) (List.mem_cons_of_mem _ q_129) rfl d_Ef_call_85 ?_
      refine x_iconst (v := 1) C d_Ef_call_88 (by decide) ?_
      refine x_cv0 (i := (5, 0)) (F := x_F ad cA) (As := [(.int 1)]) (rest := []) C k_Gs_clear q_671 (c_Gs_clear ok 0 (by decide) 1 (x_vin (by decide))) rfl rfl rfl (Nat.le_of_ble_eq_true rfl) (Nat.le_of_ble_eq_true rfl) (m_5 (by decide)) rfl rfl rfl rfl rfl (Nat.le_of_ble_eq_true rfl) d_Ef_call_89 ⟨Nat.zero_le _, Nat.zero_le _⟩ ?_
      generalize hq16 : s_Gs_clear gk15 gl15 gh15 0 1 = q16
      obtain ⟨gk16, gl16, gh16⟩ := q16
      refine x_lets ?_
      dsimp only
      refine x_aload_n 0 C d_Ef_call_92 rfl rfl ?_
      refine x_get (i := (10, 0)) (v := (.ref (ad (5, 0)))) 0 C m_10 rfl rfl i_Ef (by decide) (List.mem_cons_of_mem _ q_129) rfl d_Ef_call_93 ?_
      refine x_iconst (v := 2) C d_Ef_call_96 (by decide) ?_
      refine x_cv0 (i := (5, 0)) (F := x_F ad cA) (As := [(.int 2)]) (rest := []) C k_Gs_clear q_671 (c_Gs_clear ok 0 (by decide) 2 (x_vin (by decide))) rfl rfl rfl (Nat.le_of_ble_eq_true rfl) (Nat.le_of_ble_eq_true rfl) (m_5 (by decide)) rfl rfl rfl rfl rfl (Nat.le_of_ble_eq_true rfl) d_Ef_call_97 ⟨Nat.zero_le _, Nat.zero_le _⟩ ?_
      generalize hq17 : s_Gs_clear gk16 gl16 gh16 0 2 = q17
      obtain ⟨gk17, gl17, gh17⟩ := q17
      refine x_lets ?_
      dsimp only
      refine x_aload_n 0 C d_Ef_call_100 rfl rfl ?_
      refine x_get (i := (10, 0)) (v := (.ref (ad (5, 0)))) 0 C m_10 rfl rfl i_Ef (by decide) (List.mem_cons_of_mem _ q_129) rfl d_Ef_call_101 ?_
      refine x_iconst (v := 3) C d_Ef_call_104 (by decide) ?_
      refine x_cv0 (i := (5, 0)) (F := x_F ad cA) (As := [(.int 3)]) (rest := []) C k_Gs_clear q_671 (c_Gs_clear ok 0 (by decide) 3 (x_vin (by decide))) rfl rfl rfl (Nat.le_of_ble_eq_true rfl) (Nat.le_of_ble_eq_true rfl) (m_5 (by decide)) rfl rfl rfl rfl rfl (Nat.le_of_ble_eq_true rfl) d_Ef_call_105 ⟨Nat.zero_le _, Nat.zero_le _⟩ ?_
      generalize hq18 : s_Gs_clear gk17 gl17 gh17 0 3 = q18
      obtain ⟨gk18, gl18, gh18⟩ := q18
      refine x_lets ?_
      dsimp only
      exact x_vret C hr hlk rfl d_Ef_call_108
def s_Ef_follow (stp : Nat → Nat → Int32) (gk : Nat → Nat → Int32) (gl : Nat → Nat → Int64) (gh : Nat → Nat → Int64) (j : Nat) : (Nat → Nat → Int32) × (Nat → Nat → Int64) × (Nat → Nat → Int64) :=
  (if (stp j 0) = 0 then (x_let (s_Gs_setRange gk gl gh 0 (stp j 1) (Int32.toInt64 (stp j 3)) (Int32.toInt64 (stp j 3))) fun (gk2, gl2, gh2) => (gk2, gl2, gh2)) else if (stp j 0) = 1 then (x_let (s_Gs_copy gk gl gh 0 (stp j 1) (stp j 2)) fun (gk4, gl4, gh4) => (gk4, gl4, gh4)) else if (stp j 0) = 2 then (x_let (s_Ef_move gk gl gh (stp j 1) (Int32.toInt64 (stp j 3)) (Int32.toInt64 (stp j 3))) fun (gk6, gl6, gh6) => (gk6, gl6, gh6)) else if (stp j 0) = 3 then (x_let (s_Gs_lo gl 0 (stp j 2)) fun r8 => (x_let (s_Gs_hi gh 0 (stp j 2)) fun r9 => (x_let (s_Ef_move gk gl gh (stp j 1) r8 r9) fun (gk10, gl10, gh10) => (gk10, gl10, gh10)))) else if (stp j 0) = 4 then (x_let (s_Gs_lo gl 0 (stp j 2)) fun r12 => (x_let (s_Gs_hi gh 0 (stp j 2)) fun r13 => (x_let (s_Ef_subtract gk gl gh (stp j 1) r12 r13) fun (gk14, gl14, gh14) => (gk14, gl14, gh14)))) else if (stp j 0) = 5 then (x_let (s_Ef_multiply gk gl gh (stp j 1) (Int32.toInt64 (stp j 3))) fun (gk16, gl16, gh16) => (gk16, gl16, gh16)) else if (stp j 0) = 6 then (x_let (s_Ef_mask gk gl gh (stp j 1) (Int32.toInt64 (stp j 3))) fun (gk18, gl18, gh18) => (gk18, gl18, gh18)) else if (stp j 0) = 7 then (x_let (s_Gs_lo gl 0 (stp j 1)) fun r20 => (x_let (s_Gs_hi gh 0 (stp j 1)) fun r21 => (x_let (s_Gs_setRange gk gl gh 0 (stp j 1) (r20 >>> (Int32.toInt64 (stp j 3) &&& 63)) (r21 >>> (Int32.toInt64 (stp j 3) &&& 63))) fun (gk22, gl22, gh22) => (gk22, gl22, gh22)))) else if (stp j 0) = 8 then (x_let (s_Ef_divide gk gl gh (stp j 1) (Int32.toInt64 (stp j 3))) fun (gk24, gl24, gh24) => (gk24, gl24, gh24)) else if (stp j 0) = 9 then (x_let (s_Ef_negate gk gl gh (stp j 1)) fun (gk26, gl26, gh26) => (gk26, gl26, gh26)) else if (stp j 0) = 14 then (x_let (s_Ef_load stp gk gl gh j) fun (gk28, gl28, gh28) => (gk28, gl28, gh28)) else if (stp j 0) = 15 then (x_let (s_Ef_store stp gk gl gh j) fun (gk30, gl30, gh30) => (gk30, gl30, gh30)) else if (stp j 0) = 16 then (x_let (s_Ef_call gk gl gh (stp j 3)) fun (gk32, gl32, gh32) => (gk32, gl32, gh32)) else (gk, gl, gh))
set_option maxHeartbeats 4000000 in
set_option maxRecDepth 100000 in
theorem c_Ef_follow {l : Launch} {D : va_G} {cA : Nat → ClassId} {ad : x_I → Nat} (ok : x_ok (x_k D cA ad)) {stp : Nat → Nat → Int32} {psz : Int32} {gk : Nat → Nat → Int32} {gl : Nat → Nat → Int64} {gh : Nat → Nat → Int64} {opn : Nat → Int32} {cki : Nat → Int32} {ckl : Nat → Int64} {mp : Nat → Nat → Int64} {rk : Nat → Int32} {rv : Nat → Int64} {ri : Nat → Int32} {chk : Int32} {mo : Nat → Nat → Int32} {mi : Nat → Int32} {ml : Nat → Int64} {mk : Nat → Int32} {mlo : Nat → Int64} {mhi : Nat → Int64} {pk : Nat → Int32} {ps : Nat → Int32} {pl : Nat → Int64} {ph : Nat → Int64} {mm : Nat → Int64} {out : Nat → Int64} (j : Nat) (hj : j < 24) (hw : x_wf stp) : x_M l y_Ef_follow (Cond.code y_Ef_follow b_Ef_follow 3 (Option.none : Option Jvm.ClassFile.FieldType) :: x_Wd) { frames := 3, cells := 0, slots := 0, locals := 80 } (x_k D cA ad) (x_F ad cA) [(.ref (ad (10, 0))), (.ref (ad (3, j)))] ((stp, psz, gk, gl, gh, opn, cki, ckl, mp, rk, rv, ri, chk), (mo, mi, ml, mk, mlo, mhi, pk, ps, pl, ph, mm), out) ((fun q : (Nat → Nat → Int32) × (Nat → Nat → Int64) × (Nat → Nat → Int64) => ((none, ((stp, psz, q.1, q.2.1, q.2.2, opn, cki, ckl, mp, rk, rv, ri, chk), (mo, mi, ml, mk, mlo, mhi, pk, ps, pl, ph, mm), out)) : Option Value × x_S)) (s_Ef_follow stp gk gl gh j)) 0 0 := by
  refine x_start (κ := x_k D cA ad) (cc := b_Ef_follow) (F := x_F ad cA) (wr := (fun q : (Nat → Nat → Int32) × (Nat → Nat → Int64) × (Nat → Nat → Int64) => ((none, ((stp, psz, q.1, q.2.1, q.2.2, opn, cki, ckl, mp, rk, rv, ri, chk), (mo, mi, ml, mk, mlo, mhi, pk, ps, pl, ph, mm), out)) : Option Value × x_S))) (q := s_Ef_follow stp gk gl gh j) (ret := (Option.none : Option Jvm.ClassFile.FieldType)) (lv0 := [(0, (.ref (ad (10, 0)))), (1, (.ref (ad (3, j))))]) ok (by decide) rfl (Nat.le_of_ble_eq_true rfl) rfl ?_
  intro p e s m below meth c C hr hlk
  unfold s_Ef_follow
  refine x_aload_n 1 C d_Ef_follow_0 rfl rfl ?_
  refine x_get (i := (3, j)) (v := (.int (stp j 1))) 1 C (m_3 hj) rfl rfl i_St (by decide) (List.mem_cons_of_mem _ q_48) rfl d_Ef_follow_1 ?_
  refine x_istore_n (lv' := [(2, (.int (stp j 1))), (0, (.ref (ad (10, 0)))), (1, (.ref (ad (3, j))))]) C d_Ef_follow_4 rfl (by decide) rfl ?_
  refine x_aload_n 2 C d_Ef_follow_5 rfl rfl ?_
  refine x_get (i := (3, j)) (v := (.int (stp j 0))) 0 C (m_3 hj) rfl rfl i_St (by decide) (List.mem_cons_of_mem _ q_43) rfl d_Ef_follow_6 ?_
  refine x_ite (fun z1 => ?_) (fun z1 => ?_)
  · refine x_tsw 92 C d_Ef_follow_9 (by rw [z1]; decide) (by rw [z1]; decide) (by rw [z1]; rfl) (by decide) ?_
    refine x_aload_n 1 C d_Ef_follow_92 rfl rfl ?_
    refine x_get (i := (10, 0)) (v := (.ref (ad (5, 0)))) 0 C m_10 rfl rfl i_Ef (by decide) (List.mem_cons_of_mem _ q_129) rfl d_Ef_follow_93 ?_
    refine x_iload_n 0 C d_Ef_follow_96 rfl rfl ?_
    refine x_aload_n 2 C d_Ef_follow_97 rfl rfl ?_
    refine x_get (i := (3, j)) (v := (.int (stp j 3))) 3 C (m_3 hj) rfl rfl i_St (by decide) (List.mem_cons_of_mem _ q_60) rfl d_Ef_follow_98 ?_
    refine x_i2l C d_Ef_follow_101 ?_
    refine x_aload_n 2 C d_Ef_follow_102 rfl rfl ?_
    refine x_get (i := (3, j)) (v := (.int (stp j 3))) 3 C (m_3 hj) rfl rfl i_St (by decide) (List.mem_cons_of_mem _ q_60) rfl d_Ef_follow_103 ?_
    refine x_i2l C d_Ef_follow_106 ?_
    refine x_cv0 (i := (5, 0)) (F := x_F ad cA) (As := [(.int (stp j 1)), (.long (Int32.toInt64 (stp j 3))), (.long (Int32.toInt64 (stp j 3)))]) (rest := []) C k_Gs_setRange q_598 (c_Gs_setRange ok 0 (by decide) (stp j 1) (Int32.toInt64 (stp j 3)) (Int32.toInt64 (stp j 3)) (x_wfd hw hj)) rfl rfl rfl (Nat.le_of_ble_eq_true rfl) (Nat.le_of_ble_eq_true rfl) (m_5 (by decide)) rfl rfl rfl rfl rfl (Nat.le_of_ble_eq_true rfl) d_Ef_follow_107 ⟨Nat.zero_le _, Nat.zero_le _⟩ ?_
    generalize hq2 : s_Gs_setRange gk gl gh 0 (stp j 1) (Int32.toInt64 (stp j 3)) (Int32.toInt64 (stp j 3)) = q2
    obtain ⟨gk2, gl2, gh2⟩ := q2
    refine x_lets ?_
    dsimp only
    refine x_goto 317 C d_Ef_follow_110 (by decide) ?_
    exact x_vret C hr hlk rfl d_Ef_follow_317
  refine x_ite (fun z3 => ?_) (fun z3 => ?_)
  · refine x_tsw 113 C d_Ef_follow_9 (by rw [z3]; decide) (by rw [z3]; decide) (by rw [z3]; rfl) (by decide) ?_
    refine x_aload_n 1 C d_Ef_follow_113 rfl rfl ?_
    refine x_get (i := (10, 0)) (v := (.ref (ad (5, 0)))) 0 C m_10 rfl rfl i_Ef (by decide) (List.mem_cons_of_mem _ q_129) rfl d_Ef_follow_114 ?_
    refine x_iload_n 0 C d_Ef_follow_117 rfl rfl ?_
    refine x_aload_n 2 C d_Ef_follow_118 rfl rfl ?_
    refine x_get (i := (3, j)) (v := (.int (stp j 2))) 2 C (m_3 hj) rfl rfl i_St (by decide) (List.mem_cons_of_mem _ q_54) rfl d_Ef_follow_119 ?_
    refine x_cv0 (i := (5, 0)) (F := x_F ad cA) (As := [(.int (stp j 1)), (.int (stp j 2))]) (rest := []) C k_Gs_copy q_599 (c_Gs_copy ok 0 (by decide) (stp j 1) (stp j 2) (x_wfd hw hj) (x_wfs hw hj)) rfl rfl rfl (Nat.le_of_ble_eq_true rfl) (Nat.le_of_ble_eq_true rfl) (m_5 (by decide)) rfl rfl rfl rfl rfl (Nat.le_of_ble_eq_true rfl) d_Ef_follow_122 ⟨Nat.zero_le _, Nat.zero_le _⟩ ?_
    generalize hq4 : s_Gs_copy gk gl gh 0 (stp j 1) (stp j 2) = q4
    obtain ⟨gk4, gl4, gh4⟩ := q4
    refine x_lets ?_
    dsimp only
    refine x_goto 317 C d_Ef_follow_125 (by decide) ?_
    exact x_vret C hr hlk rfl d_Ef_follow_317
  refine x_ite (fun z5 => ?_) (fun z5 => ?_)
  · refine x_tsw 128 C d_Ef_follow_9 (by rw [z5]; decide) (by rw [z5]; decide) (by rw [z5]; rfl) (by decide) ?_
    refine x_aload_n 1 C d_Ef_follow_128 rfl rfl ?_
    refine x_iload_n 0 C d_Ef_follow_129 rfl rfl ?_
    refine x_aload_n 2 C d_Ef_follow_130 rfl rfl ?_
    refine x_get (i := (3, j)) (v := (.int (stp j 3))) 3 C (m_3 hj) rfl rfl i_St (by decide) (List.mem_cons_of_mem _ q_60) rfl d_Ef_follow_131 ?_
    refine x_i2l C d_Ef_follow_134 ?_
    refine x_aload_n 2 C d_Ef_follow_135 rfl rfl ?_
    refine x_get (i := (3, j)) (v := (.int (stp j 3))) 3 C (m_3 hj) rfl rfl i_St (by decide) (List.mem_cons_of_mem _ q_60) rfl d_Ef_follow_136 ?_
    refine x_i2l C d_Ef_follow_139 ?_
    refine x_cv0 (i := (10, 0)) (F := x_F ad cA) (As := [(.int (stp j 1)), (.long (Int32.toInt64 (stp j 3))), (.long (Int32.toInt64 (stp j 3)))]) (rest := []) C k_Ef_move q_603 (c_Ef_move ok (stp j 1) (Int32.toInt64 (stp j 3)) (Int32.toInt64 (stp j 3)) (x_wfd hw hj)) rfl rfl rfl (Nat.le_of_ble_eq_true rfl) (Nat.le_of_ble_eq_true rfl) m_10 rfl rfl rfl rfl rfl (Nat.le_of_ble_eq_true rfl) d_Ef_follow_140 ⟨Nat.zero_le _, Nat.zero_le _⟩ ?_
    generalize hq6 : s_Ef_move gk gl gh (stp j 1) (Int32.toInt64 (stp j 3)) (Int32.toInt64 (stp j 3)) = q6
    obtain ⟨gk6, gl6, gh6⟩ := q6
    refine x_lets ?_
    dsimp only
    refine x_goto 317 C d_Ef_follow_143 (by decide) ?_
    exact x_vret C hr hlk rfl d_Ef_follow_317
  refine x_ite (fun z7 => ?_) (fun z7 => ?_)
  · refine x_tsw 146 C d_Ef_follow_9 (by rw [z7]; decide) (by rw [z7]; decide) (by rw [z7]; rfl) (by decide) ?_
    refine x_aload_n 1 C d_Ef_follow_146 rfl rfl ?_
    refine x_iload_n 0 C d_Ef_follow_147 rfl rfl ?_
    refine x_aload_n 1 C d_Ef_follow_148 rfl rfl ?_
    refine x_get (i := (10, 0)) (v := (.ref (ad (5, 0)))) 0 C m_10 rfl rfl i_Ef (by decide) (List.mem_cons_of_mem _ q_129) rfl d_Ef_follow_149 ?_
    refine x_aload_n 2 C d_Ef_follow_152 rfl rfl ?_
    refine x_get (i := (3, j)) (v := (.int (stp j 2))) 2 C (m_3 hj) rfl rfl i_St (by decide) (List.mem_cons_of_mem _ q_54) rfl d_Ef_follow_153 ?_
    refine x_cv (i := (5, 0)) (F := x_F ad cA) (As := [(.int (stp j 2))]) (rest := [(.int (stp j 1)), (.ref (ad (10, 0)))]) C k_Gs_lo q_607 (c_Gs_lo ok 0 (by decide) (stp j 2) (x_wfs hw hj)) rfl rfl rfl (Nat.le_of_ble_eq_true rfl) (Nat.le_of_ble_eq_true rfl) (m_5 (by decide)) rfl rfl rfl rfl rfl (Nat.le_of_ble_eq_true rfl) d_Ef_follow_156 ⟨Nat.zero_le _, Nat.zero_le _⟩ ?_
    generalize hq8 : s_Gs_lo gl 0 (stp j 2) = r8
    refine x_lets ?_
    refine x_aload_n 1 C d_Ef_follow_159 rfl rfl ?_
    refine x_get (i := (10, 0)) (v := (.ref (ad (5, 0)))) 0 C m_10 rfl rfl i_Ef (by decide) (List.mem_cons_of_mem _ q_129) rfl d_Ef_follow_160 ?_
    refine x_aload_n 2 C d_Ef_follow_163 rfl rfl ?_
    refine x_get (i := (3, j)) (v := (.int (stp j 2))) 2 C (m_3 hj) rfl rfl i_St (by decide) (List.mem_cons_of_mem _ q_54) rfl d_Ef_follow_164 ?_
    refine x_cv (i := (5, 0)) (F := x_F ad cA) (As := [(.int (stp j 2))]) (rest := [(.long r8), (.int (stp j 1)), (.ref (ad (10, 0)))]) C k_Gs_hi q_608 (c_Gs_hi ok 0 (by decide) (stp j 2) (x_wfs hw hj)) rfl rfl rfl (Nat.le_of_ble_eq_true rfl) (Nat.le_of_ble_eq_true rfl) (m_5 (by decide)) rfl rfl rfl rfl rfl (Nat.le_of_ble_eq_true rfl) d_Ef_follow_167 ⟨Nat.zero_le _, Nat.zero_le _⟩ ?_
    generalize hq9 : s_Gs_hi gh 0 (stp j 2) = r9
    refine x_lets ?_
    refine x_cv0 (i := (10, 0)) (F := x_F ad cA) (As := [(.int (stp j 1)), (.long r8), (.long r9)]) (rest := []) C k_Ef_move q_603 (c_Ef_move ok (stp j 1) r8 r9 (x_wfd hw hj)) rfl rfl rfl (Nat.le_of_ble_eq_true rfl) (Nat.le_of_ble_eq_true rfl) m_10 rfl rfl rfl rfl rfl (Nat.le_of_ble_eq_true rfl) d_Ef_follow_170 ⟨Nat.zero_le _, Nat.zero_le _⟩ ?_
    generalize hq10 : s_Ef_move gk gl gh (stp j 1) r8 r9 = q10
    obtain ⟨gk10, gl10, gh10⟩ := q10
    refine x_lets ?_
    dsimp only
    refine x_goto 317 C d_Ef_follow_173 (by decide) ?_
    exact x_vret C hr hlk rfl d_Ef_follow_317
  refine x_ite (fun z11 => ?_) (fun z11 => ?_)
  · refine x_tsw 176 C d_Ef_follow_9 (by rw [z11]; decide) (by rw [z11]; decide) (by rw [z11]; rfl) (by decide) ?_
    refine x_aload_n 1 C d_Ef_follow_176 rfl rfl ?_
    refine x_iload_n 0 C d_Ef_follow_177 rfl rfl ?_
    refine x_aload_n 1 C d_Ef_follow_178 rfl rfl ?_
    refine x_get (i := (10, 0)) (v := (.ref (ad (5, 0)))) 0 C m_10 rfl rfl i_Ef (by decide) (List.mem_cons_of_mem _ q_129) rfl d_Ef_follow_179 ?_
    refine x_aload_n 2 C d_Ef_follow_182 rfl rfl ?_
    refine x_get (i := (3, j)) (v := (.int (stp j 2))) 2 C (m_3 hj) rfl rfl i_St (by decide) (List.mem_cons_of_mem _ q_54) rfl d_Ef_follow_183 ?_
    refine x_cv (i := (5, 0)) (F := x_F ad cA) (As := [(.int (stp j 2))]) (rest := [(.int (stp j 1)), (.ref (ad (10, 0)))]) C k_Gs_lo q_607 (c_Gs_lo ok 0 (by decide) (stp j 2) (x_wfs hw hj)) rfl rfl rfl (Nat.le_of_ble_eq_true rfl) (Nat.le_of_ble_eq_true rfl) (m_5 (by decide)) rfl rfl rfl rfl rfl (Nat.le_of_ble_eq_true rfl) d_Ef_follow_186 ⟨Nat.zero_le _, Nat.zero_le _⟩ ?_
    generalize hq12 : s_Gs_lo gl 0 (stp j 2) = r12
    refine x_lets ?_
    refine x_aload_n 1 C d_Ef_follow_189 rfl rfl ?_
    refine x_get (i := (10, 0)) (v := (.ref (ad (5, 0)))) 0 C m_10 rfl rfl i_Ef (by decide) (List.mem_cons_of_mem _ q_129) rfl d_Ef_follow_190 ?_
    refine x_aload_n 2 C d_Ef_follow_193 rfl rfl ?_
    refine x_get (i := (3, j)) (v := (.int (stp j 2))) 2 C (m_3 hj) rfl rfl i_St (by decide) (List.mem_cons_of_mem _ q_54) rfl d_Ef_follow_194 ?_
    refine x_cv (i := (5, 0)) (F := x_F ad cA) (As := [(.int (stp j 2))]) (rest := [(.long r12), (.int (stp j 1)), (.ref (ad (10, 0)))]) C k_Gs_hi q_608 (c_Gs_hi ok 0 (by decide) (stp j 2) (x_wfs hw hj)) rfl rfl rfl (Nat.le_of_ble_eq_true rfl) (Nat.le_of_ble_eq_true rfl) (m_5 (by decide)) rfl rfl rfl rfl rfl (Nat.le_of_ble_eq_true rfl) d_Ef_follow_197 ⟨Nat.zero_le _, Nat.zero_le _⟩ ?_
    generalize hq13 : s_Gs_hi gh 0 (stp j 2) = r13
    refine x_lets ?_
    refine x_cv0 (i := (10, 0)) (F := x_F ad cA) (As := [(.int (stp j 1)), (.long r12), (.long r13)]) (rest := []) C k_Ef_subtract q_615 (c_Ef_subtract ok (stp j 1) r12 r13 (x_wfd hw hj)) rfl rfl rfl (Nat.le_of_ble_eq_true rfl) (Nat.le_of_ble_eq_true rfl) m_10 rfl rfl rfl rfl rfl (Nat.le_of_ble_eq_true rfl) d_Ef_follow_200 ⟨Nat.zero_le _, Nat.zero_le _⟩ ?_
    generalize hq14 : s_Ef_subtract gk gl gh (stp j 1) r12 r13 = q14
    obtain ⟨gk14, gl14, gh14⟩ := q14
    refine x_lets ?_
    dsimp only
    refine x_goto 317 C d_Ef_follow_203 (by decide) ?_
    exact x_vret C hr hlk rfl d_Ef_follow_317
  refine x_ite (fun z15 => ?_) (fun z15 => ?_)
  · refine x_tsw 206 C d_Ef_follow_9 (by rw [z15]; decide) (by rw [z15]; decide) (by rw [z15]; rfl) (by decide) ?_
    refine x_aload_n 1 C d_Ef_follow_206 rfl rfl ?_
    refine x_iload_n 0 C d_Ef_follow_207 rfl rfl ?_
    refine x_aload_n 2 C d_Ef_follow_208 rfl rfl ?_
    refine x_get (i := (3, j)) (v := (.int (stp j 3))) 3 C (m_3 hj) rfl rfl i_St (by decide) (List.mem_cons_of_mem _ q_60) rfl d_Ef_follow_209 ?_
    refine x_i2l C d_Ef_follow_212 ?_
    refine x_cv0 (i := (10, 0)) (F := x_F ad cA) (As := [(.int (stp j 1)), (.long (Int32.toInt64 (stp j 3)))]) (rest := []) C k_Ef_multiply q_622 (c_Ef_multiply ok (stp j 1) (Int32.toInt64 (stp j 3)) (x_wfd hw hj)) rfl rfl rfl (Nat.le_of_ble_eq_true rfl) (Nat.le_of_ble_eq_true rfl) m_10 rfl rfl rfl rfl rfl (Nat.le_of_ble_eq_true rfl) d_Ef_follow_213 ⟨Nat.zero_le _, Nat.zero_le _⟩ ?_
    generalize hq16 : s_Ef_multiply gk gl gh (stp j 1) (Int32.toInt64 (stp j 3)) = q16
    obtain ⟨gk16, gl16, gh16⟩ := q16
    refine x_lets ?_
    dsimp only
    refine x_goto 317 C d_Ef_follow_216 (by decide) ?_
    exact x_vret C hr hlk rfl d_Ef_follow_317
  refine x_ite (fun z17 => ?_) (fun z17 => ?_)
  · refine x_tsw 219 C d_Ef_follow_9 (by rw [z17]; decide) (by rw [z17]; decide) (by rw [z17]; rfl) (by decide) ?_
    refine x_aload_n 1 C d_Ef_follow_219 rfl rfl ?_
    refine x_iload_n 0 C d_Ef_follow_220 rfl rfl ?_
    refine x_aload_n 2 C d_Ef_follow_221 rfl rfl ?_
    refine x_get (i := (3, j)) (v := (.int (stp j 3))) 3 C (m_3 hj) rfl rfl i_St (by decide) (List.mem_cons_of_mem _ q_60) rfl d_Ef_follow_222 ?_
    refine x_i2l C d_Ef_follow_225 ?_
    refine x_cv0 (i := (10, 0)) (F := x_F ad cA) (As := [(.int (stp j 1)), (.long (Int32.toInt64 (stp j 3)))]) (rest := []) C k_Ef_mask q_637 (c_Ef_mask ok (stp j 1) (Int32.toInt64 (stp j 3)) (x_wfd hw hj)) rfl rfl rfl (Nat.le_of_ble_eq_true rfl) (Nat.le_of_ble_eq_true rfl) m_10 rfl rfl rfl rfl rfl (Nat.le_of_ble_eq_true rfl) d_Ef_follow_226 ⟨Nat.zero_le _, Nat.zero_le _⟩ ?_
    generalize hq18 : s_Ef_mask gk gl gh (stp j 1) (Int32.toInt64 (stp j 3)) = q18
    obtain ⟨gk18, gl18, gh18⟩ := q18
    refine x_lets ?_
    dsimp only
    refine x_goto 317 C d_Ef_follow_229 (by decide) ?_
    exact x_vret C hr hlk rfl d_Ef_follow_317
  refine x_ite (fun z19 => ?_) (fun z19 => ?_)
  · refine x_tsw 232 C d_Ef_follow_9 (by rw [z19]; decide) (by rw [z19]; decide) (by rw [z19]; rfl) (by decide) ?_
    refine x_aload_n 1 C d_Ef_follow_232 rfl rfl ?_
    refine x_get (i := (10, 0)) (v := (.ref (ad (5, 0)))) 0 C m_10 rfl rfl i_Ef (by decide) (List.mem_cons_of_mem _ q_129) rfl d_Ef_follow_233 ?_
    refine x_iload_n 0 C d_Ef_follow_236 rfl rfl ?_
    refine x_aload_n 1 C d_Ef_follow_237 rfl rfl ?_
    refine x_get (i := (10, 0)) (v := (.ref (ad (5, 0)))) 0 C m_10 rfl rfl i_Ef (by decide) (List.mem_cons_of_mem _ q_129) rfl d_Ef_follow_238 ?_
    refine x_iload_n 0 C d_Ef_follow_241 rfl rfl ?_
    refine x_cv (i := (5, 0)) (F := x_F ad cA) (As := [(.int (stp j 1))]) (rest := [(.int (stp j 1)), (.ref (ad (5, 0)))]) C k_Gs_lo q_607 (c_Gs_lo ok 0 (by decide) (stp j 1) (x_wfd hw hj)) rfl rfl rfl (Nat.le_of_ble_eq_true rfl) (Nat.le_of_ble_eq_true rfl) (m_5 (by decide)) rfl rfl rfl rfl rfl (Nat.le_of_ble_eq_true rfl) d_Ef_follow_242 ⟨Nat.zero_le _, Nat.zero_le _⟩ ?_
    generalize hq20 : s_Gs_lo gl 0 (stp j 1) = r20
    refine x_lets ?_
    refine x_aload_n 2 C d_Ef_follow_245 rfl rfl ?_
    refine x_get (i := (3, j)) (v := (.int (stp j 3))) 3 C (m_3 hj) rfl rfl i_St (by decide) (List.mem_cons_of_mem _ q_60) rfl d_Ef_follow_246 ?_
    refine x_lshr C d_Ef_follow_249 ?_
    refine x_aload_n 1 C d_Ef_follow_250 rfl rfl ?_
    refine x_get (i := (10, 0)) (v := (.ref (ad (5, 0)))) 0 C m_10 rfl rfl i_Ef (by decide) (List.mem_cons_of_mem _ q_129) rfl d_Ef_follow_251 ?_
    refine x_iload_n 0 C d_Ef_follow_254 rfl rfl ?_
    refine x_cv (i := (5, 0)) (F := x_F ad cA) (As := [(.int (stp j 1))]) (rest := [(.long (r20 >>> (Int32.toInt64 (stp j 3) &&& 63))), (.int (stp j 1)), (.ref (ad (5, 0)))]) C k_Gs_hi q_608 (c_Gs_hi ok 0 (by decide) (stp j 1) (x_wfd hw hj)) rfl rfl rfl (Nat.le_of_ble_eq_true rfl) (Nat.le_of_ble_eq_true rfl) (m_5 (by decide)) rfl rfl rfl rfl rfl (Nat.le_of_ble_eq_true rfl) d_Ef_follow_255 ⟨Nat.zero_le _, Nat.zero_le _⟩ ?_
    generalize hq21 : s_Gs_hi gh 0 (stp j 1) = r21
    refine x_lets ?_
    refine x_aload_n 2 C d_Ef_follow_258 rfl rfl ?_
    refine x_get (i := (3, j)) (v := (.int (stp j 3))) 3 C (m_3 hj) rfl rfl i_St (by decide) (List.mem_cons_of_mem _ q_60) rfl d_Ef_follow_259 ?_
    refine x_lshr C d_Ef_follow_262 ?_
    refine x_cv0 (i := (5, 0)) (F := x_F ad cA) (As := [(.int (stp j 1)), (.long (r20 >>> (Int32.toInt64 (stp j 3) &&& 63))), (.long (r21 >>> (Int32.toInt64 (stp j 3) &&& 63)))]) (rest := []) C k_Gs_setRange q_598 (c_Gs_setRange ok 0 (by decide) (stp j 1) (r20 >>> (Int32.toInt64 (stp j 3) &&& 63)) (r21 >>> (Int32.toInt64 (stp j 3) &&& 63)) (x_wfd hw hj)) rfl rfl rfl (Nat.le_of_ble_eq_true rfl) (Nat.le_of_ble_eq_true rfl) (m_5 (by decide)) rfl rfl rfl rfl rfl (Nat.le_of_ble_eq_true rfl) d_Ef_follow_263 ⟨Nat.zero_le _, Nat.zero_le _⟩ ?_
    generalize hq22 : s_Gs_setRange gk gl gh 0 (stp j 1) (r20 >>> (Int32.toInt64 (stp j 3) &&& 63)) (r21 >>> (Int32.toInt64 (stp j 3) &&& 63)) = q22
    obtain ⟨gk22, gl22, gh22⟩ := q22
    refine x_lets ?_
    dsimp only
    refine x_goto 317 C d_Ef_follow_266 (by decide) ?_
    exact x_vret C hr hlk rfl d_Ef_follow_317
  refine x_ite (fun z23 => ?_) (fun z23 => ?_)
  · refine x_tsw 269 C d_Ef_follow_9 (by rw [z23]; decide) (by rw [z23]; decide) (by rw [z23]; rfl) (by decide) ?_
    refine x_aload_n 1 C d_Ef_follow_269 rfl rfl ?_
    refine x_iload_n 0 C d_Ef_follow_270 rfl rfl ?_
    refine x_aload_n 2 C d_Ef_follow_271 rfl rfl ?_
    refine x_get (i := (3, j)) (v := (.int (stp j 3))) 3 C (m_3 hj) rfl rfl i_St (by decide) (List.mem_cons_of_mem _ q_60) rfl d_Ef_follow_272 ?_
    refine x_i2l C d_Ef_follow_275 ?_
    refine x_cv0 (i := (10, 0)) (F := x_F ad cA) (As := [(.int (stp j 1)), (.long (Int32.toInt64 (stp j 3)))]) (rest := []) C k_Ef_divide q_642 (c_Ef_divide ok (stp j 1) (Int32.toInt64 (stp j 3)) (x_wfd hw hj)) rfl rfl rfl (Nat.le_of_ble_eq_true rfl) (Nat.le_of_ble_eq_true rfl) m_10 rfl rfl rfl rfl rfl (Nat.le_of_ble_eq_true rfl) d_Ef_follow_276 ⟨Nat.zero_le _, Nat.zero_le _⟩ ?_
    generalize hq24 : s_Ef_divide gk gl gh (stp j 1) (Int32.toInt64 (stp j 3)) = q24
    obtain ⟨gk24, gl24, gh24⟩ := q24
    refine x_lets ?_
    dsimp only
    refine x_goto 317 C d_Ef_follow_279 (by decide) ?_
    exact x_vret C hr hlk rfl d_Ef_follow_317
  refine x_ite (fun z25 => ?_) (fun z25 => ?_)
  · refine x_tsw 282 C d_Ef_follow_9 (by rw [z25]; decide) (by rw [z25]; decide) (by rw [z25]; rfl) (by decide) ?_
    refine x_aload_n 1 C d_Ef_follow_282 rfl rfl ?_
    refine x_iload_n 0 C d_Ef_follow_283 rfl rfl ?_
    refine x_cv0 (i := (10, 0)) (F := x_F ad cA) (As := [(.int (stp j 1))]) (rest := []) C k_Ef_negate q_648 (c_Ef_negate ok (stp j 1) (x_wfd hw hj)) rfl rfl rfl (Nat.le_of_ble_eq_true rfl) (Nat.le_of_ble_eq_true rfl) m_10 rfl rfl rfl rfl rfl (Nat.le_of_ble_eq_true rfl) d_Ef_follow_284 ⟨Nat.zero_le _, Nat.zero_le _⟩ ?_
    generalize hq26 : s_Ef_negate gk gl gh (stp j 1) = q26
    obtain ⟨gk26, gl26, gh26⟩ := q26
    refine x_lets ?_
    dsimp only
    refine x_goto 317 C d_Ef_follow_287 (by decide) ?_
    exact x_vret C hr hlk rfl d_Ef_follow_317
  refine x_ite (fun z27 => ?_) (fun z27 => ?_)
  · refine x_tsw 290 C d_Ef_follow_9 (by rw [z27]; decide) (by rw [z27]; decide) (by rw [z27]; rfl) (by decide) ?_
    refine x_aload_n 1 C d_Ef_follow_290 rfl rfl ?_
    refine x_aload_n 2 C d_Ef_follow_291 rfl rfl ?_
    refine x_cv0 (i := (10, 0)) (F := x_F ad cA) (As := [(.ref (ad (3, j)))]) (rest := []) C k_Ef_load q_652 (c_Ef_load ok j hj hw) rfl rfl rfl (Nat.le_of_ble_eq_true rfl) (Nat.le_of_ble_eq_true rfl) m_10 rfl rfl rfl rfl rfl (Nat.le_of_ble_eq_true rfl) d_Ef_follow_292 ⟨Nat.zero_le _, Nat.zero_le _⟩ ?_
    generalize hq28 : s_Ef_load stp gk gl gh j = q28
    obtain ⟨gk28, gl28, gh28⟩ := q28
    refine x_lets ?_
    dsimp only
    refine x_goto 317 C d_Ef_follow_295 (by decide) ?_
    exact x_vret C hr hlk rfl d_Ef_follow_317
  refine x_ite (fun z29 => ?_) (fun z29 => ?_)
  · refine x_tsw 298 C d_Ef_follow_9 (by rw [z29]; decide) (by rw [z29]; decide) (by rw [z29]; rfl) (by decide) ?_
    refine x_aload_n 1 C d_Ef_follow_298 rfl rfl ?_
    refine x_aload_n 2 C d_Ef_follow_299 rfl rfl ?_
    refine x_cv0 (i := (10, 0)) (F := x_F ad cA) (As := [(.ref (ad (3, j)))]) (rest := []) C k_Ef_store q_660 (c_Ef_store ok j hj hw) rfl rfl rfl (Nat.le_of_ble_eq_true rfl) (Nat.le_of_ble_eq_true rfl) m_10 rfl rfl rfl rfl rfl (Nat.le_of_ble_eq_true rfl) d_Ef_follow_300 ⟨Nat.zero_le _, Nat.zero_le _⟩ ?_
    generalize hq30 : s_Ef_store stp gk gl gh j = q30
    obtain ⟨gk30, gl30, gh30⟩ := q30
    refine x_lets ?_
    dsimp only
    refine x_goto 317 C d_Ef_follow_303 (by decide) ?_
    exact x_vret C hr hlk rfl d_Ef_follow_317
  refine x_ite (fun z31 => ?_) (fun z31 => ?_)
  · refine x_tsw 306 C d_Ef_follow_9 (by rw [z31]; decide) (by rw [z31]; decide) (by rw [z31]; rfl) (by decide) ?_
    refine x_aload_n 1 C d_Ef_follow_306 rfl rfl ?_
    refine x_aload_n 2 C d_Ef_follow_307 rfl rfl ?_
    refine x_get (i := (3, j)) (v := (.int (stp j 3))) 3 C (m_3 hj) rfl rfl i_St (by decide) (List.mem_cons_of_mem _ q_60) rfl d_Ef_follow_308 ?_
    refine x_cv0 (i := (10, 0)) (F := x_F ad cA) (As := [(.int (stp j 3))]) (rest := []) C k_Ef_call q_665 (c_Ef_call ok (stp j 3)) rfl rfl rfl (Nat.le_of_ble_eq_true rfl) (Nat.le_of_ble_eq_true rfl) m_10 rfl rfl rfl rfl rfl (Nat.le_of_ble_eq_true rfl) d_Ef_follow_311 ⟨Nat.zero_le _, Nat.zero_le _⟩ ?_
    generalize hq32 : s_Ef_call gk gl gh (stp j 3) = q32
    obtain ⟨gk32, gl32, gh32⟩ := q32
    refine x_lets ?_
    dsimp only
    refine x_goto 317 C d_Ef_follow_314 (by decide) ?_
    exact x_vret C hr hlk rfl d_Ef_follow_317
  refine x_tswE 317 [0, 1, 2, 3, 4, 5, 6, 7, 8, 9, 14, 15, 16] C d_Ef_follow_9 (by decide) (List.forall_mem_cons.mpr ⟨x_nik z1 (by decide), List.forall_mem_cons.mpr ⟨x_nik z3 (by decide), List.forall_mem_cons.mpr ⟨x_nik z5 (by decide), List.forall_mem_cons.mpr ⟨x_nik z7 (by decide), List.forall_mem_cons.mpr ⟨x_nik z11 (by decide), List.forall_mem_cons.mpr ⟨x_nik z15 (by decide), List.forall_mem_cons.mpr ⟨x_nik z17 (by decide), List.forall_mem_cons.mpr ⟨x_nik z19 (by decide), List.forall_mem_cons.mpr ⟨x_nik z23 (by decide), List.forall_mem_cons.mpr ⟨x_nik z25 (by decide), List.forall_mem_cons.mpr ⟨x_nik z27 (by decide), List.forall_mem_cons.mpr ⟨x_nik z29 (by decide), List.forall_mem_cons.mpr ⟨x_nik z31 (by decide), fun _ h => absurd h List.not_mem_nil⟩⟩⟩⟩⟩⟩⟩⟩⟩⟩⟩⟩⟩) (by decide) ?_
  exact x_vret C hr hlk rfl d_Ef_follow_317
