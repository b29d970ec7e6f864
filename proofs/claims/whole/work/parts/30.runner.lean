def s_CM_isInMap (a1 : Int32) (a2 : Int32) : Int32 :=
  (if a1 < 0 then (0) else (if 6 ≤ a1 then (0) else (if a2 < 0 then (0) else (if 2 ≤ a2 then (0) else (1)))))
set_option maxHeartbeats 4000000 in
set_option maxRecDepth 100000 in
theorem c_CM_isInMap {l : Launch} {D : va_G} {cA : Nat → ClassId} {ad : x_I → Nat} (ok : x_ok (x_k D cA ad)) {stp : Nat → Nat → Int32} {psz : Int32} {gk : Nat → Nat → Int32} {gl : Nat → Nat → Int64} {gh : Nat → Nat → Int64} {opn : Nat → Int32} {cki : Nat → Int32} {ckl : Nat → Int64} {mp : Nat → Nat → Int64} {rk : Nat → Int32} {rv : Nat → Int64} {ri : Nat → Int32} {chk : Int32} {mo : Nat → Nat → Int32} {mi : Nat → Int32} {ml : Nat → Int64} {mk : Nat → Int32} {mlo : Nat → Int64} {mhi : Nat → Int64} {pk : Nat → Int32} {ps : Nat → Int32} {pl : Nat → Int64} {ph : Nat → Int64} {mm : Nat → Int64} {out : Nat → Int64} (a1 : Int32) (a2 : Int32) : x_M l y_CM_isInMap (Cond.code y_CM_isInMap b_CM_isInMap 2 (Option.some Jvm.ClassFile.FieldType.boolean) :: x_Wd) { frames := 0, cells := 0, slots := 0, locals := 0 } (x_k D cA ad) (x_F ad cA) [(.int a1), (.int a2)] ((stp, psz, gk, gl, gh, opn, cki, ckl, mp, rk, rv, ri, chk), (mo, mi, ml, mk, mlo, mhi, pk, ps, pl, ph, mm), out) ((fun q : Int32 => ((some (.int (q)), ((stp, psz, gk, gl, gh, opn, cki, ckl, mp, rk, rv, ri, chk), (mo, mi, ml, mk, mlo, mhi, pk, ps, pl, ph, mm), out)) : Option Value × x_S)) (s_CM_isInMap a1 a2)) 0 0 := by
  refine x_start (κ := x_k D cA ad) (cc := b_CM_isInMap) (F := x_F ad cA) (wr := (fun q : Int32 => ((some (.int (q)), ((stp, psz, gk, gl, gh, opn, cki, ckl, mp, rk, rv, ri, chk), (mo, mi, ml, mk, mlo, mhi, pk, ps, pl, ph, mm), out)) : Option Value × x_S))) (q := s_CM_isInMap a1 a2) (ret := (Option.some Jvm.ClassFile.FieldType.boolean)) (lv0 := [(0, (.int a1)), (1, (.int a2))]) ok (by decide) rfl (Nat.le_of_ble_eq_true rfl) rfl ?_
  intro p e s m below meth c C hr hlk
  unfold s_CM_isInMap
  refine x_iload_n 0 C d_CM_isInMap_0 rfl rfl ?_
  refine x_if_lt 23 C d_CM_isInMap_1 (by decide) (fun z1 => ?_) (fun z1 => ?_)
  · refine x_iconst (v := 0) C d_CM_isInMap_23 (by decide) ?_
    exact x_zret C hr hlk rfl rfl d_CM_isInMap_24
  · refine x_iload_n 0 C d_CM_isInMap_4 rfl rfl ?_
    refine x_bipush (v := 6) C d_CM_isInMap_5 (by decide) ?_
    refine x_icmp_ge 23 C d_CM_isInMap_7 (by decide) (fun z2 => ?_) (fun z2 => ?_)
    · refine x_iconst (v := 0) C d_CM_isInMap_23 (by decide) ?_
      exact x_zret C hr hlk rfl rfl d_CM_isInMap_24
    · refine x_iload_n 1 C d_CM_isInMap_10 rfl rfl ?_
      refine x_if_lt 23 C d_CM_isInMap_11 (by decide) (fun z3 => ?_) (fun z3 => ?_)
      · refine x_iconst (v := 0) C d_CM_isInMap_23 (by decide) ?_
        exact x_zret C hr hlk rfl rfl d_CM_isInMap_24
      · refine x_iload_n 1 C d_CM_isInMap_14 rfl rfl ?_
        refine x_iconst (v := 2) C d_CM_isInMap_15 (by decide) ?_
        refine x_icmp_ge 23 C d_CM_isInMap_16 (by decide) (fun z4 => ?_) (fun z4 => ?_)
        · refine x_iconst (v := 0) C d_CM_isInMap_23 (by decide) ?_
          exact x_zret C hr hlk rfl rfl d_CM_isInMap_24
        · refine x_iconst (v := 1) C d_CM_isInMap_19 (by decide) ?_
          refine x_goto 24 C d_CM_isInMap_20 (by decide) ?_
          exact x_zret C hr hlk rfl rfl d_CM_isInMap_24
theorem x_im1 {a1 a2 r : Int32} (h : s_CM_isInMap a1 a2 = r) (z : ¬ r = 0) : vp_in a1 6 := by
  unfold s_CM_isInMap at h
  by_cases h1 : a1 < 0
  · rw [if_pos h1] at h; exact absurd h.symm z
  · rw [if_neg h1] at h
    by_cases h2 : (6 : Int32) ≤ a1
    · rw [if_pos h2] at h; exact absurd h.symm z
    · exact x_rng h1 h2 (by decide)
theorem x_im2 {a1 a2 r : Int32} (h : s_CM_isInMap a1 a2 = r) (z : ¬ r = 0) : vp_in a2 2 := by
  unfold s_CM_isInMap at h
  by_cases h1 : a1 < 0
  · rw [if_pos h1] at h; exact absurd h.symm z
  · rw [if_neg h1] at h
    by_cases h2 : (6 : Int32) ≤ a1
    · rw [if_pos h2] at h; exact absurd h.symm z
    · rw [if_neg h2] at h
      by_cases h3 : a2 < 0
      · rw [if_pos h3] at h; exact absurd h.symm z
      · rw [if_neg h3] at h
        by_cases h4 : (2 : Int32) ≤ a2
        · rw [if_pos h4] at h; exact absurd h.symm z
        · exact x_rng h3 h4 (by decide)
def s_Rn_stepsRun (ri : Nat → Int32)  : Int32 :=
  (ri 0)
set_option maxHeartbeats 4000000 in
set_option maxRecDepth 100000 in
theorem c_Rn_stepsRun {l : Launch} {D : va_G} {cA : Nat → ClassId} {ad : x_I → Nat} (ok : x_ok (x_k D cA ad)) {stp : Nat → Nat → Int32} {psz : Int32} {gk : Nat → Nat → Int32} {gl : Nat → Nat → Int64} {gh : Nat → Nat → Int64} {opn : Nat → Int32} {cki : Nat → Int32} {ckl : Nat → Int64} {mp : Nat → Nat → Int64} {rk : Nat → Int32} {rv : Nat → Int64} {ri : Nat → Int32} {chk : Int32} {mo : Nat → Nat → Int32} {mi : Nat → Int32} {ml : Nat → Int64} {mk : Nat → Int32} {mlo : Nat → Int64} {mhi : Nat → Int64} {pk : Nat → Int32} {ps : Nat → Int32} {pl : Nat → Int64} {ph : Nat → Int64} {mm : Nat → Int64} {out : Nat → Int64}  : x_M l y_Rn_stepsRun (Cond.code y_Rn_stepsRun b_Rn_stepsRun 1 (Option.some Jvm.ClassFile.FieldType.int) :: x_Wd) { frames := 0, cells := 0, slots := 0, locals := 0 } (x_k D cA ad) (x_F ad cA) [(.ref (ad (13, 0)))] ((stp, psz, gk, gl, gh, opn, cki, ckl, mp, rk, rv, ri, chk), (mo, mi, ml, mk, mlo, mhi, pk, ps, pl, ph, mm), out) ((fun q : Int32 => ((some (.int (q)), ((stp, psz, gk, gl, gh, opn, cki, ckl, mp, rk, rv, ri, chk), (mo, mi, ml, mk, mlo, mhi, pk, ps, pl, ph, mm), out)) : Option Value × x_S)) (s_Rn_stepsRun ri)) 0 0 := by
  refine x_start (κ := x_k D cA ad) (cc := b_Rn_stepsRun) (F := x_F ad cA) (wr := (fun q : Int32 => ((some (.int (q)), ((stp, psz, gk, gl, gh, opn, cki, ckl, mp, rk, rv, ri, chk), (mo, mi, ml, mk, mlo, mhi, pk, ps, pl, ph, mm), out)) : Option Value × x_S))) (q := s_Rn_stepsRun ri) (ret := (Option.some Jvm.ClassFile.FieldType.int)) (lv0 := [(0, (.ref (ad (13, 0))))]) ok (by decide) rfl (Nat.le_of_ble_eq_true rfl) rfl ?_
  intro p e s m below meth c C hr hlk
  unfold s_Rn_stepsRun
  refine x_aload_n 0 C d_Rn_stepsRun_0 rfl rfl ?_
  refine x_get (i := (13, 0)) (v := (.int (ri 0))) 4 C m_13 rfl rfl i_Rn (by decide) (List.mem_cons_of_mem _ q_187) rfl d_Rn_stepsRun_1 ?_
  exact x_iret C hr hlk rfl d_Rn_stepsRun_4
def s_Rn_countCalls (ri : Nat → Int32)  : Int32 :=
  (ri 1)
set_option maxHeartbeats 4000000 in
set_option maxRecDepth 100000 in
theorem c_Rn_countCalls {l : Launch} {D : va_G} {cA : Nat → ClassId} {ad : x_I → Nat} (ok : x_ok (x_k D cA ad)) {stp : Nat → Nat → Int32} {psz : Int32} {gk : Nat → Nat → Int32} {gl : Nat → Nat → Int64} {gh : Nat → Nat → Int64} {opn : Nat → Int32} {cki : Nat → Int32} {ckl : Nat → Int64} {mp : Nat → Nat → Int64} {rk : Nat → Int32} {rv : Nat → Int64} {ri : Nat → Int32} {chk : Int32} {mo : Nat → Nat → Int32} {mi : Nat → Int32} {ml : Nat → Int64} {mk : Nat → Int32} {mlo : Nat → Int64} {mhi : Nat → Int64} {pk : Nat → Int32} {ps : Nat → Int32} {pl : Nat → Int64} {ph : Nat → Int64} {mm : Nat → Int64} {out : Nat → Int64}  : x_M l y_Rn_countCalls (Cond.code y_Rn_countCalls b_Rn_countCalls 1 (Option.some Jvm.ClassFile.FieldType.int) :: x_Wd) { frames := 0, cells := 0, slots := 0, locals := 0 } (x_k D cA ad) (x_F ad cA) [(.ref (ad (13, 0)))] ((stp, psz, gk, gl, gh, opn, cki, ckl, mp, rk, rv, ri, chk), (mo, mi, ml, mk, mlo, mhi, pk, ps, pl, ph, mm), out) ((fun q : Int32 => ((some (.int (q)), ((stp, psz, gk, gl, gh, opn, cki, ckl, mp, rk, rv, ri, chk), (mo, mi, ml, mk, mlo, mhi, pk, ps, pl, ph, mm), out)) : Option Value × x_S)) (s_Rn_countCalls ri)) 0 0 := by
  refine x_start (κ := x_k D cA ad) (cc := b_Rn_countCalls) (F := x_F ad cA) (wr := (fun q : Int32 => ((some (.int (q)), ((stp, psz, gk, gl, gh, opn, cki, ckl, mp, rk, rv, ri, chk), (mo, mi, ml, mk, mlo, mhi, pk, ps, pl, ph, mm), out)) : Option Value × x_S))) (q := s_Rn_countCalls ri) (ret := (Option.some Jvm.ClassFile.FieldType.int)) (lv0 := [(0, (.ref (ad (13, 0))))]) ok (by decide) rfl (Nat.le_of_ble_eq_true rfl) rfl ?_
  intro p e s m below meth c C hr hlk
  unfold s_Rn_countCalls
  refine x_aload_n 0 C d_Rn_countCalls_0 rfl rfl ?_
  refine x_get (i := (13, 0)) (v := (.int (ri 1))) 5 C m_13 rfl rfl i_Rn (by decide) (List.mem_cons_of_mem _ q_188) rfl d_Rn_countCalls_1 ?_
  exact x_iret C hr hlk rfl d_Rn_countCalls_4
def s_Rn_mapCell (mp : Nat → Nat → Int64) (a1 : Int32) (a2 : Int32) : Int64 :=
  (x_let (s_CM_isInMap a1 a2) fun r1 => (if r1 = 0 then (0) else (mp a1.toNatClampNeg a2.toNatClampNeg)))
set_option maxHeartbeats 4000000 in
set_option maxRecDepth 100000 in
theorem c_Rn_mapCell {l : Launch} {D : va_G} {cA : Nat → ClassId} {ad : x_I → Nat} (ok : x_ok (x_k D cA ad)) {stp : Nat → Nat → Int32} {psz : Int32} {gk : Nat → Nat → Int32} {gl : Nat → Nat → Int64} {gh : Nat → Nat → Int64} {opn : Nat → Int32} {cki : Nat → Int32} {ckl : Nat → Int64} {mp : Nat → Nat → Int64} {rk : Nat → Int32} {rv : Nat → Int64} {ri : Nat → Int32} {chk : Int32} {mo : Nat → Nat → Int32} {mi : Nat → Int32} {ml : Nat → Int64} {mk : Nat → Int32} {mlo : Nat → Int64} {mhi : Nat → Int64} {pk : Nat → Int32} {ps : Nat → Int32} {pl : Nat → Int64} {ph : Nat → Int64} {mm : Nat → Int64} {out : Nat → Int64} (a1 : Int32) (a2 : Int32) : x_M l y_Rn_mapCell (Cond.code y_Rn_mapCell b_Rn_mapCell 3 (Option.some Jvm.ClassFile.FieldType.long) :: x_Wd) { frames := 1, cells := 0, slots := 0, locals := 21 } (x_k D cA ad) (x_F ad cA) [(.ref (ad (13, 0))), (.int a1), (.int a2)] ((stp, psz, gk, gl, gh, opn, cki, ckl, mp, rk, rv, ri, chk), (mo, mi, ml, mk, mlo, mhi, pk, ps, pl, ph, mm), out) ((fun q : Int64 => ((some (.long (q)), ((stp, psz, gk, gl, gh, opn, cki, ckl, mp, rk, rv, ri, chk), (mo, mi, ml, mk, mlo, mhi, pk, ps, pl, ph, mm), out)) : Option Value × x_S)) (s_Rn_mapCell mp a1 a2)) 0 0 := by
  refine x_start (κ := x_k D cA ad) (cc := b_Rn_mapCell) (F := x_F ad cA) (wr := (fun q : Int64 => ((some (.long (q)), ((stp, psz, gk, gl, gh, opn, cki, ckl, mp, rk, rv, ri, chk), (mo, mi, ml, mk, mlo, mhi, pk, ps, pl, ph, mm), out)) : Option Value × x_S))) (q := s_Rn_mapCell mp a1 a2) (ret := (Option.some Jvm.ClassFile.FieldType.long)) (lv0 := [(0, (.ref (ad (13, 0)))), (1, (.int a1)), (2, (.int a2))]) ok (by decide) rfl (Nat.le_of_ble_eq_true rfl) rfl ?_
  intro p e s m below meth c C hr hlk
  unfold s_Rn_mapCell
  refine x_iload_n 1 C d_Rn_mapCell_0 rfl rfl ?_
  refine x_iload_n 2 C d_Rn_mapCell_1 rfl rfl ?_
  refine x_csN (F := x_F ad cA) (As := [(.int a1), (.int a2)]) (rest := []) C k_CM_isInMap (c_CM_isInMap ok a1 a2) rfl rfl rfl (Nat.le_of_ble_eq_true rfl) (Nat.le_of_ble_eq_true rfl) rfl rfl (Nat.le_of_ble_eq_true rfl) d_Rn_mapCell_2 ⟨Nat.zero_le _, Nat.zero_le _⟩ ?_
  generalize hq1 : s_CM_isInMap a1 a2 = r1
  refine x_lets ?_
  refine x_if_eq 19 C d_Rn_mapCell_5 (by decide) (fun z2 => ?_) (fun z2 => ?_)
  · refine x_lconst (v := 0) C d_Rn_mapCell_19 (by decide) ?_
    exact x_lret C hr hlk rfl d_Rn_mapCell_20
  · refine x_aload_n 0 C d_Rn_mapCell_8 rfl rfl ?_
    refine x_get (i := (13, 0)) (v := (.ref (ad (14, 0)))) 1 C m_13 rfl rfl i_Rn (by decide) (List.mem_cons_of_mem _ q_184) rfl d_Rn_mapCell_9 ?_
    refine x_iload_n 1 C d_Rn_mapCell_12 rfl rfl ?_
    refine x_aaldA (i := (14, 0)) 5 C m_14 rfl rfl (x_im1 hq1 z2) d_Rn_mapCell_13 ?_
    refine x_iload_n 2 C d_Rn_mapCell_14 rfl rfl ?_
    refine x_lald (i := (15, a1.toNatClampNeg)) (g := mp a1.toNatClampNeg) 1 C (m_15 (x_ltn (x_im1 hq1 z2))) rfl rfl (x_im2 hq1 z2) d_Rn_mapCell_15 ?_
    refine x_goto 20 C d_Rn_mapCell_16 (by decide) ?_
    exact x_lret C hr hlk rfl d_Rn_mapCell_20
def s_Rn_setMapCell (mp : Nat → Nat → Int64) (a1 : Int32) (a2 : Int32) (a3 : Int64) : (Nat → Nat → Int64) :=
  (x_let (s_CM_isInMap a1 a2) fun r1 => (if r1 = 0 then (mp) else (va_up mp a1.toNatClampNeg (vp_updL (mp a1.toNatClampNeg) a2.toNatClampNeg a3))))
set_option maxHeartbeats 4000000 in
set_option maxRecDepth 100000 in
theorem c_Rn_setMapCell {l : Launch} {D : va_G} {cA : Nat → ClassId} {ad : x_I → Nat} (ok : x_ok (x_k D cA ad)) {stp : Nat → Nat → Int32} {psz : Int32} {gk : Nat → Nat → Int32} {gl : Nat → Nat → Int64} {gh : Nat → Nat → Int64} {opn : Nat → Int32} {cki : Nat → Int32} {ckl : Nat → Int64} {mp : Nat → Nat → Int64} {rk : Nat → Int32} {rv : Nat → Int64} {ri : Nat → Int32} {chk : Int32} {mo : Nat → Nat → Int32} {mi : Nat → Int32} {ml : Nat → Int64} {mk : Nat → Int32} {mlo : Nat → Int64} {mhi : Nat → Int64} {pk : Nat → Int32} {ps : Nat → Int32} {pl : Nat → Int64} {ph : Nat → Int64} {mm : Nat → Int64} {out : Nat → Int64} (a1 : Int32) (a2 : Int32) (a3 : Int64) : x_M l y_Rn_setMapCell (Cond.code y_Rn_setMapCell b_Rn_setMapCell 5 (Option.none : Option Jvm.ClassFile.FieldType) :: x_Wd) { frames := 1, cells := 0, slots := 0, locals := 21 } (x_k D cA ad) (x_F ad cA) [(.ref (ad (13, 0))), (.int a1), (.int a2), (.long a3)] ((stp, psz, gk, gl, gh, opn, cki, ckl, mp, rk, rv, ri, chk), (mo, mi, ml, mk, mlo, mhi, pk, ps, pl, ph, mm), out) ((fun q : (Nat → Nat → Int64) => ((none, ((stp, psz, gk, gl, gh, opn, cki, ckl, q, rk, rv, ri, chk), (mo, mi, ml, mk, mlo, mhi, pk, ps, pl, ph, mm), out)) : Option Value × x_S)) (s_Rn_setMapCell mp a1 a2 a3)) 0 0 := by
  refine x_start (κ := x_k D cA ad) (cc := b_Rn_setMapCell) (F := x_F ad cA) (wr := (fun q : (Nat → Nat → Int64) => ((none, ((stp, psz, gk, gl, gh, opn, cki, ckl, q, rk, rv, ri, chk), (mo, mi, ml, mk, mlo, mhi, pk, ps, pl, ph, mm), out)) : Option Value × x_S))) (q := s_Rn_setMapCell mp a1 a2 a3) (ret := (Option.none : Option Jvm.ClassFile.FieldType)) (lv0 := [(0, (.ref (ad (13, 0)))), (1, (.int a1)), (2, (.int a2)), (3, (.long a3))]) ok (by decide) rfl (Nat.le_of_ble_eq_true rfl) rfl ?_
  intro p e s m below meth c C hr hlk
  unfold s_Rn_setMapCell
  refine x_iload_n 1 C d_Rn_setMapCell_0 rfl rfl ?_
  refine x_iload_n 2 C d_Rn_setMapCell_1 rfl rfl ?_
  refine x_csN (F := x_F ad cA) (As := [(.int a1), (.int a2)]) (rest := []) C k_CM_isInMap (c_CM_isInMap ok a1 a2) rfl rfl rfl (Nat.le_of_ble_eq_true rfl) (Nat.le_of_ble_eq_true rfl) rfl rfl (Nat.le_of_ble_eq_true rfl) d_Rn_setMapCell_2 ⟨Nat.zero_le _, Nat.zero_le _⟩ ?_
  generalize hq1 : s_CM_isInMap a1 a2 = r1
  refine x_lets ?_
  refine x_if_eq 17 C d_Rn_setMapCell_5 (by decide) (fun z2 => ?_) (fun z2 => ?_)
  · exact x_vret C hr hlk rfl d_Rn_setMapCell_17
  · refine x_aload_n 0 C d_Rn_setMapCell_8 rfl rfl ?_
    refine x_get (i := (13, 0)) (v := (.ref (ad (14, 0)))) 1 C m_13 rfl rfl i_Rn (by decide) (List.mem_cons_of_mem _ q_184) rfl d_Rn_setMapCell_9 ?_
    refine x_iload_n 1 C d_Rn_setMapCell_12 rfl rfl ?_
    refine x_aaldA (i := (14, 0)) 5 C m_14 rfl rfl (x_im1 hq1 z2) d_Rn_setMapCell_13 ?_
    refine x_iload_n 2 C d_Rn_setMapCell_14 rfl rfl ?_
    refine x_lload_n 3 C d_Rn_setMapCell_15 rfl rfl ?_
    refine x_last (i := (15, a1.toNatClampNeg)) (g := mp a1.toNatClampNeg) (f' := x_F ad cA ((stp, psz, gk, gl, gh, opn, cki, ckl, va_up mp a1.toNatClampNeg (vp_updL (mp a1.toNatClampNeg) a2.toNatClampNeg a3), rk, rv, ri, chk), (mo, mi, ml, mk, mlo, mhi, pk, ps, pl, ph, mm), out)) 1 C (m_15 (x_ltn (x_im1 hq1 z2))) rfl rfl (x_im2 hq1 z2) d_Rn_setMapCell_16 e_mp ?_
    exact x_vret C hr hlk rfl d_Rn_setMapCell_17
def s_Rn_set (rk : Nat → Int32) (rv : Nat → Int64) (a1 : Int32) (a2 : Int32) (a3 : Int64) : (Nat → Int32) × (Nat → Int64) :=
  (upd rk a1.toNatClampNeg a2, vp_updL rv a1.toNatClampNeg a3)
set_option maxHeartbeats 4000000 in
set_option maxRecDepth 100000 in
theorem c_Rn_set {l : Launch} {D : va_G} {cA : Nat → ClassId} {ad : x_I → Nat} (ok : x_ok (x_k D cA ad)) {stp : Nat → Nat → Int32} {psz : Int32} {gk : Nat → Nat → Int32} {gl : Nat → Nat → Int64} {gh : Nat → Nat → Int64} {opn : Nat → Int32} {cki : Nat → Int32} {ckl : Nat → Int64} {mp : Nat → Nat → Int64} {rk : Nat → Int32} {rv : Nat → Int64} {ri : Nat → Int32} {chk : Int32} {mo : Nat → Nat → Int32} {mi : Nat → Int32} {ml : Nat → Int64} {mk : Nat → Int32} {mlo : Nat → Int64} {mhi : Nat → Int64} {pk : Nat → Int32} {ps : Nat → Int32} {pl : Nat → Int64} {ph : Nat → Int64} {mm : Nat → Int64} {out : Nat → Int64} (a1 : Int32) (a2 : Int32) (a3 : Int64) (h1 : vp_in a1 12) : x_M l y_Rn_set (Cond.code y_Rn_set b_Rn_set 5 (Option.none : Option Jvm.ClassFile.FieldType) :: x_Wd) { frames := 0, cells := 0, slots := 0, locals := 0 } (x_k D cA ad) (x_F ad cA) [(.ref (ad (13, 0))), (.int a1), (.int a2), (.long a3)] ((stp, psz, gk, gl, gh, opn, cki, ckl, mp, rk, rv, ri, chk), (mo, mi, ml, mk, mlo, mhi, pk, ps, pl, ph, mm), out) ((fun q : (Nat → Int32) × (Nat → Int64) => ((none, ((stp, psz, gk, gl, gh, opn, cki, ckl, mp, q.1, q.2, ri, chk), (mo, mi, ml, mk, mlo, mhi, pk, ps, pl, ph, mm), out)) : Option Value × x_S)) (s_Rn_set rk rv a1 a2 a3)) 0 0 := by
  refine x_start (κ := x_k D cA ad) (cc := b_Rn_set) (F := x_F ad cA) (wr := (fun q : (Nat → Int32) × (Nat → Int64) => ((none, ((stp, psz, gk, gl, gh, opn, cki, ckl, mp, q.1, q.2, ri, chk), (mo, mi, ml, mk, mlo, mhi, pk, ps, pl, ph, mm), out)) : Option Value × x_S))) (q := s_Rn_set rk rv a1 a2 a3) (ret := (Option.none : Option Jvm.ClassFile.FieldType)) (lv0 := [(0, (.ref (ad (13, 0)))), (1, (.int a1)), (2, (.int a2)), (3, (.long a3))]) ok (by decide) rfl (Nat.le_of_ble_eq_true rfl) rfl ?_
  intro p e s m below meth c C hr hlk
  unfold s_Rn_set
  refine x_aload_n 0 C d_Rn_set_0 rfl rfl ?_
  refine x_get (i := (13, 0)) (v := (.ref (ad (16, 0)))) 2 C m_13 rfl rfl i_Rn (by decide) (List.mem_cons_of_mem _ q_185) rfl d_Rn_set_1 ?_
  refine x_iload_n 1 C d_Rn_set_4 rfl rfl ?_
  refine x_iload_n 2 C d_Rn_set_5 rfl rfl ?_
  refine x_iast (i := (16, 0)) (g := rk) (f' := x_F ad cA ((stp, psz, gk, gl, gh, opn, cki, ckl, mp, upd rk a1.toNatClampNeg a2, rv, ri, chk), (mo, mi, ml, mk, mlo, mhi, pk, ps, pl, ph, mm), out)) 0 C m_16 rfl rfl h1 d_Rn_set_6 e_rk ?_
  refine x_aload_n 0 C d_Rn_set_7 rfl rfl ?_
  refine x_get (i := (13, 0)) (v := (.ref (ad (17, 0)))) 3 C m_13 rfl rfl i_Rn (by decide) (List.mem_cons_of_mem _ q_186) rfl d_Rn_set_8 ?_
  refine x_iload_n 1 C d_Rn_set_11 rfl rfl ?_
  refine x_lload_n 3 C d_Rn_set_12 rfl rfl ?_
  refine x_last (i := (17, 0)) (g := rv) (f' := x_F ad cA ((stp, psz, gk, gl, gh, opn, cki, ckl, mp, upd rk a1.toNatClampNeg a2, vp_updL rv a1.toNatClampNeg a3, ri, chk), (mo, mi, ml, mk, mlo, mhi, pk, ps, pl, ph, mm), out)) 1 C m_17 rfl rfl h1 d_Rn_set_13 e_rv ?_
  exact x_vret C hr hlk rfl d_Rn_set_14
def s_Rn_jumps (stp : Nat → Nat → Int32) (rk : Nat → Int32) (rv : Nat → Int64) (j : Nat) : Int32 :=
  (if (stp j 0) = 10 then (if (rk ((stp j 1).toNatClampNeg)) = 1 then (if (rv ((stp j 1).toNatClampNeg)) = (Int32.toInt64 (stp j 3)) then (1) else (0)) else (0)) else if (stp j 0) = 11 then (if (rv ((stp j 1).toNatClampNeg)) ≤ (Int32.toInt64 (stp j 3)) then (0) else (1)) else if (stp j 0) = 12 then (if (rv ((stp j 2).toNatClampNeg)) ≤ (rv ((stp j 1).toNatClampNeg)) then (0) else (1)) else (1))
set_option maxHeartbeats 4000000 in
set_option maxRecDepth 100000 in
theorem c_Rn_jumps {l : Launch} {D : va_G} {cA : Nat → ClassId} {ad : x_I → Nat} (ok : x_ok (x_k D cA ad)) {stp : Nat → Nat → Int32} {psz : Int32} {gk : Nat → Nat → Int32} {gl : Nat → Nat → Int64} {gh : Nat → Nat → Int64} {opn : Nat → Int32} {cki : Nat → Int32} {ckl : Nat → Int64} {mp : Nat → Nat → Int64} {rk : Nat → Int32} {rv : Nat → Int64} {ri : Nat → Int32} {chk : Int32} {mo : Nat → Nat → Int32} {mi : Nat → Int32} {ml : Nat → Int64} {mk : Nat → Int32} {mlo : Nat → Int64} {mhi : Nat → Int64} {pk : Nat → Int32} {ps : Nat → Int32} {pl : Nat → Int64} {ph : Nat → Int64} {mm : Nat → Int64} {out : Nat → Int64} (j : Nat) (hj : j < 24) (hw : x_wf stp) : x_M l y_Rn_jumps (Cond.code y_Rn_jumps b_Rn_jumps 2 (Option.some Jvm.ClassFile.FieldType.boolean) :: x_Wd) { frames := 0, cells := 0, slots := 0, locals := 0 } (x_k D cA ad) (x_F ad cA) [(.ref (ad (13, 0))), (.ref (ad (3, j)))] ((stp, psz, gk, gl, gh, opn, cki, ckl, mp, rk, rv, ri, chk), (mo, mi, ml, mk, mlo, mhi, pk, ps, pl, ph, mm), out) ((fun q : Int32 => ((some (.int (q)), ((stp, psz, gk, gl, gh, opn, cki, ckl, mp, rk, rv, ri, chk), (mo, mi, ml, mk, mlo, mhi, pk, ps, pl, ph, mm), out)) : Option Value × x_S)) (s_Rn_jumps stp rk rv j)) 0 0 := by
  refine x_start (κ := x_k D cA ad) (cc := b_Rn_jumps) (F := x_F ad cA) (wr := (fun q : Int32 => ((some (.int (q)), ((stp, psz, gk, gl, gh, opn, cki, ckl, mp, rk, rv, ri, chk), (mo, mi, ml, mk, mlo, mhi, pk, ps, pl, ph, mm), out)) : Option Value × x_S))) (q := s_Rn_jumps stp rk rv j) (ret := (Option.some Jvm.ClassFile.FieldType.boolean)) (lv0 := [(0, (.ref (ad (13, 0)))), (1, (.ref (ad (3, j))))]) ok (by decide) rfl (Nat.le_of_ble_eq_true rfl) rfl ?_
  intro p e s m below meth c C hr hlk
  unfold s_Rn_jumps
  refine x_aload_n 1 C d_Rn_jumps_0 rfl rfl ?_
  refine x_get (i := (3, j)) (v := (.int (stp j 0))) 0 C (m_3 hj) rfl rfl i_St (by decide) (List.mem_cons_of_mem _ q_46) rfl d_Rn_jumps_1 ?_
  refine x_ite (fun z1 => ?_) (fun z1 => ?_)
  · refine x_tsw 32 C d_Rn_jumps_4 (by rw [z1]; decide) (by rw [z1]; decide) (by rw [z1]; rfl) (by decide) ?_
    refine x_aload_n 0 C d_Rn_jumps_32 rfl rfl ?_
    refine x_get (i := (13, 0)) (v := (.ref (ad (16, 0)))) 2 C m_13 rfl rfl i_Rn (by decide) (List.mem_cons_of_mem _ q_185) rfl d_Rn_jumps_33 ?_
    refine x_aload_n 1 C d_Rn_jumps_36 rfl rfl ?_
    refine x_get (i := (3, j)) (v := (.int (stp j 1))) 1 C (m_3 hj) rfl rfl i_St (by decide) (List.mem_cons_of_mem _ q_52) rfl d_Rn_jumps_37 ?_
    refine x_iald (i := (16, 0)) (g := rk) 0 C m_16 rfl rfl (x_wfd hw hj) d_Rn_jumps_40 ?_
    refine x_iconst (v := 1) C d_Rn_jumps_41 (by decide) ?_
    refine x_icmp_ne 67 C d_Rn_jumps_42 (by decide) (fun z2 => ?_) (fun z2 => ?_)
    · refine x_aload_n 0 C d_Rn_jumps_45 rfl rfl ?_
      refine x_get (i := (13, 0)) (v := (.ref (ad (17, 0)))) 3 C m_13 rfl rfl i_Rn (by decide) (List.mem_cons_of_mem _ q_186) rfl d_Rn_jumps_46 ?_
      refine x_aload_n 1 C d_Rn_jumps_49 rfl rfl ?_
      refine x_get (i := (3, j)) (v := (.int (stp j 1))) 1 C (m_3 hj) rfl rfl i_St (by decide) (List.mem_cons_of_mem _ q_52) rfl d_Rn_jumps_50 ?_
      refine x_lald (i := (17, 0)) (g := rv) 1 C m_17 rfl rfl (x_wfd hw hj) d_Rn_jumps_53 ?_
      refine x_aload_n 1 C d_Rn_jumps_54 rfl rfl ?_
      refine x_get (i := (3, j)) (v := (.int (stp j 3))) 3 C (m_3 hj) rfl rfl i_St (by decide) (List.mem_cons_of_mem _ q_63) rfl d_Rn_jumps_55 ?_
      refine x_i2l C d_Rn_jumps_58 ?_
      refine x_lcmp_ne 67 C d_Rn_jumps_59 d_Rn_jumps_60 (by decide) (fun z3 => ?_) (fun z3 => ?_)
      · refine x_iconst (v := 1) C d_Rn_jumps_63 (by decide) ?_
        refine x_goto 68 C d_Rn_jumps_64 (by decide) ?_
        exact x_zret C hr hlk rfl rfl d_Rn_jumps_68
      · refine x_iconst (v := 0) C d_Rn_jumps_67 (by decide) ?_
        exact x_zret C hr hlk rfl rfl d_Rn_jumps_68
    · refine x_iconst (v := 0) C d_Rn_jumps_67 (by decide) ?_
      exact x_zret C hr hlk rfl rfl d_Rn_jumps_68
  refine x_ite (fun z4 => ?_) (fun z4 => ?_)
  · refine x_tsw 69 C d_Rn_jumps_4 (by rw [z4]; decide) (by rw [z4]; decide) (by rw [z4]; rfl) (by decide) ?_
    refine x_aload_n 0 C d_Rn_jumps_69 rfl rfl ?_
    refine x_get (i := (13, 0)) (v := (.ref (ad (17, 0)))) 3 C m_13 rfl rfl i_Rn (by decide) (List.mem_cons_of_mem _ q_186) rfl d_Rn_jumps_70 ?_
    refine x_aload_n 1 C d_Rn_jumps_73 rfl rfl ?_
    refine x_get (i := (3, j)) (v := (.int (stp j 1))) 1 C (m_3 hj) rfl rfl i_St (by decide) (List.mem_cons_of_mem _ q_52) rfl d_Rn_jumps_74 ?_
    refine x_lald (i := (17, 0)) (g := rv) 1 C m_17 rfl rfl (x_wfd hw hj) d_Rn_jumps_77 ?_
    refine x_aload_n 1 C d_Rn_jumps_78 rfl rfl ?_
    refine x_get (i := (3, j)) (v := (.int (stp j 3))) 3 C (m_3 hj) rfl rfl i_St (by decide) (List.mem_cons_of_mem _ q_63) rfl d_Rn_jumps_79 ?_
    refine x_i2l C d_Rn_jumps_82 ?_
    refine x_lcmp_le 91 C d_Rn_jumps_83 d_Rn_jumps_84 (by decide) (fun z5 => ?_) (fun z5 => ?_)
    · refine x_iconst (v := 0) C d_Rn_jumps_91 (by decide) ?_
      exact x_zret C hr hlk rfl rfl d_Rn_jumps_92
    · refine x_iconst (v := 1) C d_Rn_jumps_87 (by decide) ?_
      refine x_goto 92 C d_Rn_jumps_88 (by decide) ?_
      exact x_zret C hr hlk rfl rfl d_Rn_jumps_92
  refine x_ite (fun z6 => ?_) (fun z6 => ?_)
  · refine x_tsw 93 C d_Rn_jumps_4 (by rw [z6]; decide) (by rw [z6]; decide) (by rw [z6]; rfl) (by decide) ?_
    refine x_aload_n 0 C d_Rn_jumps_93 rfl rfl ?_
    refine x_get (i := (13, 0)) (v := (.ref (ad (17, 0)))) 3 C m_13 rfl rfl i_Rn (by decide) (List.mem_cons_of_mem _ q_186) rfl d_Rn_jumps_94 ?_
    refine x_aload_n 1 C d_Rn_jumps_97 rfl rfl ?_
    refine x_get (i := (3, j)) (v := (.int (stp j 1))) 1 C (m_3 hj) rfl rfl i_St (by decide) (List.mem_cons_of_mem _ q_52) rfl d_Rn_jumps_98 ?_
    refine x_lald (i := (17, 0)) (g := rv) 1 C m_17 rfl rfl (x_wfd hw hj) d_Rn_jumps_101 ?_
    refine x_aload_n 0 C d_Rn_jumps_102 rfl rfl ?_
    refine x_get (i := (13, 0)) (v := (.ref (ad (17, 0)))) 3 C m_13 rfl rfl i_Rn (by decide) (List.mem_cons_of_mem _ q_186) rfl d_Rn_jumps_103 ?_
    refine x_aload_n 1 C d_Rn_jumps_106 rfl rfl ?_
    refine x_get (i := (3, j)) (v := (.int (stp j 2))) 2 C (m_3 hj) rfl rfl i_St (by decide) (List.mem_cons_of_mem _ q_57) rfl d_Rn_jumps_107 ?_
    refine x_lald (i := (17, 0)) (g := rv) 1 C m_17 rfl rfl (x_wfs hw hj) d_Rn_jumps_110 ?_
    refine x_lcmp_ge 119 C d_Rn_jumps_111 d_Rn_jumps_112 (by decide) (fun z7 => ?_) (fun z7 => ?_)
    · refine x_iconst (v := 0) C d_Rn_jumps_119 (by decide) ?_
      exact x_zret C hr hlk rfl rfl d_Rn_jumps_120
    · refine x_iconst (v := 1) C d_Rn_jumps_115 (by decide) ?_
      refine x_goto 120 C d_Rn_jumps_116 (by decide) ?_
      exact x_zret C hr hlk rfl rfl d_Rn_jumps_120
  refine x_tswE 121 [10, 11, 12] C d_Rn_jumps_4 (by decide) (List.forall_mem_cons.mpr ⟨x_nik z1 (by decide), List.forall_mem_cons.mpr ⟨x_nik z4 (by decide), List.forall_mem_cons.mpr ⟨x_nik z6 (by decide), fun _ h => absurd h List.not_mem_nil⟩⟩⟩) (by decide) ?_
  refine x_iconst (v := 1) C d_Rn_jumps_121 (by decide) ?_
  exact x_zret C hr hlk rfl rfl d_Rn_jumps_122
def s_Rn_reckon (stp : Nat → Nat → Int32) (rk : Nat → Int32) (rv : Nat → Int64) (j : Nat) : (Nat → Int32) × (Nat → Int64) :=
  (if (stp j 0) = 0 then (x_let (s_Rn_set rk rv (stp j 1) 1 (Int32.toInt64 (stp j 3))) fun (rk2, rv2) => (rk2, rv2)) else if (stp j 0) = 1 then (x_let (s_Rn_set rk rv (stp j 1) (rk ((stp j 2).toNatClampNeg)) (rv ((stp j 2).toNatClampNeg))) fun (rk4, rv4) => (rk4, rv4)) else if (stp j 0) = 2 then (rk, vp_updL rv ((stp j 1).toNatClampNeg) ((rv ((stp j 1).toNatClampNeg)) + (Int32.toInt64 (stp j 3)))) else if (stp j 0) = 3 then (rk, vp_updL rv ((stp j 1).toNatClampNeg) ((rv ((stp j 1).toNatClampNeg)) + (rv ((stp j 2).toNatClampNeg)))) else if (stp j 0) = 4 then (rk, vp_updL rv ((stp j 1).toNatClampNeg) ((rv ((stp j 1).toNatClampNeg)) - (rv ((stp j 2).toNatClampNeg)))) else if (stp j 0) = 5 then (rk, vp_updL rv ((stp j 1).toNatClampNeg) ((rv ((stp j 1).toNatClampNeg)) * (Int32.toInt64 (stp j 3)))) else if (stp j 0) = 6 then (rk, vp_updL rv ((stp j 1).toNatClampNeg) ((rv ((stp j 1).toNatClampNeg)) &&& (Int32.toInt64 (stp j 3)))) else if (stp j 0) = 7 then (rk, vp_updL rv ((stp j 1).toNatClampNeg) ((rv ((stp j 1).toNatClampNeg)) >>> (Int32.toInt64 (stp j 3) &&& 63))) else if (stp j 0) = 8 then (if (Int32.toInt64 (stp j 3)) = 0 then (rk, vp_updL rv ((stp j 1).toNatClampNeg) 0) else (rk, vp_updL rv ((stp j 1).toNatClampNeg) ((rv ((stp j 1).toNatClampNeg)) / (Int32.toInt64 (stp j 3))))) else if (stp j 0) = 9 then (rk, vp_updL rv ((stp j 1).toNatClampNeg) (-(rv ((stp j 1).toNatClampNeg)))) else (rk, rv))
set_option maxHeartbeats 4000000 in
set_option maxRecDepth 100000 in
theorem c_Rn_reckon {l : Launch} {D : va_G} {cA : Nat → ClassId} {ad : x_I → Nat} (ok : x_ok (x_k D cA ad)) {stp : Nat → Nat → Int32} {psz : Int32} {gk : Nat → Nat → Int32} {gl : Nat → Nat → Int64} {gh : Nat → Nat → Int64} {opn : Nat → Int32} {cki : Nat → Int32} {ckl : Nat → Int64} {mp : Nat → Nat → Int64} {rk : Nat → Int32} {rv : Nat → Int64} {ri : Nat → Int32} {chk : Int32} {mo : Nat → Nat → Int32} {mi : Nat → Int32} {ml : Nat → Int64} {mk : Nat → Int32} {mlo : Nat → Int64} {mhi : Nat → Int64} {pk : Nat → Int32} {ps : Nat → Int32} {pl : Nat → Int64} {ph : Nat → Int64} {mm : Nat → Int64} {out : Nat → Int64} (j : Nat) (hj : j < 24) (hw : x_wf stp) : x_M l y_Rn_reckon (Cond.code y_Rn_reckon b_Rn_reckon 5 (Option.none : Option Jvm.ClassFile.FieldType) :: x_Wd) { frames := 1, cells := 0, slots := 0, locals := 24 } (x_k D cA ad) (x_F ad cA) [(.ref (ad (13, 0))), (.ref (ad (3, j)))] ((stp, psz, gk, gl, gh, opn, cki, ckl, mp, rk, rv, ri, chk), (mo, mi, ml, mk, mlo, mhi, pk, ps, pl, ph, mm), out) ((fun q : (Nat → Int32) × (Nat → Int64) => ((none, ((stp, psz, gk, gl, gh, opn, cki, ckl, mp, q.1, q.2, ri, chk), (mo, mi, ml, mk, mlo, mhi, pk, ps, pl, ph, mm), out)) : Option Value × x_S)) (s_Rn_reckon stp rk rv j)) 0 0 := by
  refine x_start (κ := x_k D cA ad) (cc := b_Rn_reckon) (F := x_F ad cA) (wr := (fun q : (Nat → Int32) × (Nat → Int64) => ((none, ((stp, psz, gk, gl, gh, opn, cki, ckl, mp, q.1, q.2, ri, chk), (mo, mi, ml, mk, mlo, mhi, pk, ps, pl, ph, mm), out)) : Option Value × x_S))) (q := s_Rn_reckon stp rk rv j) (ret := (Option.none : Option Jvm.ClassFile.FieldType)) (lv0 := [(0, (.ref (ad (13, 0)))), (1, (.ref (ad (3, j))))]) ok (by decide) rfl (Nat.le_of_ble_eq_true rfl) rfl ?_
  intro p e s m below meth c C hr hlk
  unfold s_Rn_reckon
  refine x_aload_n 1 C d_Rn_reckon_0 rfl rfl ?_
  refine x_get (i := (3, j)) (v := (.int (stp j 1))) 1 C (m_3 hj) rfl rfl i_St (by decide) (List.mem_cons_of_mem _ q_52) rfl d_Rn_reckon_1 ?_
  refine x_istore_n (lv' := [(2, (.int (stp j 1))), (0, (.ref (ad (13, 0)))), (1, (.ref (ad (3, j))))]) C d_Rn_reckon_4 rfl (by decide) rfl ?_
  refine x_aload_n 2 C d_Rn_reckon_5 rfl rfl ?_
  refine x_get (i := (3, j)) (v := (.int (stp j 3))) 3 C (m_3 hj) rfl rfl i_St (by decide) (List.mem_cons_of_mem _ q_63) rfl d_Rn_reckon_6 ?_
  refine x_i2l C d_Rn_reckon_9 ?_
  refine x_lstore_n (lv' := [(3, (.long (Int32.toInt64 (stp j 3)))), (2, (.int (stp j 1))), (0, (.ref (ad (13, 0)))), (1, (.ref (ad (3, j))))]) C d_Rn_reckon_10 rfl (by decide) rfl ?_
  refine x_aload_n 3 C d_Rn_reckon_11 rfl rfl ?_
  refine x_get (i := (3, j)) (v := (.int (stp j 0))) 0 C (m_3 hj) rfl rfl i_St (by decide) (List.mem_cons_of_mem _ q_46) rfl d_Rn_reckon_12 ?_
  refine x_ite (fun z1 => ?_) (fun z1 => ?_)
  · refine x_tsw 68 C d_Rn_reckon_15 (by rw [z1]; decide) (by rw [z1]; decide) (by rw [z1]; rfl) (by decide) ?_
    refine x_aload_n 2 C d_Rn_reckon_68 rfl rfl ?_
    refine x_iload_n 1 C d_Rn_reckon_69 rfl rfl ?_
    refine x_iconst (v := 1) C d_Rn_reckon_70 (by decide) ?_
    refine x_lload_n 0 C d_Rn_reckon_71 rfl rfl ?_
    refine x_cv0 (i := (13, 0)) (F := x_F ad cA) (As := [(.int (stp j 1)), (.int 1), (.long (Int32.toInt64 (stp j 3)))]) (rest := []) C k_Rn_set q_701 (c_Rn_set ok (stp j 1) 1 (Int32.toInt64 (stp j 3)) (x_wfd hw hj)) rfl rfl rfl (Nat.le_of_ble_eq_true rfl) (Nat.le_of_ble_eq_true rfl) m_13 rfl rfl rfl rfl rfl (Nat.le_of_ble_eq_true rfl) d_Rn_reckon_72 ⟨Nat.zero_le _, Nat.zero_le _⟩ ?_
    generalize hq2 : s_Rn_set rk rv (stp j 1) 1 (Int32.toInt64 (stp j 3)) = q2
    obtain ⟨rk2, rv2⟩ := q2
    refine x_lets ?_
    dsimp only
    refine x_goto 244 C d_Rn_reckon_75 (by decide) ?_
    exact x_vret C hr hlk rfl d_Rn_reckon_244
  refine x_ite (fun z3 => ?_) (fun z3 => ?_)
  · refine x_tsw 78 C d_Rn_reckon_15 (by rw [z3]; decide) (by rw [z3]; decide) (by rw [z3]; rfl) (by decide) ?_
    refine x_aload_n 2 C d_Rn_reckon_78 rfl rfl ?_
    refine x_iload_n 1 C d_Rn_reckon_79 rfl rfl ?_
    refine x_aload_n 2 C d_Rn_reckon_80 rfl rfl ?_
    refine x_get (i := (13, 0)) (v := (.ref (ad (16, 0)))) 2 C m_13 rfl rfl i_Rn (by decide) (List.mem_cons_of_mem _ q_185) rfl d_Rn_reckon_81 ?_
    refine x_aload_n 3 C d_Rn_reckon_84 rfl rfl ?_
    refine x_get (i := (3, j)) (v := (.int (stp j 2))) 2 C (m_3 hj) rfl rfl i_St (by decide) (List.mem_cons_of_mem _ q_57) rfl d_Rn_reckon_85 ?_
    refine x_iald (i := (16, 0)) (g := rk) 0 C m_16 rfl rfl (x_wfs hw hj) d_Rn_reckon_88 ?_
    refine x_aload_n 2 C d_Rn_reckon_89 rfl rfl ?_
    refine x_get (i := (13, 0)) (v := (.ref (ad (17, 0)))) 3 C m_13 rfl rfl i_Rn (by decide) (List.mem_cons_of_mem _ q_186) rfl d_Rn_reckon_90 ?_
    refine x_aload_n 3 C d_Rn_reckon_93 rfl rfl ?_
    refine x_get (i := (3, j)) (v := (.int (stp j 2))) 2 C (m_3 hj) rfl rfl i_St (by decide) (List.mem_cons_of_mem _ q_57) rfl d_Rn_reckon_94 ?_
    refine x_lald (i := (17, 0)) (g := rv) 1 C m_17 rfl rfl (x_wfs hw hj) d_Rn_reckon_97 ?_
    refine x_cv0 (i := (13, 0)) (F := x_F ad cA) (As := [(.int (stp j 1)), (.int (rk ((stp j 2).toNatClampNeg))), (.long (rv ((stp j 2).toNatClampNeg)))]) (rest := []) C k_Rn_set q_701 (c_Rn_set ok (stp j 1) (rk ((stp j 2).toNatClampNeg)) (rv ((stp j 2).toNatClampNeg)) (x_wfd hw hj)) rfl rfl rfl (Nat.le_of_ble_eq_true rfl) (Nat.le_of_ble_eq_true rfl) m_13 rfl rfl rfl rfl rfl (Nat.le_of_ble_eq_true rfl) d_Rn_reckon_98 ⟨Nat.zero_le _, Nat.zero_le _⟩ ?_
    generalize hq4 : s_Rn_set rk rv (stp j 1) (rk ((stp j 2).toNatClampNeg)) (rv ((stp j 2).toNatClampNeg)) = q4
    obtain ⟨rk4, rv4⟩ := q4
    refine x_lets ?_
    dsimp only
    refine x_goto 244 C d_Rn_reckon_101 (by decide) ?_
    exact x_vret C hr hlk rfl d_Rn_reckon_244
  refine x_ite (fun z5 => ?_) (fun z5 => ?_)
  · refine x_tsw 104 C d_Rn_reckon_15 (by rw [z5]; decide) (by rw [z5]; decide) (by rw [z5]; rfl) (by decide) ?_
    refine x_aload_n 2 C d_Rn_reckon_104 rfl rfl ?_
    refine x_get (i := (13, 0)) (v := (.ref (ad (17, 0)))) 3 C m_13 rfl rfl i_Rn (by decide) (List.mem_cons_of_mem _ q_186) rfl d_Rn_reckon_105 ?_
    refine x_iload_n 1 C d_Rn_reckon_108 rfl rfl ?_
    refine x_dup2_11 C d_Rn_reckon_109 rfl rfl ?_
    refine x_lald (i := (17, 0)) (g := rv) 1 C m_17 rfl rfl (x_wfd hw hj) d_Rn_reckon_110 ?_
    refine x_lload_n 0 C d_Rn_reckon_111 rfl rfl ?_
    refine x_ladd C d_Rn_reckon_112 ?_
    refine x_last (i := (17, 0)) (g := rv) (f' := x_F ad cA ((stp, psz, gk, gl, gh, opn, cki, ckl, mp, rk, vp_updL rv ((stp j 1).toNatClampNeg) ((rv ((stp j 1).toNatClampNeg)) + (Int32.toInt64 (stp j 3))), ri, chk), (mo, mi, ml, mk, mlo, mhi, pk, ps, pl, ph, mm), out)) 1 C m_17 rfl rfl (x_wfd hw hj) d_Rn_reckon_113 e_rv ?_
    refine x_goto 244 C d_Rn_reckon_114 (by decide) ?_
    exact x_vret C hr hlk rfl d_Rn_reckon_244
  refine x_ite (fun z6 => ?_) (fun z6 => ?_)
  · refine x_tsw 117 C d_Rn_reckon_15 (by rw [z6]; decide) (by rw [z6]; decide) (by rw [z6]; rfl) (by decide) ?_
    refine x_aload_n 2 C d_Rn_reckon_117 rfl rfl ?_
    refine x_get (i := (13, 0)) (v := (.ref (ad (17, 0)))) 3 C m_13 rfl rfl i_Rn (by decide) (List.mem_cons_of_mem _ q_186) rfl d_Rn_reckon_118 ?_
    refine x_iload_n 1 C d_Rn_reckon_121 rfl rfl ?_
    refine x_dup2_11 C d_Rn_reckon_122 rfl rfl ?_
    refine x_lald (i := (17, 0)) (g := rv) 1 C m_17 rfl rfl (x_wfd hw hj) d_Rn_reckon_123 ?_
    refine x_aload_n 2 C d_Rn_reckon_124 rfl rfl ?_
    refine x_get (i := (13, 0)) (v := (.ref (ad (17, 0)))) 3 C m_13 rfl rfl i_Rn (by decide) (List.mem_cons_of_mem _ q_186) rfl d_Rn_reckon_125 ?_
    refine x_aload_n 3 C d_Rn_reckon_128 rfl rfl ?_
    refine x_get (i := (3, j)) (v := (.int (stp j 2))) 2 C (m_3 hj) rfl rfl i_St (by decide) (List.mem_cons_of_mem _ q_57) rfl d_Rn_reckon_129 ?_
    refine x_lald (i := (17, 0)) (g := rv) 1 C m_17 rfl rfl (x_wfs hw hj) d_Rn_reckon_132 ?_
    refine x_ladd C d_Rn_reckon_133 ?_
    refine x_last (i := (17, 0)) (g := rv) (f' := x_F ad cA ((stp, psz, gk, gl, gh, opn, cki, ckl, mp, rk, vp_updL rv ((stp j 1).toNatClampNeg) ((rv ((stp j 1).toNatClampNeg)) + (rv ((stp j 2).toNatClampNeg))), ri, chk), (mo, mi, ml, mk, mlo, mhi, pk, ps, pl, ph, mm), out)) 1 C m_17 rfl rfl (x_wfd hw hj) d_Rn_reckon_134 e_rv ?_
    refine x_goto 244 C d_Rn_reckon_135 (by decide) ?_
    exact x_vret C hr hlk rfl d_Rn_reckon_244
  refine x_ite (fun z7 => ?_) (fun z7 => ?_)
  · refine x_tsw 138 C d_Rn_reckon_15 (by rw [z7]; decide) (by rw [z7]; decide) (by rw [z7]; rfl) (by decide) ?_
    refine x_aload_n 2 C d_Rn_reckon_138 rfl rfl ?_
    refine x_get (i := (13, 0)) (v := (.ref (ad (17, 0)))) 3 C m_13 rfl rfl i_Rn (by decide) (List.mem_cons_of_mem _ q_186) rfl d_Rn_reckon_139 ?_
    refine x_iload_n 1 C d_Rn_reckon_142 rfl rfl ?_
    refine x_dup2_11 C d_Rn_reckon_143 rfl rfl ?_
    refine x_lald (i := (17, 0)) (g := rv) 1 C m_17 rfl rfl (x_wfd hw hj) d_Rn_reckon_144 ?_
    refine x_aload_n 2 C d_Rn_reckon_145 rfl rfl ?_
    refine x_get (i := (13, 0)) (v := (.ref (ad (17, 0)))) 3 C m_13 rfl rfl i_Rn (by decide) (List.mem_cons_of_mem _ q_186) rfl d_Rn_reckon_146 ?_
    refine x_aload_n 3 C d_Rn_reckon_149 rfl rfl ?_
    refine x_get (i := (3, j)) (v := (.int (stp j 2))) 2 C (m_3 hj) rfl rfl i_St (by decide) (List.mem_cons_of_mem _ q_57) rfl d_Rn_reckon_150 ?_
    refine x_lald (i := (17, 0)) (g := rv) 1 C m_17 rfl rfl (x_wfs hw hj) d_Rn_reckon_153 ?_
    refine x_lsub C d_Rn_reckon_154 ?_
    refine x_last (i := (17, 0)) (g := rv) (f' := x_F ad cA ((stp, psz, gk, gl, gh, opn, cki, ckl, mp, rk, vp_updL rv ((stp j 1).toNatClampNeg) ((rv ((stp j 1).toNatClampNeg)) - (rv ((stp j 2).toNatClampNeg))), ri, chk), (mo, mi, ml, mk, mlo, mhi, pk, ps, pl, ph, mm), out)) 1 C m_17 rfl rfl (x_wfd hw hj) d_Rn_reckon_155 e_rv ?_
    refine x_goto 244 C d_Rn_reckon_156 (by decide) ?_
    exact x_vret C hr hlk rfl d_Rn_reckon_244
  refine x_ite (fun z8 => ?_) (fun z8 => ?_)
  · refine x_tsw 159 C d_Rn_reckon_15 (by rw [z8]; decide) (by rw [z8]; decide) (by rw [z8]; rfl) (by decide) ?_
    refine x_aload_n 2 C d_Rn_reckon_159 rfl rfl ?_
    refine x_get (i := (13, 0)) (v := (.ref (ad (17, 0)))) 3 C m_13 rfl rfl i_Rn (by decide) (List.mem_cons_of_mem _ q_186) rfl d_Rn_reckon_160 ?_
    refine x_iload_n 1 C d_Rn_reckon_163 rfl rfl ?_
    refine x_dup2_11 C d_Rn_reckon_164 rfl rfl ?_
    refine x_lald (i := (17, 0)) (g := rv) 1 C m_17 rfl rfl (x_wfd hw hj) d_Rn_reckon_165 ?_
    refine x_lload_n 0 C d_Rn_reckon_166 rfl rfl ?_
    refine x_lmul C d_Rn_reckon_167 ?_
    refine x_last (i := (17, 0)) (g := rv) (f' := x_F ad cA ((stp, psz, gk, gl, gh, opn, cki, ckl, mp, rk, vp_updL rv ((stp j 1).toNatClampNeg) ((rv ((stp j 1).toNatClampNeg)) * (Int32.toInt64 (stp j 3))), ri, chk), (mo, mi, ml, mk, mlo, mhi, pk, ps, pl, ph, mm), out)) 1 C m_17 rfl rfl (x_wfd hw hj) d_Rn_reckon_168 e_rv ?_
    refine x_goto 244 C d_Rn_reckon_169 (by decide) ?_
    exact x_vret C hr hlk rfl d_Rn_reckon_244
  refine x_ite (fun z9 => ?_) (fun z9 => ?_)
  · refine x_tsw 172 C d_Rn_reckon_15 (by rw [z9]; decide) (by rw [z9]; decide) (by rw [z9]; rfl) (by decide) ?_
    refine x_aload_n 2 C d_Rn_reckon_172 rfl rfl ?_
    refine x_get (i := (13, 0)) (v := (.ref (ad (17, 0)))) 3 C m_13 rfl rfl i_Rn (by decide) (List.mem_cons_of_mem _ q_186) rfl d_Rn_reckon_173 ?_
    refine x_iload_n 1 C d_Rn_reckon_176 rfl rfl ?_
    refine x_dup2_11 C d_Rn_reckon_177 rfl rfl ?_
    refine x_lald (i := (17, 0)) (g := rv) 1 C m_17 rfl rfl (x_wfd hw hj) d_Rn_reckon_178 ?_
    refine x_lload_n 0 C d_Rn_reckon_179 rfl rfl ?_
    refine x_land C d_Rn_reckon_180 ?_
    refine x_last (i := (17, 0)) (g := rv) (f' := x_F ad cA ((stp, psz, gk, gl, gh, opn, cki, ckl, mp, rk, vp_updL rv ((stp j 1).toNatClampNeg) ((rv ((stp j 1).toNatClampNeg)) &&& (Int32.toInt64 (stp j 3))), ri, chk), (mo, mi, ml, mk, mlo, mhi, pk, ps, pl, ph, mm), out)) 1 C m_17 rfl rfl (x_wfd hw hj) d_Rn_reckon_181 e_rv ?_
    refine x_goto 244 C d_Rn_reckon_182 (by decide) ?_
    exact x_vret C hr hlk rfl d_Rn_reckon_244
  refine x_ite (fun z10 => ?_) (fun z10 => ?_)
  · refine x_tsw 185 C d_Rn_reckon_15 (by rw [z10]; decide) (by rw [z10]; decide) (by rw [z10]; rfl) (by decide) ?_
    refine x_aload_n 2 C d_Rn_reckon_185 rfl rfl ?_
    refine x_get (i := (13, 0)) (v := (.ref (ad (17, 0)))) 3 C m_13 rfl rfl i_Rn (by decide) (List.mem_cons_of_mem _ q_186) rfl d_Rn_reckon_186 ?_
    refine x_iload_n 1 C d_Rn_reckon_189 rfl rfl ?_
    refine x_dup2_11 C d_Rn_reckon_190 rfl rfl ?_
    refine x_lald (i := (17, 0)) (g := rv) 1 C m_17 rfl rfl (x_wfd hw hj) d_Rn_reckon_191 ?_
    refine x_aload_n 3 C d_Rn_reckon_192 rfl rfl ?_
    refine x_get (i := (3, j)) (v := (.int (stp j 3))) 3 C (m_3 hj) rfl rfl i_St (by decide) (List.mem_cons_of_mem _ q_63) rfl d_Rn_reckon_193 ?_
    refine x_lshr C d_Rn_reckon_196 ?_
    refine x_last (i := (17, 0)) (g := rv) (f' := x_F ad cA ((stp, psz, gk, gl, gh, opn, cki, ckl, mp, rk, vp_updL rv ((stp j 1).toNatClampNeg) ((rv ((stp j 1).toNatClampNeg)) >>> (Int32.toInt64 (stp j 3) &&& 63)), ri, chk), (mo, mi, ml, mk, mlo, mhi, pk, ps, pl, ph, mm), out)) 1 C m_17 rfl rfl (x_wfd hw hj) d_Rn_reckon_197 e_rv ?_
    refine x_goto 244 C d_Rn_reckon_198 (by decide) ?_
    exact x_vret C hr hlk rfl d_Rn_reckon_244
  refine x_ite (fun z11 => ?_) (fun z11 => ?_)
  · refine x_tsw 201 C d_Rn_reckon_15 (by rw [z11]; decide) (by rw [z11]; decide) (by rw [z11]; rfl) (by decide) ?_
    refine x_aload_n 2 C d_Rn_reckon_201 rfl rfl ?_
    refine x_get (i := (13, 0)) (v := (.ref (ad (17, 0)))) 3 C m_13 rfl rfl i_Rn (by decide) (List.mem_cons_of_mem _ q_186) rfl d_Rn_reckon_202 ?_
    refine x_iload_n 1 C d_Rn_reckon_205 rfl rfl ?_
    refine x_lload_n 0 C d_Rn_reckon_206 rfl rfl ?_
    refine x_lconst (v := 0) C d_Rn_reckon_207 (by decide) ?_
    refine x_lcmp_ne 216 C d_Rn_reckon_208 d_Rn_reckon_209 (by decide) (fun z12 => ?_) (fun z12 => ?_)
    · refine x_lconst (v := 0) C d_Rn_reckon_212 (by decide) ?_
      refine x_goto 224 C d_Rn_reckon_213 (by decide) ?_
      refine x_last (i := (17, 0)) (g := rv) (f' := x_F ad cA ((stp, psz, gk, gl, gh, opn, cki, ckl, mp, rk, vp_updL rv ((stp j 1).toNatClampNeg) 0, ri, chk), (mo, mi, ml, mk, mlo, mhi, pk, ps, pl, ph, mm), out)) 1 C m_17 rfl rfl (x_wfd hw hj) d_Rn_reckon_224 e_rv ?_
      refine x_goto 244 C d_Rn_reckon_225 (by decide) ?_
      exact x_vret C hr hlk rfl d_Rn_reckon_244
    · refine x_aload_n 2 C d_Rn_reckon_216 rfl rfl ?_
      refine x_get (i := (13, 0)) (v := (.ref (ad (17, 0)))) 3 C m_13 rfl rfl i_Rn (by decide) (List.mem_cons_of_mem _ q_186) rfl d_Rn_reckon_217 ?_
      refine x_iload_n 1 C d_Rn_reckon_220 rfl rfl ?_
      refine x_lald (i := (17, 0)) (g := rv) 1 C m_17 rfl rfl (x_wfd hw hj) d_Rn_reckon_221 ?_
      refine x_lload_n 0 C d_Rn_reckon_222 rfl rfl ?_
      refine x_ldiv C z12 d_Rn_reckon_223 ?_
      refine x_last (i := (17, 0)) (g := rv) (f' := x_F ad cA ((stp, psz, gk, gl, gh, opn, cki, ckl, mp, rk, vp_updL rv ((stp j 1).toNatClampNeg) ((rv ((stp j 1).toNatClampNeg)) / (Int32.toInt64 (stp j 3))), ri, chk), (mo, mi, ml, mk, mlo, mhi, pk, ps, pl, ph, mm), out)) 1 C m_17 rfl rfl (x_wfd hw hj) d_Rn_reckon_224 e_rv ?_
      refine x_goto 244 C d_Rn_reckon_225 (by decide) ?_
      exact x_vret C hr hlk rfl d_Rn_reckon_244
  refine x_ite (fun z13 => ?_) (fun z13 => ?_)
  · refine x_tsw 228 C d_Rn_reckon_15 (by rw [z13]; decide) (by rw [z13]; decide) (by rw [z13]; rfl) (by decide) ?_
    refine x_aload_n 2 C d_Rn_reckon_228 rfl rfl ?_
    refine x_get (i := (13, 0)) (v := (.ref (ad (17, 0)))) 3 C m_13 rfl rfl i_Rn (by decide) (List.mem_cons_of_mem _ q_186) rfl d_Rn_reckon_229 ?_
    refine x_iload_n 1 C d_Rn_reckon_232 rfl rfl ?_
    refine x_aload_n 2 C d_Rn_reckon_233 rfl rfl ?_
    refine x_get (i := (13, 0)) (v := (.ref (ad (17, 0)))) 3 C m_13 rfl rfl i_Rn (by decide) (List.mem_cons_of_mem _ q_186) rfl d_Rn_reckon_234 ?_
    refine x_iload_n 1 C d_Rn_reckon_237 rfl rfl ?_
    refine x_lald (i := (17, 0)) (g := rv) 1 C m_17 rfl rfl (x_wfd hw hj) d_Rn_reckon_238 ?_
    refine x_lneg C d_Rn_reckon_239 ?_
    refine x_last (i := (17, 0)) (g := rv) (f' := x_F ad cA ((stp, psz, gk, gl, gh, opn, cki, ckl, mp, rk, vp_updL rv ((stp j 1).toNatClampNeg) (-(rv ((stp j 1).toNatClampNeg))), ri, chk), (mo, mi, ml, mk, mlo, mhi, pk, ps, pl, ph, mm), out)) 1 C m_17 rfl rfl (x_wfd hw hj) d_Rn_reckon_240 e_rv ?_
    refine x_goto 244 C d_Rn_reckon_241 (by decide) ?_
    exact x_vret C hr hlk rfl d_Rn_reckon_244
  refine x_tswE 244 [0, 1, 2, 3, 4, 5, 6, 7, 8, 9] C d_Rn_reckon_15 (by decide) (List.forall_mem_cons.mpr ⟨x_nik z1 (by decide), List.forall_mem_cons.mpr ⟨x_nik z3 (by decide), List.forall_mem_cons.mpr ⟨x_nik z5 (by decide), List.forall_mem_cons.mpr ⟨x_nik z6 (by decide), List.forall_mem_cons.mpr ⟨x_nik z7 (by decide), List.forall_mem_cons.mpr ⟨x_nik z8 (by decide), List.forall_mem_cons.mpr ⟨x_nik z9 (by decide), List.forall_mem_cons.mpr ⟨x_nik z10 (by decide), List.forall_mem_cons.mpr ⟨x_nik z11 (by decide), List.forall_mem_cons.mpr ⟨x_nik z13 (by decide), fun _ h => absurd h List.not_mem_nil⟩⟩⟩⟩⟩⟩⟩⟩⟩⟩) (by decide) ?_
  exact x_vret C hr hlk rfl d_Rn_reckon_244
def s_Rn_load (mp : Nat → Nat → Int64) (rk : Nat → Int32) (rv : Nat → Int64) (a1 : Int32) (a2 : Int32) (a3 : Int64) : (Nat → Int32) × (Nat → Int64) :=
  (if a2 = 2 then (if a3 < 0 then (rk, rv) else (if 6 ≤ a3 then (rk, rv) else (x_let (s_Rn_set rk rv a1 (rk ((6 + (Int64.toInt32 a3)).toNatClampNeg)) (rv ((6 + (Int64.toInt32 a3)).toNatClampNeg))) fun (rk4, rv4) => (rk4, rv4)))) else (x_let (s_Rn_mapCell mp (a2 - 3) (Int64.toInt32 a3)) fun r5 => (x_let (s_Rn_set rk rv a1 1 r5) fun (rk6, rv6) => (rk6, rv6))))
set_option maxHeartbeats 4000000 in
set_option maxRecDepth 100000 in
theorem c_Rn_load {l : Launch} {D : va_G} {cA : Nat → ClassId} {ad : x_I → Nat} (ok : x_ok (x_k D cA ad)) {stp : Nat → Nat → Int32} {psz : Int32} {gk : Nat → Nat → Int32} {gl : Nat → Nat → Int64} {gh : Nat → Nat → Int64} {opn : Nat → Int32} {cki : Nat → Int32} {ckl : Nat → Int64} {mp : Nat → Nat → Int64} {rk : Nat → Int32} {rv : Nat → Int64} {ri : Nat → Int32} {chk : Int32} {mo : Nat → Nat → Int32} {mi : Nat → Int32} {ml : Nat → Int64} {mk : Nat → Int32} {mlo : Nat → Int64} {mhi : Nat → Int64} {pk : Nat → Int32} {ps : Nat → Int32} {pl : Nat → Int64} {ph : Nat → Int64} {mm : Nat → Int64} {out : Nat → Int64} (a1 : Int32) (a2 : Int32) (a3 : Int64) (h1 : vp_in a1 12) : x_M l y_Rn_load (Cond.code y_Rn_load b_Rn_load 6 (Option.none : Option Jvm.ClassFile.FieldType) :: x_Wd) { frames := 2, cells := 0, slots := 0, locals := 43 } (x_k D cA ad) (x_F ad cA) [(.ref (ad (13, 0))), (.int a1), (.int a2), (.long a3)] ((stp, psz, gk, gl, gh, opn, cki, ckl, mp, rk, rv, ri, chk), (mo, mi, ml, mk, mlo, mhi, pk, ps, pl, ph, mm), out) ((fun q : (Nat → Int32) × (Nat → Int64) => ((none, ((stp, psz, gk, gl, gh, opn, cki, ckl, mp, q.1, q.2, ri, chk), (mo, mi, ml, mk, mlo, mhi, pk, ps, pl, ph, mm), out)) : Option Value × x_S)) (s_Rn_load mp rk rv a1 a2 a3)) 0 0 := by
  refine x_start (κ := x_k D cA ad) (cc := b_Rn_load) (F := x_F ad cA) (wr := (fun q : (Nat → Int32) × (Nat → Int64) => ((none, ((stp, psz, gk, gl, gh, opn, cki, ckl, mp, q.1, q.2, ri, chk), (mo, mi, ml, mk, mlo, mhi, pk, ps, pl, ph, mm), out)) : Option Value × x_S))) (q := s_Rn_load mp rk rv a1 a2 a3) (ret := (Option.none : Option Jvm.ClassFile.FieldType)) (lv0 := [(0, (.ref (ad (13, 0)))), (1, (.int a1)), (2, (.int a2)), (3, (.long a3))]) ok (by decide) rfl (Nat.le_of_ble_eq_true rfl) rfl ?_
  intro p e s m below meth c C hr hlk
  unfold s_Rn_load
  refine x_iload_n 2 C d_Rn_load_0 rfl rfl ?_
  refine x_iconst (v := 2) C d_Rn_load_1 (by decide) ?_
  refine x_icmp_eq 23 C d_Rn_load_2 (by decide) (fun z1 => ?_) (fun z1 => ?_)
  · refine x_lload_n 3 C d_Rn_load_23 rfl rfl ?_
    refine x_lconst (v := 0) C d_Rn_load_24 (by decide) ?_
    refine x_lcmp_lt 63 C d_Rn_load_25 d_Rn_load_26 (by decide) (fun z2 => ?_) (fun z2 => ?_)
    · exact x_vret C hr hlk rfl d_Rn_load_63
    · refine x_lload_n 3 C d_Rn_load_29 rfl rfl ?_
      refine x_ldc2 (v := 6) C (List.mem_cons_of_mem _ q_730) d_Rn_load_30 ?_
      refine x_lcmp_ge 63 C d_Rn_load_33 d_Rn_load_34 (by decide) (fun z3 => ?_) (fun z3 => ?_)
      · exact x_vret C hr hlk rfl d_Rn_load_63
      · refine x_bipush (v := 6) C d_Rn_load_37 (by decide) ?_
        refine x_lload_n 3 C d_Rn_load_39 rfl rfl ?_
        refine x_l2i C d_Rn_load_40 ?_
        refine x_iadd C d_Rn_load_41 ?_
        refine x_istore (lv' := [(5, (.int (6 + (Int64.toInt32 a3)))), (0, (.ref (ad (13, 0)))), (1, (.int a1)), (2, (.int a2)), (3, (.long a3))]) C d_Rn_load_42 (by decide) rfl ?_
        refine x_aload_n 1 C d_Rn_load_44 rfl rfl ?_
        refine x_iload_n 2 C d_Rn_load_45 rfl rfl ?_
        refine x_aload_n 1 C d_Rn_load_46 rfl rfl ?_
        refine x_get (i := (13, 0)) (v := (.ref (ad (16, 0)))) 2 C m_13 rfl rfl i_Rn (by decide) (List.mem_cons_of_mem _ q_185) rfl d_Rn_load_47 ?_
        refine x_iload 0 C d_Rn_load_50 rfl ?_
        refine x_iald (i := (16, 0)) (g := rk) 0 C m_16 rfl rfl (x_ci6 z2 z3) d_Rn_load_52 ?_
        refine x_aload_n 1 C d_Rn_load_53 rfl rfl ?_
        refine x_get (i := (13, 0)) (v := (.ref (ad (17, 0)))) 3 C m_13 rfl rfl i_Rn (by decide) (List.mem_cons_of_mem _ q_186) rfl d_Rn_load_54 ?_
        refine x_iload 0 C d_Rn_load_57 rfl ?_
        refine x_lald (i := (17, 0)) (g := rv) 1 C m_17 rfl rfl (x_ci6 z2 z3) d_Rn_load_59 ?_
        refine x_cv0 (i := (13, 0)) (F := x_F ad cA) (As := [(.int a1), (.int (rk ((6 + (Int64.toInt32 a3)).toNatClampNeg))), (.long (rv ((6 + (Int64.toInt32 a3)).toNatClampNeg)))]) (rest := []) C k_Rn_set q_701 (c_Rn_set ok a1 (rk ((6 + (Int64.toInt32 a3)).toNatClampNeg)) (rv ((6 + (Int64.toInt32 a3)).toNatClampNeg)) h1) rfl rfl rfl (Nat.le_of_ble_eq_true rfl) (Nat.le_of_ble_eq_true rfl) m_13 rfl rfl rfl rfl rfl (Nat.le_of_ble_eq_true rfl) d_Rn_load_60 ⟨Nat.zero_le _, Nat.zero_le _⟩ ?_
        generalize hq4 : s_Rn_set rk rv a1 (rk ((6 + (Int64.toInt32 a3)).toNatClampNeg)) (rv ((6 + (Int64.toInt32 a3)).toNatClampNeg)) = q4
        obtain ⟨rk4, rv4⟩ := q4
        refine x_lets ?_
        dsimp only
        exact x_vret C hr hlk rfl d_Rn_load_63
  · refine x_aload_n 0 C d_Rn_load_5 rfl rfl ?_
    refine x_iload_n 1 C d_Rn_load_6 rfl rfl ?_
    refine x_iconst (v := 1) C d_Rn_load_7 (by decide) ?_
    refine x_aload_n 0 C d_Rn_load_8 rfl rfl ?_
    refine x_iload_n 2 C d_Rn_load_9 rfl rfl ?_
    refine x_iconst (v := 3) C d_Rn_load_10 (by decide) ?_
    refine x_isub C d_Rn_load_11 ?_
    refine x_lload_n 3 C d_Rn_load_12 rfl rfl ?_
    refine x_l2i C d_Rn_load_13 ?_
    refine x_cv (i := (13, 0)) (F := x_F ad cA) (As := [(.int (a2 - 3)), (.int (Int64.toInt32 a3))]) (rest := [(.int 1), (.int a1), (.ref (ad (13, 0)))]) C k_Rn_mapCell q_723 (c_Rn_mapCell ok (a2 - 3) (Int64.toInt32 a3)) rfl rfl rfl (Nat.le_of_ble_eq_true rfl) (Nat.le_of_ble_eq_true rfl) m_13 rfl rfl rfl rfl rfl (Nat.le_of_ble_eq_true rfl) d_Rn_load_14 ⟨Nat.zero_le _, Nat.zero_le _⟩ ?_
    generalize hq5 : s_Rn_mapCell mp (a2 - 3) (Int64.toInt32 a3) = r5
    refine x_lets ?_
    refine x_cv0 (i := (13, 0)) (F := x_F ad cA) (As := [(.int a1), (.int 1), (.long r5)]) (rest := []) C k_Rn_set q_701 (c_Rn_set ok a1 1 r5 h1) rfl rfl rfl (Nat.le_of_ble_eq_true rfl) (Nat.le_of_ble_eq_true rfl) m_13 rfl rfl rfl rfl rfl (Nat.le_of_ble_eq_true rfl) d_Rn_load_17 ⟨Nat.zero_le _, Nat.zero_le _⟩ ?_
    generalize hq6 : s_Rn_set rk rv a1 1 r5 = q6
    obtain ⟨rk6, rv6⟩ := q6
    refine x_lets ?_
    dsimp only
    refine x_goto 63 C d_Rn_load_20 (by decide) ?_
    exact x_vret C hr hlk rfl d_Rn_load_63
def s_Rn_store (mp : Nat → Nat → Int64) (rk : Nat → Int32) (rv : Nat → Int64) (a1 : Int32) (a2 : Int32) (a3 : Int64) : (Nat → Nat → Int64) × (Nat → Int32) × (Nat → Int64) :=
  (if a2 = 2 then (if a3 < 0 then (mp, rk, rv) else (if 6 ≤ a3 then (mp, rk, rv) else (x_let (s_Rn_set rk rv (6 + (Int64.toInt32 a3)) (rk a1.toNatClampNeg) (rv a1.toNatClampNeg)) fun (rk4, rv4) => (mp, rk4, rv4)))) else (x_let (s_Rn_setMapCell mp (a2 - 3) (Int64.toInt32 a3) (rv a1.toNatClampNeg)) fun mp5 => (mp5, rk, rv)))
set_option maxHeartbeats 4000000 in
set_option maxRecDepth 100000 in
theorem c_Rn_store {l : Launch} {D : va_G} {cA : Nat → ClassId} {ad : x_I → Nat} (ok : x_ok (x_k D cA ad)) {stp : Nat → Nat → Int32} {psz : Int32} {gk : Nat → Nat → Int32} {gl : Nat → Nat → Int64} {gh : Nat → Nat → Int64} {opn : Nat → Int32} {cki : Nat → Int32} {ckl : Nat → Int64} {mp : Nat → Nat → Int64} {rk : Nat → Int32} {rv : Nat → Int64} {ri : Nat → Int32} {chk : Int32} {mo : Nat → Nat → Int32} {mi : Nat → Int32} {ml : Nat → Int64} {mk : Nat → Int32} {mlo : Nat → Int64} {mhi : Nat → Int64} {pk : Nat → Int32} {ps : Nat → Int32} {pl : Nat → Int64} {ph : Nat → Int64} {mm : Nat → Int64} {out : Nat → Int64} (a1 : Int32) (a2 : Int32) (a3 : Int64) (h1 : vp_in a1 12) : x_M l y_Rn_store (Cond.code y_Rn_store b_Rn_store 5 (Option.none : Option Jvm.ClassFile.FieldType) :: x_Wd) { frames := 2, cells := 0, slots := 0, locals := 45 } (x_k D cA ad) (x_F ad cA) [(.ref (ad (13, 0))), (.int a1), (.int a2), (.long a3)] ((stp, psz, gk, gl, gh, opn, cki, ckl, mp, rk, rv, ri, chk), (mo, mi, ml, mk, mlo, mhi, pk, ps, pl, ph, mm), out) ((fun q : (Nat → Nat → Int64) × (Nat → Int32) × (Nat → Int64) => ((none, ((stp, psz, gk, gl, gh, opn, cki, ckl, q.1, q.2.1, q.2.2, ri, chk), (mo, mi, ml, mk, mlo, mhi, pk, ps, pl, ph, mm), out)) : Option Value × x_S)) (s_Rn_store mp rk rv a1 a2 a3)) 0 0 := by
  refine x_start (κ := x_k D cA ad) (cc := b_Rn_store) (F := x_F ad cA) (wr := (fun q : (Nat → Nat → Int64) × (Nat → Int32) × (Nat → Int64) => ((none, ((stp, psz, gk, gl, gh, opn, cki, ckl, q.1, q.2.1, q.2.2, ri, chk), (mo, mi, ml, mk, mlo, mhi, pk, ps, pl, ph, mm), out)) : Option Value × x_S))) (q := s_Rn_store mp rk rv a1 a2 a3) (ret := (Option.none : Option Jvm.ClassFile.FieldType)) (lv0 := [(0, (.ref (ad (13, 0)))), (1, (.int a1)), (2, (.int a2)), (3, (.long a3))]) ok (by decide) rfl (Nat.le_of_ble_eq_true rfl) rfl ?_
  intro p e s m below meth c C hr hlk
  unfold s_Rn_store
  refine x_iload_n 2 C d_Rn_store_0 rfl rfl ?_
  refine x_iconst (v := 2) C d_Rn_store_1 (by decide) ?_
  refine x_icmp_eq 23 C d_Rn_store_2 (by decide) (fun z1 => ?_) (fun z1 => ?_)
  · refine x_lload_n 3 C d_Rn_store_23 rfl rfl ?_
    refine x_lconst (v := 0) C d_Rn_store_24 (by decide) ?_
    refine x_lcmp_lt 58 C d_Rn_store_25 d_Rn_store_26 (by decide) (fun z2 => ?_) (fun z2 => ?_)
    · exact x_vret C hr hlk rfl d_Rn_store_58
    · refine x_lload_n 3 C d_Rn_store_29 rfl rfl ?_
      refine x_ldc2 (v := 6) C (List.mem_cons_of_mem _ q_730) d_Rn_store_30 ?_
      refine x_lcmp_ge 58 C d_Rn_store_33 d_Rn_store_34 (by decide) (fun z3 => ?_) (fun z3 => ?_)
      · exact x_vret C hr hlk rfl d_Rn_store_58
      · refine x_aload_n 0 C d_Rn_store_37 rfl rfl ?_
        refine x_bipush (v := 6) C d_Rn_store_38 (by decide) ?_
        refine x_lload_n 3 C d_Rn_store_40 rfl rfl ?_
        refine x_l2i C d_Rn_store_41 ?_
        refine x_iadd C d_Rn_store_42 ?_
        refine x_aload_n 0 C d_Rn_store_43 rfl rfl ?_
        refine x_get (i := (13, 0)) (v := (.ref (ad (16, 0)))) 2 C m_13 rfl rfl i_Rn (by decide) (List.mem_cons_of_mem _ q_185) rfl d_Rn_store_44 ?_
        refine x_iload_n 1 C d_Rn_store_47 rfl rfl ?_
        refine x_iald (i := (16, 0)) (g := rk) 0 C m_16 rfl rfl h1 d_Rn_store_48 ?_
        refine x_aload_n 0 C d_Rn_store_49 rfl rfl ?_
        refine x_get (i := (13, 0)) (v := (.ref (ad (17, 0)))) 3 C m_13 rfl rfl i_Rn (by decide) (List.mem_cons_of_mem _ q_186) rfl d_Rn_store_50 ?_
        refine x_iload_n 1 C d_Rn_store_53 rfl rfl ?_
        refine x_lald (i := (17, 0)) (g := rv) 1 C m_17 rfl rfl h1 d_Rn_store_54 ?_
        refine x_cv0 (i := (13, 0)) (F := x_F ad cA) (As := [(.int (6 + (Int64.toInt32 a3))), (.int (rk a1.toNatClampNeg)), (.long (rv a1.toNatClampNeg))]) (rest := []) C k_Rn_set q_701 (c_Rn_set ok (6 + (Int64.toInt32 a3)) (rk a1.toNatClampNeg) (rv a1.toNatClampNeg) (x_ci6 z2 z3)) rfl rfl rfl (Nat.le_of_ble_eq_true rfl) (Nat.le_of_ble_eq_true rfl) m_13 rfl rfl rfl rfl rfl (Nat.le_of_ble_eq_true rfl) d_Rn_store_55 ⟨Nat.zero_le _, Nat.zero_le _⟩ ?_
        generalize hq4 : s_Rn_set rk rv (6 + (Int64.toInt32 a3)) (rk a1.toNatClampNeg) (rv a1.toNatClampNeg) = q4
        obtain ⟨rk4, rv4⟩ := q4
        refine x_lets ?_
        dsimp only
        exact x_vret C hr hlk rfl d_Rn_store_58
  · refine x_aload_n 0 C d_Rn_store_5 rfl rfl ?_
    refine x_iload_n 2 C d_Rn_store_6 rfl rfl ?_
    refine x_iconst (v := 3) C d_Rn_store_7 (by decide) ?_
    refine x_isub C d_Rn_store_8 ?_
    refine x_lload_n 3 C d_Rn_store_9 rfl rfl ?_
    refine x_l2i C d_Rn_store_10 ?_
    refine x_aload_n 0 C d_Rn_store_11 rfl rfl ?_
    refine x_get (i := (13, 0)) (v := (.ref (ad (17, 0)))) 3 C m_13 rfl rfl i_Rn (by decide) (List.mem_cons_of_mem _ q_186) rfl d_Rn_store_12 ?_
    refine x_iload_n 1 C d_Rn_store_15 rfl rfl ?_
    refine x_lald (i := (17, 0)) (g := rv) 1 C m_17 rfl rfl h1 d_Rn_store_16 ?_
    refine x_cv0 (i := (13, 0)) (F := x_F ad cA) (As := [(.int (a2 - 3)), (.int (Int64.toInt32 a3)), (.long (rv a1.toNatClampNeg))]) (rest := []) C k_Rn_setMapCell q_735 (c_Rn_setMapCell ok (a2 - 3) (Int64.toInt32 a3) (rv a1.toNatClampNeg)) rfl rfl rfl (Nat.le_of_ble_eq_true rfl) (Nat.le_of_ble_eq_true rfl) m_13 rfl rfl rfl rfl rfl (Nat.le_of_ble_eq_true rfl) d_Rn_store_17 ⟨Nat.zero_le _, Nat.zero_le _⟩ ?_
    generalize hq5 : s_Rn_setMapCell mp (a2 - 3) (Int64.toInt32 a3) (rv a1.toNatClampNeg) = mp5
    refine x_lets ?_
    refine x_goto 58 C d_Rn_store_20 (by decide) ?_
    exact x_vret C hr hlk rfl d_Rn_store_58
def s_Rn_findRow (rk : Nat → Int32) (rv : Nat → Int64) (a1 : Int64) : (Nat → Int32) × (Nat → Int64) :=
  (if a1 < 0 then (x_let (s_Rn_set rk rv 0 1 0) fun (rk2, rv2) => (rk2, rv2)) else (if 6 ≤ a1 then (x_let (s_Rn_set rk rv 0 1 0) fun (rk4, rv4) => (rk4, rv4)) else (x_let (s_Rn_set rk rv 0 (3 + (Int64.toInt32 a1)) 0) fun (rk5, rv5) => (rk5, rv5))))
set_option maxHeartbeats 4000000 in
set_option maxRecDepth 100000 in
theorem c_Rn_findRow {l : Launch} {D : va_G} {cA : Nat → ClassId} {ad : x_I → Nat} (ok : x_ok (x_k D cA ad)) {stp : Nat → Nat → Int32} {psz : Int32} {gk : Nat → Nat → Int32} {gl : Nat → Nat → Int64} {gh : Nat → Nat → Int64} {opn : Nat → Int32} {cki : Nat → Int32} {ckl : Nat → Int64} {mp : Nat → Nat → Int64} {rk : Nat → Int32} {rv : Nat → Int64} {ri : Nat → Int32} {chk : Int32} {mo : Nat → Nat → Int32} {mi : Nat → Int32} {ml : Nat → Int64} {mk : Nat → Int32} {mlo : Nat → Int64} {mhi : Nat → Int64} {pk : Nat → Int32} {ps : Nat → Int32} {pl : Nat → Int64} {ph : Nat → Int64} {mm : Nat → Int64} {out : Nat → Int64} (a1 : Int64) : x_M l y_Rn_findRow (Cond.code y_Rn_findRow b_Rn_findRow 3 (Option.none : Option Jvm.ClassFile.FieldType) :: x_Wd) { frames := 1, cells := 0, slots := 0, locals := 24 } (x_k D cA ad) (x_F ad cA) [(.ref (ad (13, 0))), (.long a1)] ((stp, psz, gk, gl, gh, opn, cki, ckl, mp, rk, rv, ri, chk), (mo, mi, ml, mk, mlo, mhi, pk, ps, pl, ph, mm), out) ((fun q : (Nat → Int32) × (Nat → Int64) => ((none, ((stp, psz, gk, gl, gh, opn, cki, ckl, mp, q.1, q.2, ri, chk), (mo, mi, ml, mk, mlo, mhi, pk, ps, pl, ph, mm), out)) : Option Value × x_S)) (s_Rn_findRow rk rv a1)) 0 0 := by
  refine x_start (κ := x_k D cA ad) (cc := b_Rn_findRow) (F := x_F ad cA) (wr := (fun q : (Nat → Int32) × (Nat → Int64) => ((none, ((stp, psz, gk, gl, gh, opn, cki, ckl, mp, q.1, q.2, ri, chk), (mo, mi, ml, mk, mlo, mhi, pk, ps, pl, ph, mm), out)) : Option Value × x_S))) (q := s_Rn_findRow rk rv a1) (ret := (Option.none : Option Jvm.ClassFile.FieldType)) (lv0 := [(0, (.ref (ad (13, 0)))), (1, (.long a1))]) ok (by decide) rfl (Nat.le_of_ble_eq_true rfl) rfl ?_
  intro p e s m below meth c C hr hlk
  unfold s_Rn_findRow
  refine x_lload_n 1 C d_Rn_findRow_0 rfl rfl ?_
  refine x_lconst (v := 0) C d_Rn_findRow_1 (by decide) ?_
  refine x_lcmp_lt 27 C d_Rn_findRow_2 d_Rn_findRow_3 (by decide) (fun z1 => ?_) (fun z1 => ?_)
  · refine x_aload_n 0 C d_Rn_findRow_27 rfl rfl ?_
    refine x_iconst (v := 0) C d_Rn_findRow_28 (by decide) ?_
    refine x_iconst (v := 1) C d_Rn_findRow_29 (by decide) ?_
    refine x_lconst (v := 0) C d_Rn_findRow_30 (by decide) ?_
    refine x_cv0 (i := (13, 0)) (F := x_F ad cA) (As := [(.int 0), (.int 1), (.long 0)]) (rest := []) C k_Rn_set q_701 (c_Rn_set ok 0 1 0 (x_vin (by decide))) rfl rfl rfl (Nat.le_of_ble_eq_true rfl) (Nat.le_of_ble_eq_true rfl) m_13 rfl rfl rfl rfl rfl (Nat.le_of_ble_eq_true rfl) d_Rn_findRow_31 ⟨Nat.zero_le _, Nat.zero_le _⟩ ?_
    generalize hq2 : s_Rn_set rk rv 0 1 0 = q2
    obtain ⟨rk2, rv2⟩ := q2
    refine x_lets ?_
    dsimp only
    exact x_vret C hr hlk rfl d_Rn_findRow_34
  · refine x_lload_n 1 C d_Rn_findRow_6 rfl rfl ?_
    refine x_ldc2 (v := 6) C (List.mem_cons_of_mem _ q_730) d_Rn_findRow_7 ?_
    refine x_lcmp_ge 27 C d_Rn_findRow_10 d_Rn_findRow_11 (by decide) (fun z3 => ?_) (fun z3 => ?_)
    · refine x_aload_n 0 C d_Rn_findRow_27 rfl rfl ?_
      refine x_iconst (v := 0) C d_Rn_findRow_28 (by decide) ?_
      refine x_iconst (v := 1) C d_Rn_findRow_29 (by decide) ?_
      refine x_lconst (v := 0) C d_Rn_findRow_30 (by decide) ?_
      refine x_cv0 (i := (13, 0)) (F := x_F ad cA) (As := [(.int 0), (.int 1), (.long 0)]) (rest := []) C k_Rn_set q_701 (c_Rn_set ok 0 1 0 (x_vin (by decide))) rfl rfl rfl (Nat.le_of_ble_eq_true rfl) (Nat.le_of_ble_eq_true rfl) m_13 rfl rfl rfl rfl rfl (Nat.le_of_ble_eq_true rfl) d_Rn_findRow_31 ⟨Nat.zero_le _, Nat.zero_le _⟩ ?_
      generalize hq4 : s_Rn_set rk rv 0 1 0 = q4
      obtain ⟨rk4, rv4⟩ := q4
      refine x_lets ?_
      dsimp only
      exact x_vret C hr hlk rfl d_Rn_findRow_34
    · refine x_aload_n 0 C d_Rn_findRow_14 rfl rfl ?_
      refine x_iconst (v := 0) C d_Rn_findRow_15 (by decide) ?_
      refine x_iconst (v := 3) C d_Rn_findRow_16 (by decide) ?_
      refine x_lload_n 1 C d_Rn_findRow_17 rfl rfl ?_
      refine x_l2i C d_Rn_findRow_18 ?_
      refine x_iadd C d_Rn_findRow_19 ?_
      refine x_lconst (v := 0) C d_Rn_findRow_20 (by decide) ?_
      refine x_cv0 (i := (13, 0)) (F := x_F ad cA) (As := [(.int 0), (.int (3 + (Int64.toInt32 a1))), (.long 0)]) (rest := []) C k_Rn_set q_701 (c_Rn_set ok 0 (3 + (Int64.toInt32 a1)) 0 (x_vin (by decide))) rfl rfl rfl (Nat.le_of_ble_eq_true rfl) (Nat.le_of_ble_eq_true rfl) m_13 rfl rfl rfl rfl rfl (Nat.le_of_ble_eq_true rfl) d_Rn_findRow_21 ⟨Nat.zero_le _, Nat.zero_le _⟩ ?_
      generalize hq5 : s_Rn_set rk rv 0 (3 + (Int64.toInt32 a1)) 0 = q5
      obtain ⟨rk5, rv5⟩ := q5
      refine x_lets ?_
      dsimp only
      refine x_goto 34 C d_Rn_findRow_24 (by decide) ?_
      exact x_vret C hr hlk rfl d_Rn_findRow_34
def s_Rn_call (rk : Nat → Int32) (rv : Nat → Int64) (ri : Nat → Int32) (a1 : Int32) : (Nat → Int32) × (Nat → Int64) × (Nat → Int32) :=
  (if a1 = 0 then (x_let (s_Rn_set rk rv 0 1 (Int32.toInt64 ((ri 1) - (ri 1) / 100 * 100))) fun (rk2, rv2) => (x_let (s_Rn_set rk2 rv2 1 0 0) fun (rk3, rv3) => (x_let (s_Rn_set rk3 rv3 2 0 0) fun (rk4, rv4) => (x_let (s_Rn_set rk4 rv4 3 0 0) fun (rk5, rv5) => (rk5, rv5, upd ri 1 ((ri 1) + 1)))))) else (if a1 = 1 then (x_let (s_Rn_findRow rk rv (rv (Int32.toNatClampNeg 1))) fun (rk7, rv7) => (x_let (s_Rn_set rk7 rv7 1 0 0) fun (rk8, rv8) => (x_let (s_Rn_set rk8 rv8 2 0 0) fun (rk9, rv9) => (x_let (s_Rn_set rk9 rv9 3 0 0) fun (rk10, rv10) => (rk10, rv10, ri))))) else (x_let (s_Rn_set rk rv 0 1 (if (rv (Int32.toNatClampNeg 2)) < (rv (Int32.toNatClampNeg 1)) then rv (Int32.toNatClampNeg 1) else rv (Int32.toNatClampNeg 2))) fun (rk11, rv11) => (x_let (s_Rn_set rk11 rv11 1 0 0) fun (rk12, rv12) => (x_let (s_Rn_set rk12 rv12 2 0 0) fun (rk13, rv13) => (x_let (s_Rn_set rk13 rv13 3 0 0) fun (rk14, rv14) => (rk14, rv14, ri)))))))
set_option maxHeartbeats 4000000 in
set_option maxRecDepth 100000 in
theorem c_Rn_call {l : Launch} {D : va_G} {cA : Nat → ClassId} {ad : x_I → Nat} (ok : x_ok (x_k D cA ad)) {stp : Nat → Nat → Int32} {psz : Int32} {gk : Nat → Nat → Int32} {gl : Nat → Nat → Int64} {gh : Nat → Nat → Int64} {opn : Nat → Int32} {cki : Nat → Int32} {ckl : Nat → Int64} {mp : Nat → Nat → Int64} {rk : Nat → Int32} {rv : Nat → Int64} {ri : Nat → Int32} {chk : Int32} {mo : Nat → Nat → Int32} {mi : Nat → Int32} {ml : Nat → Int64} {mk : Nat → Int32} {mlo : Nat → Int64} {mhi : Nat → Int64} {pk : Nat → Int32} {ps : Nat → Int32} {pl : Nat → Int64} {ph : Nat → Int64} {mm : Nat → Int64} {out : Nat → Int64} (a1 : Int32) : x_M l y_Rn_call (Cond.code y_Rn_call b_Rn_call 2 (Option.none : Option Jvm.ClassFile.FieldType) :: x_Wd) { frames := 2, cells := 0, slots := 0, locals := 46 } (x_k D cA ad) (x_F ad cA) [(.ref (ad (13, 0))), (.int a1)] ((stp, psz, gk, gl, gh, opn, cki, ckl, mp, rk, rv, ri, chk), (mo, mi, ml, mk, mlo, mhi, pk, ps, pl, ph, mm), out) ((fun q : (Nat → Int32) × (Nat → Int64) × (Nat → Int32) => ((none, ((stp, psz, gk, gl, gh, opn, cki, ckl, mp, q.1, q.2.1, q.2.2, chk), (mo, mi, ml, mk, mlo, mhi, pk, ps, pl, ph, mm), out)) : Option Value × x_S)) (s_Rn_call rk rv ri a1)) 0 0 := by
  refine x_start (κ := x_k D cA ad) (cc := b_Rn_call) (F := x_F ad cA) (wr := (fun q : (Nat → Int32) × (Nat → Int64) × (Nat → Int32) => ((none, ((stp, psz, gk, gl, gh, opn, cki, ckl, mp, q.1, q.2.1, q.2.2, chk), (mo, mi, ml, mk, mlo, mhi, pk, ps, pl, ph, mm), out)) : Option Value × x_S))) (q := s_Rn_call rk rv ri a1) (ret := (Option.none : Option Jvm.ClassFile.FieldType)) (lv0 := [(0, (.ref (ad (13, 0)))), (1, (.int a1))]) ok (by decide) rfl (Nat.le_of_ble_eq_true rfl) rfl ?_
  intro p e s m below meth c C hr hlk
  unfold s_Rn_call
  refine x_iload_n 1 C d_Rn_call_0 rfl rfl ?_
  refine x_if_ne 31 C d_Rn_call_1 (by decide) (fun z1 => ?_) (fun z1 => ?_)
  · refine x_aload_n 0 C d_Rn_call_4 rfl rfl ?_
    refine x_iconst (v := 0) C d_Rn_call_5 (by decide) ?_
    refine x_iconst (v := 1) C d_Rn_call_6 (by decide) ?_
    refine x_aload_n 0 C d_Rn_call_7 rfl rfl ?_
    refine x_get (i := (13, 0)) (v := (.int (ri 1))) 5 C m_13 rfl rfl i_Rn (by decide) (List.mem_cons_of_mem _ q_188) rfl d_Rn_call_8 ?_
    refine x_bipush (v := 100) C d_Rn_call_11 (by decide) ?_
    refine x_irem C (by decide) d_Rn_call_13 ?_
    refine x_i2l C d_Rn_call_14 ?_
    refine x_cv0 (i := (13, 0)) (F := x_F ad cA) (As := [(.int 0), (.int 1), (.long (Int32.toInt64 ((ri 1) - (ri 1) / 100 * 100)))]) (rest := []) C k_Rn_set q_701 (c_Rn_set ok 0 1 (Int32.toInt64 ((ri 1) - (ri 1) / 100 * 100)) (x_vin (by decide))) rfl rfl rfl (Nat.le_of_ble_eq_true rfl) (Nat.le_of_ble_eq_true rfl) m_13 rfl rfl rfl rfl rfl (Nat.le_of_ble_eq_true rfl) d_Rn_call_15 ⟨Nat.zero_le _, Nat.zero_le _⟩ ?_
    generalize hq2 : s_Rn_set rk rv 0 1 (Int32.toInt64 ((ri 1) - (ri 1) / 100 * 100)) = q2
    obtain ⟨rk2, rv2⟩ := q2
    refine x_lets ?_
    dsimp only
    refine x_aload_n 0 C d_Rn_call_18 rfl rfl ?_
    refine x_dup C d_Rn_call_19 rfl ?_
    refine x_get (i := (13, 0)) (v := (.int (ri 1))) 5 C m_13 rfl rfl i_Rn (by decide) (List.mem_cons_of_mem _ q_188) rfl d_Rn_call_20 ?_
    refine x_iconst (v := 1) C d_Rn_call_23 (by decide) ?_
    refine x_iadd C d_Rn_call_24 ?_
    refine x_put (i := (13, 0)) (f' := x_F ad cA ((stp, psz, gk, gl, gh, opn, cki, ckl, mp, rk2, rv2, upd ri 1 ((ri 1) + 1), chk), (mo, mi, ml, mk, mlo, mhi, pk, ps, pl, ph, mm), out)) 5 C m_13 rfl rfl i_Rn t_Rn_ok n_Rn (by decide) (List.mem_cons_of_mem _ q_188) rfl rfl rfl (Nat.le_of_ble_eq_true rfl) d_Rn_call_25 e_ri1 ?_
    refine x_goto 70 C d_Rn_call_28 (by decide) ?_
    refine x_aload_n 0 C d_Rn_call_70 rfl rfl ?_
    refine x_iconst (v := 1) C d_Rn_call_71 (by decide) ?_
    refine x_iconst (v := 0) C d_Rn_call_72 (by decide) ?_
    refine x_lconst (v := 0) C d_Rn_call_73 (by decide) ?_
    refine x_cv0 (i := (13, 0)) (F := x_F ad cA) (As := [(.int 1), (.int 0), (.long 0)]) (rest := []) C k_Rn_set q_701 (c_Rn_set ok 1 0 0 (x_vin (by decide))) rfl rfl rfl (Nat.le_of_ble_eq_true rfl) (Nat.le_of_ble_eq_true rfl) m_13 rfl rfl rfl rfl rfl (Nat.le_of_ble_eq_true rfl) d_Rn_call_74 ⟨Nat.zero_le _, Nat.zero_le _⟩ ?_
    generalize hq3 : s_Rn_set rk2 rv2 1 0 0 = q3
    obtain ⟨rk3, rv3⟩ := q3
    refine x_lets ?_
    dsimp only
    refine x_aload_n 0 C d_Rn_call_77 rfl rfl ?_
    refine x_iconst (v := 2) C d_Rn_call_78 (by decide) ?_
    refine x_iconst (v := 0) C d_Rn_call_79 (by decide) ?_
    refine x_lconst (v := 0) C d_Rn_call_80 (by decide) ?_
    refine x_cv0 (i := (13, 0)) (F := x_F ad cA) (As := [(.int 2), (.int 0), (.long 0)]) (rest := []) C k_Rn_set q_701 (c_Rn_set ok 2 0 0 (x_vin (by decide))) rfl rfl rfl (Nat.le_of_ble_eq_true rfl) (Nat.le_of_ble_eq_true rfl) m_13 rfl rfl rfl rfl rfl (Nat.le_of_ble_eq_true rfl) d_Rn_call_81 ⟨Nat.zero_le _, Nat.zero_le _⟩ ?_
    generalize hq4 : s_Rn_set rk3 rv3 2 0 0 = q4
    obtain ⟨rk4, rv4⟩ := q4
    refine x_lets ?_
    dsimp only
    refine x_aload_n 0 C d_Rn_call_84 rfl rfl ?_
    refine x_iconst (v := 3) C d_Rn_call_85 (by decide) ?_
    refine x_iconst (v := 0) C d_Rn_call_86 (by decide) ?_
    refine x_lconst (v := 0) C d_Rn_call_87 (by decide) ?_
    refine x_cv0 (i := (13, 0)) (F := x_F ad cA) (As := [(.int 3), (.int 0), (.long 0)]) (rest := []) C k_Rn_set q_701 (c_Rn_set ok 3 0 0 (x_vin (by decide))) rfl rfl rfl (Nat.le_of_ble_eq_true rfl) (Nat.le_of_ble_eq_true rfl) m_13 rfl rfl rfl rfl rfl (Nat.le_of_ble_eq_true rfl) d_Rn_call_88 ⟨Nat.zero_le _, Nat.zero_le _⟩ ?_
    generalize hq5 : s_Rn_set rk4 rv4 3 0 0 = q5
    obtain ⟨rk5, rv5⟩ := q5
    refine x_lets ?_
    dsimp only
    exact x_vret C hr hlk rfl d_Rn_call_91
  · refine x_iload_n 1 C d_Rn_call_31 rfl rfl ?_
    refine x_iconst (v := 1) C d_Rn_call_32 (by decide) ?_
    refine x_icmp_ne 49 C d_Rn_call_33 (by decide) (fun z6 => ?_) (fun z6 => ?_)
    · refine x_aload_n 0 C d_Rn_call_36 rfl rfl ?_
      refine x_aload_n 0 C d_Rn_call_37 rfl rfl ?_
      refine x_get (i := (13, 0)) (v := (.ref (ad (17, 0)))) 3 C m_13 rfl rfl i_Rn (by decide) (List.mem_cons_of_mem _ q_186) rfl d_Rn_call_38 ?_
      refine x_iconst (v := 1) C d_Rn_call_41 (by decide) ?_
      refine x_lald (i := (17, 0)) (g := rv) 1 C m_17 rfl rfl (x_vin (by decide)) d_Rn_call_42 ?_
      refine x_cv0 (i := (13, 0)) (F := x_F ad cA) (As := [(.long (rv (Int32.toNatClampNeg 1)))]) (rest := []) C k_Rn_findRow q_743 (c_Rn_findRow ok (rv (Int32.toNatClampNeg 1))) rfl rfl rfl (Nat.le_of_ble_eq_true rfl) (Nat.le_of_ble_eq_true rfl) m_13 rfl rfl rfl rfl rfl (Nat.le_of_ble_eq_true rfl) d_Rn_call_43 ⟨Nat.zero_le _, Nat.zero_le _⟩ ?_
      generalize hq7 : s_Rn_findRow rk rv (rv (Int32.toNatClampNeg 1)) = q7
      obtain ⟨rk7, rv7⟩ := q7
      refine x_lets ?_
      dsimp only
      refine x_goto 70 C d_Rn_call_46 (by decide) ?_
      refine x_aload_n 0 C d_Rn_call_70 rfl rfl ?_
      refine x_iconst (v := 1) C d_Rn_call_71 (by decide) ?_
      refine x_iconst (v := 0) C d_Rn_call_72 (by decide) ?_
      refine x_lconst (v := 0) C d_Rn_call_73 (by decide) ?_
      refine x_cv0 (i := (13, 0)) (F := x_F ad cA) (As := [(.int 1), (.int 0), (.long 0)]) (rest := []) C k_Rn_set q_701 (c_Rn_set ok 1 0 0 (x_vin (by decide))) rfl rfl rfl (Nat.le_of_ble_eq_true rfl) (Nat.le_of_ble_eq_true rfl) m_13 rfl rfl rfl rfl rfl (Nat.le_of_ble_eq_true rfl) d_Rn_call_74 ⟨Nat.zero_le _, Nat.zero_le _⟩ ?_
      generalize hq8 : s_Rn_set rk7 rv7 1 0 0 = q8
      obtain ⟨rk8, rv8⟩ := q8
      refine x_lets ?_
      dsimp only
      refine x_aload_n 0 C d_Rn_call_77 rfl rfl ?_
      refine x_iconst (v := 2) C d_Rn_call_78 (by decide) ?_
      refine x_iconst (v := 0) C d_Rn_call_79 (by decide) ?_
      refine x_lconst (v := 0) C d_Rn_call_80 (by decide) ?_
      refine x_cv0 (i := (13, 0)) (F := x_F ad cA) (As := [(.int 2), (.int 0), (.long 0)]) (rest := []) C k_Rn_set q_701 (c_Rn_set ok 2 0 0 (x_vin (by decide))) rfl rfl rfl (Nat.le_of_ble_eq_true rfl) (Nat.le_of_ble_eq_true rfl) m_13 rfl rfl rfl rfl rfl (Nat.le_of_ble_eq_true rfl) d_Rn_call_81 ⟨Nat.zero_le _, Nat.zero_le _⟩ ?_
      generalize hq9 : s_Rn_set rk8 rv8 2 0 0 = q9
      obtain ⟨rk9, rv9⟩ := q9
      refine x_lets ?_
      dsimp only
      refine x_aload_n 0 C d_Rn_call_84 rfl rfl ?_
      refine x_iconst (v := 3) C d_Rn_call_85 (by decide) ?_
      refine x_iconst (v := 0) C d_Rn_call_86 (by decide) ?_
      refine x_lconst (v := 0) C d_Rn_call_87 (by decide) ?_
      refine x_cv0 (i := (13, 0)) (F := x_F ad cA) (As := [(.int 3), (.int 0), (.long 0)]) (rest := []) C k_Rn_set q_701 (c_Rn_set ok 3 0 0 (x_vin (by decide))) rfl rfl rfl (Nat.le_of_ble_eq_true rfl) (Nat.le_of_ble_eq_true rfl) m_13 rfl rfl rfl rfl rfl (Nat.le_of_ble_eq_true rfl) d_Rn_call_88 ⟨Nat.zero_le _, Nat.zero_le _⟩ ?_
      generalize hq10 : s_Rn_set rk9 rv9 3 0 0 = q10
      obtain ⟨rk10, rv10⟩ := q10
      refine x_lets ?_
      dsimp only
      exact x_vret C hr hlk rfl d_Rn_call_91
    · refine x_aload_n 0 C d_Rn_call_49 rfl rfl ?_
      refine x_iconst (v := 0) C d_Rn_call_50 (by decide) ?_
      refine x_iconst (v := 1) C d_Rn_call_51 (by decide) ?_
      refine x_aload_n 0 C d_Rn_call_52 rfl rfl ?_
      refine x_get (i := (13, 0)) (v := (.ref (ad (17, 0)))) 3 C m_13 rfl rfl i_Rn (by decide) (List.mem_cons_of_mem _ q_186) rfl d_Rn_call_53 ?_
      refine x_iconst (v := 1) C d_Rn_call_56 (by decide) ?_
      refine x_lald (i := (17, 0)) (g := rv) 1 C m_17 rfl rfl (x_vin (by decide)) d_Rn_call_57 ?_
      refine x_aload_n 0 C d_Rn_call_58 rfl rfl ?_
      refine x_get (i := (13, 0)) (v := (.ref (ad (17, 0)))) 3 C m_13 rfl rfl i_Rn (by decide) (List.mem_cons_of_mem _ q_186) rfl d_Rn_call_59 ?_
      refine x_iconst (v := 2) C d_Rn_call_62 (by decide) ?_
      refine x_lald (i := (17, 0)) (g := rv) 1 C m_17 rfl rfl (x_vin (by decide)) d_Rn_call_63 ?_
      refine x_maxl C (List.mem_cons_of_mem _ q_747) (List.mem_cons_of_mem _ q_551) (List.mem_cons_of_mem _ q_16) (List.mem_cons_of_mem _ q_552) (Nat.le_of_ble_eq_true rfl) (Nat.le_of_ble_eq_true rfl) (Nat.zero_le _) (Nat.zero_le _) d_Rn_call_64 ?_
      refine x_cv0 (i := (13, 0)) (F := x_F ad cA) (As := [(.int 0), (.int 1), (.long (if (rv (Int32.toNatClampNeg 2)) < (rv (Int32.toNatClampNeg 1)) then rv (Int32.toNatClampNeg 1) else rv (Int32.toNatClampNeg 2)))]) (rest := []) C k_Rn_set q_701 (c_Rn_set ok 0 1 (if (rv (Int32.toNatClampNeg 2)) < (rv (Int32.toNatClampNeg 1)) then rv (Int32.toNatClampNeg 1) else rv (Int32.toNatClampNeg 2)) (x_vin (by decide))) rfl rfl rfl (Nat.le_of_ble_eq_true rfl) (Nat.le_of_ble_eq_true rfl) m_13 rfl rfl rfl rfl rfl (Nat.le_of_ble_eq_true rfl) d_Rn_call_67 ⟨Nat.zero_le _, Nat.zero_le _⟩ ?_
      generalize hq11 : s_Rn_set rk rv 0 1 (if (rv (Int32.toNatClampNeg 2)) < (rv (Int32.toNatClampNeg 1)) then rv (Int32.toNatClampNeg 1) else rv (Int32.toNatClampNeg 2)) = q11
      obtain ⟨rk11, rv11⟩ := q11
      refine x_lets ?_
      dsimp only
      refine x_aload_n 0 C d_Rn_call_70 rfl rfl ?_
      refine x_iconst (v := 1) C d_Rn_call_71 (by decide) ?_
      refine x_iconst (v := 0) C d_Rn_call_72 (by decide) ?_
      refine x_lconst (v := 0) C d_Rn_call_73 (by decide) ?_
      refine x_cv0 (i := (13, 0)) (F := x_F ad cA) (As := [(.int 1), (.int 0), (.long 0)]) (rest := []) C k_Rn_set q_701 (c_Rn_set ok 1 0 0 (x_vin (by decide))) rfl rfl rfl (Nat.le_of_ble_eq_true rfl) (Nat.le_of_ble_eq_true rfl) m_13 rfl rfl rfl rfl rfl (Nat.le_of_ble_eq_true rfl) d_Rn_call_74 ⟨Nat.zero_le _, Nat.zero_le _⟩ ?_
      generalize hq12 : s_Rn_set rk11 rv11 1 0 0 = q12
      obtain ⟨rk12, rv12⟩ := q12
      refine x_lets ?_
      dsimp only
      refine x_aload_n 0 C d_Rn_call_77 rfl rfl ?_
      refine x_iconst (v := 2) C d_Rn_call_78 (by decide) ?_
      refine x_iconst (v := 0) C d_Rn_call_79 (by decide) ?_
      refine x_lconst (v := 0) C d_Rn_call_80 (by decide) ?_
      refine x_cv0 (i := (13, 0)) (F := x_F ad cA) (As := [(.int 2), (.int 0), (.long 0)]) (rest := []) C k_Rn_set q_701 (c_Rn_set ok 2 0 0 (x_vin (by decide))) rfl rfl rfl (Nat.le_of_ble_eq_true rfl) (Nat.le_of_ble_eq_true rfl) m_13 rfl rfl rfl rfl rfl (Nat.le_of_ble_eq_true rfl) d_Rn_call_81 ⟨Nat.zero_le _, Nat.zero_le _⟩ ?_
      generalize hq13 : s_Rn_set rk12 rv12 2 0 0 = q13
      obtain ⟨rk13, rv13⟩ := q13
      refine x_lets ?_
      dsimp only
      refine x_aload_n 0 C d_Rn_call_84 rfl rfl ?_
      refine x_iconst (v := 3) C d_Rn_call_85 (by decide) ?_
      refine x_iconst (v := 0) C d_Rn_call_86 (by decide) ?_
      refine x_lconst (v := 0) C d_Rn_call_87 (by decide) ?_
      refine x_cv0 (i := (13, 0)) (F := x_F ad cA) (As := [(.int 3), (.int 0), (.long 0)]) (rest := []) C k_Rn_set q_701 (c_Rn_set ok 3 0 0 (x_vin (by decide))) rfl rfl rfl (Nat.le_of_ble_eq_true rfl) (Nat.le_of_ble_eq_true rfl) m_13 rfl rfl rfl rfl rfl (Nat.le_of_ble_eq_true rfl) d_Rn_call_88 ⟨Nat.zero_le _, Nat.zero_le _⟩ ?_
      generalize hq14 : s_Rn_set rk13 rv13 3 0 0 = q14
      obtain ⟨rk14, rv14⟩ := q14
      refine x_lets ?_
      dsimp only
      exact x_vret C hr hlk rfl d_Rn_call_91
def s_Rn_reachOut (stp : Nat → Nat → Int32) (mp : Nat → Nat → Int64) (rk : Nat → Int32) (rv : Nat → Int64) (ri : Nat → Int32) (j : Nat) : (Nat → Nat → Int64) × (Nat → Int32) × (Nat → Int64) × (Nat → Int32) :=
  (if (stp j 0) = 14 then (x_let (s_Rn_load mp rk rv (stp j 1) (rk ((stp j 2).toNatClampNeg)) ((rv ((stp j 2).toNatClampNeg)) + (Int32.toInt64 (stp j 3)))) fun (rk2, rv2) => (mp, rk2, rv2, ri)) else (if (stp j 0) = 15 then (x_let (s_Rn_store mp rk rv (stp j 2) (rk ((stp j 1).toNatClampNeg)) ((rv ((stp j 1).toNatClampNeg)) + (Int32.toInt64 (stp j 3)))) fun (mp4, rk4, rv4) => (mp4, rk4, rv4, ri)) else (x_let (s_Rn_call rk rv ri (stp j 3)) fun (rk5, rv5, ri5) => (mp, rk5, rv5, ri5))))
set_option maxHeartbeats 4000000 in
set_option maxRecDepth 100000 in
theorem c_Rn_reachOut {l : Launch} {D : va_G} {cA : Nat → ClassId} {ad : x_I → Nat} (ok : x_ok (x_k D cA ad)) {stp : Nat → Nat → Int32} {psz : Int32} {gk : Nat → Nat → Int32} {gl : Nat → Nat → Int64} {gh : Nat → Nat → Int64} {opn : Nat → Int32} {cki : Nat → Int32} {ckl : Nat → Int64} {mp : Nat → Nat → Int64} {rk : Nat → Int32} {rv : Nat → Int64} {ri : Nat → Int32} {chk : Int32} {mo : Nat → Nat → Int32} {mi : Nat → Int32} {ml : Nat → Int64} {mk : Nat → Int32} {mlo : Nat → Int64} {mhi : Nat → Int64} {pk : Nat → Int32} {ps : Nat → Int32} {pl : Nat → Int64} {ph : Nat → Int64} {mm : Nat → Int64} {out : Nat → Int64} (j : Nat) (hj : j < 24) (hw : x_wf stp) : x_M l y_Rn_reachOut (Cond.code y_Rn_reachOut b_Rn_reachOut 2 (Option.none : Option Jvm.ClassFile.FieldType) :: x_Wd) { frames := 3, cells := 0, slots := 0, locals := 69 } (x_k D cA ad) (x_F ad cA) [(.ref (ad (13, 0))), (.ref (ad (3, j)))] ((stp, psz, gk, gl, gh, opn, cki, ckl, mp, rk, rv, ri, chk), (mo, mi, ml, mk, mlo, mhi, pk, ps, pl, ph, mm), out) ((fun q : (Nat → Nat → Int64) × (Nat → Int32) × (Nat → Int64) × (Nat → Int32) => ((none, ((stp, psz, gk, gl, gh, opn, cki, ckl, q.1, q.2.1, q.2.2.1, q.2.2.2, chk), (mo, mi, ml, mk, mlo, mhi, pk, ps, pl, ph, mm), out)) : Option Value × x_S)) (s_Rn_reachOut stp mp rk rv ri j)) 0 0 := by
  refine x_start (κ := x_k D cA ad) (cc := b_Rn_reachOut) (F := x_F ad cA) (wr := (fun q : (Nat → Nat → Int64) × (Nat → Int32) × (Nat → Int64) × (Nat → Int32) => ((none, ((stp, psz, gk, gl, gh, opn, cki, ckl, q.1, q.2.1, q.2.2.1, q.2.2.2, chk), (mo, mi, ml, mk, mlo, mhi, pk, ps, pl, ph, mm), out)) : Option Value × x_S))) (q := s_Rn_reachOut stp mp rk rv ri j) (ret := (Option.none : Option Jvm.ClassFile.FieldType)) (lv0 := [(0, (.ref (ad (13, 0)))), (1, (.ref (ad (3, j))))]) ok (by decide) rfl (Nat.le_of_ble_eq_true rfl) rfl ?_
  intro p e s m below meth c C hr hlk
  unfold s_Rn_reachOut
  refine x_aload_n 1 C d_Rn_reachOut_0 rfl rfl ?_
  refine x_get (i := (3, j)) (v := (.int (stp j 0))) 0 C (m_3 hj) rfl rfl i_St (by decide) (List.mem_cons_of_mem _ q_46) rfl d_Rn_reachOut_1 ?_
  refine x_bipush (v := 14) C d_Rn_reachOut_4 (by decide) ?_
  refine x_icmp_ne 44 C d_Rn_reachOut_6 (by decide) (fun z1 => ?_) (fun z1 => ?_)
  · refine x_aload_n 0 C d_Rn_reachOut_9 rfl rfl ?_
    refine x_aload_n 1 C d_Rn_reachOut_10 rfl rfl ?_
    refine x_get (i := (3, j)) (v := (.int (stp j 1))) 1 C (m_3 hj) rfl rfl i_St (by decide) (List.mem_cons_of_mem _ q_52) rfl d_Rn_reachOut_11 ?_
    refine x_aload_n 0 C d_Rn_reachOut_14 rfl rfl ?_
    refine x_get (i := (13, 0)) (v := (.ref (ad (16, 0)))) 2 C m_13 rfl rfl i_Rn (by decide) (List.mem_cons_of_mem _ q_185) rfl d_Rn_reachOut_15 ?_
    refine x_aload_n 1 C d_Rn_reachOut_18 rfl rfl ?_
    refine x_get (i := (3, j)) (v := (.int (stp j 2))) 2 C (m_3 hj) rfl rfl i_St (by decide) (List.mem_cons_of_mem _ q_57) rfl d_Rn_reachOut_19 ?_
    refine x_iald (i := (16, 0)) (g := rk) 0 C m_16 rfl rfl (x_wfs hw hj) d_Rn_reachOut_22 ?_
    refine x_aload_n 0 C d_Rn_reachOut_23 rfl rfl ?_
    refine x_get (i := (13, 0)) (v := (.ref (ad (17, 0)))) 3 C m_13 rfl rfl i_Rn (by decide) (List.mem_cons_of_mem _ q_186) rfl d_Rn_reachOut_24 ?_
    refine x_aload_n 1 C d_Rn_reachOut_27 rfl rfl ?_
    refine x_get (i := (3, j)) (v := (.int (stp j 2))) 2 C (m_3 hj) rfl rfl i_St (by decide) (List.mem_cons_of_mem _ q_57) rfl d_Rn_reachOut_28 ?_
    refine x_lald (i := (17, 0)) (g := rv) 1 C m_17 rfl rfl (x_wfs hw hj) d_Rn_reachOut_31 ?_
    refine x_aload_n 1 C d_Rn_reachOut_32 rfl rfl ?_
    refine x_get (i := (3, j)) (v := (.int (stp j 3))) 3 C (m_3 hj) rfl rfl i_St (by decide) (List.mem_cons_of_mem _ q_63) rfl d_Rn_reachOut_33 ?_
    refine x_i2l C d_Rn_reachOut_36 ?_
    refine x_ladd C d_Rn_reachOut_37 ?_
    refine x_cv0 (i := (13, 0)) (F := x_F ad cA) (As := [(.int (stp j 1)), (.int (rk ((stp j 2).toNatClampNeg))), (.long ((rv ((stp j 2).toNatClampNeg)) + (Int32.toInt64 (stp j 3))))]) (rest := []) C k_Rn_load q_719 (c_Rn_load ok (stp j 1) (rk ((stp j 2).toNatClampNeg)) ((rv ((stp j 2).toNatClampNeg)) + (Int32.toInt64 (stp j 3))) (x_wfd hw hj)) rfl rfl rfl (Nat.le_of_ble_eq_true rfl) (Nat.le_of_ble_eq_true rfl) m_13 rfl rfl rfl rfl rfl (Nat.le_of_ble_eq_true rfl) d_Rn_reachOut_38 ⟨Nat.zero_le _, Nat.zero_le _⟩ ?_
    generalize hq2 : s_Rn_load mp rk rv (stp j 1) (rk ((stp j 2).toNatClampNeg)) ((rv ((stp j 2).toNatClampNeg)) + (Int32.toInt64 (stp j 3))) = q2
    obtain ⟨rk2, rv2⟩ := q2
    refine x_lets ?_
    dsimp only
    refine x_goto 96 C d_Rn_reachOut_41 (by decide) ?_
    exact x_vret C hr hlk rfl d_Rn_reachOut_96
  · refine x_aload_n 1 C d_Rn_reachOut_44 rfl rfl ?_
    refine x_get (i := (3, j)) (v := (.int (stp j 0))) 0 C (m_3 hj) rfl rfl i_St (by decide) (List.mem_cons_of_mem _ q_46) rfl d_Rn_reachOut_45 ?_
    refine x_bipush (v := 15) C d_Rn_reachOut_48 (by decide) ?_
    refine x_icmp_ne 88 C d_Rn_reachOut_50 (by decide) (fun z3 => ?_) (fun z3 => ?_)
    · refine x_aload_n 0 C d_Rn_reachOut_53 rfl rfl ?_
      refine x_aload_n 1 C d_Rn_reachOut_54 rfl rfl ?_
      refine x_get (i := (3, j)) (v := (.int (stp j 2))) 2 C (m_3 hj) rfl rfl i_St (by decide) (List.mem_cons_of_mem _ q_57) rfl d_Rn_reachOut_55 ?_
      refine x_aload_n 0 C d_Rn_reachOut_58 rfl rfl ?_
      refine x_get (i := (13, 0)) (v := (.ref (ad (16, 0)))) 2 C m_13 rfl rfl i_Rn (by decide) (List.mem_cons_of_mem _ q_185) rfl d_Rn_reachOut_59 ?_
      refine x_aload_n 1 C d_Rn_reachOut_62 rfl rfl ?_
      refine x_get (i := (3, j)) (v := (.int (stp j 1))) 1 C (m_3 hj) rfl rfl i_St (by decide) (List.mem_cons_of_mem _ q_52) rfl d_Rn_reachOut_63 ?_
      refine x_iald (i := (16, 0)) (g := rk) 0 C m_16 rfl rfl (x_wfd hw hj) d_Rn_reachOut_66 ?_
      refine x_aload_n 0 C d_Rn_reachOut_67 rfl rfl ?_
      refine x_get (i := (13, 0)) (v := (.ref (ad (17, 0)))) 3 C m_13 rfl rfl i_Rn (by decide) (List.mem_cons_of_mem _ q_186) rfl d_Rn_reachOut_68 ?_
      refine x_aload_n 1 C d_Rn_reachOut_71 rfl rfl ?_
      refine x_get (i := (3, j)) (v := (.int (stp j 1))) 1 C (m_3 hj) rfl rfl i_St (by decide) (List.mem_cons_of_mem _ q_52) rfl d_Rn_reachOut_72 ?_
      refine x_lald (i := (17, 0)) (g := rv) 1 C m_17 rfl rfl (x_wfd hw hj) d_Rn_reachOut_75 ?_
      refine x_aload_n 1 C d_Rn_reachOut_76 rfl rfl ?_
      refine x_get (i := (3, j)) (v := (.int (stp j 3))) 3 C (m_3 hj) rfl rfl i_St (by decide) (List.mem_cons_of_mem _ q_63) rfl d_Rn_reachOut_77 ?_
      refine x_i2l C d_Rn_reachOut_80 ?_
      refine x_ladd C d_Rn_reachOut_81 ?_
      refine x_cv0 (i := (13, 0)) (F := x_F ad cA) (As := [(.int (stp j 2)), (.int (rk ((stp j 1).toNatClampNeg))), (.long ((rv ((stp j 1).toNatClampNeg)) + (Int32.toInt64 (stp j 3))))]) (rest := []) C k_Rn_store q_731 (c_Rn_store ok (stp j 2) (rk ((stp j 1).toNatClampNeg)) ((rv ((stp j 1).toNatClampNeg)) + (Int32.toInt64 (stp j 3))) (x_wfs hw hj)) rfl rfl rfl (Nat.le_of_ble_eq_true rfl) (Nat.le_of_ble_eq_true rfl) m_13 rfl rfl rfl rfl rfl (Nat.le_of_ble_eq_true rfl) d_Rn_reachOut_82 ⟨Nat.zero_le _, Nat.zero_le _⟩ ?_
      generalize hq4 : s_Rn_store mp rk rv (stp j 2) (rk ((stp j 1).toNatClampNeg)) ((rv ((stp j 1).toNatClampNeg)) + (Int32.toInt64 (stp j 3))) = q4
      obtain ⟨mp4, rk4, rv4⟩ := q4
      refine x_lets ?_
      dsimp only
      refine x_goto 96 C d_Rn_reachOut_85 (by decide) ?_
      exact x_vret C hr hlk rfl d_Rn_reachOut_96
    · refine x_aload_n 0 C d_Rn_reachOut_88 rfl rfl ?_
      refine x_aload_n 1 C d_Rn_reachOut_89 rfl rfl ?_
      refine x_get (i := (3, j)) (v := (.int (stp j 3))) 3 C (m_3 hj) rfl rfl i_St (by decide) (List.mem_cons_of_mem _ q_63) rfl d_Rn_reachOut_90 ?_
      refine x_cv0 (i := (13, 0)) (F := x_F ad cA) (As := [(.int (stp j 3))]) (rest := []) C k_Rn_call q_739 (c_Rn_call ok (stp j 3)) rfl rfl rfl (Nat.le_of_ble_eq_true rfl) (Nat.le_of_ble_eq_true rfl) m_13 rfl rfl rfl rfl rfl (Nat.le_of_ble_eq_true rfl) d_Rn_reachOut_93 ⟨Nat.zero_le _, Nat.zero_le _⟩ ?_
      generalize hq5 : s_Rn_call rk rv ri (stp j 3) = q5
      obtain ⟨rk5, rv5, ri5⟩ := q5
      refine x_lets ?_
      dsimp only
      exact x_vret C hr hlk rfl d_Rn_reachOut_96
def s_Rn_runStep (stp : Nat → Nat → Int32) (psz : Int32) (mp : Nat → Nat → Int64) (rk : Nat → Int32) (rv : Nat → Int64) (ri : Nat → Int32) (a1 : Int32) : Int32 × (Nat → Nat → Int64) × (Nat → Int32) × (Nat → Int64) × (Nat → Int32) :=
  (x_let (s_Pg_stepAt psz a1) fun r1 => match r1 with | none => ((-1), mp, rk, rv, ri) | some j1 => (if (stp j1 0) = 17 then ((-1), mp, rk, rv, ri) else (x_let (s_St_mayJump stp j1) fun r3 => (if r3 = 0 then (if (stp j1 0) < 14 then (x_let (s_Rn_reckon stp rk rv j1) fun (rk6, rv6) => (a1 + 1, mp, rk6, rv6, ri)) else (x_let (s_Rn_reachOut stp mp rk rv ri j1) fun (mp7, rk7, rv7, ri7) => (a1 + 1, mp7, rk7, rv7, ri7))) else (x_let (s_Rn_jumps stp rk rv j1) fun r8 => (if r8 = 0 then (a1 + 1, mp, rk, rv, ri) else (stp j1 4, mp, rk, rv, ri)))))))
set_option maxHeartbeats 4000000 in
set_option maxRecDepth 100000 in
theorem c_Rn_runStep {l : Launch} {D : va_G} {cA : Nat → ClassId} {ad : x_I → Nat} (ok : x_ok (x_k D cA ad)) {stp : Nat → Nat → Int32} {psz : Int32} {gk : Nat → Nat → Int32} {gl : Nat → Nat → Int64} {gh : Nat → Nat → Int64} {opn : Nat → Int32} {cki : Nat → Int32} {ckl : Nat → Int64} {mp : Nat → Nat → Int64} {rk : Nat → Int32} {rv : Nat → Int64} {ri : Nat → Int32} {chk : Int32} {mo : Nat → Nat → Int32} {mi : Nat → Int32} {ml : Nat → Int64} {mk : Nat → Int32} {mlo : Nat → Int64} {mhi : Nat → Int64} {pk : Nat → Int32} {ps : Nat → Int32} {pl : Nat → Int64} {ph : Nat → Int64} {mm : Nat → Int64} {out : Nat → Int64} (a1 : Int32) (hw : x_wf stp) : x_M l y_Rn_runStep (Cond.code y_Rn_runStep b_Rn_runStep 3 (Option.some Jvm.ClassFile.FieldType.int) :: x_Wd) { frames := 4, cells := 0, slots := 0, locals := 90 } (x_k D cA ad) (x_F ad cA) [(.ref (ad (13, 0))), (.int a1)] ((stp, psz, gk, gl, gh, opn, cki, ckl, mp, rk, rv, ri, chk), (mo, mi, ml, mk, mlo, mhi, pk, ps, pl, ph, mm), out) ((fun q : Int32 × (Nat → Nat → Int64) × (Nat → Int32) × (Nat → Int64) × (Nat → Int32) => ((some (.int (q.1)), ((stp, psz, gk, gl, gh, opn, cki, ckl, q.2.1, q.2.2.1, q.2.2.2.1, q.2.2.2.2, chk), (mo, mi, ml, mk, mlo, mhi, pk, ps, pl, ph, mm), out)) : Option Value × x_S)) (s_Rn_runStep stp psz mp rk rv ri a1)) 0 0 := by
  refine x_start (κ := x_k D cA ad) (cc := b_Rn_runStep) (F := x_F ad cA) (wr := (fun q : Int32 × (Nat → Nat → Int64) × (Nat → Int32) × (Nat → Int64) × (Nat → Int32) => ((some (.int (q.1)), ((stp, psz, gk, gl, gh, opn, cki, ckl, q.2.1, q.2.2.1, q.2.2.2.1, q.2.2.2.2, chk), (mo, mi, ml, mk, mlo, mhi, pk, ps, pl, ph, mm), out)) : Option Value × x_S))) (q := s_Rn_runStep stp psz mp rk rv ri a1) (ret := (Option.some Jvm.ClassFile.FieldType.int)) (lv0 := [(0, (.ref (ad (13, 0)))), (1, (.int a1))]) ok (by decide) rfl (Nat.le_of_ble_eq_true rfl) rfl ?_
  intro p e s m below meth c C hr hlk
  unfold s_Rn_runStep
  refine x_aload_n 0 C d_Rn_runStep_0 rfl rfl ?_
  refine x_get (i := (13, 0)) (v := (.ref (ad (1, 0)))) 0 C m_13 rfl rfl i_Rn (by decide) (List.mem_cons_of_mem _ q_183) rfl d_Rn_runStep_1 ?_
  refine x_iload_n 1 C d_Rn_runStep_4 rfl rfl ?_
  refine x_cv (i := (1, 0)) (F := x_F ad cA) (As := [(.int a1)]) (rest := []) C k_Pg_stepAt q_709 (c_Pg_stepAt ok a1) rfl rfl rfl (Nat.le_of_ble_eq_true rfl) (Nat.le_of_ble_eq_true rfl) m_1 rfl rfl rfl rfl rfl (Nat.le_of_ble_eq_true rfl) d_Rn_runStep_5 ⟨Nat.zero_le _, Nat.zero_le _⟩ ?_
  generalize hq1 : s_Pg_stepAt psz a1 = r1
  refine x_lets ?_
  cases r1 with
  | none =>
    dsimp only [x_rv]
    refine x_astore_nN (lv' := [(2, .null), (0, (.ref (ad (13, 0)))), (1, (.int a1))]) C d_Rn_runStep_8 rfl (by decide) rfl ?_
    refine x_aload_nN 0 C d_Rn_runStep_9 rfl rfl ?_
    refine x_ifnullN 22 C d_Rn_runStep_10 (by decide) ?_
    refine x_iconst (v := (-1)) C d_Rn_runStep_22 (by decide) ?_
    exact x_iret C hr hlk rfl d_Rn_runStep_23
  | some j1 =>
    dsimp only [x_rv]
    have hj1 : j1 < 24 := r_Pg_stepAt hq1
    refine x_astore_n (lv' := [(2, (.ref (ad (3, j1)))), (0, (.ref (ad (13, 0)))), (1, (.int a1))]) C d_Rn_runStep_8 rfl (by decide) rfl ?_
    refine x_aload_n 0 C d_Rn_runStep_9 rfl rfl ?_
    refine x_ifnullR C d_Rn_runStep_10 ?_
    refine x_aload_n 0 C d_Rn_runStep_13 rfl rfl ?_
    refine x_get (i := (3, j1)) (v := (.int (stp j1 0))) 0 C (m_3 hj1) rfl rfl i_St (by decide) (List.mem_cons_of_mem _ q_46) rfl d_Rn_runStep_14 ?_
    refine x_bipush (v := 17) C d_Rn_runStep_17 (by decide) ?_
    refine x_icmp_ne 24 C d_Rn_runStep_19 (by decide) (fun z2 => ?_) (fun z2 => ?_)
    · refine x_iconst (v := (-1)) C d_Rn_runStep_22 (by decide) ?_
      exact x_iret C hr hlk rfl d_Rn_runStep_23
    · refine x_aload_n 0 C d_Rn_runStep_24 rfl rfl ?_
      refine x_cv (i := (3, j1)) (F := x_F ad cA) (As := []) (rest := []) C k_St_mayJump q_710 (c_St_mayJump ok j1 hj1) rfl rfl rfl (Nat.le_of_ble_eq_true rfl) (Nat.le_of_ble_eq_true rfl) (m_3 hj1) rfl rfl rfl rfl rfl (Nat.le_of_ble_eq_true rfl) d_Rn_runStep_25 ⟨Nat.zero_le _, Nat.zero_le _⟩ ?_
      generalize hq3 : s_St_mayJump stp j1 = r3
      refine x_lets ?_
      refine x_if_eq 50 C d_Rn_runStep_28 (by decide) (fun z4 => ?_) (fun z4 => ?_)
      · refine x_aload_n 0 C d_Rn_runStep_50 rfl rfl ?_
        refine x_get (i := (3, j1)) (v := (.int (stp j1 0))) 0 C (m_3 hj1) rfl rfl i_St (by decide) (List.mem_cons_of_mem _ q_46) rfl d_Rn_runStep_51 ?_
        refine x_bipush (v := 14) C d_Rn_runStep_54 (by decide) ?_
        refine x_icmp_lt 67 C d_Rn_runStep_56 (by decide) (fun z5 => ?_) (fun z5 => ?_)
        · refine x_aload_n 1 C d_Rn_runStep_67 rfl rfl ?_
          refine x_aload_n 0 C d_Rn_runStep_68 rfl rfl ?_
          refine x_cv0 (i := (13, 0)) (F := x_F ad cA) (As := [(.ref (ad (3, j1)))]) (rest := []) C k_Rn_reckon q_748 (c_Rn_reckon ok j1 hj1 hw) rfl rfl rfl (Nat.le_of_ble_eq_true rfl) (Nat.le_of_ble_eq_true rfl) m_13 rfl rfl rfl rfl rfl (Nat.le_of_ble_eq_true rfl) d_Rn_runStep_69 ⟨Nat.zero_le _, Nat.zero_le _⟩ ?_
          generalize hq6 : s_Rn_reckon stp rk rv j1 = q6
          obtain ⟨rk6, rv6⟩ := q6
          refine x_lets ?_
          dsimp only
          refine x_iload_n 2 C d_Rn_runStep_72 rfl rfl ?_
          refine x_iconst (v := 1) C d_Rn_runStep_73 (by decide) ?_
          refine x_iadd C d_Rn_runStep_74 ?_
          exact x_iret C hr hlk rfl d_Rn_runStep_75
        · refine x_aload_n 1 C d_Rn_runStep_59 rfl rfl ?_
          refine x_aload_n 0 C d_Rn_runStep_60 rfl rfl ?_
          refine x_cv0 (i := (13, 0)) (F := x_F ad cA) (As := [(.ref (ad (3, j1)))]) (rest := []) C k_Rn_reachOut q_715 (c_Rn_reachOut ok j1 hj1 hw) rfl rfl rfl (Nat.le_of_ble_eq_true rfl) (Nat.le_of_ble_eq_true rfl) m_13 rfl rfl rfl rfl rfl (Nat.le_of_ble_eq_true rfl) d_Rn_runStep_61 ⟨Nat.zero_le _, Nat.zero_le _⟩ ?_
          generalize hq7 : s_Rn_reachOut stp mp rk rv ri j1 = q7
          obtain ⟨mp7, rk7, rv7, ri7⟩ := q7
          refine x_lets ?_
          dsimp only
          refine x_goto 72 C d_Rn_runStep_64 (by decide) ?_
          refine x_iload_n 2 C d_Rn_runStep_72 rfl rfl ?_
          refine x_iconst (v := 1) C d_Rn_runStep_73 (by decide) ?_
          refine x_iadd C d_Rn_runStep_74 ?_
          exact x_iret C hr hlk rfl d_Rn_runStep_75
      · refine x_aload_n 1 C d_Rn_runStep_31 rfl rfl ?_
        refine x_aload_n 0 C d_Rn_runStep_32 rfl rfl ?_
        refine x_cv (i := (13, 0)) (F := x_F ad cA) (As := [(.ref (ad (3, j1)))]) (rest := []) C k_Rn_jumps q_711 (c_Rn_jumps ok j1 hj1 hw) rfl rfl rfl (Nat.le_of_ble_eq_true rfl) (Nat.le_of_ble_eq_true rfl) m_13 rfl rfl rfl rfl rfl (Nat.le_of_ble_eq_true rfl) d_Rn_runStep_33 ⟨Nat.zero_le _, Nat.zero_le _⟩ ?_
        generalize hq8 : s_Rn_jumps stp rk rv j1 = r8
        refine x_lets ?_
        refine x_if_eq 46 C d_Rn_runStep_36 (by decide) (fun z9 => ?_) (fun z9 => ?_)
        · refine x_iload_n 2 C d_Rn_runStep_46 rfl rfl ?_
          refine x_iconst (v := 1) C d_Rn_runStep_47 (by decide) ?_
          refine x_iadd C d_Rn_runStep_48 ?_
          exact x_iret C hr hlk rfl d_Rn_runStep_49
        · refine x_aload_n 0 C d_Rn_runStep_39 rfl rfl ?_
          refine x_get (i := (3, j1)) (v := (.int (stp j1 4))) 4 C (m_3 hj1) rfl rfl i_St (by decide) (List.mem_cons_of_mem _ q_66) rfl d_Rn_runStep_40 ?_
          refine x_goto 49 C d_Rn_runStep_43 (by decide) ?_
          exact x_iret C hr hlk rfl d_Rn_runStep_49
def lp_Rn_runThrough_45 (n : Nat) (stp : Nat → Nat → Int32) (psz : Int32) (mp : Nat → Nat → Int64) (rk : Nat → Int32) (rv : Nat → Int64) (ri : Nat → Int32) (a1 : Int64) (x3 : Int32) (x4 : Int32) : Int64 × (Nat → Nat → Int64) × (Nat → Int32) × (Nat → Int64) × (Nat → Int32) := match n with
  | 0 => (0, mp, rk, rv, ri)
  | n + 1 => (if 24 ≤ x4 then (rv (Int32.toNatClampNeg 0), mp, rk, rv, ri) else (if x3 = (-1) then (rv (Int32.toNatClampNeg 0), mp, rk, rv, ri) else (x_let (s_Rn_runStep stp psz mp rk rv (upd ri 0 ((ri 0) + 1)) x3) fun (r6, mp6, rk6, rv6, ri6) => lp_Rn_runThrough_45 n stp psz mp6 rk6 rv6 ri6 a1 r6 (x4 + 1))))
set_option maxHeartbeats 4000000 in
set_option maxRecDepth 100000 in
theorem cl_Rn_runThrough_45 {l : Launch} {D : va_G} {cA : Nat → ClassId} {ad : x_I → Nat} (ok : x_ok (x_k D cA ad)) {stp : Nat → Nat → Int32} {psz : Int32} {gk : Nat → Nat → Int32} {gl : Nat → Nat → Int64} {gh : Nat → Nat → Int64} {opn : Nat → Int32} {cki : Nat → Int32} {ckl : Nat → Int64} {chk : Int32} {mo : Nat → Nat → Int32} {mi : Nat → Int32} {ml : Nat → Int64} {mk : Nat → Int32} {mlo : Nat → Int64} {mhi : Nat → Int64} {pk : Nat → Int32} {ps : Nat → Int32} {pl : Nat → Int64} {ph : Nat → Int64} {mm : Nat → Int64} {out : Nat → Int64} {p : Program} {e : Env} {s : State} {m : MethodId} {args : Array Value} {below : List Frame} {meth : Method} {c : Code} (C : x_C p s m args c b_Rn_runThrough 5 R_Rn (Cond.code y_Rn_runThrough b_Rn_runThrough 5 (Option.some Jvm.ClassFile.FieldType.long) :: x_Wd) (x_k D cA ad)) (hr : meth.sig.returnType = (Option.some Jvm.ClassFile.FieldType.long)) (hlk : meth.locks = false) (a1 : Int64) (hw : x_wf stp) : ∀ (n : Nat) (mp : Nat → Nat → Int64) (rk : Nat → Int32) (rv : Nat → Int64) (ri : Nat → Int32) (x3 : Int32) (x4 : Int32) (hv : x_lp x4 24 n), x_V p l e { frames := 5, cells := 0, slots := 0, locals := 112 } s m args below meth c (x_k D cA ad) 5 0 0 (x_E below (x_k D cA ad) args s 0 0 (x_F ad cA) (fun q : Int64 × (Nat → Nat → Int64) × (Nat → Int32) × (Nat → Int64) × (Nat → Int32) => ((some (.long (q.1)), ((stp, psz, gk, gl, gh, opn, cki, ckl, q.2.1, q.2.2.1, q.2.2.2.1, q.2.2.2.2, chk), (mo, mi, ml, mk, mlo, mhi, pk, ps, pl, ph, mm), out)) : Option Value × x_S)) (lp_Rn_runThrough_45 n stp psz mp rk rv ri a1 x3 x4)) (x_F ad cA ((stp, psz, gk, gl, gh, opn, cki, ckl, mp, rk, rv, ri, chk), (mo, mi, ml, mk, mlo, mhi, pk, ps, pl, ph, mm), out)) 45 [(0, (.ref (ad (13, 0)))), (3, (.int x3)), (4, (.int x4))] [] := by
  intro n
  induction n with
  | zero => intro mp rk rv ri x3 x4 hv; exact absurd hv x_lp0
  | succ n ih =>
    intro mp rk rv ri x3 x4 hv
    rw [lp_Rn_runThrough_45]
    refine x_iload 2 C d_Rn_runThrough_45 rfl ?_
    refine x_bipush (v := 24) C d_Rn_runThrough_47 (by decide) ?_
    refine x_icmp_ge 79 C d_Rn_runThrough_49 (by decide) (fun z4 => ?_) (fun z4 => ?_)
    · refine x_aload_n 0 C d_Rn_runThrough_79 rfl rfl ?_
      refine x_get (i := (13, 0)) (v := (.ref (ad (17, 0)))) 3 C m_13 rfl rfl i_Rn (by decide) (List.mem_cons_of_mem _ q_186) rfl d_Rn_runThrough_80 ?_
      refine x_iconst (v := 0) C d_Rn_runThrough_83 (by decide) ?_
      refine x_lald (i := (17, 0)) (g := rv) 1 C m_17 rfl rfl (x_vin (by decide)) d_Rn_runThrough_84 ?_
      exact x_lret C hr hlk rfl d_Rn_runThrough_85
    · refine x_iload_n 1 C d_Rn_runThrough_52 rfl rfl ?_
      refine x_iconst (v := (-1)) C d_Rn_runThrough_53 (by decide) ?_
      refine x_icmp_eq 79 C d_Rn_runThrough_54 (by decide) (fun z5 => ?_) (fun z5 => ?_)
      · refine x_aload_n 0 C d_Rn_runThrough_79 rfl rfl ?_
        refine x_get (i := (13, 0)) (v := (.ref (ad (17, 0)))) 3 C m_13 rfl rfl i_Rn (by decide) (List.mem_cons_of_mem _ q_186) rfl d_Rn_runThrough_80 ?_
        refine x_iconst (v := 0) C d_Rn_runThrough_83 (by decide) ?_
        refine x_lald (i := (17, 0)) (g := rv) 1 C m_17 rfl rfl (x_vin (by decide)) d_Rn_runThrough_84 ?_
        exact x_lret C hr hlk rfl d_Rn_runThrough_85
      · refine x_aload_n 0 C d_Rn_runThrough_57 rfl rfl ?_
        refine x_dup C d_Rn_runThrough_58 rfl ?_
        refine x_get (i := (13, 0)) (v := (.int (ri 0))) 4 C m_13 rfl rfl i_Rn (by decide) (List.mem_cons_of_mem _ q_187) rfl d_Rn_runThrough_59 ?_
        refine x_iconst (v := 1) C d_Rn_runThrough_62 (by decide) ?_
        refine x_iadd C d_Rn_runThrough_63 ?_
        refine x_put (i := (13, 0)) (f' := x_F ad cA ((stp, psz, gk, gl, gh, opn, cki, ckl, mp, rk, rv, upd ri 0 ((ri 0) + 1), chk), (mo, mi, ml, mk, mlo, mhi, pk, ps, pl, ph, mm), out)) 4 C m_13 rfl rfl i_Rn t_Rn_ok n_Rn (by decide) (List.mem_cons_of_mem _ q_187) rfl rfl rfl (Nat.le_of_ble_eq_true rfl) d_Rn_runThrough_64 e_ri0 ?_
        refine x_aload_n 0 C d_Rn_runThrough_67 rfl rfl ?_
        refine x_iload_n 1 C d_Rn_runThrough_68 rfl rfl ?_
        refine x_cv (i := (13, 0)) (F := x_F ad cA) (As := [(.int x3)]) (rest := []) C k_Rn_runStep q_705 (c_Rn_runStep ok x3 hw) rfl rfl rfl (Nat.le_of_ble_eq_true rfl) (Nat.le_of_ble_eq_true rfl) m_13 rfl rfl rfl rfl rfl (Nat.le_of_ble_eq_true rfl) d_Rn_runThrough_69 ⟨Nat.zero_le _, Nat.zero_le _⟩ ?_
        generalize hq6 : s_Rn_runStep stp psz mp rk rv (upd ri 0 ((ri 0) + 1)) x3 = q6
        obtain ⟨r6, mp6, rk6, rv6, ri6⟩ := q6
        refine x_lets ?_
        dsimp only
        refine x_istore_n (lv' := [(3, (.int r6)), (0, (.ref (ad (13, 0)))), (4, (.int x4))]) C d_Rn_runThrough_72 rfl (by decide) rfl ?_
        refine x_iinc (lv' := [(4, (.int (x4 + 1))), (3, (.int r6)), (0, (.ref (ad (13, 0))))]) 2 C d_Rn_runThrough_73 rfl rfl (by decide) rfl ?_
        refine x_goto 45 C d_Rn_runThrough_76 (by decide) ?_
        refine x_loc (lv' := [(0, (.ref (ad (13, 0)))), (3, (.int r6)), (4, (.int (x4 + 1)))]) [2, 1, 0] rfl ?_
        exact ih mp6 rk6 rv6 ri6 r6 (x4 + 1) (x_lpS hv z4 (by decide) (by decide))
def lp_Rn_runThrough_2 (n : Nat) (stp : Nat → Nat → Int32) (psz : Int32) (mp : Nat → Nat → Int64) (rk : Nat → Int32) (rv : Nat → Int64) (ri : Nat → Int32) (a1 : Int64) (x3 : Int32) : Int64 × (Nat → Nat → Int64) × (Nat → Int32) × (Nat → Int64) × (Nat → Int32) := match n with
  | 0 => (0, mp, rk, rv, ri)
  | n + 1 => (if 12 ≤ x3 then (x_let (s_Rn_set rk rv 1 1 a1) fun (rk2, rv2) => (x_let (s_Rn_set rk2 rv2 2 2 0) fun (rk3, rv3) => lp_Rn_runThrough_45 25 stp psz mp rk3 rv3 (upd ri 0 0) a1 0 0)) else (x_let (s_Rn_set rk rv x3 0 0) fun (rk7, rv7) => lp_Rn_runThrough_2 n stp psz mp rk7 rv7 ri a1 (x3 + 1)))
set_option maxHeartbeats 4000000 in
set_option maxRecDepth 100000 in
theorem cl_Rn_runThrough_2 {l : Launch} {D : va_G} {cA : Nat → ClassId} {ad : x_I → Nat} (ok : x_ok (x_k D cA ad)) {stp : Nat → Nat → Int32} {psz : Int32} {gk : Nat → Nat → Int32} {gl : Nat → Nat → Int64} {gh : Nat → Nat → Int64} {opn : Nat → Int32} {cki : Nat → Int32} {ckl : Nat → Int64} {chk : Int32} {mo : Nat → Nat → Int32} {mi : Nat → Int32} {ml : Nat → Int64} {mk : Nat → Int32} {mlo : Nat → Int64} {mhi : Nat → Int64} {pk : Nat → Int32} {ps : Nat → Int32} {pl : Nat → Int64} {ph : Nat → Int64} {mm : Nat → Int64} {out : Nat → Int64} {p : Program} {e : Env} {s : State} {m : MethodId} {args : Array Value} {below : List Frame} {meth : Method} {c : Code} (C : x_C p s m args c b_Rn_runThrough 5 R_Rn (Cond.code y_Rn_runThrough b_Rn_runThrough 5 (Option.some Jvm.ClassFile.FieldType.long) :: x_Wd) (x_k D cA ad)) (hr : meth.sig.returnType = (Option.some Jvm.ClassFile.FieldType.long)) (hlk : meth.locks = false) (a1 : Int64) (hw : x_wf stp) : ∀ (n : Nat) (mp : Nat → Nat → Int64) (rk : Nat → Int32) (rv : Nat → Int64) (ri : Nat → Int32) (x3 : Int32) (hv : x_lp x3 12 n), x_V p l e { frames := 5, cells := 0, slots := 0, locals := 112 } s m args below meth c (x_k D cA ad) 5 0 0 (x_E below (x_k D cA ad) args s 0 0 (x_F ad cA) (fun q : Int64 × (Nat → Nat → Int64) × (Nat → Int32) × (Nat → Int64) × (Nat → Int32) => ((some (.long (q.1)), ((stp, psz, gk, gl, gh, opn, cki, ckl, q.2.1, q.2.2.1, q.2.2.2.1, q.2.2.2.2, chk), (mo, mi, ml, mk, mlo, mhi, pk, ps, pl, ph, mm), out)) : Option Value × x_S)) (lp_Rn_runThrough_2 n stp psz mp rk rv ri a1 x3)) (x_F ad cA ((stp, psz, gk, gl, gh, opn, cki, ckl, mp, rk, rv, ri, chk), (mo, mi, ml, mk, mlo, mhi, pk, ps, pl, ph, mm), out)) 2 [(0, (.ref (ad (13, 0)))), (1, (.long a1)), (3, (.int x3))] [] := by
  intro n
  induction n with
  | zero => intro mp rk rv ri x3 hv; exact absurd hv x_lp0
  | succ n ih =>
    intro mp rk rv ri x3 hv
    rw [lp_Rn_runThrough_2]
    refine x_iload_n 2 C d_Rn_runThrough_2 rfl rfl ?_
    refine x_bipush (v := 12) C d_Rn_runThrough_3 (by decide) ?_
    refine x_icmp_ge 21 C d_Rn_runThrough_5 (by decide) (fun z1 => ?_) (fun z1 => ?_)
    · refine x_aload_n 0 C d_Rn_runThrough_21 rfl rfl ?_
      refine x_iconst (v := 1) C d_Rn_runThrough_22 (by decide) ?_
      refine x_iconst (v := 1) C d_Rn_runThrough_23 (by decide) ?_
      refine x_lload_n 1 C d_Rn_runThrough_24 rfl rfl ?_
      refine x_cv0 (i := (13, 0)) (F := x_F ad cA) (As := [(.int 1), (.int 1), (.long a1)]) (rest := []) C k_Rn_set q_701 (c_Rn_set ok 1 1 a1 (x_vin (by decide))) rfl rfl rfl (Nat.le_of_ble_eq_true rfl) (Nat.le_of_ble_eq_true rfl) m_13 rfl rfl rfl rfl rfl (Nat.le_of_ble_eq_true rfl) d_Rn_runThrough_25 ⟨Nat.zero_le _, Nat.zero_le _⟩ ?_
      generalize hq2 : s_Rn_set rk rv 1 1 a1 = q2
      obtain ⟨rk2, rv2⟩ := q2
      refine x_lets ?_
      dsimp only
      refine x_aload_n 0 C d_Rn_runThrough_28 rfl rfl ?_
      refine x_iconst (v := 2) C d_Rn_runThrough_29 (by decide) ?_
      refine x_iconst (v := 2) C d_Rn_runThrough_30 (by decide) ?_
      refine x_lconst (v := 0) C d_Rn_runThrough_31 (by decide) ?_
      refine x_cv0 (i := (13, 0)) (F := x_F ad cA) (As := [(.int 2), (.int 2), (.long 0)]) (rest := []) C k_Rn_set q_701 (c_Rn_set ok 2 2 0 (x_vin (by decide))) rfl rfl rfl (Nat.le_of_ble_eq_true rfl) (Nat.le_of_ble_eq_true rfl) m_13 rfl rfl rfl rfl rfl (Nat.le_of_ble_eq_true rfl) d_Rn_runThrough_32 ⟨Nat.zero_le _, Nat.zero_le _⟩ ?_
      generalize hq3 : s_Rn_set rk2 rv2 2 2 0 = q3
      obtain ⟨rk3, rv3⟩ := q3
      refine x_lets ?_
      dsimp only
      refine x_aload_n 0 C d_Rn_runThrough_35 rfl rfl ?_
      refine x_iconst (v := 0) C d_Rn_runThrough_36 (by decide) ?_
      refine x_put (i := (13, 0)) (f' := x_F ad cA ((stp, psz, gk, gl, gh, opn, cki, ckl, mp, rk3, rv3, upd ri 0 0, chk), (mo, mi, ml, mk, mlo, mhi, pk, ps, pl, ph, mm), out)) 4 C m_13 rfl rfl i_Rn t_Rn_ok n_Rn (by decide) (List.mem_cons_of_mem _ q_187) rfl rfl rfl (Nat.le_of_ble_eq_true rfl) d_Rn_runThrough_37 e_ri0 ?_
      refine x_iconst (v := 0) C d_Rn_runThrough_40 (by decide) ?_
      refine x_istore_n (lv' := [(3, (.int 0)), (0, (.ref (ad (13, 0)))), (1, (.long a1))]) C d_Rn_runThrough_41 rfl (by decide) rfl ?_
      refine x_iconst (v := 0) C d_Rn_runThrough_42 (by decide) ?_
      refine x_istore (lv' := [(4, (.int 0)), (3, (.int 0)), (0, (.ref (ad (13, 0)))), (1, (.long a1))]) C d_Rn_runThrough_43 (by decide) rfl ?_
      refine x_loc (lv' := [(0, (.ref (ad (13, 0)))), (3, (.int 0)), (4, (.int 0))]) [2, 1, 0] rfl ?_
      exact cl_Rn_runThrough_45 ok C hr hlk a1 hw 25 mp rk3 rv3 (upd ri 0 0) 0 0 ⟨by decide, by decide, by decide⟩
    · refine x_aload_n 0 C d_Rn_runThrough_8 rfl rfl ?_
      refine x_iload_n 2 C d_Rn_runThrough_9 rfl rfl ?_
      refine x_iconst (v := 0) C d_Rn_runThrough_10 (by decide) ?_
      refine x_lconst (v := 0) C d_Rn_runThrough_11 (by decide) ?_
      refine x_cv0 (i := (13, 0)) (F := x_F ad cA) (As := [(.int x3), (.int 0), (.long 0)]) (rest := []) C k_Rn_set q_701 (c_Rn_set ok x3 0 0 (x_lpI hv z1 (by decide))) rfl rfl rfl (Nat.le_of_ble_eq_true rfl) (Nat.le_of_ble_eq_true rfl) m_13 rfl rfl rfl rfl rfl (Nat.le_of_ble_eq_true rfl) d_Rn_runThrough_12 ⟨Nat.zero_le _, Nat.zero_le _⟩ ?_
      generalize hq7 : s_Rn_set rk rv x3 0 0 = q7
      obtain ⟨rk7, rv7⟩ := q7
      refine x_lets ?_
      dsimp only
      refine x_iinc (lv' := [(3, (.int (x3 + 1))), (0, (.ref (ad (13, 0)))), (1, (.long a1))]) 2 C d_Rn_runThrough_15 rfl rfl (by decide) rfl ?_
      refine x_goto 2 C d_Rn_runThrough_18 (by decide) ?_
      refine x_loc (lv' := [(0, (.ref (ad (13, 0)))), (1, (.long a1)), (3, (.int (x3 + 1)))]) [1, 2, 0] rfl ?_
      exact ih mp rk7 rv7 ri (x3 + 1) (x_lpS hv z1 (by decide) (by decide))
def s_Rn_runThrough (stp : Nat → Nat → Int32) (psz : Int32) (mp : Nat → Nat → Int64) (rk : Nat → Int32) (rv : Nat → Int64) (ri : Nat → Int32) (a1 : Int64) : Int64 × (Nat → Nat → Int64) × (Nat → Int32) × (Nat → Int64) × (Nat → Int32) :=
  lp_Rn_runThrough_2 13 stp psz mp rk rv ri a1 0
set_option maxHeartbeats 4000000 in
set_option maxRecDepth 100000 in
theorem c_Rn_runThrough {l : Launch} {D : va_G} {cA : Nat → ClassId} {ad : x_I → Nat} (ok : x_ok (x_k D cA ad)) {stp : Nat → Nat → Int32} {psz : Int32} {gk : Nat → Nat → Int32} {gl : Nat → Nat → Int64} {gh : Nat → Nat → Int64} {opn : Nat → Int32} {cki : Nat → Int32} {ckl : Nat → Int64} {mp : Nat → Nat → Int64} {rk : Nat → Int32} {rv : Nat → Int64} {ri : Nat → Int32} {chk : Int32} {mo : Nat → Nat → Int32} {mi : Nat → Int32} {ml : Nat → Int64} {mk : Nat → Int32} {mlo : Nat → Int64} {mhi : Nat → Int64} {pk : Nat → Int32} {ps : Nat → Int32} {pl : Nat → Int64} {ph : Nat → Int64} {mm : Nat → Int64} {out : Nat → Int64} (a1 : Int64) (hw : x_wf stp) : x_M l y_Rn_runThrough (Cond.code y_Rn_runThrough b_Rn_runThrough 5 (Option.some Jvm.ClassFile.FieldType.long) :: x_Wd) { frames := 5, cells := 0, slots := 0, locals := 112 } (x_k D cA ad) (x_F ad cA) [(.ref (ad (13, 0))), (.long a1)] ((stp, psz, gk, gl, gh, opn, cki, ckl, mp, rk, rv, ri, chk), (mo, mi, ml, mk, mlo, mhi, pk, ps, pl, ph, mm), out) ((fun q : Int64 × (Nat → Nat → Int64) × (Nat → Int32) × (Nat → Int64) × (Nat → Int32) => ((some (.long (q.1)), ((stp, psz, gk, gl, gh, opn, cki, ckl, q.2.1, q.2.2.1, q.2.2.2.1, q.2.2.2.2, chk), (mo, mi, ml, mk, mlo, mhi, pk, ps, pl, ph, mm), out)) : Option Value × x_S)) (s_Rn_runThrough stp psz mp rk rv ri a1)) 0 0 := by
  refine x_start (κ := x_k D cA ad) (cc := b_Rn_runThrough) (F := x_F ad cA) (wr := (fun q : Int64 × (Nat → Nat → Int64) × (Nat → Int32) × (Nat → Int64) × (Nat → Int32) => ((some (.long (q.1)), ((stp, psz, gk, gl, gh, opn, cki, ckl, q.2.1, q.2.2.1, q.2.2.2.1, q.2.2.2.2, chk), (mo, mi, ml, mk, mlo, mhi, pk, ps, pl, ph, mm), out)) : Option Value × x_S))) (q := s_Rn_runThrough stp psz mp rk rv ri a1) (ret := (Option.some Jvm.ClassFile.FieldType.long)) (lv0 := [(0, (.ref (ad (13, 0)))), (1, (.long a1))]) ok (by decide) rfl (Nat.le_of_ble_eq_true rfl) rfl ?_
  intro p e s m below meth c C hr hlk
  unfold s_Rn_runThrough
  refine x_iconst (v := 0) C d_Rn_runThrough_0 (by decide) ?_
  refine x_istore_n (lv' := [(3, (.int 0)), (0, (.ref (ad (13, 0)))), (1, (.long a1))]) C d_Rn_runThrough_1 rfl (by decide) rfl ?_
  refine x_loc (lv' := [(0, (.ref (ad (13, 0)))), (1, (.long a1)), (3, (.int 0))]) [1, 2, 0] rfl ?_
  exact cl_Rn_runThrough_2 ok C hr hlk a1 hw 13 mp rk rv ri 0 ⟨by decide, by decide, by decide⟩
def s_CM_count (psz : Int32) (cki : Nat → Int32) (ri : Nat → Int32) (chk : Int32) (a1 : Int32) : Int32 :=
  (if a1 = 0 then (x_let (s_Pg_size psz) fun r2 => (r2)) else if a1 = 1 then (if chk = 0 then (0) else (1)) else if a1 = 2 then (x_let (s_Ck_reason cki) fun r6 => (r6)) else if a1 = 3 then (x_let (s_Ck_rejectedAt cki) fun r8 => (r8)) else if a1 = 4 then (x_let (s_Ck_looked cki) fun r10 => (r10)) else if a1 = 5 then (x_let (s_Rn_stepsRun ri) fun r12 => (r12)) else if a1 = 6 then (x_let (s_Rn_countCalls ri) fun r14 => (r14)) else ((-1)))
set_option maxHeartbeats 4000000 in
set_option maxRecDepth 100000 in
theorem c_CM_count {l : Launch} {D : va_G} {cA : Nat → ClassId} {ad : x_I → Nat} (ok : x_ok (x_k D cA ad)) {stp : Nat → Nat → Int32} {psz : Int32} {gk : Nat → Nat → Int32} {gl : Nat → Nat → Int64} {gh : Nat → Nat → Int64} {opn : Nat → Int32} {cki : Nat → Int32} {ckl : Nat → Int64} {mp : Nat → Nat → Int64} {rk : Nat → Int32} {rv : Nat → Int64} {ri : Nat → Int32} {chk : Int32} {mo : Nat → Nat → Int32} {mi : Nat → Int32} {ml : Nat → Int64} {mk : Nat → Int32} {mlo : Nat → Int64} {mhi : Nat → Int64} {pk : Nat → Int32} {ps : Nat → Int32} {pl : Nat → Int64} {ph : Nat → Int64} {mm : Nat → Int64} {out : Nat → Int64} (a1 : Int32) : x_M l y_CM_count (Cond.code y_CM_count b_CM_count 2 (Option.some Jvm.ClassFile.FieldType.int) :: x_Wd) { frames := 1, cells := 0, slots := 0, locals := 20 } (x_k D cA ad) (x_F ad cA) [(.ref (ad (0, 0))), (.int a1)] ((stp, psz, gk, gl, gh, opn, cki, ckl, mp, rk, rv, ri, chk), (mo, mi, ml, mk, mlo, mhi, pk, ps, pl, ph, mm), out) ((fun q : Int32 => ((some (.int (q)), ((stp, psz, gk, gl, gh, opn, cki, ckl, mp, rk, rv, ri, chk), (mo, mi, ml, mk, mlo, mhi, pk, ps, pl, ph, mm), out)) : Option Value × x_S)) (s_CM_count psz cki ri chk a1)) 0 0 := by
  refine x_start (κ := x_k D cA ad) (cc := b_CM_count) (F := x_F ad cA) (wr := (fun q : Int32 => ((some (.int (q)), ((stp, psz, gk, gl, gh, opn, cki, ckl, mp, rk, rv, ri, chk), (mo, mi, ml, mk, mlo, mhi, pk, ps, pl, ph, mm), out)) : Option Value × x_S))) (q := s_CM_count psz cki ri chk a1) (ret := (Option.some Jvm.ClassFile.FieldType.int)) (lv0 := [(0, (.ref (ad (0, 0)))), (1, (.int a1))]) ok (by decide) rfl (Nat.le_of_ble_eq_true rfl) rfl ?_
  intro p e s m below meth c C hr hlk
  unfold s_CM_count
  refine x_iload_n 1 C d_CM_count_0 rfl rfl ?_
  refine x_ite (fun z1 => ?_) (fun z1 => ?_)
  · refine x_tsw 44 C d_CM_count_1 (by rw [z1]; decide) (by rw [z1]; decide) (by rw [z1]; rfl) (by decide) ?_
    refine x_aload_n 0 C d_CM_count_44 rfl rfl ?_
    refine x_get (i := (0, 0)) (v := (.ref (ad (1, 0)))) 0 C m_0 rfl rfl i_CM (by decide) (List.mem_cons_of_mem _ q_202) rfl d_CM_count_45 ?_
    refine x_cv (i := (1, 0)) (F := x_F ad cA) (As := []) (rest := []) C k_Pg_size q_219 (c_Pg_size ok) rfl rfl rfl (Nat.le_of_ble_eq_true rfl) (Nat.le_of_ble_eq_true rfl) m_1 rfl rfl rfl rfl rfl (Nat.le_of_ble_eq_true rfl) d_CM_count_48 ⟨Nat.zero_le _, Nat.zero_le _⟩ ?_
    generalize hq2 : s_Pg_size psz = r2
    refine x_lets ?_
    exact x_iret C hr hlk rfl d_CM_count_51
  refine x_ite (fun z3 => ?_) (fun z3 => ?_)
  · refine x_tsw 52 C d_CM_count_1 (by rw [z3]; decide) (by rw [z3]; decide) (by rw [z3]; rfl) (by decide) ?_
    refine x_aload_n 0 C d_CM_count_52 rfl rfl ?_
    refine x_get (i := (0, 0)) (v := (.int chk)) 3 C m_0 rfl rfl i_CM (by decide) (List.mem_cons_of_mem _ q_205) rfl d_CM_count_53 ?_
    refine x_if_eq 63 C d_CM_count_56 (by decide) (fun z4 => ?_) (fun z4 => ?_)
    · refine x_iconst (v := 0) C d_CM_count_63 (by decide) ?_
      exact x_iret C hr hlk rfl d_CM_count_64
    · refine x_iconst (v := 1) C d_CM_count_59 (by decide) ?_
      refine x_goto 64 C d_CM_count_60 (by decide) ?_
      exact x_iret C hr hlk rfl d_CM_count_64
  refine x_ite (fun z5 => ?_) (fun z5 => ?_)
  · refine x_tsw 65 C d_CM_count_1 (by rw [z5]; decide) (by rw [z5]; decide) (by rw [z5]; rfl) (by decide) ?_
    refine x_aload_n 0 C d_CM_count_65 rfl rfl ?_
    refine x_get (i := (0, 0)) (v := (.ref (ad (4, 0)))) 1 C m_0 rfl rfl i_CM (by decide) (List.mem_cons_of_mem _ q_203) rfl d_CM_count_66 ?_
    refine x_cv (i := (4, 0)) (F := x_F ad cA) (As := []) (rest := []) C k_Ck_reason q_223 (c_Ck_reason ok) rfl rfl rfl (Nat.le_of_ble_eq_true rfl) (Nat.le_of_ble_eq_true rfl) m_4 rfl rfl rfl rfl rfl (Nat.le_of_ble_eq_true rfl) d_CM_count_69 ⟨Nat.zero_le _, Nat.zero_le _⟩ ?_
    generalize hq6 : s_Ck_reason cki = r6
    refine x_lets ?_
    exact x_iret C hr hlk rfl d_CM_count_72
  refine x_ite (fun z7 => ?_) (fun z7 => ?_)
  · refine x_tsw 73 C d_CM_count_1 (by rw [z7]; decide) (by rw [z7]; decide) (by rw [z7]; rfl) (by decide) ?_
    refine x_aload_n 0 C d_CM_count_73 rfl rfl ?_
    refine x_get (i := (0, 0)) (v := (.ref (ad (4, 0)))) 1 C m_0 rfl rfl i_CM (by decide) (List.mem_cons_of_mem _ q_203) rfl d_CM_count_74 ?_
    refine x_cv (i := (4, 0)) (F := x_F ad cA) (As := []) (rest := []) C k_Ck_rejectedAt q_227 (c_Ck_rejectedAt ok) rfl rfl rfl (Nat.le_of_ble_eq_true rfl) (Nat.le_of_ble_eq_true rfl) m_4 rfl rfl rfl rfl rfl (Nat.le_of_ble_eq_true rfl) d_CM_count_77 ⟨Nat.zero_le _, Nat.zero_le _⟩ ?_
    generalize hq8 : s_Ck_rejectedAt cki = r8
    refine x_lets ?_
    exact x_iret C hr hlk rfl d_CM_count_80
  refine x_ite (fun z9 => ?_) (fun z9 => ?_)
  · refine x_tsw 81 C d_CM_count_1 (by rw [z9]; decide) (by rw [z9]; decide) (by rw [z9]; rfl) (by decide) ?_
    refine x_aload_n 0 C d_CM_count_81 rfl rfl ?_
    refine x_get (i := (0, 0)) (v := (.ref (ad (4, 0)))) 1 C m_0 rfl rfl i_CM (by decide) (List.mem_cons_of_mem _ q_203) rfl d_CM_count_82 ?_
    refine x_cv (i := (4, 0)) (F := x_F ad cA) (As := []) (rest := []) C k_Ck_looked q_231 (c_Ck_looked ok) rfl rfl rfl (Nat.le_of_ble_eq_true rfl) (Nat.le_of_ble_eq_true rfl) m_4 rfl rfl rfl rfl rfl (Nat.le_of_ble_eq_true rfl) d_CM_count_85 ⟨Nat.zero_le _, Nat.zero_le _⟩ ?_
    generalize hq10 : s_Ck_looked cki = r10
    refine x_lets ?_
    exact x_iret C hr hlk rfl d_CM_count_88
  refine x_ite (fun z11 => ?_) (fun z11 => ?_)
  · refine x_tsw 89 C d_CM_count_1 (by rw [z11]; decide) (by rw [z11]; decide) (by rw [z11]; rfl) (by decide) ?_
    refine x_aload_n 0 C d_CM_count_89 rfl rfl ?_
    refine x_get (i := (0, 0)) (v := (.ref (ad (13, 0)))) 2 C m_0 rfl rfl i_CM (by decide) (List.mem_cons_of_mem _ q_204) rfl d_CM_count_90 ?_
    refine x_cv (i := (13, 0)) (F := x_F ad cA) (As := []) (rest := []) C k_Rn_stepsRun q_235 (c_Rn_stepsRun ok) rfl rfl rfl (Nat.le_of_ble_eq_true rfl) (Nat.le_of_ble_eq_true rfl) m_13 rfl rfl rfl rfl rfl (Nat.le_of_ble_eq_true rfl) d_CM_count_93 ⟨Nat.zero_le _, Nat.zero_le _⟩ ?_
    generalize hq12 : s_Rn_stepsRun ri = r12
    refine x_lets ?_
    exact x_iret C hr hlk rfl d_CM_count_96
  refine x_ite (fun z13 => ?_) (fun z13 => ?_)
  · refine x_tsw 97 C d_CM_count_1 (by rw [z13]; decide) (by rw [z13]; decide) (by rw [z13]; rfl) (by decide) ?_
    refine x_aload_n 0 C d_CM_count_97 rfl rfl ?_
    refine x_get (i := (0, 0)) (v := (.ref (ad (13, 0)))) 2 C m_0 rfl rfl i_CM (by decide) (List.mem_cons_of_mem _ q_204) rfl d_CM_count_98 ?_
    refine x_cv (i := (13, 0)) (F := x_F ad cA) (As := []) (rest := []) C k_Rn_countCalls q_239 (c_Rn_countCalls ok) rfl rfl rfl (Nat.le_of_ble_eq_true rfl) (Nat.le_of_ble_eq_true rfl) m_13 rfl rfl rfl rfl rfl (Nat.le_of_ble_eq_true rfl) d_CM_count_101 ⟨Nat.zero_le _, Nat.zero_le _⟩ ?_
    generalize hq14 : s_Rn_countCalls ri = r14
    refine x_lets ?_
    exact x_iret C hr hlk rfl d_CM_count_104
  refine x_tswE 105 [0, 1, 2, 3, 4, 5, 6] C d_CM_count_1 (by decide) (List.forall_mem_cons.mpr ⟨x_nik z1 (by decide), List.forall_mem_cons.mpr ⟨x_nik z3 (by decide), List.forall_mem_cons.mpr ⟨x_nik z5 (by decide), List.forall_mem_cons.mpr ⟨x_nik z7 (by decide), List.forall_mem_cons.mpr ⟨x_nik z9 (by decide), List.forall_mem_cons.mpr ⟨x_nik z11 (by decide), List.forall_mem_cons.mpr ⟨x_nik z13 (by decide), fun _ h => absurd h List.not_mem_nil⟩⟩⟩⟩⟩⟩⟩) (by decide) ?_
  refine x_iconst (v := (-1)) C d_CM_count_105 (by decide) ?_
  exact x_iret C hr hlk rfl d_CM_count_106
