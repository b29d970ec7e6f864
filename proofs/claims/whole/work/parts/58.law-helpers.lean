theorem t_CM_add {stp : Nat → Nat → Int32} {psz : Int32} {chk : Int32} {a1 : Int32} {a2 : Int32} {a3 : Int32} {a4 : Int32} {a5 : Int32} {E1 : String} {v : (Nat → Nat → Int32) × Int32 × Int32} (h : s_CM_add stp psz chk a1 a2 a3 a4 a5 = .inr (E1, v)) : E1 = "java/lang/IllegalArgumentException" ∨ E1 = "java/lang/IllegalStateException" := by
  unfold s_CM_add at h
  (try simp only [x_let] at h)
  repeat' split at h
  all_goals first | (cases h; done) | (cases h; exact Or.inl rfl) | (cases h; exact Or.inr rfl)
def s_Lw_add (stp : Nat → Nat → Int32) (psz : Int32) (chk : Int32) (out : Nat → Int64) (a2 : Int32) (a3 : Int32) (a4 : Int32) (a5 : Int32) (a6 : Int32) : Int32 × (Nat → Nat → Int32) × Int32 × Int32 × (Nat → Int64) :=
  (match s_CM_add stp psz chk a2 a3 a4 a5 a6 with | .inl (r1, stp1, psz1, chk1) => (0, stp1, psz1, chk1, vp_updL out (Int32.toNatClampNeg 0) (Int32.toInt64 r1)) | .inr (E1, (stp1, psz1, chk1)) => (if E1 = "java/lang/IllegalArgumentException" then (1, stp1, psz1, chk1, out) else (2, stp1, psz1, chk1, out)))
set_option maxHeartbeats 4000000 in
set_option maxRecDepth 100000 in
theorem c_Lw_add {l : Launch} (htr : l.stackTraces = false) {D : va_G} {cA : Nat → ClassId} {ad : x_I → Nat} (ok : x_ok (x_k D cA ad)) {stp : Nat → Nat → Int32} {psz : Int32} {gk : Nat → Nat → Int32} {gl : Nat → Nat → Int64} {gh : Nat → Nat → Int64} {opn : Nat → Int32} {cki : Nat → Int32} {ckl : Nat → Int64} {mp : Nat → Nat → Int64} {rk : Nat → Int32} {rv : Nat → Int64} {ri : Nat → Int32} {chk : Int32} {mo : Nat → Nat → Int32} {mi : Nat → Int32} {ml : Nat → Int64} {mk : Nat → Int32} {mlo : Nat → Int64} {mhi : Nat → Int64} {pk : Nat → Int32} {ps : Nat → Int32} {pl : Nat → Int64} {ph : Nat → Int64} {mm : Nat → Int64} {out : Nat → Int64} (a2 : Int32) (a3 : Int32) (a4 : Int32) (a5 : Int32) (a6 : Int32) : x_MG l y_Lw_add (Cond.codeWith y_Lw_add b_Lw_add 8 (Option.some Jvm.ClassFile.FieldType.int) [(0, 16, 19, 13), (0, 16, 23, 15)] :: x_Wd) { frames := 7, cells := 1, slots := 6, locals := 108 } (x_k D cA ad) (x_F ad cA) [(.ref (ad (0, 0))), (.int a2), (.int a3), (.int a4), (.int a5), (.int a6), (.ref (ad (32, 0)))] ((stp, psz, gk, gl, gh, opn, cki, ckl, mp, rk, rv, ri, chk), (mo, mi, ml, mk, mlo, mhi, pk, ps, pl, ph, mm), out) ((fun q : Int32 × (Nat → Nat → Int32) × Int32 × Int32 × (Nat → Int64) => ((some (.int (q.1)), ((q.2.1, q.2.2.1, gk, gl, gh, opn, cki, ckl, mp, rk, rv, ri, q.2.2.2.1), (mo, mi, ml, mk, mlo, mhi, pk, ps, pl, ph, mm), q.2.2.2.2)) : Option Value × x_S)) (s_Lw_add stp psz chk out a2 a3 a4 a5 a6)) 1 6 := by
  refine x_startH (κ := x_k D cA ad) (cc := b_Lw_add) (F := x_F ad cA) (wr := (fun q : Int32 × (Nat → Nat → Int32) × Int32 × Int32 × (Nat → Int64) => ((some (.int (q.1)), ((q.2.1, q.2.2.1, gk, gl, gh, opn, cki, ckl, mp, rk, rv, ri, q.2.2.2.1), (mo, mi, ml, mk, mlo, mhi, pk, ps, pl, ph, mm), q.2.2.2.2)) : Option Value × x_S))) (q := s_Lw_add stp psz chk out a2 a3 a4 a5 a6) (ret := (Option.some Jvm.ClassFile.FieldType.int)) (lv0 := [(0, (.ref (ad (0, 0)))), (1, (.int a2)), (2, (.int a3)), (3, (.int a4)), (4, (.int a5)), (5, (.int a6)), (6, (.ref (ad (32, 0))))]) ok (by decide) rfl (Nat.le_of_ble_eq_true rfl) rfl ?_
  intro p e s m below meth c C htab hg hj hP0 hr hlk
  unfold s_Lw_add
  refine x_aload 6 C d_Lw_add_0 rfl ?_
  refine x_iconst (v := 0) C d_Lw_add_2 (by decide) ?_
  refine x_aload_n 0 C d_Lw_add_3 rfl rfl ?_
  refine x_iload_n 1 C d_Lw_add_4 rfl rfl ?_
  refine x_iload_n 2 C d_Lw_add_5 rfl rfl ?_
  refine x_iload_n 3 C d_Lw_add_6 rfl rfl ?_
  refine x_iload 4 C d_Lw_add_7 rfl ?_
  refine x_iload 5 C d_Lw_add_9 rfl ?_
  rcases hq : s_CM_add stp psz chk a2 a3 a4 a5 a6 with ⟨r1, stp1, psz1, chk1⟩ | ⟨E1, stp1, psz1, chk1⟩
  · dsimp only
    refine x_cvR (i := (0, 0)) (F := x_F ad cA) (X := (some (.int r1), ((stp1, psz1, gk, gl, gh, opn, cki, ckl, mp, rk, rv, ri, chk1), (mo, mi, ml, mk, mlo, mhi, pk, ps, pl, ph, mm), out))) (As := [(.int a2), (.int a3), (.int a4), (.int a5), (.int a6)]) (rest := [(.int 0), (.ref (ad (32, 0)))]) C k_CM_add q_248 (c_CM_add htr ok a2 a3 a4 a5 a6) (by rw [hq]; rfl) hg hP0 rfl rfl (Nat.le_of_ble_eq_true rfl) (Nat.le_of_ble_eq_true rfl) m_0 rfl rfl rfl rfl rfl (Nat.le_of_ble_eq_true rfl) d_Lw_add_11 ⟨(Nat.le_of_ble_eq_true rfl), (Nat.le_of_ble_eq_true rfl)⟩ ?_
    show x_V _ _ _ _ _ _ _ _ _ _ _ _ _ _ _ (x_F ad cA ((stp1, psz1, gk, gl, gh, opn, cki, ckl, mp, rk, rv, ri, chk1), (mo, mi, ml, mk, mlo, mhi, pk, ps, pl, ph, mm), out)) _ _ [(.int r1), (.int 0), (.ref (ad (32, 0)))]
    refine x_i2l C d_Lw_add_14 ?_
    refine x_last (i := (32, 0)) (g := out) (f' := x_F ad cA ((stp1, psz1, gk, gl, gh, opn, cki, ckl, mp, rk, rv, ri, chk1), (mo, mi, ml, mk, mlo, mhi, pk, ps, pl, ph, mm), vp_updL out (Int32.toNatClampNeg 0) (Int32.toInt64 r1))) 1 C m_32 rfl rfl (x_vin (by decide)) d_Lw_add_15 e_out ?_
    refine x_goto 27 C d_Lw_add_16 (by decide) ?_
    refine x_iconst (v := 0) C d_Lw_add_27 (by decide) ?_
    exact x_iret C hr hlk rfl d_Lw_add_28
  · dsimp only
    have hE := t_CM_add hq
    rcases hE with hE | hE
    · subst hE
      rw [if_pos rfl]
      refine x_cvX (i := (0, 0)) (F := x_F ad cA) (E := "java/lang/IllegalArgumentException") (u := ((stp1, psz1, gk, gl, gh, opn, cki, ckl, mp, rk, rv, ri, chk1), (mo, mi, ml, mk, mlo, mhi, pk, ps, pl, ph, mm), out)) (h := 19) (As := [(.int a2), (.int a3), (.int a4), (.int a5), (.int a6)]) (rest := [(.int 0), (.ref (ad (32, 0)))]) C k_CM_add q_248 (c_CM_add htr ok a2 a3 a4 a5 a6) (by rw [hq]; rfl) hg hP0 rfl rfl (Nat.le_of_ble_eq_true rfl) (Nat.le_of_ble_eq_true rfl) m_0 rfl rfl rfl rfl rfl (Nat.le_of_ble_eq_true rfl) d_Lw_add_11 ⟨(Nat.le_of_ble_eq_true rfl), (Nat.le_of_ble_eq_true rfl)⟩ (fun pl hpl th hth => by rw [htab]; exact x_s1 (x := ⟨0, 16, 19, 13⟩) (by decide) (by decide) (x_yes C.1.2.2.2.1 (C.1.2.2.2.2 _ (List.mem_cons_of_mem _ q_246)) ((hg.1 _).2 _ (by simp [x_oa])) pl hpl hth)) (fun q9 => ?_)
      refine x_astore (lv' := [(7, (.ref q9)), (0, (.ref (ad (0, 0)))), (1, (.int a2)), (2, (.int a3)), (3, (.int a4)), (4, (.int a5)), (5, (.int a6)), (6, (.ref (ad (32, 0))))]) C d_Lw_add_19 (by decide) rfl ?_
      refine x_iconst (v := 1) C d_Lw_add_21 (by decide) ?_
      exact x_iret C hr hlk rfl d_Lw_add_22
    · subst hE
      rw [if_neg (by decide)]
      refine x_cvX (i := (0, 0)) (F := x_F ad cA) (E := "java/lang/IllegalStateException") (u := ((stp1, psz1, gk, gl, gh, opn, cki, ckl, mp, rk, rv, ri, chk1), (mo, mi, ml, mk, mlo, mhi, pk, ps, pl, ph, mm), out)) (h := 23) (As := [(.int a2), (.int a3), (.int a4), (.int a5), (.int a6)]) (rest := [(.int 0), (.ref (ad (32, 0)))]) C k_CM_add q_248 (c_CM_add htr ok a2 a3 a4 a5 a6) (by rw [hq]; rfl) hg hP0 rfl rfl (Nat.le_of_ble_eq_true rfl) (Nat.le_of_ble_eq_true rfl) m_0 rfl rfl rfl rfl rfl (Nat.le_of_ble_eq_true rfl) d_Lw_add_11 ⟨(Nat.le_of_ble_eq_true rfl), (Nat.le_of_ble_eq_true rfl)⟩ (fun pl hpl th hth => by rw [htab]; exact x_s2 (x := ⟨0, 16, 19, 13⟩) (by decide) (by decide) (x_not C.1.2.2.2.1 (C.1.2.2.2.2 _ (List.mem_cons_of_mem _ q_246)) hj.1 pl hpl hth) (x_s1 (x := ⟨0, 16, 23, 15⟩) (by decide) (by decide) (x_yes C.1.2.2.2.1 (C.1.2.2.2.2 _ (List.mem_cons_of_mem _ q_247)) ((hg.2.2.2.2.1 _).2 _ (by simp [x_oa])) pl hpl hth))) (fun q9 => ?_)
      refine x_astore (lv' := [(7, (.ref q9)), (0, (.ref (ad (0, 0)))), (1, (.int a2)), (2, (.int a3)), (3, (.int a4)), (4, (.int a5)), (5, (.int a6)), (6, (.ref (ad (32, 0))))]) C d_Lw_add_23 (by decide) rfl ?_
      refine x_iconst (v := 2) C d_Lw_add_25 (by decide) ?_
      exact x_iret C hr hlk rfl d_Lw_add_26
theorem t_CM_put {stp : Nat → Nat → Int32} {psz : Int32} {chk : Int32} {a1 : Int32} {a2 : Int32} {a3 : Int32} {a4 : Int32} {a5 : Int32} {a6 : Int32} {E1 : String} {v : (Nat → Nat → Int32) × Int32} (h : s_CM_put stp psz chk a1 a2 a3 a4 a5 a6 = .inr (E1, v)) : E1 = "java/lang/IllegalArgumentException" ∨ E1 = "java/util/NoSuchElementException" := by
  unfold s_CM_put at h
  (try simp only [x_let] at h)
  repeat' split at h
  all_goals first | (cases h; done) | (cases h; exact Or.inl rfl) | (cases h; exact Or.inr rfl)
def s_Lw_put (stp : Nat → Nat → Int32) (psz : Int32) (chk : Int32) (a2 : Int32) (a3 : Int32) (a4 : Int32) (a5 : Int32) (a6 : Int32) (a7 : Int32) : Int32 × (Nat → Nat → Int32) × Int32 :=
  (match s_CM_put stp psz chk a2 a3 a4 a5 a6 a7 with | .inl (stp1, chk1) => (0, stp1, chk1) | .inr (E1, (stp1, chk1)) => (if E1 = "java/lang/IllegalArgumentException" then (1, stp1, chk1) else (2, stp1, chk1)))
set_option maxHeartbeats 4000000 in
set_option maxRecDepth 100000 in
theorem c_Lw_put {l : Launch} (htr : l.stackTraces = false) {D : va_G} {cA : Nat → ClassId} {ad : x_I → Nat} (ok : x_ok (x_k D cA ad)) {stp : Nat → Nat → Int32} {psz : Int32} {gk : Nat → Nat → Int32} {gl : Nat → Nat → Int64} {gh : Nat → Nat → Int64} {opn : Nat → Int32} {cki : Nat → Int32} {ckl : Nat → Int64} {mp : Nat → Nat → Int64} {rk : Nat → Int32} {rv : Nat → Int64} {ri : Nat → Int32} {chk : Int32} {mo : Nat → Nat → Int32} {mi : Nat → Int32} {ml : Nat → Int64} {mk : Nat → Int32} {mlo : Nat → Int64} {mhi : Nat → Int64} {pk : Nat → Int32} {ps : Nat → Int32} {pl : Nat → Int64} {ph : Nat → Int64} {mm : Nat → Int64} {out : Nat → Int64} (a2 : Int32) (a3 : Int32) (a4 : Int32) (a5 : Int32) (a6 : Int32) (a7 : Int32) : x_MG l y_Lw_put (Cond.codeWith y_Lw_put b_Lw_put 8 (Option.some Jvm.ClassFile.FieldType.int) [(0, 13, 16, 13), (0, 13, 20, 21)] :: x_Wd) { frames := 7, cells := 1, slots := 6, locals := 108 } (x_k D cA ad) (x_F ad cA) [(.ref (ad (0, 0))), (.int a2), (.int a3), (.int a4), (.int a5), (.int a6), (.int a7)] ((stp, psz, gk, gl, gh, opn, cki, ckl, mp, rk, rv, ri, chk), (mo, mi, ml, mk, mlo, mhi, pk, ps, pl, ph, mm), out) ((fun q : Int32 × (Nat → Nat → Int32) × Int32 => ((some (.int (q.1)), ((q.2.1, psz, gk, gl, gh, opn, cki, ckl, mp, rk, rv, ri, q.2.2), (mo, mi, ml, mk, mlo, mhi, pk, ps, pl, ph, mm), out)) : Option Value × x_S)) (s_Lw_put stp psz chk a2 a3 a4 a5 a6 a7)) 1 6 := by
  refine x_startH (κ := x_k D cA ad) (cc := b_Lw_put) (F := x_F ad cA) (wr := (fun q : Int32 × (Nat → Nat → Int32) × Int32 => ((some (.int (q.1)), ((q.2.1, psz, gk, gl, gh, opn, cki, ckl, mp, rk, rv, ri, q.2.2), (mo, mi, ml, mk, mlo, mhi, pk, ps, pl, ph, mm), out)) : Option Value × x_S))) (q := s_Lw_put stp psz chk a2 a3 a4 a5 a6 a7) (ret := (Option.some Jvm.ClassFile.FieldType.int)) (lv0 := [(0, (.ref (ad (0, 0)))), (1, (.int a2)), (2, (.int a3)), (3, (.int a4)), (4, (.int a5)), (5, (.int a6)), (6, (.int a7))]) ok (by decide) rfl (Nat.le_of_ble_eq_true rfl) rfl ?_
  intro p e s m below meth c C htab hg hj hP0 hr hlk
  unfold s_Lw_put
  refine x_aload_n 0 C d_Lw_put_0 rfl rfl ?_
  refine x_iload_n 1 C d_Lw_put_1 rfl rfl ?_
  refine x_iload_n 2 C d_Lw_put_2 rfl rfl ?_
  refine x_iload_n 3 C d_Lw_put_3 rfl rfl ?_
  refine x_iload 4 C d_Lw_put_4 rfl ?_
  refine x_iload 5 C d_Lw_put_6 rfl ?_
  refine x_iload 6 C d_Lw_put_8 rfl ?_
  rcases hq : s_CM_put stp psz chk a2 a3 a4 a5 a6 a7 with ⟨stp1, chk1⟩ | ⟨E1, stp1, chk1⟩
  · dsimp only
    refine x_cvR (i := (0, 0)) (F := x_F ad cA) (X := (none, ((stp1, psz, gk, gl, gh, opn, cki, ckl, mp, rk, rv, ri, chk1), (mo, mi, ml, mk, mlo, mhi, pk, ps, pl, ph, mm), out))) (As := [(.int a2), (.int a3), (.int a4), (.int a5), (.int a6), (.int a7)]) (rest := []) C k_CM_put q_359 (c_CM_put htr ok a2 a3 a4 a5 a6 a7) (by rw [hq]; rfl) hg hP0 rfl rfl (Nat.le_of_ble_eq_true rfl) (Nat.le_of_ble_eq_true rfl) m_0 rfl rfl rfl rfl rfl (Nat.le_of_ble_eq_true rfl) d_Lw_put_10 ⟨(Nat.le_of_ble_eq_true rfl), (Nat.le_of_ble_eq_true rfl)⟩ ?_
    show x_V _ _ _ _ _ _ _ _ _ _ _ _ _ _ _ (x_F ad cA ((stp1, psz, gk, gl, gh, opn, cki, ckl, mp, rk, rv, ri, chk1), (mo, mi, ml, mk, mlo, mhi, pk, ps, pl, ph, mm), out)) _ _ []
    refine x_goto 24 C d_Lw_put_13 (by decide) ?_
    refine x_iconst (v := 0) C d_Lw_put_24 (by decide) ?_
    exact x_iret C hr hlk rfl d_Lw_put_25
  · dsimp only
    have hE := t_CM_put hq
    rcases hE with hE | hE
    · subst hE
      rw [if_pos rfl]
      refine x_cvX (i := (0, 0)) (F := x_F ad cA) (E := "java/lang/IllegalArgumentException") (u := ((stp1, psz, gk, gl, gh, opn, cki, ckl, mp, rk, rv, ri, chk1), (mo, mi, ml, mk, mlo, mhi, pk, ps, pl, ph, mm), out)) (h := 16) (As := [(.int a2), (.int a3), (.int a4), (.int a5), (.int a6), (.int a7)]) (rest := []) C k_CM_put q_359 (c_CM_put htr ok a2 a3 a4 a5 a6 a7) (by rw [hq]; rfl) hg hP0 rfl rfl (Nat.le_of_ble_eq_true rfl) (Nat.le_of_ble_eq_true rfl) m_0 rfl rfl rfl rfl rfl (Nat.le_of_ble_eq_true rfl) d_Lw_put_10 ⟨(Nat.le_of_ble_eq_true rfl), (Nat.le_of_ble_eq_true rfl)⟩ (fun pl hpl th hth => by rw [htab]; exact x_s1 (x := ⟨0, 13, 16, 13⟩) (by decide) (by decide) (x_yes C.1.2.2.2.1 (C.1.2.2.2.2 _ (List.mem_cons_of_mem _ q_246)) ((hg.1 _).2 _ (by simp [x_oa])) pl hpl hth)) (fun q9 => ?_)
      refine x_astore (lv' := [(7, (.ref q9)), (0, (.ref (ad (0, 0)))), (1, (.int a2)), (2, (.int a3)), (3, (.int a4)), (4, (.int a5)), (5, (.int a6)), (6, (.int a7))]) C d_Lw_put_16 (by decide) rfl ?_
      refine x_iconst (v := 1) C d_Lw_put_18 (by decide) ?_
      exact x_iret C hr hlk rfl d_Lw_put_19
    · subst hE
      rw [if_neg (by decide)]
      refine x_cvX (i := (0, 0)) (F := x_F ad cA) (E := "java/util/NoSuchElementException") (u := ((stp1, psz, gk, gl, gh, opn, cki, ckl, mp, rk, rv, ri, chk1), (mo, mi, ml, mk, mlo, mhi, pk, ps, pl, ph, mm), out)) (h := 20) (As := [(.int a2), (.int a3), (.int a4), (.int a5), (.int a6), (.int a7)]) (rest := []) C k_CM_put q_359 (c_CM_put htr ok a2 a3 a4 a5 a6 a7) (by rw [hq]; rfl) hg hP0 rfl rfl (Nat.le_of_ble_eq_true rfl) (Nat.le_of_ble_eq_true rfl) m_0 rfl rfl rfl rfl rfl (Nat.le_of_ble_eq_true rfl) d_Lw_put_10 ⟨(Nat.le_of_ble_eq_true rfl), (Nat.le_of_ble_eq_true rfl)⟩ (fun pl hpl th hth => by rw [htab]; exact x_s2 (x := ⟨0, 13, 16, 13⟩) (by decide) (by decide) (x_not C.1.2.2.2.1 (C.1.2.2.2.2 _ (List.mem_cons_of_mem _ q_246)) hj.2.1 pl hpl hth) (x_s1 (x := ⟨0, 13, 20, 21⟩) (by decide) (by decide) (x_yes C.1.2.2.2.1 (C.1.2.2.2.2 _ (List.mem_cons_of_mem _ q_358)) ((hg.2.2.2.2.2.2.1 _).2 _ (by simp [x_oa])) pl hpl hth))) (fun q9 => ?_)
      refine x_astore (lv' := [(7, (.ref q9)), (0, (.ref (ad (0, 0)))), (1, (.int a2)), (2, (.int a3)), (3, (.int a4)), (4, (.int a5)), (5, (.int a6)), (6, (.int a7))]) C d_Lw_put_20 (by decide) rfl ?_
      refine x_iconst (v := 2) C d_Lw_put_22 (by decide) ?_
      exact x_iret C hr hlk rfl d_Lw_put_23
theorem t_CM_cut {psz : Int32} {chk : Int32} {a1 : Int32} {E1 : String} {v : Int32 × Int32} (h : s_CM_cut psz chk a1 = .inr (E1, v)) : E1 = "java/lang/IllegalArgumentException" := by
  unfold s_CM_cut at h
  (try simp only [x_let] at h)
  repeat' split at h
  all_goals first | (cases h; done) | (cases h; rfl)
def s_Lw_cut (psz : Int32) (chk : Int32) (a2 : Int32) : Int32 × Int32 × Int32 :=
  (match s_CM_cut psz chk a2 with | .inl (psz1, chk1) => (0, psz1, chk1) | .inr (_, (psz1, chk1)) => (1, psz1, chk1))
set_option maxHeartbeats 4000000 in
set_option maxRecDepth 100000 in
theorem c_Lw_cut {l : Launch} (htr : l.stackTraces = false) {D : va_G} {cA : Nat → ClassId} {ad : x_I → Nat} (ok : x_ok (x_k D cA ad)) {stp : Nat → Nat → Int32} {psz : Int32} {gk : Nat → Nat → Int32} {gl : Nat → Nat → Int64} {gh : Nat → Nat → Int64} {opn : Nat → Int32} {cki : Nat → Int32} {ckl : Nat → Int64} {mp : Nat → Nat → Int64} {rk : Nat → Int32} {rv : Nat → Int64} {ri : Nat → Int32} {chk : Int32} {mo : Nat → Nat → Int32} {mi : Nat → Int32} {ml : Nat → Int64} {mk : Nat → Int32} {mlo : Nat → Int64} {mhi : Nat → Int64} {pk : Nat → Int32} {ps : Nat → Int32} {pl : Nat → Int64} {ph : Nat → Int64} {mm : Nat → Int64} {out : Nat → Int64} (a2 : Int32) : x_MG l y_Lw_cut (Cond.codeWith y_Lw_cut b_Lw_cut 3 (Option.some Jvm.ClassFile.FieldType.int) [(0, 5, 8, 13)] :: x_Wd) { frames := 7, cells := 1, slots := 6, locals := 103 } (x_k D cA ad) (x_F ad cA) [(.ref (ad (0, 0))), (.int a2)] ((stp, psz, gk, gl, gh, opn, cki, ckl, mp, rk, rv, ri, chk), (mo, mi, ml, mk, mlo, mhi, pk, ps, pl, ph, mm), out) ((fun q : Int32 × Int32 × Int32 => ((some (.int (q.1)), ((stp, q.2.1, gk, gl, gh, opn, cki, ckl, mp, rk, rv, ri, q.2.2), (mo, mi, ml, mk, mlo, mhi, pk, ps, pl, ph, mm), out)) : Option Value × x_S)) (s_Lw_cut psz chk a2)) 1 6 := by
  refine x_startH (κ := x_k D cA ad) (cc := b_Lw_cut) (F := x_F ad cA) (wr := (fun q : Int32 × Int32 × Int32 => ((some (.int (q.1)), ((stp, q.2.1, gk, gl, gh, opn, cki, ckl, mp, rk, rv, ri, q.2.2), (mo, mi, ml, mk, mlo, mhi, pk, ps, pl, ph, mm), out)) : Option Value × x_S))) (q := s_Lw_cut psz chk a2) (ret := (Option.some Jvm.ClassFile.FieldType.int)) (lv0 := [(0, (.ref (ad (0, 0)))), (1, (.int a2))]) ok (by decide) rfl (Nat.le_of_ble_eq_true rfl) rfl ?_
  intro p e s m below meth c C htab hg hj hP0 hr hlk
  unfold s_Lw_cut
  refine x_aload_n 0 C d_Lw_cut_0 rfl rfl ?_
  refine x_iload_n 1 C d_Lw_cut_1 rfl rfl ?_
  rcases hq : s_CM_cut psz chk a2 with ⟨psz1, chk1⟩ | ⟨E1, psz1, chk1⟩
  · dsimp only
    refine x_cvR (i := (0, 0)) (F := x_F ad cA) (X := (none, ((stp, psz1, gk, gl, gh, opn, cki, ckl, mp, rk, rv, ri, chk1), (mo, mi, ml, mk, mlo, mhi, pk, ps, pl, ph, mm), out))) (As := [(.int a2)]) (rest := []) C k_CM_cut q_382 (c_CM_cut htr ok a2) (by rw [hq]; rfl) hg hP0 rfl rfl (Nat.le_of_ble_eq_true rfl) (Nat.le_of_ble_eq_true rfl) m_0 rfl rfl rfl rfl rfl (Nat.le_of_ble_eq_true rfl) d_Lw_cut_2 ⟨(Nat.le_of_ble_eq_true rfl), (Nat.le_of_ble_eq_true rfl)⟩ ?_
    show x_V _ _ _ _ _ _ _ _ _ _ _ _ _ _ _ (x_F ad cA ((stp, psz1, gk, gl, gh, opn, cki, ckl, mp, rk, rv, ri, chk1), (mo, mi, ml, mk, mlo, mhi, pk, ps, pl, ph, mm), out)) _ _ []
    refine x_goto 11 C d_Lw_cut_5 (by decide) ?_
    refine x_iconst (v := 0) C d_Lw_cut_11 (by decide) ?_
    exact x_iret C hr hlk rfl d_Lw_cut_12
  · dsimp only
    have hE := t_CM_cut hq
    subst hE
    refine x_cvX (i := (0, 0)) (F := x_F ad cA) (E := "java/lang/IllegalArgumentException") (u := ((stp, psz1, gk, gl, gh, opn, cki, ckl, mp, rk, rv, ri, chk1), (mo, mi, ml, mk, mlo, mhi, pk, ps, pl, ph, mm), out)) (h := 8) (As := [(.int a2)]) (rest := []) C k_CM_cut q_382 (c_CM_cut htr ok a2) (by rw [hq]; rfl) hg hP0 rfl rfl (Nat.le_of_ble_eq_true rfl) (Nat.le_of_ble_eq_true rfl) m_0 rfl rfl rfl rfl rfl (Nat.le_of_ble_eq_true rfl) d_Lw_cut_2 ⟨(Nat.le_of_ble_eq_true rfl), (Nat.le_of_ble_eq_true rfl)⟩ (fun pl hpl th hth => by rw [htab]; exact x_s1 (x := ⟨0, 5, 8, 13⟩) (by decide) (by decide) (x_yes C.1.2.2.2.1 (C.1.2.2.2.2 _ (List.mem_cons_of_mem _ q_246)) ((hg.1 _).2 _ (by simp [x_oa])) pl hpl hth)) (fun q9 => ?_)
    refine x_astore_n (lv' := [(2, (.ref q9)), (0, (.ref (ad (0, 0)))), (1, (.int a2))]) C d_Lw_cut_8 rfl (by decide) rfl ?_
    refine x_iconst (v := 1) C d_Lw_cut_9 (by decide) ?_
    exact x_iret C hr hlk rfl d_Lw_cut_10
theorem t_CM_check {stp : Nat → Nat → Int32} {psz : Int32} {gk : Nat → Nat → Int32} {gl : Nat → Nat → Int64} {gh : Nat → Nat → Int64} {opn : Nat → Int32} {cki : Nat → Int32} {ckl : Nat → Int64} {chk : Int32}  {E1 : String} {v : (Nat → Nat → Int32) × (Nat → Nat → Int64) × (Nat → Nat → Int64) × (Nat → Int32) × (Nat → Int32) × (Nat → Int64) × Int32} (h : s_CM_check stp psz gk gl gh opn cki ckl chk = .inr (E1, v)) : E1 = "java/lang/IllegalArgumentException" ∨ E1 = "java/lang/UnsupportedOperationException" := by
  unfold s_CM_check at h
  (try simp only [x_let] at h)
  repeat' split at h
  all_goals first | (cases h; done) | (cases h; exact Or.inl rfl) | (cases h; exact Or.inr rfl)
def s_Lw_check (stp : Nat → Nat → Int32) (psz : Int32) (gk : Nat → Nat → Int32) (gl : Nat → Nat → Int64) (gh : Nat → Nat → Int64) (opn : Nat → Int32) (cki : Nat → Int32) (ckl : Nat → Int64) (chk : Int32) (out : Nat → Int64)  : Int32 × (Nat → Nat → Int32) × (Nat → Nat → Int64) × (Nat → Nat → Int64) × (Nat → Int32) × (Nat → Int32) × (Nat → Int64) × Int32 × (Nat → Int64) :=
  (match s_CM_check stp psz gk gl gh opn cki ckl chk with | .inl (r1, gk1, gl1, gh1, opn1, cki1, ckl1, chk1) => (0, gk1, gl1, gh1, opn1, cki1, ckl1, chk1, vp_updL out (Int32.toNatClampNeg 0) (Int32.toInt64 r1)) | .inr (E1, (gk1, gl1, gh1, opn1, cki1, ckl1, chk1)) => (if E1 = "java/lang/IllegalArgumentException" then (1, gk1, gl1, gh1, opn1, cki1, ckl1, chk1, out) else (2, gk1, gl1, gh1, opn1, cki1, ckl1, chk1, out)))
set_option maxHeartbeats 4000000 in
set_option maxRecDepth 100000 in
theorem c_Lw_check {l : Launch} (htr : l.stackTraces = false) {D : va_G} {cA : Nat → ClassId} {ad : x_I → Nat} (ok : x_ok (x_k D cA ad)) {stp : Nat → Nat → Int32} {psz : Int32} {gk : Nat → Nat → Int32} {gl : Nat → Nat → Int64} {gh : Nat → Nat → Int64} {opn : Nat → Int32} {cki : Nat → Int32} {ckl : Nat → Int64} {mp : Nat → Nat → Int64} {rk : Nat → Int32} {rv : Nat → Int64} {ri : Nat → Int32} {chk : Int32} {mo : Nat → Nat → Int32} {mi : Nat → Int32} {ml : Nat → Int64} {mk : Nat → Int32} {mlo : Nat → Int64} {mhi : Nat → Int64} {pk : Nat → Int32} {ps : Nat → Int32} {pl : Nat → Int64} {ph : Nat → Int64} {mm : Nat → Int64} {out : Nat → Int64} (hw : x_wf stp) : x_MG l y_Lw_check (Cond.codeWith y_Lw_check b_Lw_check 3 (Option.some Jvm.ClassFile.FieldType.int) [(0, 8, 11, 13), (0, 8, 14, 31)] :: x_Wd) { frames := 8, cells := 1, slots := 6, locals := 172 } (x_k D cA ad) (x_F ad cA) [(.ref (ad (0, 0))), (.ref (ad (32, 0)))] ((stp, psz, gk, gl, gh, opn, cki, ckl, mp, rk, rv, ri, chk), (mo, mi, ml, mk, mlo, mhi, pk, ps, pl, ph, mm), out) ((fun q : Int32 × (Nat → Nat → Int32) × (Nat → Nat → Int64) × (Nat → Nat → Int64) × (Nat → Int32) × (Nat → Int32) × (Nat → Int64) × Int32 × (Nat → Int64) => ((some (.int (q.1)), ((stp, psz, q.2.1, q.2.2.1, q.2.2.2.1, q.2.2.2.2.1, q.2.2.2.2.2.1, q.2.2.2.2.2.2.1, mp, rk, rv, ri, q.2.2.2.2.2.2.2.1), (mo, mi, ml, mk, mlo, mhi, pk, ps, pl, ph, mm), q.2.2.2.2.2.2.2.2)) : Option Value × x_S)) (s_Lw_check stp psz gk gl gh opn cki ckl chk out)) 1 6 := by
  refine x_startH (κ := x_k D cA ad) (cc := b_Lw_check) (F := x_F ad cA) (wr := (fun q : Int32 × (Nat → Nat → Int32) × (Nat → Nat → Int64) × (Nat → Nat → Int64) × (Nat → Int32) × (Nat → Int32) × (Nat → Int64) × Int32 × (Nat → Int64) => ((some (.int (q.1)), ((stp, psz, q.2.1, q.2.2.1, q.2.2.2.1, q.2.2.2.2.1, q.2.2.2.2.2.1, q.2.2.2.2.2.2.1, mp, rk, rv, ri, q.2.2.2.2.2.2.2.1), (mo, mi, ml, mk, mlo, mhi, pk, ps, pl, ph, mm), q.2.2.2.2.2.2.2.2)) : Option Value × x_S))) (q := s_Lw_check stp psz gk gl gh opn cki ckl chk out) (ret := (Option.some Jvm.ClassFile.FieldType.int)) (lv0 := [(0, (.ref (ad (0, 0)))), (1, (.ref (ad (32, 0))))]) ok (by decide) rfl (Nat.le_of_ble_eq_true rfl) rfl ?_
  intro p e s m below meth c C htab hg hj hP0 hr hlk
  unfold s_Lw_check
  refine x_aload_n 1 C d_Lw_check_0 rfl rfl ?_
  refine x_iconst (v := 0) C d_Lw_check_1 (by decide) ?_
  refine x_aload_n 0 C d_Lw_check_2 rfl rfl ?_
  rcases hq : s_CM_check stp psz gk gl gh opn cki ckl chk with ⟨r1, gk1, gl1, gh1, opn1, cki1, ckl1, chk1⟩ | ⟨E1, gk1, gl1, gh1, opn1, cki1, ckl1, chk1⟩
  · dsimp only
    refine x_cvR (i := (0, 0)) (F := x_F ad cA) (X := (some (.int r1), ((stp, psz, gk1, gl1, gh1, opn1, cki1, ckl1, mp, rk, rv, ri, chk1), (mo, mi, ml, mk, mlo, mhi, pk, ps, pl, ph, mm), out))) (As := []) (rest := [(.int 0), (.ref (ad (32, 0)))]) C k_CM_check q_395 (c_CM_check htr ok hw) (by rw [hq]; rfl) hg hP0 rfl rfl (Nat.le_of_ble_eq_true rfl) (Nat.le_of_ble_eq_true rfl) m_0 rfl rfl rfl rfl rfl (Nat.le_of_ble_eq_true rfl) d_Lw_check_3 ⟨(Nat.le_of_ble_eq_true rfl), (Nat.le_of_ble_eq_true rfl)⟩ ?_
    show x_V _ _ _ _ _ _ _ _ _ _ _ _ _ _ _ (x_F ad cA ((stp, psz, gk1, gl1, gh1, opn1, cki1, ckl1, mp, rk, rv, ri, chk1), (mo, mi, ml, mk, mlo, mhi, pk, ps, pl, ph, mm), out)) _ _ [(.int r1), (.int 0), (.ref (ad (32, 0)))]
    refine x_i2l C d_Lw_check_6 ?_
    refine x_last (i := (32, 0)) (g := out) (f' := x_F ad cA ((stp, psz, gk1, gl1, gh1, opn1, cki1, ckl1, mp, rk, rv, ri, chk1), (mo, mi, ml, mk, mlo, mhi, pk, ps, pl, ph, mm), vp_updL out (Int32.toNatClampNeg 0) (Int32.toInt64 r1))) 1 C m_32 rfl rfl (x_vin (by decide)) d_Lw_check_7 e_out ?_
    refine x_goto 17 C d_Lw_check_8 (by decide) ?_
    refine x_iconst (v := 0) C d_Lw_check_17 (by decide) ?_
    exact x_iret C hr hlk rfl d_Lw_check_18
  · dsimp only
    have hE := t_CM_check hq
    rcases hE with hE | hE
    · subst hE
      rw [if_pos rfl]
      refine x_cvX (i := (0, 0)) (F := x_F ad cA) (E := "java/lang/IllegalArgumentException") (u := ((stp, psz, gk1, gl1, gh1, opn1, cki1, ckl1, mp, rk, rv, ri, chk1), (mo, mi, ml, mk, mlo, mhi, pk, ps, pl, ph, mm), out)) (h := 11) (As := []) (rest := [(.int 0), (.ref (ad (32, 0)))]) C k_CM_check q_395 (c_CM_check htr ok hw) (by rw [hq]; rfl) hg hP0 rfl rfl (Nat.le_of_ble_eq_true rfl) (Nat.le_of_ble_eq_true rfl) m_0 rfl rfl rfl rfl rfl (Nat.le_of_ble_eq_true rfl) d_Lw_check_3 ⟨(Nat.le_of_ble_eq_true rfl), (Nat.le_of_ble_eq_true rfl)⟩ (fun pl hpl th hth => by rw [htab]; exact x_s1 (x := ⟨0, 8, 11, 13⟩) (by decide) (by decide) (x_yes C.1.2.2.2.1 (C.1.2.2.2.2 _ (List.mem_cons_of_mem _ q_246)) ((hg.1 _).2 _ (by simp [x_oa])) pl hpl hth)) (fun q9 => ?_)
      refine x_astore_n (lv' := [(2, (.ref q9)), (0, (.ref (ad (0, 0)))), (1, (.ref (ad (32, 0))))]) C d_Lw_check_11 rfl (by decide) rfl ?_
      refine x_iconst (v := 1) C d_Lw_check_12 (by decide) ?_
      exact x_iret C hr hlk rfl d_Lw_check_13
    · subst hE
      rw [if_neg (by decide)]
      refine x_cvX (i := (0, 0)) (F := x_F ad cA) (E := "java/lang/UnsupportedOperationException") (u := ((stp, psz, gk1, gl1, gh1, opn1, cki1, ckl1, mp, rk, rv, ri, chk1), (mo, mi, ml, mk, mlo, mhi, pk, ps, pl, ph, mm), out)) (h := 14) (As := []) (rest := [(.int 0), (.ref (ad (32, 0)))]) C k_CM_check q_395 (c_CM_check htr ok hw) (by rw [hq]; rfl) hg hP0 rfl rfl (Nat.le_of_ble_eq_true rfl) (Nat.le_of_ble_eq_true rfl) m_0 rfl rfl rfl rfl rfl (Nat.le_of_ble_eq_true rfl) d_Lw_check_3 ⟨(Nat.le_of_ble_eq_true rfl), (Nat.le_of_ble_eq_true rfl)⟩ (fun pl hpl th hth => by rw [htab]; exact x_s2 (x := ⟨0, 8, 11, 13⟩) (by decide) (by decide) (x_not C.1.2.2.2.1 (C.1.2.2.2.2 _ (List.mem_cons_of_mem _ q_246)) hj.2.2 pl hpl hth) (x_s1 (x := ⟨0, 8, 14, 31⟩) (by decide) (by decide) (x_yes C.1.2.2.2.1 (C.1.2.2.2.2 _ (List.mem_cons_of_mem _ q_394)) ((hg.2.2.2.2.2.2.2 _).2 _ (by simp [x_oa])) pl hpl hth))) (fun q9 => ?_)
      refine x_astore_n (lv' := [(2, (.ref q9)), (0, (.ref (ad (0, 0)))), (1, (.ref (ad (32, 0))))]) C d_Lw_check_14 rfl (by decide) rfl ?_
      refine x_iconst (v := 2) C d_Lw_check_15 (by decide) ?_
      exact x_iret C hr hlk rfl d_Lw_check_16
theorem t_CM_run {stp : Nat → Nat → Int32} {psz : Int32} {mp : Nat → Nat → Int64} {rk : Nat → Int32} {rv : Nat → Int64} {ri : Nat → Int32} {chk : Int32} {a1 : Int64} {E1 : String} {v : (Nat → Nat → Int64) × (Nat → Int32) × (Nat → Int64) × (Nat → Int32)} (h : s_CM_run stp psz mp rk rv ri chk a1 = .inr (E1, v)) : E1 = "java/lang/IllegalStateException" := by
  unfold s_CM_run at h
  (try simp only [x_let] at h)
  repeat' split at h
  all_goals first | (cases h; done) | (cases h; rfl)
def s_Lw_run (stp : Nat → Nat → Int32) (psz : Int32) (mp : Nat → Nat → Int64) (rk : Nat → Int32) (rv : Nat → Int64) (ri : Nat → Int32) (chk : Int32) (out : Nat → Int64) (a2 : Int64) : Int32 × (Nat → Nat → Int64) × (Nat → Int32) × (Nat → Int64) × (Nat → Int32) × (Nat → Int64) :=
  (match s_CM_run stp psz mp rk rv ri chk a2 with | .inl (r1, mp1, rk1, rv1, ri1) => (0, mp1, rk1, rv1, ri1, vp_updL out (Int32.toNatClampNeg 0) r1) | .inr (_, (mp1, rk1, rv1, ri1)) => (1, mp1, rk1, rv1, ri1, out))
set_option maxHeartbeats 4000000 in
set_option maxRecDepth 100000 in
theorem c_Lw_run {l : Launch} (htr : l.stackTraces = false) {D : va_G} {cA : Nat → ClassId} {ad : x_I → Nat} (ok : x_ok (x_k D cA ad)) {stp : Nat → Nat → Int32} {psz : Int32} {gk : Nat → Nat → Int32} {gl : Nat → Nat → Int64} {gh : Nat → Nat → Int64} {opn : Nat → Int32} {cki : Nat → Int32} {ckl : Nat → Int64} {mp : Nat → Nat → Int64} {rk : Nat → Int32} {rv : Nat → Int64} {ri : Nat → Int32} {chk : Int32} {mo : Nat → Nat → Int32} {mi : Nat → Int32} {ml : Nat → Int64} {mk : Nat → Int32} {mlo : Nat → Int64} {mhi : Nat → Int64} {pk : Nat → Int32} {ps : Nat → Int32} {pl : Nat → Int64} {ph : Nat → Int64} {mm : Nat → Int64} {out : Nat → Int64} (a2 : Int64) (hw : x_wf stp) : x_MG l y_Lw_run (Cond.codeWith y_Lw_run b_Lw_run 5 (Option.some Jvm.ClassFile.FieldType.int) [(0, 8, 11, 15)] :: x_Wd) { frames := 7, cells := 1, slots := 6, locals := 158 } (x_k D cA ad) (x_F ad cA) [(.ref (ad (0, 0))), (.long a2), (.ref (ad (32, 0)))] ((stp, psz, gk, gl, gh, opn, cki, ckl, mp, rk, rv, ri, chk), (mo, mi, ml, mk, mlo, mhi, pk, ps, pl, ph, mm), out) ((fun q : Int32 × (Nat → Nat → Int64) × (Nat → Int32) × (Nat → Int64) × (Nat → Int32) × (Nat → Int64) => ((some (.int (q.1)), ((stp, psz, gk, gl, gh, opn, cki, ckl, q.2.1, q.2.2.1, q.2.2.2.1, q.2.2.2.2.1, chk), (mo, mi, ml, mk, mlo, mhi, pk, ps, pl, ph, mm), q.2.2.2.2.2)) : Option Value × x_S)) (s_Lw_run stp psz mp rk rv ri chk out a2)) 1 6 := by
  refine x_startH (κ := x_k D cA ad) (cc := b_Lw_run) (F := x_F ad cA) (wr := (fun q : Int32 × (Nat → Nat → Int64) × (Nat → Int32) × (Nat → Int64) × (Nat → Int32) × (Nat → Int64) => ((some (.int (q.1)), ((stp, psz, gk, gl, gh, opn, cki, ckl, q.2.1, q.2.2.1, q.2.2.2.1, q.2.2.2.2.1, chk), (mo, mi, ml, mk, mlo, mhi, pk, ps, pl, ph, mm), q.2.2.2.2.2)) : Option Value × x_S))) (q := s_Lw_run stp psz mp rk rv ri chk out a2) (ret := (Option.some Jvm.ClassFile.FieldType.int)) (lv0 := [(0, (.ref (ad (0, 0)))), (1, (.long a2)), (3, (.ref (ad (32, 0))))]) ok (by decide) rfl (Nat.le_of_ble_eq_true rfl) rfl ?_
  intro p e s m below meth c C htab hg hj hP0 hr hlk
  unfold s_Lw_run
  refine x_aload_n 2 C d_Lw_run_0 rfl rfl ?_
  refine x_iconst (v := 0) C d_Lw_run_1 (by decide) ?_
  refine x_aload_n 0 C d_Lw_run_2 rfl rfl ?_
  refine x_lload_n 1 C d_Lw_run_3 rfl rfl ?_
  rcases hq : s_CM_run stp psz mp rk rv ri chk a2 with ⟨r1, mp1, rk1, rv1, ri1⟩ | ⟨E1, mp1, rk1, rv1, ri1⟩
  · dsimp only
    refine x_cvR (i := (0, 0)) (F := x_F ad cA) (X := (some (.long r1), ((stp, psz, gk, gl, gh, opn, cki, ckl, mp1, rk1, rv1, ri1, chk), (mo, mi, ml, mk, mlo, mhi, pk, ps, pl, ph, mm), out))) (As := [(.long a2)]) (rest := [(.int 0), (.ref (ad (32, 0)))]) C k_CM_run q_692 (c_CM_run htr ok a2 hw) (by rw [hq]; rfl) hg hP0 rfl rfl (Nat.le_of_ble_eq_true rfl) (Nat.le_of_ble_eq_true rfl) m_0 rfl rfl rfl rfl rfl (Nat.le_of_ble_eq_true rfl) d_Lw_run_4 ⟨(Nat.le_of_ble_eq_true rfl), (Nat.le_of_ble_eq_true rfl)⟩ ?_
    show x_V _ _ _ _ _ _ _ _ _ _ _ _ _ _ _ (x_F ad cA ((stp, psz, gk, gl, gh, opn, cki, ckl, mp1, rk1, rv1, ri1, chk), (mo, mi, ml, mk, mlo, mhi, pk, ps, pl, ph, mm), out)) _ _ [(.long r1), (.int 0), (.ref (ad (32, 0)))]
    refine x_last (i := (32, 0)) (g := out) (f' := x_F ad cA ((stp, psz, gk, gl, gh, opn, cki, ckl, mp1, rk1, rv1, ri1, chk), (mo, mi, ml, mk, mlo, mhi, pk, ps, pl, ph, mm), vp_updL out (Int32.toNatClampNeg 0) r1)) 1 C m_32 rfl rfl (x_vin (by decide)) d_Lw_run_7 e_out ?_
    refine x_goto 15 C d_Lw_run_8 (by decide) ?_
    refine x_iconst (v := 0) C d_Lw_run_15 (by decide) ?_
    exact x_iret C hr hlk rfl d_Lw_run_16
  · dsimp only
    have hE := t_CM_run hq
    subst hE
    refine x_cvX (i := (0, 0)) (F := x_F ad cA) (E := "java/lang/IllegalStateException") (u := ((stp, psz, gk, gl, gh, opn, cki, ckl, mp1, rk1, rv1, ri1, chk), (mo, mi, ml, mk, mlo, mhi, pk, ps, pl, ph, mm), out)) (h := 11) (As := [(.long a2)]) (rest := [(.int 0), (.ref (ad (32, 0)))]) C k_CM_run q_692 (c_CM_run htr ok a2 hw) (by rw [hq]; rfl) hg hP0 rfl rfl (Nat.le_of_ble_eq_true rfl) (Nat.le_of_ble_eq_true rfl) m_0 rfl rfl rfl rfl rfl (Nat.le_of_ble_eq_true rfl) d_Lw_run_4 ⟨(Nat.le_of_ble_eq_true rfl), (Nat.le_of_ble_eq_true rfl)⟩ (fun pl hpl th hth => by rw [htab]; exact x_s1 (x := ⟨0, 8, 11, 15⟩) (by decide) (by decide) (x_yes C.1.2.2.2.1 (C.1.2.2.2.2 _ (List.mem_cons_of_mem _ q_247)) ((hg.2.2.2.2.1 _).2 _ (by simp [x_oa])) pl hpl hth)) (fun q9 => ?_)
    refine x_astore (lv' := [(4, (.ref q9)), (0, (.ref (ad (0, 0)))), (1, (.long a2)), (3, (.ref (ad (32, 0))))]) C d_Lw_run_11 (by decide) rfl ?_
    refine x_iconst (v := 1) C d_Lw_run_13 (by decide) ?_
    exact x_iret C hr hlk rfl d_Lw_run_14
theorem t_CM_row {mp : Nat → Nat → Int64} {a1 : Int32} {a2 : Int32} {E1 : String} {v : Unit} (h : s_CM_row mp a1 a2 = .inr (E1, v)) : E1 = "java/lang/IllegalArgumentException" := by
  unfold s_CM_row at h
  (try simp only [x_let] at h)
  repeat' split at h
  all_goals first | (cases h; done) | (cases h; rfl)
def s_Lw_row (mp : Nat → Nat → Int64) (out : Nat → Int64) (a2 : Int32) (a3 : Int32) : Int32 × (Nat → Int64) :=
  (match s_CM_row mp a2 a3 with | .inl r1 => (0, vp_updL out (Int32.toNatClampNeg 0) r1) | .inr (_, _) => (1, out))
set_option maxHeartbeats 4000000 in
set_option maxRecDepth 100000 in
theorem c_Lw_row {l : Launch} (htr : l.stackTraces = false) {D : va_G} {cA : Nat → ClassId} {ad : x_I → Nat} (ok : x_ok (x_k D cA ad)) {stp : Nat → Nat → Int32} {psz : Int32} {gk : Nat → Nat → Int32} {gl : Nat → Nat → Int64} {gh : Nat → Nat → Int64} {opn : Nat → Int32} {cki : Nat → Int32} {ckl : Nat → Int64} {mp : Nat → Nat → Int64} {rk : Nat → Int32} {rv : Nat → Int64} {ri : Nat → Int32} {chk : Int32} {mo : Nat → Nat → Int32} {mi : Nat → Int32} {ml : Nat → Int64} {mk : Nat → Int32} {mlo : Nat → Int64} {mhi : Nat → Int64} {pk : Nat → Int32} {ps : Nat → Int32} {pl : Nat → Int64} {ph : Nat → Int64} {mm : Nat → Int64} {out : Nat → Int64} (a2 : Int32) (a3 : Int32) : x_MG l y_Lw_row (Cond.codeWith y_Lw_row b_Lw_row 5 (Option.some Jvm.ClassFile.FieldType.int) [(0, 9, 12, 13)] :: x_Wd) { frames := 7, cells := 1, slots := 6, locals := 104 } (x_k D cA ad) (x_F ad cA) [(.ref (ad (0, 0))), (.int a2), (.int a3), (.ref (ad (32, 0)))] ((stp, psz, gk, gl, gh, opn, cki, ckl, mp, rk, rv, ri, chk), (mo, mi, ml, mk, mlo, mhi, pk, ps, pl, ph, mm), out) ((fun q : Int32 × (Nat → Int64) => ((some (.int (q.1)), ((stp, psz, gk, gl, gh, opn, cki, ckl, mp, rk, rv, ri, chk), (mo, mi, ml, mk, mlo, mhi, pk, ps, pl, ph, mm), q.2)) : Option Value × x_S)) (s_Lw_row mp out a2 a3)) 1 6 := by
  refine x_startH (κ := x_k D cA ad) (cc := b_Lw_row) (F := x_F ad cA) (wr := (fun q : Int32 × (Nat → Int64) => ((some (.int (q.1)), ((stp, psz, gk, gl, gh, opn, cki, ckl, mp, rk, rv, ri, chk), (mo, mi, ml, mk, mlo, mhi, pk, ps, pl, ph, mm), q.2)) : Option Value × x_S))) (q := s_Lw_row mp out a2 a3) (ret := (Option.some Jvm.ClassFile.FieldType.int)) (lv0 := [(0, (.ref (ad (0, 0)))), (1, (.int a2)), (2, (.int a3)), (3, (.ref (ad (32, 0))))]) ok (by decide) rfl (Nat.le_of_ble_eq_true rfl) rfl ?_
  intro p e s m below meth c C htab hg hj hP0 hr hlk
  unfold s_Lw_row
  refine x_aload_n 3 C d_Lw_row_0 rfl rfl ?_
  refine x_iconst (v := 0) C d_Lw_row_1 (by decide) ?_
  refine x_aload_n 0 C d_Lw_row_2 rfl rfl ?_
  refine x_iload_n 1 C d_Lw_row_3 rfl rfl ?_
  refine x_iload_n 2 C d_Lw_row_4 rfl rfl ?_
  rcases hq : s_CM_row mp a2 a3 with r1 | ⟨E1, u1⟩
  · dsimp only
    refine x_cvR (i := (0, 0)) (F := x_F ad cA) (X := (some (.long r1), ((stp, psz, gk, gl, gh, opn, cki, ckl, mp, rk, rv, ri, chk), (mo, mi, ml, mk, mlo, mhi, pk, ps, pl, ph, mm), out))) (As := [(.int a2), (.int a3)]) (rest := [(.int 0), (.ref (ad (32, 0)))]) C k_CM_row q_755 (c_CM_row htr ok a2 a3) (by rw [hq]; rfl) hg hP0 rfl rfl (Nat.le_of_ble_eq_true rfl) (Nat.le_of_ble_eq_true rfl) m_0 rfl rfl rfl rfl rfl (Nat.le_of_ble_eq_true rfl) d_Lw_row_5 ⟨(Nat.le_of_ble_eq_true rfl), (Nat.le_of_ble_eq_true rfl)⟩ ?_
    show x_V _ _ _ _ _ _ _ _ _ _ _ _ _ _ _ (x_F ad cA ((stp, psz, gk, gl, gh, opn, cki, ckl, mp, rk, rv, ri, chk), (mo, mi, ml, mk, mlo, mhi, pk, ps, pl, ph, mm), out)) _ _ [(.long r1), (.int 0), (.ref (ad (32, 0)))]
    refine x_last (i := (32, 0)) (g := out) (f' := x_F ad cA ((stp, psz, gk, gl, gh, opn, cki, ckl, mp, rk, rv, ri, chk), (mo, mi, ml, mk, mlo, mhi, pk, ps, pl, ph, mm), vp_updL out (Int32.toNatClampNeg 0) r1)) 1 C m_32 rfl rfl (x_vin (by decide)) d_Lw_row_8 e_out ?_
    refine x_goto 16 C d_Lw_row_9 (by decide) ?_
    refine x_iconst (v := 0) C d_Lw_row_16 (by decide) ?_
    exact x_iret C hr hlk rfl d_Lw_row_17
  · dsimp only
    have hE := t_CM_row hq
    subst hE
    refine x_cvX (i := (0, 0)) (F := x_F ad cA) (E := "java/lang/IllegalArgumentException") (u := ((stp, psz, gk, gl, gh, opn, cki, ckl, mp, rk, rv, ri, chk), (mo, mi, ml, mk, mlo, mhi, pk, ps, pl, ph, mm), out)) (h := 12) (As := [(.int a2), (.int a3)]) (rest := [(.int 0), (.ref (ad (32, 0)))]) C k_CM_row q_755 (c_CM_row htr ok a2 a3) (by rw [hq]; rfl) hg hP0 rfl rfl (Nat.le_of_ble_eq_true rfl) (Nat.le_of_ble_eq_true rfl) m_0 rfl rfl rfl rfl rfl (Nat.le_of_ble_eq_true rfl) d_Lw_row_5 ⟨(Nat.le_of_ble_eq_true rfl), (Nat.le_of_ble_eq_true rfl)⟩ (fun pl hpl th hth => by rw [htab]; exact x_s1 (x := ⟨0, 9, 12, 13⟩) (by decide) (by decide) (x_yes C.1.2.2.2.1 (C.1.2.2.2.2 _ (List.mem_cons_of_mem _ q_246)) ((hg.1 _).2 _ (by simp [x_oa])) pl hpl hth)) (fun q9 => ?_)
    refine x_astore (lv' := [(4, (.ref q9)), (0, (.ref (ad (0, 0)))), (1, (.int a2)), (2, (.int a3)), (3, (.ref (ad (32, 0))))]) C d_Lw_row_12 (by decide) rfl ?_
    refine x_iconst (v := 1) C d_Lw_row_14 (by decide) ?_
    exact x_iret C hr hlk rfl d_Lw_row_15
theorem t_CM_fill {mp : Nat → Nat → Int64} {a1 : Int32} {a2 : Int32} {a3 : Int64} {E1 : String} {v : (Nat → Nat → Int64)} (h : s_CM_fill mp a1 a2 a3 = .inr (E1, v)) : E1 = "java/lang/IllegalArgumentException" := by
  unfold s_CM_fill at h
  (try simp only [x_let] at h)
  repeat' split at h
  all_goals first | (cases h; done) | (cases h; rfl)
def s_Lw_fill (mp : Nat → Nat → Int64) (a2 : Int32) (a3 : Int32) (a4 : Int64) : Int32 × (Nat → Nat → Int64) :=
  (match s_CM_fill mp a2 a3 a4 with | .inl mp1 => (0, mp1) | .inr (_, mp1) => (1, mp1))
set_option maxHeartbeats 4000000 in
set_option maxRecDepth 100000 in
theorem c_Lw_fill {l : Launch} (htr : l.stackTraces = false) {D : va_G} {cA : Nat → ClassId} {ad : x_I → Nat} (ok : x_ok (x_k D cA ad)) {stp : Nat → Nat → Int32} {psz : Int32} {gk : Nat → Nat → Int32} {gl : Nat → Nat → Int64} {gh : Nat → Nat → Int64} {opn : Nat → Int32} {cki : Nat → Int32} {ckl : Nat → Int64} {mp : Nat → Nat → Int64} {rk : Nat → Int32} {rv : Nat → Int64} {ri : Nat → Int32} {chk : Int32} {mo : Nat → Nat → Int32} {mi : Nat → Int32} {ml : Nat → Int64} {mk : Nat → Int32} {mlo : Nat → Int64} {mhi : Nat → Int64} {pk : Nat → Int32} {ps : Nat → Int32} {pl : Nat → Int64} {ph : Nat → Int64} {mm : Nat → Int64} {out : Nat → Int64} (a2 : Int32) (a3 : Int32) (a4 : Int64) : x_MG l y_Lw_fill (Cond.codeWith y_Lw_fill b_Lw_fill 6 (Option.some Jvm.ClassFile.FieldType.int) [(0, 7, 10, 13)] :: x_Wd) { frames := 7, cells := 1, slots := 6, locals := 106 } (x_k D cA ad) (x_F ad cA) [(.ref (ad (0, 0))), (.int a2), (.int a3), (.long a4)] ((stp, psz, gk, gl, gh, opn, cki, ckl, mp, rk, rv, ri, chk), (mo, mi, ml, mk, mlo, mhi, pk, ps, pl, ph, mm), out) ((fun q : Int32 × (Nat → Nat → Int64) => ((some (.int (q.1)), ((stp, psz, gk, gl, gh, opn, cki, ckl, q.2, rk, rv, ri, chk), (mo, mi, ml, mk, mlo, mhi, pk, ps, pl, ph, mm), out)) : Option Value × x_S)) (s_Lw_fill mp a2 a3 a4)) 1 6 := by
  refine x_startH (κ := x_k D cA ad) (cc := b_Lw_fill) (F := x_F ad cA) (wr := (fun q : Int32 × (Nat → Nat → Int64) => ((some (.int (q.1)), ((stp, psz, gk, gl, gh, opn, cki, ckl, q.2, rk, rv, ri, chk), (mo, mi, ml, mk, mlo, mhi, pk, ps, pl, ph, mm), out)) : Option Value × x_S))) (q := s_Lw_fill mp a2 a3 a4) (ret := (Option.some Jvm.ClassFile.FieldType.int)) (lv0 := [(0, (.ref (ad (0, 0)))), (1, (.int a2)), (2, (.int a3)), (3, (.long a4))]) ok (by decide) rfl (Nat.le_of_ble_eq_true rfl) rfl ?_
  intro p e s m below meth c C htab hg hj hP0 hr hlk
  unfold s_Lw_fill
  refine x_aload_n 0 C d_Lw_fill_0 rfl rfl ?_
  refine x_iload_n 1 C d_Lw_fill_1 rfl rfl ?_
  refine x_iload_n 2 C d_Lw_fill_2 rfl rfl ?_
  refine x_lload_n 3 C d_Lw_fill_3 rfl rfl ?_
  rcases hq : s_CM_fill mp a2 a3 a4 with mp1 | ⟨E1, mp1⟩
  · dsimp only
    refine x_cvR (i := (0, 0)) (F := x_F ad cA) (X := (none, ((stp, psz, gk, gl, gh, opn, cki, ckl, mp1, rk, rv, ri, chk), (mo, mi, ml, mk, mlo, mhi, pk, ps, pl, ph, mm), out))) (As := [(.int a2), (.int a3), (.long a4)]) (rest := []) C k_CM_fill q_765 (c_CM_fill htr ok a2 a3 a4) (by rw [hq]; rfl) hg hP0 rfl rfl (Nat.le_of_ble_eq_true rfl) (Nat.le_of_ble_eq_true rfl) m_0 rfl rfl rfl rfl rfl (Nat.le_of_ble_eq_true rfl) d_Lw_fill_4 ⟨(Nat.le_of_ble_eq_true rfl), (Nat.le_of_ble_eq_true rfl)⟩ ?_
    show x_V _ _ _ _ _ _ _ _ _ _ _ _ _ _ _ (x_F ad cA ((stp, psz, gk, gl, gh, opn, cki, ckl, mp1, rk, rv, ri, chk), (mo, mi, ml, mk, mlo, mhi, pk, ps, pl, ph, mm), out)) _ _ []
    refine x_goto 14 C d_Lw_fill_7 (by decide) ?_
    refine x_iconst (v := 0) C d_Lw_fill_14 (by decide) ?_
    exact x_iret C hr hlk rfl d_Lw_fill_15
  · dsimp only
    have hE := t_CM_fill hq
    subst hE
    refine x_cvX (i := (0, 0)) (F := x_F ad cA) (E := "java/lang/IllegalArgumentException") (u := ((stp, psz, gk, gl, gh, opn, cki, ckl, mp1, rk, rv, ri, chk), (mo, mi, ml, mk, mlo, mhi, pk, ps, pl, ph, mm), out)) (h := 10) (As := [(.int a2), (.int a3), (.long a4)]) (rest := []) C k_CM_fill q_765 (c_CM_fill htr ok a2 a3 a4) (by rw [hq]; rfl) hg hP0 rfl rfl (Nat.le_of_ble_eq_true rfl) (Nat.le_of_ble_eq_true rfl) m_0 rfl rfl rfl rfl rfl (Nat.le_of_ble_eq_true rfl) d_Lw_fill_4 ⟨(Nat.le_of_ble_eq_true rfl), (Nat.le_of_ble_eq_true rfl)⟩ (fun pl hpl th hth => by rw [htab]; exact x_s1 (x := ⟨0, 7, 10, 13⟩) (by decide) (by decide) (x_yes C.1.2.2.2.1 (C.1.2.2.2.2 _ (List.mem_cons_of_mem _ q_246)) ((hg.1 _).2 _ (by simp [x_oa])) pl hpl hth)) (fun q9 => ?_)
    refine x_astore (lv' := [(5, (.ref q9)), (0, (.ref (ad (0, 0)))), (1, (.int a2)), (2, (.int a3)), (3, (.long a4))]) C d_Lw_fill_10 (by decide) rfl ?_
    refine x_iconst (v := 1) C d_Lw_fill_12 (by decide) ?_
    exact x_iret C hr hlk rfl d_Lw_fill_13
theorem t_CM_outcome {ckl : Nat → Int64} {chk : Int32} {a1 : Int32} {E1 : String} {v : Unit} (h : s_CM_outcome ckl chk a1 = .inr (E1, v)) : E1 = "java/lang/IllegalStateException" := by
  unfold s_CM_outcome at h
  (try simp only [x_let] at h)
  repeat' split at h
  all_goals first | (cases h; done) | (cases h; rfl)
def s_Lw_outcome (ckl : Nat → Int64) (chk : Int32) (out : Nat → Int64) (a2 : Int32) : Int32 × (Nat → Int64) :=
  (match s_CM_outcome ckl chk a2 with | .inl r1 => (0, vp_updL out (Int32.toNatClampNeg 0) r1) | .inr (_, _) => (1, out))
set_option maxHeartbeats 4000000 in
set_option maxRecDepth 100000 in
theorem c_Lw_outcome {l : Launch} (htr : l.stackTraces = false) {D : va_G} {cA : Nat → ClassId} {ad : x_I → Nat} (ok : x_ok (x_k D cA ad)) {stp : Nat → Nat → Int32} {psz : Int32} {gk : Nat → Nat → Int32} {gl : Nat → Nat → Int64} {gh : Nat → Nat → Int64} {opn : Nat → Int32} {cki : Nat → Int32} {ckl : Nat → Int64} {mp : Nat → Nat → Int64} {rk : Nat → Int32} {rv : Nat → Int64} {ri : Nat → Int32} {chk : Int32} {mo : Nat → Nat → Int32} {mi : Nat → Int32} {ml : Nat → Int64} {mk : Nat → Int32} {mlo : Nat → Int64} {mhi : Nat → Int64} {pk : Nat → Int32} {ps : Nat → Int32} {pl : Nat → Int64} {ph : Nat → Int64} {mm : Nat → Int64} {out : Nat → Int64} (a2 : Int32) : x_MG l y_Lw_outcome (Cond.codeWith y_Lw_outcome b_Lw_outcome 4 (Option.some Jvm.ClassFile.FieldType.int) [(0, 8, 11, 15)] :: x_Wd) { frames := 7, cells := 1, slots := 6, locals := 103 } (x_k D cA ad) (x_F ad cA) [(.ref (ad (0, 0))), (.int a2), (.ref (ad (32, 0)))] ((stp, psz, gk, gl, gh, opn, cki, ckl, mp, rk, rv, ri, chk), (mo, mi, ml, mk, mlo, mhi, pk, ps, pl, ph, mm), out) ((fun q : Int32 × (Nat → Int64) => ((some (.int (q.1)), ((stp, psz, gk, gl, gh, opn, cki, ckl, mp, rk, rv, ri, chk), (mo, mi, ml, mk, mlo, mhi, pk, ps, pl, ph, mm), q.2)) : Option Value × x_S)) (s_Lw_outcome ckl chk out a2)) 1 6 := by
  refine x_startH (κ := x_k D cA ad) (cc := b_Lw_outcome) (F := x_F ad cA) (wr := (fun q : Int32 × (Nat → Int64) => ((some (.int (q.1)), ((stp, psz, gk, gl, gh, opn, cki, ckl, mp, rk, rv, ri, chk), (mo, mi, ml, mk, mlo, mhi, pk, ps, pl, ph, mm), q.2)) : Option Value × x_S))) (q := s_Lw_outcome ckl chk out a2) (ret := (Option.some Jvm.ClassFile.FieldType.int)) (lv0 := [(0, (.ref (ad (0, 0)))), (1, (.int a2)), (2, (.ref (ad (32, 0))))]) ok (by decide) rfl (Nat.le_of_ble_eq_true rfl) rfl ?_
  intro p e s m below meth c C htab hg hj hP0 hr hlk
  unfold s_Lw_outcome
  refine x_aload_n 2 C d_Lw_outcome_0 rfl rfl ?_
  refine x_iconst (v := 0) C d_Lw_outcome_1 (by decide) ?_
  refine x_aload_n 0 C d_Lw_outcome_2 rfl rfl ?_
  refine x_iload_n 1 C d_Lw_outcome_3 rfl rfl ?_
  rcases hq : s_CM_outcome ckl chk a2 with r1 | ⟨E1, u1⟩
  · dsimp only
    refine x_cvR (i := (0, 0)) (F := x_F ad cA) (X := (some (.long r1), ((stp, psz, gk, gl, gh, opn, cki, ckl, mp, rk, rv, ri, chk), (mo, mi, ml, mk, mlo, mhi, pk, ps, pl, ph, mm), out))) (As := [(.int a2)]) (rest := [(.int 0), (.ref (ad (32, 0)))]) C k_CM_outcome q_773 (c_CM_outcome htr ok a2) (by rw [hq]; rfl) hg hP0 rfl rfl (Nat.le_of_ble_eq_true rfl) (Nat.le_of_ble_eq_true rfl) m_0 rfl rfl rfl rfl rfl (Nat.le_of_ble_eq_true rfl) d_Lw_outcome_4 ⟨(Nat.le_of_ble_eq_true rfl), (Nat.le_of_ble_eq_true rfl)⟩ ?_
    show x_V _ _ _ _ _ _ _ _ _ _ _ _ _ _ _ (x_F ad cA ((stp, psz, gk, gl, gh, opn, cki, ckl, mp, rk, rv, ri, chk), (mo, mi, ml, mk, mlo, mhi, pk, ps, pl, ph, mm), out)) _ _ [(.long r1), (.int 0), (.ref (ad (32, 0)))]
    refine x_last (i := (32, 0)) (g := out) (f' := x_F ad cA ((stp, psz, gk, gl, gh, opn, cki, ckl, mp, rk, rv, ri, chk), (mo, mi, ml, mk, mlo, mhi, pk, ps, pl, ph, mm), vp_updL out (Int32.toNatClampNeg 0) r1)) 1 C m_32 rfl rfl (x_vin (by decide)) d_Lw_outcome_7 e_out ?_
    refine x_goto 14 C d_Lw_outcome_8 (by decide) ?_
    refine x_iconst (v := 0) C d_Lw_outcome_14 (by decide) ?_
    exact x_iret C hr hlk rfl d_Lw_outcome_15
  · dsimp only
    have hE := t_CM_outcome hq
    subst hE
    refine x_cvX (i := (0, 0)) (F := x_F ad cA) (E := "java/lang/IllegalStateException") (u := ((stp, psz, gk, gl, gh, opn, cki, ckl, mp, rk, rv, ri, chk), (mo, mi, ml, mk, mlo, mhi, pk, ps, pl, ph, mm), out)) (h := 11) (As := [(.int a2)]) (rest := [(.int 0), (.ref (ad (32, 0)))]) C k_CM_outcome q_773 (c_CM_outcome htr ok a2) (by rw [hq]; rfl) hg hP0 rfl rfl (Nat.le_of_ble_eq_true rfl) (Nat.le_of_ble_eq_true rfl) m_0 rfl rfl rfl rfl rfl (Nat.le_of_ble_eq_true rfl) d_Lw_outcome_4 ⟨(Nat.le_of_ble_eq_true rfl), (Nat.le_of_ble_eq_true rfl)⟩ (fun pl hpl th hth => by rw [htab]; exact x_s1 (x := ⟨0, 8, 11, 15⟩) (by decide) (by decide) (x_yes C.1.2.2.2.1 (C.1.2.2.2.2 _ (List.mem_cons_of_mem _ q_247)) ((hg.2.2.2.2.1 _).2 _ (by simp [x_oa])) pl hpl hth)) (fun q9 => ?_)
    refine x_astore_n (lv' := [(3, (.ref q9)), (0, (.ref (ad (0, 0)))), (1, (.int a2)), (2, (.ref (ad (32, 0))))]) C d_Lw_outcome_11 rfl (by decide) rfl ?_
    refine x_iconst (v := 1) C d_Lw_outcome_12 (by decide) ?_
    exact x_iret C hr hlk rfl d_Lw_outcome_13
