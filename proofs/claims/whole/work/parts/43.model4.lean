def bk_Md_branch_516 (mi : Nat → Int32) (mk : Nat → Int32) (mlo : Nat → Int64) (mhi : Nat → Int64) (pk : Nat → Int32) (ps : Nat → Int32) (pl : Nat → Int64) (ph : Nat → Int64) (a1 : Int32) (x2 : Int32) (x3 : Int32) (x4 : Int32) (x10 : Int64) (x14 : Int64) : (Nat → Int32) × (Nat → Int32) × (Nat → Int64) × (Nat → Int64) × (Nat → Int32) × (Nat → Int32) × (Nat → Int64) × (Nat → Int64) :=
  (if x2 = 12 then (if x3 = x4 then (upd mi 10 (a1 + 1), mk, mlo, mhi, pk, ps, pl, ph) else (if x14 ≤ x10 then (upd mi 10 (a1 + 1), mk, mlo, mhi, pk, ps, pl, ph) else (upd mi 10 (a1 + 1), mk, mlo, vp_updL mhi x4.toNatClampNeg x10, pk, ps, pl, ph))) else (upd mi 10 (a1 + 1), mk, mlo, mhi, pk, ps, pl, ph))
def bk_ok_Md_branch_516 (mi : Nat → Int32) (mk : Nat → Int32) (mlo : Nat → Int64) (mhi : Nat → Int64) (pk : Nat → Int32) (ps : Nat → Int32) (pl : Nat → Int64) (ph : Nat → Int64) (a1 : Int32) (x2 : Int32) (x3 : Int32) (x4 : Int32) (x10 : Int64) (x14 : Int64) : Prop :=
  (if x2 = 12 then (if x3 = x4 then True else (if x14 ≤ x10 then True else (vp_in x4 12 ∧ True))) else True)
set_option maxHeartbeats 4000000 in
set_option maxRecDepth 100000 in
theorem cb_Md_branch_516 {l : Launch} {D : va_G} {cA : Nat → ClassId} {ad : x_I → Nat} (ok : x_ok (x_k D cA ad)) {stp : Nat → Nat → Int32} {psz : Int32} {gk : Nat → Nat → Int32} {gl : Nat → Nat → Int64} {gh : Nat → Nat → Int64} {opn : Nat → Int32} {cki : Nat → Int32} {ckl : Nat → Int64} {mp : Nat → Nat → Int64} {rk : Nat → Int32} {rv : Nat → Int64} {ri : Nat → Int32} {chk : Int32} {mo : Nat → Nat → Int32} {ml : Nat → Int64} {mm : Nat → Int64} {out : Nat → Int64} {p : Program} {e : Env} {s : State} {m : MethodId} {args : Array Value} {below : List Frame} {meth : Method} {c : Code} (C : x_C p s m args c b_Md_branch 18 R_Md (Cond.code y_Md_branch b_Md_branch 18 (Option.none : Option Jvm.ClassFile.FieldType) :: x_Wd) (x_k D cA ad)) (hr : meth.sig.returnType = (Option.none : Option Jvm.ClassFile.FieldType)) (hlk : meth.locks = false) (a1 : Int32) (mi : Nat → Int32) (mk : Nat → Int32) (mlo : Nat → Int64) (mhi : Nat → Int64) (pk : Nat → Int32) (ps : Nat → Int32) (pl : Nat → Int64) (ph : Nat → Int64) (x2 : Int32) (x3 : Int32) (x4 : Int32) (x10 : Int64) (x14 : Int64) (hk : bk_ok_Md_branch_516 mi mk mlo mhi pk ps pl ph a1 x2 x3 x4 x10 x14) : x_V p l e { frames := 2, cells := 0, slots := 0, locals := 47 } s m args below meth c (x_k D cA ad) 18 0 0 (x_E below (x_k D cA ad) args s 0 0 (x_F ad cA) (fun q : (Nat → Int32) × (Nat → Int32) × (Nat → Int64) × (Nat → Int64) × (Nat → Int32) × (Nat → Int32) × (Nat → Int64) × (Nat → Int64) => ((none, ((stp, psz, gk, gl, gh, opn, cki, ckl, mp, rk, rv, ri, chk), (mo, q.1, ml, q.2.1, q.2.2.1, q.2.2.2.1, q.2.2.2.2.1, q.2.2.2.2.2.1, q.2.2.2.2.2.2.1, q.2.2.2.2.2.2.2, mm), out)) : Option Value × x_S)) (bk_Md_branch_516 mi mk mlo mhi pk ps pl ph a1 x2 x3 x4 x10 x14)) (x_F ad cA ((stp, psz, gk, gl, gh, opn, cki, ckl, mp, rk, rv, ri, chk), (mo, mi, ml, mk, mlo, mhi, pk, ps, pl, ph, mm), out)) 516 [(0, (.ref (ad (18, 0)))), (1, (.int a1)), (2, (.int x2)), (3, (.int x3)), (4, (.int x4)), (10, (.long x10)), (14, (.long x14))] [] := by
  unfold bk_Md_branch_516
  unfold bk_ok_Md_branch_516 at hk
  refine x_iload_n 2 C d_Md_branch_516 rfl rfl ?_
  refine x_bipush (v := 12) C d_Md_branch_517 (by decide) ?_
  refine x_icmp_ne 545 C d_Md_branch_519 (by decide) (fun z33 => ?_) (fun z33 => ?_)
  · have hk := x_okt hk z33
    refine x_iload_n 3 C d_Md_branch_522 rfl rfl ?_
    refine x_iload 4 C d_Md_branch_523 rfl ?_
    refine x_icmp_eq 545 C d_Md_branch_525 (by decide) (fun z34 => ?_) (fun z34 => ?_)
    · have hk := x_okt hk z34
      refine x_aload_n 0 C d_Md_branch_545 rfl rfl ?_
      refine x_iload_n 1 C d_Md_branch_546 rfl rfl ?_
      refine x_iconst (v := 1) C d_Md_branch_547 (by decide) ?_
      refine x_iadd C d_Md_branch_548 ?_
      refine x_put (i := (18, 0)) (f' := x_F ad cA ((stp, psz, gk, gl, gh, opn, cki, ckl, mp, rk, rv, ri, chk), (mo, upd mi 10 (a1 + 1), ml, mk, mlo, mhi, pk, ps, pl, ph, mm), out)) 25 C m_18 rfl rfl i_Md t_Md_ok n_Md (by decide) (List.mem_cons_of_mem _ q_816) rfl rfl rfl (Nat.le_of_ble_eq_true rfl) d_Md_branch_549 e_mi10 ?_
      exact x_vret C hr hlk rfl d_Md_branch_552
    · have hk := x_okf hk z34
      refine x_lload 6 C d_Md_branch_528 rfl ?_
      refine x_lload 5 C d_Md_branch_530 rfl ?_
      refine x_lcmp_le 545 C d_Md_branch_532 d_Md_branch_533 (by decide) (fun z35 => ?_) (fun z35 => ?_)
      · have hk := x_okt hk z35
        refine x_aload_n 0 C d_Md_branch_545 rfl rfl ?_
        refine x_iload_n 1 C d_Md_branch_546 rfl rfl ?_
        refine x_iconst (v := 1) C d_Md_branch_547 (by decide) ?_
        refine x_iadd C d_Md_branch_548 ?_
        refine x_put (i := (18, 0)) (f' := x_F ad cA ((stp, psz, gk, gl, gh, opn, cki, ckl, mp, rk, rv, ri, chk), (mo, upd mi 10 (a1 + 1), ml, mk, mlo, mhi, pk, ps, pl, ph, mm), out)) 25 C m_18 rfl rfl i_Md t_Md_ok n_Md (by decide) (List.mem_cons_of_mem _ q_816) rfl rfl rfl (Nat.le_of_ble_eq_true rfl) d_Md_branch_549 e_mi10 ?_
        exact x_vret C hr hlk rfl d_Md_branch_552
      · have hk := x_okf hk z35
        refine x_aload_n 0 C d_Md_branch_536 rfl rfl ?_
        refine x_get (i := (18, 0)) (v := (.ref (ad (26, 0)))) 18 C m_18 rfl rfl i_Md (by decide) (List.mem_cons_of_mem _ q_809) rfl d_Md_branch_537 ?_
        refine x_iload 4 C d_Md_branch_540 rfl ?_
        refine x_lload 5 C d_Md_branch_542 rfl ?_
        have w36 := hk.1
        have hk := hk.2
        refine x_last (i := (26, 0)) (g := mhi) (f' := x_F ad cA ((stp, psz, gk, gl, gh, opn, cki, ckl, mp, rk, rv, ri, chk), (mo, mi, ml, mk, mlo, vp_updL mhi x4.toNatClampNeg x10, pk, ps, pl, ph, mm), out)) 1 C m_26 rfl rfl w36 d_Md_branch_544 e_mhi ?_
        refine x_aload_n 0 C d_Md_branch_545 rfl rfl ?_
        refine x_iload_n 1 C d_Md_branch_546 rfl rfl ?_
        refine x_iconst (v := 1) C d_Md_branch_547 (by decide) ?_
        refine x_iadd C d_Md_branch_548 ?_
        refine x_put (i := (18, 0)) (f' := x_F ad cA ((stp, psz, gk, gl, gh, opn, cki, ckl, mp, rk, rv, ri, chk), (mo, upd mi 10 (a1 + 1), ml, mk, mlo, vp_updL mhi x4.toNatClampNeg x10, pk, ps, pl, ph, mm), out)) 25 C m_18 rfl rfl i_Md t_Md_ok n_Md (by decide) (List.mem_cons_of_mem _ q_816) rfl rfl rfl (Nat.le_of_ble_eq_true rfl) d_Md_branch_549 e_mi10 ?_
        exact x_vret C hr hlk rfl d_Md_branch_552
  · have hk := x_okf hk z33
    refine x_aload_n 0 C d_Md_branch_545 rfl rfl ?_
    refine x_iload_n 1 C d_Md_branch_546 rfl rfl ?_
    refine x_iconst (v := 1) C d_Md_branch_547 (by decide) ?_
    refine x_iadd C d_Md_branch_548 ?_
    refine x_put (i := (18, 0)) (f' := x_F ad cA ((stp, psz, gk, gl, gh, opn, cki, ckl, mp, rk, rv, ri, chk), (mo, upd mi 10 (a1 + 1), ml, mk, mlo, mhi, pk, ps, pl, ph, mm), out)) 25 C m_18 rfl rfl i_Md t_Md_ok n_Md (by decide) (List.mem_cons_of_mem _ q_816) rfl rfl rfl (Nat.le_of_ble_eq_true rfl) d_Md_branch_549 e_mi10 ?_
    exact x_vret C hr hlk rfl d_Md_branch_552
def bk_Md_branch_488 (mi : Nat → Int32) (mk : Nat → Int32) (mlo : Nat → Int64) (mhi : Nat → Int64) (pk : Nat → Int32) (ps : Nat → Int32) (pl : Nat → Int64) (ph : Nat → Int64) (a1 : Int32) (x2 : Int32) (x3 : Int32) (x4 : Int32) (x8 : Int64) (x10 : Int64) (x12 : Int64) (x14 : Int64) : (Nat → Int32) × (Nat → Int32) × (Nat → Int64) × (Nat → Int64) × (Nat → Int32) × (Nat → Int32) × (Nat → Int64) × (Nat → Int64) :=
  (if x2 = 12 then (if x3 = x4 then bk_Md_branch_516 mi mk mlo mhi pk ps pl ph a1 x2 x3 x4 x10 x14 else (if x12 ≤ x8 then bk_Md_branch_516 mi mk mlo mhi pk ps pl ph a1 x2 x3 x4 x10 x14 else bk_Md_branch_516 mi mk (vp_updL mlo x3.toNatClampNeg x12) mhi pk ps pl ph a1 x2 x3 x4 x10 x14)) else bk_Md_branch_516 mi mk mlo mhi pk ps pl ph a1 x2 x3 x4 x10 x14)
def bk_ok_Md_branch_488 (mi : Nat → Int32) (mk : Nat → Int32) (mlo : Nat → Int64) (mhi : Nat → Int64) (pk : Nat → Int32) (ps : Nat → Int32) (pl : Nat → Int64) (ph : Nat → Int64) (a1 : Int32) (x2 : Int32) (x3 : Int32) (x4 : Int32) (x8 : Int64) (x10 : Int64) (x12 : Int64) (x14 : Int64) : Prop :=
  (if x2 = 12 then (if x3 = x4 then bk_ok_Md_branch_516 mi mk mlo mhi pk ps pl ph a1 x2 x3 x4 x10 x14 else (if x12 ≤ x8 then bk_ok_Md_branch_516 mi mk mlo mhi pk ps pl ph a1 x2 x3 x4 x10 x14 else (vp_in x3 12 ∧ bk_ok_Md_branch_516 mi mk (vp_updL mlo x3.toNatClampNeg x12) mhi pk ps pl ph a1 x2 x3 x4 x10 x14))) else bk_ok_Md_branch_516 mi mk mlo mhi pk ps pl ph a1 x2 x3 x4 x10 x14)
set_option maxHeartbeats 4000000 in
set_option maxRecDepth 100000 in
theorem cb_Md_branch_488 {l : Launch} {D : va_G} {cA : Nat → ClassId} {ad : x_I → Nat} (ok : x_ok (x_k D cA ad)) {stp : Nat → Nat → Int32} {psz : Int32} {gk : Nat → Nat → Int32} {gl : Nat → Nat → Int64} {gh : Nat → Nat → Int64} {opn : Nat → Int32} {cki : Nat → Int32} {ckl : Nat → Int64} {mp : Nat → Nat → Int64} {rk : Nat → Int32} {rv : Nat → Int64} {ri : Nat → Int32} {chk : Int32} {mo : Nat → Nat → Int32} {ml : Nat → Int64} {mm : Nat → Int64} {out : Nat → Int64} {p : Program} {e : Env} {s : State} {m : MethodId} {args : Array Value} {below : List Frame} {meth : Method} {c : Code} (C : x_C p s m args c b_Md_branch 18 R_Md (Cond.code y_Md_branch b_Md_branch 18 (Option.none : Option Jvm.ClassFile.FieldType) :: x_Wd) (x_k D cA ad)) (hr : meth.sig.returnType = (Option.none : Option Jvm.ClassFile.FieldType)) (hlk : meth.locks = false) (a1 : Int32) (mi : Nat → Int32) (mk : Nat → Int32) (mlo : Nat → Int64) (mhi : Nat → Int64) (pk : Nat → Int32) (ps : Nat → Int32) (pl : Nat → Int64) (ph : Nat → Int64) (x2 : Int32) (x3 : Int32) (x4 : Int32) (x8 : Int64) (x10 : Int64) (x12 : Int64) (x14 : Int64) (hk : bk_ok_Md_branch_488 mi mk mlo mhi pk ps pl ph a1 x2 x3 x4 x8 x10 x12 x14) : x_V p l e { frames := 2, cells := 0, slots := 0, locals := 47 } s m args below meth c (x_k D cA ad) 18 0 0 (x_E below (x_k D cA ad) args s 0 0 (x_F ad cA) (fun q : (Nat → Int32) × (Nat → Int32) × (Nat → Int64) × (Nat → Int64) × (Nat → Int32) × (Nat → Int32) × (Nat → Int64) × (Nat → Int64) => ((none, ((stp, psz, gk, gl, gh, opn, cki, ckl, mp, rk, rv, ri, chk), (mo, q.1, ml, q.2.1, q.2.2.1, q.2.2.2.1, q.2.2.2.2.1, q.2.2.2.2.2.1, q.2.2.2.2.2.2.1, q.2.2.2.2.2.2.2, mm), out)) : Option Value × x_S)) (bk_Md_branch_488 mi mk mlo mhi pk ps pl ph a1 x2 x3 x4 x8 x10 x12 x14)) (x_F ad cA ((stp, psz, gk, gl, gh, opn, cki, ckl, mp, rk, rv, ri, chk), (mo, mi, ml, mk, mlo, mhi, pk, ps, pl, ph, mm), out)) 488 [(0, (.ref (ad (18, 0)))), (1, (.int a1)), (2, (.int x2)), (3, (.int x3)), (4, (.int x4)), (8, (.long x8)), (10, (.long x10)), (12, (.long x12)), (14, (.long x14))] [] := by
  unfold bk_Md_branch_488
  unfold bk_ok_Md_branch_488 at hk
  refine x_iload_n 2 C d_Md_branch_488 rfl rfl ?_
  refine x_bipush (v := 12) C d_Md_branch_489 (by decide) ?_
  refine x_icmp_ne 516 C d_Md_branch_491 (by decide) (fun z31 => ?_) (fun z31 => ?_)
  · have hk := x_okt hk z31
    refine x_iload_n 3 C d_Md_branch_494 rfl rfl ?_
    refine x_iload 4 C d_Md_branch_495 rfl ?_
    refine x_icmp_eq 516 C d_Md_branch_497 (by decide) (fun z32 => ?_) (fun z32 => ?_)
    · have hk := x_okt hk z32
      refine x_loc (lv' := [(0, (.ref (ad (18, 0)))), (1, (.int a1)), (2, (.int x2)), (3, (.int x3)), (4, (.int x4)), (10, (.long x10)), (14, (.long x14))]) [0, 1, 2, 3, 4, 6, 8] rfl ?_
      exact cb_Md_branch_516 ok C hr hlk a1  mi mk mlo mhi pk ps pl ph x2 x3 x4 x10 x14 hk
    · have hk := x_okf hk z32
      refine x_lload 5 C d_Md_branch_500 rfl ?_
      refine x_lload 7 C d_Md_branch_502 rfl ?_
      refine x_lcmp_ge 516 C d_Md_branch_504 d_Md_branch_505 (by decide) (fun z37 => ?_) (fun z37 => ?_)
      · have hk := x_okt hk z37
        refine x_loc (lv' := [(0, (.ref (ad (18, 0)))), (1, (.int a1)), (2, (.int x2)), (3, (.int x3)), (4, (.int x4)), (10, (.long x10)), (14, (.long x14))]) [0, 1, 2, 3, 4, 6, 8] rfl ?_
        exact cb_Md_branch_516 ok C hr hlk a1  mi mk mlo mhi pk ps pl ph x2 x3 x4 x10 x14 hk
      · have hk := x_okf hk z37
        refine x_aload_n 0 C d_Md_branch_508 rfl rfl ?_
        refine x_get (i := (18, 0)) (v := (.ref (ad (25, 0)))) 17 C m_18 rfl rfl i_Md (by decide) (List.mem_cons_of_mem _ q_808) rfl d_Md_branch_509 ?_
        refine x_iload_n 3 C d_Md_branch_512 rfl rfl ?_
        refine x_lload 7 C d_Md_branch_513 rfl ?_
        have w38 := hk.1
        have hk := hk.2
        refine x_last (i := (25, 0)) (g := mlo) (f' := x_F ad cA ((stp, psz, gk, gl, gh, opn, cki, ckl, mp, rk, rv, ri, chk), (mo, mi, ml, mk, vp_updL mlo x3.toNatClampNeg x12, mhi, pk, ps, pl, ph, mm), out)) 1 C m_25 rfl rfl w38 d_Md_branch_515 e_mlo ?_
        refine x_loc (lv' := [(0, (.ref (ad (18, 0)))), (1, (.int a1)), (2, (.int x2)), (3, (.int x3)), (4, (.int x4)), (10, (.long x10)), (14, (.long x14))]) [0, 1, 2, 3, 4, 6, 8] rfl ?_
        exact cb_Md_branch_516 ok C hr hlk a1  mi mk (vp_updL mlo x3.toNatClampNeg x12) mhi pk ps pl ph x2 x3 x4 x10 x14 hk
  · have hk := x_okf hk z31
    refine x_loc (lv' := [(0, (.ref (ad (18, 0)))), (1, (.int a1)), (2, (.int x2)), (3, (.int x3)), (4, (.int x4)), (10, (.long x10)), (14, (.long x14))]) [0, 1, 2, 3, 4, 6, 8] rfl ?_
    exact cb_Md_branch_516 ok C hr hlk a1  mi mk mlo mhi pk ps pl ph x2 x3 x4 x10 x14 hk
def bk_Md_branch_466 (mi : Nat → Int32) (mk : Nat → Int32) (mlo : Nat → Int64) (mhi : Nat → Int64) (pk : Nat → Int32) (ps : Nat → Int32) (pl : Nat → Int64) (ph : Nat → Int64) (a1 : Int32) (x2 : Int32) (x3 : Int32) (x4 : Int32) (x6 : Int64) (x8 : Int64) (x10 : Int64) (x12 : Int64) (x14 : Int64) : (Nat → Int32) × (Nat → Int32) × (Nat → Int64) × (Nat → Int64) × (Nat → Int32) × (Nat → Int32) × (Nat → Int64) × (Nat → Int64) :=
  (if x2 = 11 then (if x10 ≤ x6 then bk_Md_branch_488 mi mk mlo mhi pk ps pl ph a1 x2 x3 x4 x8 x10 x12 x14 else bk_Md_branch_488 mi mk mlo (vp_updL mhi x3.toNatClampNeg x6) pk ps pl ph a1 x2 x3 x4 x8 x10 x12 x14) else bk_Md_branch_488 mi mk mlo mhi pk ps pl ph a1 x2 x3 x4 x8 x10 x12 x14)
def bk_ok_Md_branch_466 (mi : Nat → Int32) (mk : Nat → Int32) (mlo : Nat → Int64) (mhi : Nat → Int64) (pk : Nat → Int32) (ps : Nat → Int32) (pl : Nat → Int64) (ph : Nat → Int64) (a1 : Int32) (x2 : Int32) (x3 : Int32) (x4 : Int32) (x6 : Int64) (x8 : Int64) (x10 : Int64) (x12 : Int64) (x14 : Int64) : Prop :=
  (if x2 = 11 then (if x10 ≤ x6 then bk_ok_Md_branch_488 mi mk mlo mhi pk ps pl ph a1 x2 x3 x4 x8 x10 x12 x14 else (vp_in x3 12 ∧ bk_ok_Md_branch_488 mi mk mlo (vp_updL mhi x3.toNatClampNeg x6) pk ps pl ph a1 x2 x3 x4 x8 x10 x12 x14)) else bk_ok_Md_branch_488 mi mk mlo mhi pk ps pl ph a1 x2 x3 x4 x8 x10 x12 x14)
set_option maxHeartbeats 4000000 in
set_option maxRecDepth 100000 in
theorem cb_Md_branch_466 {l : Launch} {D : va_G} {cA : Nat → ClassId} {ad : x_I → Nat} (ok : x_ok (x_k D cA ad)) {stp : Nat → Nat → Int32} {psz : Int32} {gk : Nat → Nat → Int32} {gl : Nat → Nat → Int64} {gh : Nat → Nat → Int64} {opn : Nat → Int32} {cki : Nat → Int32} {ckl : Nat → Int64} {mp : Nat → Nat → Int64} {rk : Nat → Int32} {rv : Nat → Int64} {ri : Nat → Int32} {chk : Int32} {mo : Nat → Nat → Int32} {ml : Nat → Int64} {mm : Nat → Int64} {out : Nat → Int64} {p : Program} {e : Env} {s : State} {m : MethodId} {args : Array Value} {below : List Frame} {meth : Method} {c : Code} (C : x_C p s m args c b_Md_branch 18 R_Md (Cond.code y_Md_branch b_Md_branch 18 (Option.none : Option Jvm.ClassFile.FieldType) :: x_Wd) (x_k D cA ad)) (hr : meth.sig.returnType = (Option.none : Option Jvm.ClassFile.FieldType)) (hlk : meth.locks = false) (a1 : Int32) (mi : Nat → Int32) (mk : Nat → Int32) (mlo : Nat → Int64) (mhi : Nat → Int64) (pk : Nat → Int32) (ps : Nat → Int32) (pl : Nat → Int64) (ph : Nat → Int64) (x2 : Int32) (x3 : Int32) (x4 : Int32) (x6 : Int64) (x8 : Int64) (x10 : Int64) (x12 : Int64) (x14 : Int64) (hk : bk_ok_Md_branch_466 mi mk mlo mhi pk ps pl ph a1 x2 x3 x4 x6 x8 x10 x12 x14) : x_V p l e { frames := 2, cells := 0, slots := 0, locals := 47 } s m args below meth c (x_k D cA ad) 18 0 0 (x_E below (x_k D cA ad) args s 0 0 (x_F ad cA) (fun q : (Nat → Int32) × (Nat → Int32) × (Nat → Int64) × (Nat → Int64) × (Nat → Int32) × (Nat → Int32) × (Nat → Int64) × (Nat → Int64) => ((none, ((stp, psz, gk, gl, gh, opn, cki, ckl, mp, rk, rv, ri, chk), (mo, q.1, ml, q.2.1, q.2.2.1, q.2.2.2.1, q.2.2.2.2.1, q.2.2.2.2.2.1, q.2.2.2.2.2.2.1, q.2.2.2.2.2.2.2, mm), out)) : Option Value × x_S)) (bk_Md_branch_466 mi mk mlo mhi pk ps pl ph a1 x2 x3 x4 x6 x8 x10 x12 x14)) (x_F ad cA ((stp, psz, gk, gl, gh, opn, cki, ckl, mp, rk, rv, ri, chk), (mo, mi, ml, mk, mlo, mhi, pk, ps, pl, ph, mm), out)) 466 [(0, (.ref (ad (18, 0)))), (1, (.int a1)), (2, (.int x2)), (3, (.int x3)), (4, (.int x4)), (6, (.long x6)), (8, (.long x8)), (10, (.long x10)), (12, (.long x12)), (14, (.long x14))] [] := by
  unfold bk_Md_branch_466
  unfold bk_ok_Md_branch_466 at hk
  refine x_iload_n 2 C d_Md_branch_466 rfl rfl ?_
  refine x_bipush (v := 11) C d_Md_branch_467 (by decide) ?_
  refine x_icmp_ne 488 C d_Md_branch_469 (by decide) (fun z29 => ?_) (fun z29 => ?_)
  · have hk := x_okt hk z29
    refine x_lload 7 C d_Md_branch_472 rfl ?_
    refine x_lload 5 C d_Md_branch_474 rfl ?_
    refine x_lcmp_le 488 C d_Md_branch_476 d_Md_branch_477 (by decide) (fun z30 => ?_) (fun z30 => ?_)
    · have hk := x_okt hk z30
      refine x_loc (lv' := [(0, (.ref (ad (18, 0)))), (1, (.int a1)), (2, (.int x2)), (3, (.int x3)), (4, (.int x4)), (8, (.long x8)), (10, (.long x10)), (12, (.long x12)), (14, (.long x14))]) [0, 1, 2, 3, 4, 6, 7, 8, 9] rfl ?_
      exact cb_Md_branch_488 ok C hr hlk a1  mi mk mlo mhi pk ps pl ph x2 x3 x4 x8 x10 x12 x14 hk
    · have hk := x_okf hk z30
      refine x_aload_n 0 C d_Md_branch_480 rfl rfl ?_
      refine x_get (i := (18, 0)) (v := (.ref (ad (26, 0)))) 18 C m_18 rfl rfl i_Md (by decide) (List.mem_cons_of_mem _ q_809) rfl d_Md_branch_481 ?_
      refine x_iload_n 3 C d_Md_branch_484 rfl rfl ?_
      refine x_lload 5 C d_Md_branch_485 rfl ?_
      have w39 := hk.1
      have hk := hk.2
      refine x_last (i := (26, 0)) (g := mhi) (f' := x_F ad cA ((stp, psz, gk, gl, gh, opn, cki, ckl, mp, rk, rv, ri, chk), (mo, mi, ml, mk, mlo, vp_updL mhi x3.toNatClampNeg x6, pk, ps, pl, ph, mm), out)) 1 C m_26 rfl rfl w39 d_Md_branch_487 e_mhi ?_
      refine x_loc (lv' := [(0, (.ref (ad (18, 0)))), (1, (.int a1)), (2, (.int x2)), (3, (.int x3)), (4, (.int x4)), (8, (.long x8)), (10, (.long x10)), (12, (.long x12)), (14, (.long x14))]) [0, 1, 2, 3, 4, 6, 7, 8, 9] rfl ?_
      exact cb_Md_branch_488 ok C hr hlk a1  mi mk mlo (vp_updL mhi x3.toNatClampNeg x6) pk ps pl ph x2 x3 x4 x8 x10 x12 x14 hk
  · have hk := x_okf hk z29
    refine x_loc (lv' := [(0, (.ref (ad (18, 0)))), (1, (.int a1)), (2, (.int x2)), (3, (.int x3)), (4, (.int x4)), (8, (.long x8)), (10, (.long x10)), (12, (.long x12)), (14, (.long x14))]) [0, 1, 2, 3, 4, 6, 7, 8, 9] rfl ?_
    exact cb_Md_branch_488 ok C hr hlk a1  mi mk mlo mhi pk ps pl ph x2 x3 x4 x8 x10 x12 x14 hk
def bk_Md_branch_446 (mi : Nat → Int32) (mk : Nat → Int32) (mlo : Nat → Int64) (mhi : Nat → Int64) (pk : Nat → Int32) (ps : Nat → Int32) (pl : Nat → Int64) (ph : Nat → Int64) (a1 : Int32) (x2 : Int32) (x3 : Int32) (x4 : Int32) (x5 : Int32) (x6 : Int64) (x8 : Int64) (x10 : Int64) (x12 : Int64) (x14 : Int64) : (Nat → Int32) × (Nat → Int32) × (Nat → Int64) × (Nat → Int64) × (Nat → Int32) × (Nat → Int32) × (Nat → Int64) × (Nat → Int64) :=
  (if x2 = 10 then (if x5 = 4 then (x_let (s_Md_know mk mlo mhi x3 3 0 0) fun (mk28, mlo28, mhi28) => bk_Md_branch_466 mi mk28 mlo28 mhi28 pk ps pl ph a1 x2 x3 x4 x6 x8 x10 x12 x14) else bk_Md_branch_466 mi mk mlo mhi pk ps pl ph a1 x2 x3 x4 x6 x8 x10 x12 x14) else bk_Md_branch_466 mi mk mlo mhi pk ps pl ph a1 x2 x3 x4 x6 x8 x10 x12 x14)
def bk_ok_Md_branch_446 (mi : Nat → Int32) (mk : Nat → Int32) (mlo : Nat → Int64) (mhi : Nat → Int64) (pk : Nat → Int32) (ps : Nat → Int32) (pl : Nat → Int64) (ph : Nat → Int64) (a1 : Int32) (x2 : Int32) (x3 : Int32) (x4 : Int32) (x5 : Int32) (x6 : Int64) (x8 : Int64) (x10 : Int64) (x12 : Int64) (x14 : Int64) : Prop :=
  (if x2 = 10 then (if x5 = 4 then (k_ok_Md_know mk mlo mhi x3 3 0 0 ∧ (x_let (s_Md_know mk mlo mhi x3 3 0 0) fun (mk28, mlo28, mhi28) => bk_ok_Md_branch_466 mi mk28 mlo28 mhi28 pk ps pl ph a1 x2 x3 x4 x6 x8 x10 x12 x14)) else bk_ok_Md_branch_466 mi mk mlo mhi pk ps pl ph a1 x2 x3 x4 x6 x8 x10 x12 x14) else bk_ok_Md_branch_466 mi mk mlo mhi pk ps pl ph a1 x2 x3 x4 x6 x8 x10 x12 x14)
set_option maxHeartbeats 4000000 in
set_option maxRecDepth 100000 in
theorem cb_Md_branch_446 {l : Launch} {D : va_G} {cA : Nat → ClassId} {ad : x_I → Nat} (ok : x_ok (x_k D cA ad)) {stp : Nat → Nat → Int32} {psz : Int32} {gk : Nat → Nat → Int32} {gl : Nat → Nat → Int64} {gh : Nat → Nat → Int64} {opn : Nat → Int32} {cki : Nat → Int32} {ckl : Nat → Int64} {mp : Nat → Nat → Int64} {rk : Nat → Int32} {rv : Nat → Int64} {ri : Nat → Int32} {chk : Int32} {mo : Nat → Nat → Int32} {ml : Nat → Int64} {mm : Nat → Int64} {out : Nat → Int64} {p : Program} {e : Env} {s : State} {m : MethodId} {args : Array Value} {below : List Frame} {meth : Method} {c : Code} (C : x_C p s m args c b_Md_branch 18 R_Md (Cond.code y_Md_branch b_Md_branch 18 (Option.none : Option Jvm.ClassFile.FieldType) :: x_Wd) (x_k D cA ad)) (hr : meth.sig.returnType = (Option.none : Option Jvm.ClassFile.FieldType)) (hlk : meth.locks = false) (a1 : Int32) (mi : Nat → Int32) (mk : Nat → Int32) (mlo : Nat → Int64) (mhi : Nat → Int64) (pk : Nat → Int32) (ps : Nat → Int32) (pl : Nat → Int64) (ph : Nat → Int64) (x2 : Int32) (x3 : Int32) (x4 : Int32) (x5 : Int32) (x6 : Int64) (x8 : Int64) (x10 : Int64) (x12 : Int64) (x14 : Int64) (hk : bk_ok_Md_branch_446 mi mk mlo mhi pk ps pl ph a1 x2 x3 x4 x5 x6 x8 x10 x12 x14) : x_V p l e { frames := 2, cells := 0, slots := 0, locals := 47 } s m args below meth c (x_k D cA ad) 18 0 0 (x_E below (x_k D cA ad) args s 0 0 (x_F ad cA) (fun q : (Nat → Int32) × (Nat → Int32) × (Nat → Int64) × (Nat → Int64) × (Nat → Int32) × (Nat → Int32) × (Nat → Int64) × (Nat → Int64) => ((none, ((stp, psz, gk, gl, gh, opn, cki, ckl, mp, rk, rv, ri, chk), (mo, q.1, ml, q.2.1, q.2.2.1, q.2.2.2.1, q.2.2.2.2.1, q.2.2.2.2.2.1, q.2.2.2.2.2.2.1, q.2.2.2.2.2.2.2, mm), out)) : Option Value × x_S)) (bk_Md_branch_446 mi mk mlo mhi pk ps pl ph a1 x2 x3 x4 x5 x6 x8 x10 x12 x14)) (x_F ad cA ((stp, psz, gk, gl, gh, opn, cki, ckl, mp, rk, rv, ri, chk), (mo, mi, ml, mk, mlo, mhi, pk, ps, pl, ph, mm), out)) 446 [(0, (.ref (ad (18, 0)))), (1, (.int a1)), (2, (.int x2)), (3, (.int x3)), (4, (.int x4)), (5, (.int x5)), (6, (.long x6)), (8, (.long x8)), (10, (.long x10)), (12, (.long x12)), (14, (.long x14))] [] := by
  unfold bk_Md_branch_446
  unfold bk_ok_Md_branch_446 at hk
  refine x_iload_n 2 C d_Md_branch_446 rfl rfl ?_
  refine x_bipush (v := 10) C d_Md_branch_447 (by decide) ?_
  refine x_icmp_ne 466 C d_Md_branch_449 (by decide) (fun z25 => ?_) (fun z25 => ?_)
  · have hk := x_okt hk z25
    refine x_iload 5 C d_Md_branch_452 rfl ?_
    refine x_iconst (v := 4) C d_Md_branch_454 (by decide) ?_
    refine x_icmp_ne 466 C d_Md_branch_455 (by decide) (fun z26 => ?_) (fun z26 => ?_)
    · have hk := x_okt hk z26
      refine x_aload_n 0 C d_Md_branch_458 rfl rfl ?_
      refine x_iload_n 3 C d_Md_branch_459 rfl rfl ?_
      refine x_iconst (v := 3) C d_Md_branch_460 (by decide) ?_
      refine x_lconst (v := 0) C d_Md_branch_461 (by decide) ?_
      refine x_lconst (v := 0) C d_Md_branch_462 (by decide) ?_
      have w27 := hk.1
      have hk := hk.2
      refine x_cv0 (i := (18, 0)) (F := x_F ad cA) (As := [(.int x3), (.int 3), (.long 0), (.long 0)]) (rest := []) C k_Md_know q_908 (c_Md_know ok x3 3 0 0 w27) rfl rfl rfl (Nat.le_of_ble_eq_true rfl) (Nat.le_of_ble_eq_true rfl) m_18 rfl rfl rfl rfl rfl (Nat.le_of_ble_eq_true rfl) d_Md_branch_463 ⟨Nat.zero_le _, Nat.zero_le _⟩ ?_
      generalize hq28 : s_Md_know mk mlo mhi x3 3 0 0 = q28 at hk ⊢
      obtain ⟨mk28, mlo28, mhi28⟩ := q28
      refine x_lets ?_
      have hk := x_lete hk
      dsimp only at hk ⊢
      refine x_loc (lv' := [(0, (.ref (ad (18, 0)))), (1, (.int a1)), (2, (.int x2)), (3, (.int x3)), (4, (.int x4)), (6, (.long x6)), (8, (.long x8)), (10, (.long x10)), (12, (.long x12)), (14, (.long x14))]) [0, 1, 2, 3, 4, 6, 7, 8, 9, 10] rfl ?_
      exact cb_Md_branch_466 ok C hr hlk a1  mi mk28 mlo28 mhi28 pk ps pl ph x2 x3 x4 x6 x8 x10 x12 x14 hk
    · have hk := x_okf hk z26
      refine x_loc (lv' := [(0, (.ref (ad (18, 0)))), (1, (.int a1)), (2, (.int x2)), (3, (.int x3)), (4, (.int x4)), (6, (.long x6)), (8, (.long x8)), (10, (.long x10)), (12, (.long x12)), (14, (.long x14))]) [0, 1, 2, 3, 4, 6, 7, 8, 9, 10] rfl ?_
      exact cb_Md_branch_466 ok C hr hlk a1  mi mk mlo mhi pk ps pl ph x2 x3 x4 x6 x8 x10 x12 x14 hk
  · have hk := x_okf hk z25
    refine x_loc (lv' := [(0, (.ref (ad (18, 0)))), (1, (.int a1)), (2, (.int x2)), (3, (.int x3)), (4, (.int x4)), (6, (.long x6)), (8, (.long x8)), (10, (.long x10)), (12, (.long x12)), (14, (.long x14))]) [0, 1, 2, 3, 4, 6, 7, 8, 9, 10] rfl ?_
    exact cb_Md_branch_466 ok C hr hlk a1  mi mk mlo mhi pk ps pl ph x2 x3 x4 x6 x8 x10 x12 x14 hk
def bk_Md_branch_416 (mi : Nat → Int32) (mk : Nat → Int32) (mlo : Nat → Int64) (mhi : Nat → Int64) (pk : Nat → Int32) (ps : Nat → Int32) (pl : Nat → Int64) (ph : Nat → Int64) (a1 : Int32) (x2 : Int32) (x3 : Int32) (x4 : Int32) (x5 : Int32) (x6 : Int64) (x8 : Int64) (x10 : Int64) (x12 : Int64) (x14 : Int64) : (Nat → Int32) × (Nat → Int32) × (Nat → Int64) × (Nat → Int64) × (Nat → Int32) × (Nat → Int32) × (Nat → Int64) × (Nat → Int64) :=
  (if x2 = 10 then (if x5 = 1 then (if x10 = x6 then bk_Md_branch_446 mi mk mlo (vp_updL mhi x3.toNatClampNeg (x6 - 1)) pk ps pl ph a1 x2 x3 x4 x5 x6 x8 x10 x12 x14 else bk_Md_branch_446 mi mk mlo mhi pk ps pl ph a1 x2 x3 x4 x5 x6 x8 x10 x12 x14) else bk_Md_branch_446 mi mk mlo mhi pk ps pl ph a1 x2 x3 x4 x5 x6 x8 x10 x12 x14) else bk_Md_branch_446 mi mk mlo mhi pk ps pl ph a1 x2 x3 x4 x5 x6 x8 x10 x12 x14)
def bk_ok_Md_branch_416 (mi : Nat → Int32) (mk : Nat → Int32) (mlo : Nat → Int64) (mhi : Nat → Int64) (pk : Nat → Int32) (ps : Nat → Int32) (pl : Nat → Int64) (ph : Nat → Int64) (a1 : Int32) (x2 : Int32) (x3 : Int32) (x4 : Int32) (x5 : Int32) (x6 : Int64) (x8 : Int64) (x10 : Int64) (x12 : Int64) (x14 : Int64) : Prop :=
  (if x2 = 10 then (if x5 = 1 then (if x10 = x6 then (vp_in x3 12 ∧ bk_ok_Md_branch_446 mi mk mlo (vp_updL mhi x3.toNatClampNeg (x6 - 1)) pk ps pl ph a1 x2 x3 x4 x5 x6 x8 x10 x12 x14) else bk_ok_Md_branch_446 mi mk mlo mhi pk ps pl ph a1 x2 x3 x4 x5 x6 x8 x10 x12 x14) else bk_ok_Md_branch_446 mi mk mlo mhi pk ps pl ph a1 x2 x3 x4 x5 x6 x8 x10 x12 x14) else bk_ok_Md_branch_446 mi mk mlo mhi pk ps pl ph a1 x2 x3 x4 x5 x6 x8 x10 x12 x14)
set_option maxHeartbeats 4000000 in
set_option maxRecDepth 100000 in
theorem cb_Md_branch_416 {l : Launch} {D : va_G} {cA : Nat → ClassId} {ad : x_I → Nat} (ok : x_ok (x_k D cA ad)) {stp : Nat → Nat → Int32} {psz : Int32} {gk : Nat → Nat → Int32} {gl : Nat → Nat → Int64} {gh : Nat → Nat → Int64} {opn : Nat → Int32} {cki : Nat → Int32} {ckl : Nat → Int64} {mp : Nat → Nat → Int64} {rk : Nat → Int32} {rv : Nat → Int64} {ri : Nat → Int32} {chk : Int32} {mo : Nat → Nat → Int32} {ml : Nat → Int64} {mm : Nat → Int64} {out : Nat → Int64} {p : Program} {e : Env} {s : State} {m : MethodId} {args : Array Value} {below : List Frame} {meth : Method} {c : Code} (C : x_C p s m args c b_Md_branch 18 R_Md (Cond.code y_Md_branch b_Md_branch 18 (Option.none : Option Jvm.ClassFile.FieldType) :: x_Wd) (x_k D cA ad)) (hr : meth.sig.returnType = (Option.none : Option Jvm.ClassFile.FieldType)) (hlk : meth.locks = false) (a1 : Int32) (mi : Nat → Int32) (mk : Nat → Int32) (mlo : Nat → Int64) (mhi : Nat → Int64) (pk : Nat → Int32) (ps : Nat → Int32) (pl : Nat → Int64) (ph : Nat → Int64) (x2 : Int32) (x3 : Int32) (x4 : Int32) (x5 : Int32) (x6 : Int64) (x8 : Int64) (x10 : Int64) (x12 : Int64) (x14 : Int64) (hk : bk_ok_Md_branch_416 mi mk mlo mhi pk ps pl ph a1 x2 x3 x4 x5 x6 x8 x10 x12 x14) : x_V p l e { frames := 2, cells := 0, slots := 0, locals := 47 } s m args below meth c (x_k D cA ad) 18 0 0 (x_E below (x_k D cA ad) args s 0 0 (x_F ad cA) (fun q : (Nat → Int32) × (Nat → Int32) × (Nat → Int64) × (Nat → Int64) × (Nat → Int32) × (Nat → Int32) × (Nat → Int64) × (Nat → Int64) => ((none, ((stp, psz, gk, gl, gh, opn, cki, ckl, mp, rk, rv, ri, chk), (mo, q.1, ml, q.2.1, q.2.2.1, q.2.2.2.1, q.2.2.2.2.1, q.2.2.2.2.2.1, q.2.2.2.2.2.2.1, q.2.2.2.2.2.2.2, mm), out)) : Option Value × x_S)) (bk_Md_branch_416 mi mk mlo mhi pk ps pl ph a1 x2 x3 x4 x5 x6 x8 x10 x12 x14)) (x_F ad cA ((stp, psz, gk, gl, gh, opn, cki, ckl, mp, rk, rv, ri, chk), (mo, mi, ml, mk, mlo, mhi, pk, ps, pl, ph, mm), out)) 416 [(0, (.ref (ad (18, 0)))), (1, (.int a1)), (2, (.int x2)), (3, (.int x3)), (4, (.int x4)), (5, (.int x5)), (6, (.long x6)), (8, (.long x8)), (10, (.long x10)), (12, (.long x12)), (14, (.long x14))] [] := by
  unfold bk_Md_branch_416
  unfold bk_ok_Md_branch_416 at hk
  refine x_iload_n 2 C d_Md_branch_416 rfl rfl ?_
  refine x_bipush (v := 10) C d_Md_branch_417 (by decide) ?_
  refine x_icmp_ne 446 C d_Md_branch_419 (by decide) (fun z21 => ?_) (fun z21 => ?_)
  · have hk := x_okt hk z21
    refine x_iload 5 C d_Md_branch_422 rfl ?_
    refine x_iconst (v := 1) C d_Md_branch_424 (by decide) ?_
    refine x_icmp_ne 446 C d_Md_branch_425 (by decide) (fun z22 => ?_) (fun z22 => ?_)
    · have hk := x_okt hk z22
      refine x_lload 8 C d_Md_branch_428 rfl ?_
      refine x_lload 6 C d_Md_branch_430 rfl ?_
      refine x_lcmp_ne 446 C d_Md_branch_432 d_Md_branch_433 (by decide) (fun z23 => ?_) (fun z23 => ?_)
      · have hk := x_okt hk z23
        refine x_aload_n 0 C d_Md_branch_436 rfl rfl ?_
        refine x_get (i := (18, 0)) (v := (.ref (ad (26, 0)))) 18 C m_18 rfl rfl i_Md (by decide) (List.mem_cons_of_mem _ q_809) rfl d_Md_branch_437 ?_
        refine x_iload_n 3 C d_Md_branch_440 rfl rfl ?_
        refine x_lload 6 C d_Md_branch_441 rfl ?_
        refine x_lconst (v := 1) C d_Md_branch_443 (by decide) ?_
        refine x_lsub C d_Md_branch_444 ?_
        have w24 := hk.1
        have hk := hk.2
        refine x_last (i := (26, 0)) (g := mhi) (f' := x_F ad cA ((stp, psz, gk, gl, gh, opn, cki, ckl, mp, rk, rv, ri, chk), (mo, mi, ml, mk, mlo, vp_updL mhi x3.toNatClampNeg (x6 - 1), pk, ps, pl, ph, mm), out)) 1 C m_26 rfl rfl w24 d_Md_branch_445 e_mhi ?_
        refine x_loc (lv' := [(0, (.ref (ad (18, 0)))), (1, (.int a1)), (2, (.int x2)), (3, (.int x3)), (4, (.int x4)), (5, (.int x5)), (6, (.long x6)), (8, (.long x8)), (10, (.long x10)), (12, (.long x12)), (14, (.long x14))]) [0, 1, 2, 3, 4, 5, 6, 7, 8, 9, 10] rfl ?_
        exact cb_Md_branch_446 ok C hr hlk a1  mi mk mlo (vp_updL mhi x3.toNatClampNeg (x6 - 1)) pk ps pl ph x2 x3 x4 x5 x6 x8 x10 x12 x14 hk
      · have hk := x_okf hk z23
        refine x_loc (lv' := [(0, (.ref (ad (18, 0)))), (1, (.int a1)), (2, (.int x2)), (3, (.int x3)), (4, (.int x4)), (5, (.int x5)), (6, (.long x6)), (8, (.long x8)), (10, (.long x10)), (12, (.long x12)), (14, (.long x14))]) [0, 1, 2, 3, 4, 5, 6, 7, 8, 9, 10] rfl ?_
        exact cb_Md_branch_446 ok C hr hlk a1  mi mk mlo mhi pk ps pl ph x2 x3 x4 x5 x6 x8 x10 x12 x14 hk
    · have hk := x_okf hk z22
      refine x_loc (lv' := [(0, (.ref (ad (18, 0)))), (1, (.int a1)), (2, (.int x2)), (3, (.int x3)), (4, (.int x4)), (5, (.int x5)), (6, (.long x6)), (8, (.long x8)), (10, (.long x10)), (12, (.long x12)), (14, (.long x14))]) [0, 1, 2, 3, 4, 5, 6, 7, 8, 9, 10] rfl ?_
      exact cb_Md_branch_446 ok C hr hlk a1  mi mk mlo mhi pk ps pl ph x2 x3 x4 x5 x6 x8 x10 x12 x14 hk
  · have hk := x_okf hk z21
    refine x_loc (lv' := [(0, (.ref (ad (18, 0)))), (1, (.int a1)), (2, (.int x2)), (3, (.int x3)), (4, (.int x4)), (5, (.int x5)), (6, (.long x6)), (8, (.long x8)), (10, (.long x10)), (12, (.long x12)), (14, (.long x14))]) [0, 1, 2, 3, 4, 5, 6, 7, 8, 9, 10] rfl ?_
    exact cb_Md_branch_446 ok C hr hlk a1  mi mk mlo mhi pk ps pl ph x2 x3 x4 x5 x6 x8 x10 x12 x14 hk
def bk_Md_branch_376 (mi : Nat → Int32) (mk : Nat → Int32) (mlo : Nat → Int64) (mhi : Nat → Int64) (pk : Nat → Int32) (ps : Nat → Int32) (pl : Nat → Int64) (ph : Nat → Int64) (a1 : Int32) (x2 : Int32) (x3 : Int32) (x4 : Int32) (x5 : Int32) (x6 : Int64) (x8 : Int64) (x10 : Int64) (x12 : Int64) (x14 : Int64) (x17 : Int32) : (Nat → Int32) × (Nat → Int32) × (Nat → Int64) × (Nat → Int64) × (Nat → Int32) × (Nat → Int32) × (Nat → Int64) × (Nat → Int64) :=
  (if x17 = 0 then (x_let (s_Md_pop mi mk mlo mhi pk ps pl ph) fun (mi16, mk16, mlo16, mhi16) => (mi16, mk16, mlo16, mhi16, pk, ps, pl, ph)) else (if x2 = 10 then (if x5 = 1 then (if x8 = x6 then bk_Md_branch_416 mi mk (vp_updL mlo x3.toNatClampNeg (x6 + 1)) mhi pk ps pl ph a1 x2 x3 x4 x5 x6 x8 x10 x12 x14 else bk_Md_branch_416 mi mk mlo mhi pk ps pl ph a1 x2 x3 x4 x5 x6 x8 x10 x12 x14) else bk_Md_branch_416 mi mk mlo mhi pk ps pl ph a1 x2 x3 x4 x5 x6 x8 x10 x12 x14) else bk_Md_branch_416 mi mk mlo mhi pk ps pl ph a1 x2 x3 x4 x5 x6 x8 x10 x12 x14))
def bk_ok_Md_branch_376 (mi : Nat → Int32) (mk : Nat → Int32) (mlo : Nat → Int64) (mhi : Nat → Int64) (pk : Nat → Int32) (ps : Nat → Int32) (pl : Nat → Int64) (ph : Nat → Int64) (a1 : Int32) (x2 : Int32) (x3 : Int32) (x4 : Int32) (x5 : Int32) (x6 : Int64) (x8 : Int64) (x10 : Int64) (x12 : Int64) (x14 : Int64) (x17 : Int32) : Prop :=
  (if x17 = 0 then (k_ok_Md_pop mi mk mlo mhi pk ps pl ph ∧ True) else (if x2 = 10 then (if x5 = 1 then (if x8 = x6 then (vp_in x3 12 ∧ bk_ok_Md_branch_416 mi mk (vp_updL mlo x3.toNatClampNeg (x6 + 1)) mhi pk ps pl ph a1 x2 x3 x4 x5 x6 x8 x10 x12 x14) else bk_ok_Md_branch_416 mi mk mlo mhi pk ps pl ph a1 x2 x3 x4 x5 x6 x8 x10 x12 x14) else bk_ok_Md_branch_416 mi mk mlo mhi pk ps pl ph a1 x2 x3 x4 x5 x6 x8 x10 x12 x14) else bk_ok_Md_branch_416 mi mk mlo mhi pk ps pl ph a1 x2 x3 x4 x5 x6 x8 x10 x12 x14))
set_option maxHeartbeats 4000000 in
set_option maxRecDepth 100000 in
theorem cb_Md_branch_376 {l : Launch} {D : va_G} {cA : Nat → ClassId} {ad : x_I → Nat} (ok : x_ok (x_k D cA ad)) {stp : Nat → Nat → Int32} {psz : Int32} {gk : Nat → Nat → Int32} {gl : Nat → Nat → Int64} {gh : Nat → Nat → Int64} {opn : Nat → Int32} {cki : Nat → Int32} {ckl : Nat → Int64} {mp : Nat → Nat → Int64} {rk : Nat → Int32} {rv : Nat → Int64} {ri : Nat → Int32} {chk : Int32} {mo : Nat → Nat → Int32} {ml : Nat → Int64} {mm : Nat → Int64} {out : Nat → Int64} {p : Program} {e : Env} {s : State} {m : MethodId} {args : Array Value} {below : List Frame} {meth : Method} {c : Code} (C : x_C p s m args c b_Md_branch 18 R_Md (Cond.code y_Md_branch b_Md_branch 18 (Option.none : Option Jvm.ClassFile.FieldType) :: x_Wd) (x_k D cA ad)) (hr : meth.sig.returnType = (Option.none : Option Jvm.ClassFile.FieldType)) (hlk : meth.locks = false) (a1 : Int32) (mi : Nat → Int32) (mk : Nat → Int32) (mlo : Nat → Int64) (mhi : Nat → Int64) (pk : Nat → Int32) (ps : Nat → Int32) (pl : Nat → Int64) (ph : Nat → Int64) (x2 : Int32) (x3 : Int32) (x4 : Int32) (x5 : Int32) (x6 : Int64) (x8 : Int64) (x10 : Int64) (x12 : Int64) (x14 : Int64) (x17 : Int32) (hk : bk_ok_Md_branch_376 mi mk mlo mhi pk ps pl ph a1 x2 x3 x4 x5 x6 x8 x10 x12 x14 x17) : x_V p l e { frames := 2, cells := 0, slots := 0, locals := 47 } s m args below meth c (x_k D cA ad) 18 0 0 (x_E below (x_k D cA ad) args s 0 0 (x_F ad cA) (fun q : (Nat → Int32) × (Nat → Int32) × (Nat → Int64) × (Nat → Int64) × (Nat → Int32) × (Nat → Int32) × (Nat → Int64) × (Nat → Int64) => ((none, ((stp, psz, gk, gl, gh, opn, cki, ckl, mp, rk, rv, ri, chk), (mo, q.1, ml, q.2.1, q.2.2.1, q.2.2.2.1, q.2.2.2.2.1, q.2.2.2.2.2.1, q.2.2.2.2.2.2.1, q.2.2.2.2.2.2.2, mm), out)) : Option Value × x_S)) (bk_Md_branch_376 mi mk mlo mhi pk ps pl ph a1 x2 x3 x4 x5 x6 x8 x10 x12 x14 x17)) (x_F ad cA ((stp, psz, gk, gl, gh, opn, cki, ckl, mp, rk, rv, ri, chk), (mo, mi, ml, mk, mlo, mhi, pk, ps, pl, ph, mm), out)) 376 [(0, (.ref (ad (18, 0)))), (1, (.int a1)), (2, (.int x2)), (3, (.int x3)), (4, (.int x4)), (5, (.int x5)), (6, (.long x6)), (8, (.long x8)), (10, (.long x10)), (12, (.long x12)), (14, (.long x14)), (17, (.int x17))] [] := by
  unfold bk_Md_branch_376
  unfold bk_ok_Md_branch_376 at hk
  refine x_iload 11 C d_Md_branch_376 rfl ?_
  refine x_if_ne 386 C d_Md_branch_378 (by decide) (fun z14 => ?_) (fun z14 => ?_)
  · have hk := x_okt hk z14
    refine x_aload_n 0 C d_Md_branch_381 rfl rfl ?_
    have w15 := hk.1
    have hk := hk.2
    refine x_cv0 (i := (18, 0)) (F := x_F ad cA) (As := []) (rest := []) C k_Md_pop q_1007 (c_Md_pop ok w15) rfl rfl rfl (Nat.le_of_ble_eq_true rfl) (Nat.le_of_ble_eq_true rfl) m_18 rfl rfl rfl rfl rfl (Nat.le_of_ble_eq_true rfl) d_Md_branch_382 ⟨Nat.zero_le _, Nat.zero_le _⟩ ?_
    generalize hq16 : s_Md_pop mi mk mlo mhi pk ps pl ph = q16
    obtain ⟨mi16, mk16, mlo16, mhi16⟩ := q16
    refine x_lets ?_
    dsimp only
    exact x_vret C hr hlk rfl d_Md_branch_385
  · have hk := x_okf hk z14
    refine x_iload_n 2 C d_Md_branch_386 rfl rfl ?_
    refine x_bipush (v := 10) C d_Md_branch_387 (by decide) ?_
    refine x_icmp_ne 416 C d_Md_branch_389 (by decide) (fun z17 => ?_) (fun z17 => ?_)
    · have hk := x_okt hk z17
      refine x_iload 5 C d_Md_branch_392 rfl ?_
      refine x_iconst (v := 1) C d_Md_branch_394 (by decide) ?_
      refine x_icmp_ne 416 C d_Md_branch_395 (by decide) (fun z18 => ?_) (fun z18 => ?_)
      · have hk := x_okt hk z18
        refine x_lload 7 C d_Md_branch_398 rfl ?_
        refine x_lload 6 C d_Md_branch_400 rfl ?_
        refine x_lcmp_ne 416 C d_Md_branch_402 d_Md_branch_403 (by decide) (fun z19 => ?_) (fun z19 => ?_)
        · have hk := x_okt hk z19
          refine x_aload_n 0 C d_Md_branch_406 rfl rfl ?_
          refine x_get (i := (18, 0)) (v := (.ref (ad (25, 0)))) 17 C m_18 rfl rfl i_Md (by decide) (List.mem_cons_of_mem _ q_808) rfl d_Md_branch_407 ?_
          refine x_iload_n 3 C d_Md_branch_410 rfl rfl ?_
          refine x_lload 6 C d_Md_branch_411 rfl ?_
          refine x_lconst (v := 1) C d_Md_branch_413 (by decide) ?_
          refine x_ladd C d_Md_branch_414 ?_
          have w20 := hk.1
          have hk := hk.2
          refine x_last (i := (25, 0)) (g := mlo) (f' := x_F ad cA ((stp, psz, gk, gl, gh, opn, cki, ckl, mp, rk, rv, ri, chk), (mo, mi, ml, mk, vp_updL mlo x3.toNatClampNeg (x6 + 1), mhi, pk, ps, pl, ph, mm), out)) 1 C m_25 rfl rfl w20 d_Md_branch_415 e_mlo ?_
          refine x_loc (lv' := [(0, (.ref (ad (18, 0)))), (1, (.int a1)), (2, (.int x2)), (3, (.int x3)), (4, (.int x4)), (5, (.int x5)), (6, (.long x6)), (8, (.long x8)), (10, (.long x10)), (12, (.long x12)), (14, (.long x14))]) [0, 1, 2, 3, 4, 5, 6, 7, 8, 9, 10] rfl ?_
          exact cb_Md_branch_416 ok C hr hlk a1  mi mk (vp_updL mlo x3.toNatClampNeg (x6 + 1)) mhi pk ps pl ph x2 x3 x4 x5 x6 x8 x10 x12 x14 hk
        · have hk := x_okf hk z19
          refine x_loc (lv' := [(0, (.ref (ad (18, 0)))), (1, (.int a1)), (2, (.int x2)), (3, (.int x3)), (4, (.int x4)), (5, (.int x5)), (6, (.long x6)), (8, (.long x8)), (10, (.long x10)), (12, (.long x12)), (14, (.long x14))]) [0, 1, 2, 3, 4, 5, 6, 7, 8, 9, 10] rfl ?_
          exact cb_Md_branch_416 ok C hr hlk a1  mi mk mlo mhi pk ps pl ph x2 x3 x4 x5 x6 x8 x10 x12 x14 hk
      · have hk := x_okf hk z18
        refine x_loc (lv' := [(0, (.ref (ad (18, 0)))), (1, (.int a1)), (2, (.int x2)), (3, (.int x3)), (4, (.int x4)), (5, (.int x5)), (6, (.long x6)), (8, (.long x8)), (10, (.long x10)), (12, (.long x12)), (14, (.long x14))]) [0, 1, 2, 3, 4, 5, 6, 7, 8, 9, 10] rfl ?_
        exact cb_Md_branch_416 ok C hr hlk a1  mi mk mlo mhi pk ps pl ph x2 x3 x4 x5 x6 x8 x10 x12 x14 hk
    · have hk := x_okf hk z17
      refine x_loc (lv' := [(0, (.ref (ad (18, 0)))), (1, (.int a1)), (2, (.int x2)), (3, (.int x3)), (4, (.int x4)), (5, (.int x5)), (6, (.long x6)), (8, (.long x8)), (10, (.long x10)), (12, (.long x12)), (14, (.long x14))]) [0, 1, 2, 3, 4, 5, 6, 7, 8, 9, 10] rfl ?_
      exact cb_Md_branch_416 ok C hr hlk a1  mi mk mlo mhi pk ps pl ph x2 x3 x4 x5 x6 x8 x10 x12 x14 hk
def bk_Md_branch_342 (mi : Nat → Int32) (mk : Nat → Int32) (mlo : Nat → Int64) (mhi : Nat → Int64) (pk : Nat → Int32) (ps : Nat → Int32) (pl : Nat → Int64) (ph : Nat → Int64) (a1 : Int32) (x2 : Int32) (x3 : Int32) (x4 : Int32) (x5 : Int32) (x6 : Int64) (x8 : Int64) (x10 : Int64) (x12 : Int64) (x14 : Int64) (x17 : Int32) : (Nat → Int32) × (Nat → Int32) × (Nat → Int64) × (Nat → Int64) × (Nat → Int32) × (Nat → Int32) × (Nat → Int64) × (Nat → Int64) :=
  (x_let (s_Md_know mk mlo mhi x3 x5 x8 x10) fun (mk12, mlo12, mhi12) => (if x3 = x4 then bk_Md_branch_376 mi mk12 mlo12 mhi12 pk ps pl ph a1 x2 x3 x4 x5 x6 x8 x10 x12 x14 x17 else (x_let (s_Md_know mk12 mlo12 mhi12 x4 (mk12 x4.toNatClampNeg) x12 x14) fun (mk42, mlo42, mhi42) => bk_Md_branch_376 mi mk42 mlo42 mhi42 pk ps pl ph a1 x2 x3 x4 x5 x6 x8 x10 x12 x14 x17)))
def bk_ok_Md_branch_342 (mi : Nat → Int32) (mk : Nat → Int32) (mlo : Nat → Int64) (mhi : Nat → Int64) (pk : Nat → Int32) (ps : Nat → Int32) (pl : Nat → Int64) (ph : Nat → Int64) (a1 : Int32) (x2 : Int32) (x3 : Int32) (x4 : Int32) (x5 : Int32) (x6 : Int64) (x8 : Int64) (x10 : Int64) (x12 : Int64) (x14 : Int64) (x17 : Int32) : Prop :=
  (k_ok_Md_know mk mlo mhi x3 x5 x8 x10 ∧ (x_let (s_Md_know mk mlo mhi x3 x5 x8 x10) fun (mk12, mlo12, mhi12) => (if x3 = x4 then bk_ok_Md_branch_376 mi mk12 mlo12 mhi12 pk ps pl ph a1 x2 x3 x4 x5 x6 x8 x10 x12 x14 x17 else (vp_in x4 12 ∧ (k_ok_Md_know mk12 mlo12 mhi12 x4 (mk12 x4.toNatClampNeg) x12 x14 ∧ (x_let (s_Md_know mk12 mlo12 mhi12 x4 (mk12 x4.toNatClampNeg) x12 x14) fun (mk42, mlo42, mhi42) => bk_ok_Md_branch_376 mi mk42 mlo42 mhi42 pk ps pl ph a1 x2 x3 x4 x5 x6 x8 x10 x12 x14 x17))))))
set_option maxHeartbeats 4000000 in
set_option maxRecDepth 100000 in
theorem cb_Md_branch_342 {l : Launch} {D : va_G} {cA : Nat → ClassId} {ad : x_I → Nat} (ok : x_ok (x_k D cA ad)) {stp : Nat → Nat → Int32} {psz : Int32} {gk : Nat → Nat → Int32} {gl : Nat → Nat → Int64} {gh : Nat → Nat → Int64} {opn : Nat → Int32} {cki : Nat → Int32} {ckl : Nat → Int64} {mp : Nat → Nat → Int64} {rk : Nat → Int32} {rv : Nat → Int64} {ri : Nat → Int32} {chk : Int32} {mo : Nat → Nat → Int32} {ml : Nat → Int64} {mm : Nat → Int64} {out : Nat → Int64} {p : Program} {e : Env} {s : State} {m : MethodId} {args : Array Value} {below : List Frame} {meth : Method} {c : Code} (C : x_C p s m args c b_Md_branch 18 R_Md (Cond.code y_Md_branch b_Md_branch 18 (Option.none : Option Jvm.ClassFile.FieldType) :: x_Wd) (x_k D cA ad)) (hr : meth.sig.returnType = (Option.none : Option Jvm.ClassFile.FieldType)) (hlk : meth.locks = false) (a1 : Int32) (mi : Nat → Int32) (mk : Nat → Int32) (mlo : Nat → Int64) (mhi : Nat → Int64) (pk : Nat → Int32) (ps : Nat → Int32) (pl : Nat → Int64) (ph : Nat → Int64) (x2 : Int32) (x3 : Int32) (x4 : Int32) (x5 : Int32) (x6 : Int64) (x8 : Int64) (x10 : Int64) (x12 : Int64) (x14 : Int64) (x17 : Int32) (hk : bk_ok_Md_branch_342 mi mk mlo mhi pk ps pl ph a1 x2 x3 x4 x5 x6 x8 x10 x12 x14 x17) : x_V p l e { frames := 2, cells := 0, slots := 0, locals := 47 } s m args below meth c (x_k D cA ad) 18 0 0 (x_E below (x_k D cA ad) args s 0 0 (x_F ad cA) (fun q : (Nat → Int32) × (Nat → Int32) × (Nat → Int64) × (Nat → Int64) × (Nat → Int32) × (Nat → Int32) × (Nat → Int64) × (Nat → Int64) => ((none, ((stp, psz, gk, gl, gh, opn, cki, ckl, mp, rk, rv, ri, chk), (mo, q.1, ml, q.2.1, q.2.2.1, q.2.2.2.1, q.2.2.2.2.1, q.2.2.2.2.2.1, q.2.2.2.2.2.2.1, q.2.2.2.2.2.2.2, mm), out)) : Option Value × x_S)) (bk_Md_branch_342 mi mk mlo mhi pk ps pl ph a1 x2 x3 x4 x5 x6 x8 x10 x12 x14 x17)) (x_F ad cA ((stp, psz, gk, gl, gh, opn, cki, ckl, mp, rk, rv, ri, chk), (mo, mi, ml, mk, mlo, mhi, pk, ps, pl, ph, mm), out)) 342 [(0, (.ref (ad (18, 0)))), (1, (.int a1)), (2, (.int x2)), (3, (.int x3)), (4, (.int x4)), (5, (.int x5)), (6, (.long x6)), (8, (.long x8)), (10, (.long x10)), (12, (.long x12)), (14, (.long x14)), (17, (.int x17))] [] := by
  unfold bk_Md_branch_342
  unfold bk_ok_Md_branch_342 at hk
  refine x_aload_n 0 C d_Md_branch_342 rfl rfl ?_
  refine x_iload_n 3 C d_Md_branch_343 rfl rfl ?_
  refine x_iload 5 C d_Md_branch_344 rfl ?_
  refine x_lload 7 C d_Md_branch_346 rfl ?_
  refine x_lload 8 C d_Md_branch_348 rfl ?_
  have w11 := hk.1
  have hk := hk.2
  refine x_cv0 (i := (18, 0)) (F := x_F ad cA) (As := [(.int x3), (.int x5), (.long x8), (.long x10)]) (rest := []) C k_Md_know q_908 (c_Md_know ok x3 x5 x8 x10 w11) rfl rfl rfl (Nat.le_of_ble_eq_true rfl) (Nat.le_of_ble_eq_true rfl) m_18 rfl rfl rfl rfl rfl (Nat.le_of_ble_eq_true rfl) d_Md_branch_350 ⟨Nat.zero_le _, Nat.zero_le _⟩ ?_
  generalize hq12 : s_Md_know mk mlo mhi x3 x5 x8 x10 = q12 at hk ⊢
  obtain ⟨mk12, mlo12, mhi12⟩ := q12
  refine x_lets ?_
  have hk := x_lete hk
  dsimp only at hk ⊢
  refine x_iload_n 3 C d_Md_branch_353 rfl rfl ?_
  refine x_iload 4 C d_Md_branch_354 rfl ?_
  refine x_icmp_eq 376 C d_Md_branch_356 (by decide) (fun z13 => ?_) (fun z13 => ?_)
  · have hk := x_okt hk z13
    refine x_loc (lv' := [(0, (.ref (ad (18, 0)))), (1, (.int a1)), (2, (.int x2)), (3, (.int x3)), (4, (.int x4)), (5, (.int x5)), (6, (.long x6)), (8, (.long x8)), (10, (.long x10)), (12, (.long x12)), (14, (.long x14)), (17, (.int x17))]) [0, 1, 2, 3, 4, 5, 6, 7, 8, 9, 10, 11] rfl ?_
    exact cb_Md_branch_376 ok C hr hlk a1  mi mk12 mlo12 mhi12 pk ps pl ph x2 x3 x4 x5 x6 x8 x10 x12 x14 x17 hk
  · have hk := x_okf hk z13
    refine x_aload_n 0 C d_Md_branch_359 rfl rfl ?_
    refine x_iload 4 C d_Md_branch_360 rfl ?_
    refine x_aload_n 0 C d_Md_branch_362 rfl rfl ?_
    refine x_get (i := (18, 0)) (v := (.ref (ad (24, 0)))) 16 C m_18 rfl rfl i_Md (by decide) (List.mem_cons_of_mem _ q_807) rfl d_Md_branch_363 ?_
    refine x_iload 4 C d_Md_branch_366 rfl ?_
    have w40 := hk.1
    have hk := hk.2
    refine x_iald (i := (24, 0)) (g := mk12) 0 C m_24 rfl rfl w40 d_Md_branch_368 ?_
    refine x_lload 9 C d_Md_branch_369 rfl ?_
    refine x_lload 10 C d_Md_branch_371 rfl ?_
    have w41 := hk.1
    have hk := hk.2
    refine x_cv0 (i := (18, 0)) (F := x_F ad cA) (As := [(.int x4), (.int (mk12 x4.toNatClampNeg)), (.long x12), (.long x14)]) (rest := []) C k_Md_know q_908 (c_Md_know ok x4 (mk12 x4.toNatClampNeg) x12 x14 w41) rfl rfl rfl (Nat.le_of_ble_eq_true rfl) (Nat.le_of_ble_eq_true rfl) m_18 rfl rfl rfl rfl rfl (Nat.le_of_ble_eq_true rfl) d_Md_branch_373 ⟨Nat.zero_le _, Nat.zero_le _⟩ ?_
    generalize hq42 : s_Md_know mk12 mlo12 mhi12 x4 (mk12 x4.toNatClampNeg) x12 x14 = q42 at hk ⊢
    obtain ⟨mk42, mlo42, mhi42⟩ := q42
    refine x_lets ?_
    have hk := x_lete hk
    dsimp only at hk ⊢
    refine x_loc (lv' := [(0, (.ref (ad (18, 0)))), (1, (.int a1)), (2, (.int x2)), (3, (.int x3)), (4, (.int x4)), (5, (.int x5)), (6, (.long x6)), (8, (.long x8)), (10, (.long x10)), (12, (.long x12)), (14, (.long x14)), (17, (.int x17))]) [0, 1, 2, 3, 4, 5, 6, 7, 8, 9, 10, 11] rfl ?_
    exact cb_Md_branch_376 ok C hr hlk a1  mi mk42 mlo42 mhi42 pk ps pl ph x2 x3 x4 x5 x6 x8 x10 x12 x14 x17 hk
def bk_Md_branch_327 (mo : Nat → Nat → Int32) (mi : Nat → Int32) (mk : Nat → Int32) (mlo : Nat → Int64) (mhi : Nat → Int64) (pk : Nat → Int32) (ps : Nat → Int32) (pl : Nat → Int64) (ph : Nat → Int64) (a1 : Int32) (x2 : Int32) (x3 : Int32) (x4 : Int32) (x5 : Int32) (x6 : Int64) (x8 : Int64) (x10 : Int64) (x12 : Int64) (x14 : Int64) (x16 : Int32) (x17 : Int32) : (Nat → Int32) × (Nat → Int32) × (Nat → Int64) × (Nat → Int64) × (Nat → Int32) × (Nat → Int32) × (Nat → Int64) × (Nat → Int64) :=
  (if x16 = 0 then bk_Md_branch_342 mi mk mlo mhi pk ps pl ph a1 x2 x3 x4 x5 x6 x8 x10 x12 x14 x17 else (x_let (s_Md_push mi mk mlo mhi pk ps pl ph (mo 4 a1.toNatClampNeg)) fun (mi45, pk45, ps45, pl45, ph45) => bk_Md_branch_342 mi45 mk mlo mhi pk45 ps45 pl45 ph45 a1 x2 x3 x4 x5 x6 x8 x10 x12 x14 x17))
def bk_ok_Md_branch_327 (mo : Nat → Nat → Int32) (mi : Nat → Int32) (mk : Nat → Int32) (mlo : Nat → Int64) (mhi : Nat → Int64) (pk : Nat → Int32) (ps : Nat → Int32) (pl : Nat → Int64) (ph : Nat → Int64) (a1 : Int32) (x2 : Int32) (x3 : Int32) (x4 : Int32) (x5 : Int32) (x6 : Int64) (x8 : Int64) (x10 : Int64) (x12 : Int64) (x14 : Int64) (x16 : Int32) (x17 : Int32) : Prop :=
  (if x16 = 0 then bk_ok_Md_branch_342 mi mk mlo mhi pk ps pl ph a1 x2 x3 x4 x5 x6 x8 x10 x12 x14 x17 else (vp_in a1 24 ∧ (k_ok_Md_push mi mk mlo mhi pk ps pl ph (mo 4 a1.toNatClampNeg) ∧ (x_let (s_Md_push mi mk mlo mhi pk ps pl ph (mo 4 a1.toNatClampNeg)) fun (mi45, pk45, ps45, pl45, ph45) => bk_ok_Md_branch_342 mi45 mk mlo mhi pk45 ps45 pl45 ph45 a1 x2 x3 x4 x5 x6 x8 x10 x12 x14 x17))))
set_option maxHeartbeats 4000000 in
set_option maxRecDepth 100000 in
theorem cb_Md_branch_327 {l : Launch} {D : va_G} {cA : Nat → ClassId} {ad : x_I → Nat} (ok : x_ok (x_k D cA ad)) {stp : Nat → Nat → Int32} {psz : Int32} {gk : Nat → Nat → Int32} {gl : Nat → Nat → Int64} {gh : Nat → Nat → Int64} {opn : Nat → Int32} {cki : Nat → Int32} {ckl : Nat → Int64} {mp : Nat → Nat → Int64} {rk : Nat → Int32} {rv : Nat → Int64} {ri : Nat → Int32} {chk : Int32} {mo : Nat → Nat → Int32} {ml : Nat → Int64} {mm : Nat → Int64} {out : Nat → Int64} {p : Program} {e : Env} {s : State} {m : MethodId} {args : Array Value} {below : List Frame} {meth : Method} {c : Code} (C : x_C p s m args c b_Md_branch 18 R_Md (Cond.code y_Md_branch b_Md_branch 18 (Option.none : Option Jvm.ClassFile.FieldType) :: x_Wd) (x_k D cA ad)) (hr : meth.sig.returnType = (Option.none : Option Jvm.ClassFile.FieldType)) (hlk : meth.locks = false) (a1 : Int32) (mi : Nat → Int32) (mk : Nat → Int32) (mlo : Nat → Int64) (mhi : Nat → Int64) (pk : Nat → Int32) (ps : Nat → Int32) (pl : Nat → Int64) (ph : Nat → Int64) (x2 : Int32) (x3 : Int32) (x4 : Int32) (x5 : Int32) (x6 : Int64) (x8 : Int64) (x10 : Int64) (x12 : Int64) (x14 : Int64) (x16 : Int32) (x17 : Int32) (hk : bk_ok_Md_branch_327 mo mi mk mlo mhi pk ps pl ph a1 x2 x3 x4 x5 x6 x8 x10 x12 x14 x16 x17) : x_V p l e { frames := 2, cells := 0, slots := 0, locals := 47 } s m args below meth c (x_k D cA ad) 18 0 0 (x_E below (x_k D cA ad) args s 0 0 (x_F ad cA) (fun q : (Nat → Int32) × (Nat → Int32) × (Nat → Int64) × (Nat → Int64) × (Nat → Int32) × (Nat → Int32) × (Nat → Int64) × (Nat → Int64) => ((none, ((stp, psz, gk, gl, gh, opn, cki, ckl, mp, rk, rv, ri, chk), (mo, q.1, ml, q.2.1, q.2.2.1, q.2.2.2.1, q.2.2.2.2.1, q.2.2.2.2.2.1, q.2.2.2.2.2.2.1, q.2.2.2.2.2.2.2, mm), out)) : Option Value × x_S)) (bk_Md_branch_327 mo mi mk mlo mhi pk ps pl ph a1 x2 x3 x4 x5 x6 x8 x10 x12 x14 x16 x17)) (x_F ad cA ((stp, psz, gk, gl, gh, opn, cki, ckl, mp, rk, rv, ri, chk), (mo, mi, ml, mk, mlo, mhi, pk, ps, pl, ph, mm), out)) 327 [(0, (.ref (ad (18, 0)))), (1, (.int a1)), (2, (.int x2)), (3, (.int x3)), (4, (.int x4)), (5, (.int x5)), (6, (.long x6)), (8, (.long x8)), (10, (.long x10)), (12, (.long x12)), (14, (.long x14)), (16, (.int x16)), (17, (.int x17))] [] := by
  unfold bk_Md_branch_327
  unfold bk_ok_Md_branch_327 at hk
  refine x_iload 11 C d_Md_branch_327 rfl ?_
  refine x_if_eq 342 C d_Md_branch_329 (by decide) (fun z10 => ?_) (fun z10 => ?_)
  · have hk := x_okt hk z10
    refine x_loc (lv' := [(0, (.ref (ad (18, 0)))), (1, (.int a1)), (2, (.int x2)), (3, (.int x3)), (4, (.int x4)), (5, (.int x5)), (6, (.long x6)), (8, (.long x8)), (10, (.long x10)), (12, (.long x12)), (14, (.long x14)), (17, (.int x17))]) [0, 1, 2, 3, 4, 5, 6, 7, 8, 9, 10, 12] rfl ?_
    exact cb_Md_branch_342 ok C hr hlk a1  mi mk mlo mhi pk ps pl ph x2 x3 x4 x5 x6 x8 x10 x12 x14 x17 hk
  · have hk := x_okf hk z10
    refine x_aload_n 0 C d_Md_branch_332 rfl rfl ?_
    refine x_aload_n 0 C d_Md_branch_333 rfl rfl ?_
    refine x_get (i := (18, 0)) (v := (.ref (ad (23, 0)))) 4 C m_18 rfl rfl i_Md (by decide) (List.mem_cons_of_mem _ q_795) rfl d_Md_branch_334 ?_
    refine x_iload_n 1 C d_Md_branch_337 rfl rfl ?_
    have w43 := hk.1
    have hk := hk.2
    refine x_iald (i := (23, 0)) (g := mo 4) 0 C m_23 rfl rfl w43 d_Md_branch_338 ?_
    have w44 := hk.1
    have hk := hk.2
    refine x_cv0 (i := (18, 0)) (F := x_F ad cA) (As := [(.int (mo 4 a1.toNatClampNeg))]) (rest := []) C k_Md_push q_1003 (c_Md_push ok (mo 4 a1.toNatClampNeg) w44) rfl rfl rfl (Nat.le_of_ble_eq_true rfl) (Nat.le_of_ble_eq_true rfl) m_18 rfl rfl rfl rfl rfl (Nat.le_of_ble_eq_true rfl) d_Md_branch_339 ⟨Nat.zero_le _, Nat.zero_le _⟩ ?_
    generalize hq45 : s_Md_push mi mk mlo mhi pk ps pl ph (mo 4 a1.toNatClampNeg) = q45 at hk ⊢
    obtain ⟨mi45, pk45, ps45, pl45, ph45⟩ := q45
    refine x_lets ?_
    have hk := x_lete hk
    dsimp only at hk ⊢
    refine x_loc (lv' := [(0, (.ref (ad (18, 0)))), (1, (.int a1)), (2, (.int x2)), (3, (.int x3)), (4, (.int x4)), (5, (.int x5)), (6, (.long x6)), (8, (.long x8)), (10, (.long x10)), (12, (.long x12)), (14, (.long x14)), (17, (.int x17))]) [0, 1, 2, 3, 4, 5, 6, 7, 8, 9, 10, 12] rfl ?_
    exact cb_Md_branch_342 ok C hr hlk a1  mi45 mk mlo mhi pk45 ps45 pl45 ph45 x2 x3 x4 x5 x6 x8 x10 x12 x14 x17 hk
def bk_Md_branch_130 (mo : Nat → Nat → Int32) (mi : Nat → Int32) (mk : Nat → Int32) (mlo : Nat → Int64) (mhi : Nat → Int64) (pk : Nat → Int32) (ps : Nat → Int32) (pl : Nat → Int64) (ph : Nat → Int64) (a1 : Int32) (x2 : Int32) (x3 : Int32) (x4 : Int32) (x5 : Int32) (x6 : Int64) (x8 : Int64) (x10 : Int64) (x12 : Int64) (x14 : Int64) (x16 : Int32) : (Nat → Int32) × (Nat → Int32) × (Nat → Int64) × (Nat → Int64) × (Nat → Int32) × (Nat → Int32) × (Nat → Int64) × (Nat → Int64) :=
  (if x16 = 0 then bk_Md_branch_327 mo mi mk mlo mhi pk ps pl ph a1 x2 x3 x4 x5 x6 x8 x10 x12 x14 x16 1 else (x_let (s_Md_know mk mlo mhi x3 1 x6 x6) fun (mk50, mlo50, mhi50) => bk_Md_branch_327 mo mi mk50 mlo50 mhi50 pk ps pl ph a1 x2 x3 x4 x5 x6 x8 x10 x12 x14 x16 1))
def bk_ok_Md_branch_130 (mo : Nat → Nat → Int32) (mi : Nat → Int32) (mk : Nat → Int32) (mlo : Nat → Int64) (mhi : Nat → Int64) (pk : Nat → Int32) (ps : Nat → Int32) (pl : Nat → Int64) (ph : Nat → Int64) (a1 : Int32) (x2 : Int32) (x3 : Int32) (x4 : Int32) (x5 : Int32) (x6 : Int64) (x8 : Int64) (x10 : Int64) (x12 : Int64) (x14 : Int64) (x16 : Int32) : Prop :=
  (if x16 = 0 then bk_ok_Md_branch_327 mo mi mk mlo mhi pk ps pl ph a1 x2 x3 x4 x5 x6 x8 x10 x12 x14 x16 1 else (k_ok_Md_know mk mlo mhi x3 1 x6 x6 ∧ (x_let (s_Md_know mk mlo mhi x3 1 x6 x6) fun (mk50, mlo50, mhi50) => bk_ok_Md_branch_327 mo mi mk50 mlo50 mhi50 pk ps pl ph a1 x2 x3 x4 x5 x6 x8 x10 x12 x14 x16 1)))
set_option maxHeartbeats 4000000 in
set_option maxRecDepth 100000 in
theorem cb_Md_branch_130 {l : Launch} {D : va_G} {cA : Nat → ClassId} {ad : x_I → Nat} (ok : x_ok (x_k D cA ad)) {stp : Nat → Nat → Int32} {psz : Int32} {gk : Nat → Nat → Int32} {gl : Nat → Nat → Int64} {gh : Nat → Nat → Int64} {opn : Nat → Int32} {cki : Nat → Int32} {ckl : Nat → Int64} {mp : Nat → Nat → Int64} {rk : Nat → Int32} {rv : Nat → Int64} {ri : Nat → Int32} {chk : Int32} {mo : Nat → Nat → Int32} {ml : Nat → Int64} {mm : Nat → Int64} {out : Nat → Int64} {p : Program} {e : Env} {s : State} {m : MethodId} {args : Array Value} {below : List Frame} {meth : Method} {c : Code} (C : x_C p s m args c b_Md_branch 18 R_Md (Cond.code y_Md_branch b_Md_branch 18 (Option.none : Option Jvm.ClassFile.FieldType) :: x_Wd) (x_k D cA ad)) (hr : meth.sig.returnType = (Option.none : Option Jvm.ClassFile.FieldType)) (hlk : meth.locks = false) (a1 : Int32) (mi : Nat → Int32) (mk : Nat → Int32) (mlo : Nat → Int64) (mhi : Nat → Int64) (pk : Nat → Int32) (ps : Nat → Int32) (pl : Nat → Int64) (ph : Nat → Int64) (x2 : Int32) (x3 : Int32) (x4 : Int32) (x5 : Int32) (x6 : Int64) (x8 : Int64) (x10 : Int64) (x12 : Int64) (x14 : Int64) (x16 : Int32) (hk : bk_ok_Md_branch_130 mo mi mk mlo mhi pk ps pl ph a1 x2 x3 x4 x5 x6 x8 x10 x12 x14 x16) : x_V p l e { frames := 2, cells := 0, slots := 0, locals := 47 } s m args below meth c (x_k D cA ad) 18 0 0 (x_E below (x_k D cA ad) args s 0 0 (x_F ad cA) (fun q : (Nat → Int32) × (Nat → Int32) × (Nat → Int64) × (Nat → Int64) × (Nat → Int32) × (Nat → Int32) × (Nat → Int64) × (Nat → Int64) => ((none, ((stp, psz, gk, gl, gh, opn, cki, ckl, mp, rk, rv, ri, chk), (mo, q.1, ml, q.2.1, q.2.2.1, q.2.2.2.1, q.2.2.2.2.1, q.2.2.2.2.2.1, q.2.2.2.2.2.2.1, q.2.2.2.2.2.2.2, mm), out)) : Option Value × x_S)) (bk_Md_branch_130 mo mi mk mlo mhi pk ps pl ph a1 x2 x3 x4 x5 x6 x8 x10 x12 x14 x16)) (x_F ad cA ((stp, psz, gk, gl, gh, opn, cki, ckl, mp, rk, rv, ri, chk), (mo, mi, ml, mk, mlo, mhi, pk, ps, pl, ph, mm), out)) 130 [(0, (.ref (ad (18, 0)))), (1, (.int a1)), (2, (.int x2)), (3, (.int x3)), (4, (.int x4)), (5, (.int x5)), (6, (.long x6)), (8, (.long x8)), (10, (.long x10)), (12, (.long x12)), (14, (.long x14)), (16, (.int x16))] [] := by
  unfold bk_Md_branch_130
  unfold bk_ok_Md_branch_130 at hk
  refine x_iconst (v := 1) C d_Md_branch_130 (by decide) ?_
  refine x_goto 135 C d_Md_branch_131 (by decide) ?_
  refine x_istore (lv' := [(17, (.int 1)), (0, (.ref (ad (18, 0)))), (1, (.int a1)), (2, (.int x2)), (3, (.int x3)), (4, (.int x4)), (5, (.int x5)), (6, (.long x6)), (8, (.long x8)), (10, (.long x10)), (12, (.long x12)), (14, (.long x14)), (16, (.int x16))]) C d_Md_branch_135 (by decide) rfl ?_
  refine x_iload 12 C d_Md_branch_137 rfl ?_
  refine x_if_eq 327 C d_Md_branch_139 (by decide) (fun z48 => ?_) (fun z48 => ?_)
  · have hk := x_okt hk z48
    refine x_loc (lv' := [(0, (.ref (ad (18, 0)))), (1, (.int a1)), (2, (.int x2)), (3, (.int x3)), (4, (.int x4)), (5, (.int x5)), (6, (.long x6)), (8, (.long x8)), (10, (.long x10)), (12, (.long x12)), (14, (.long x14)), (16, (.int x16)), (17, (.int 1))]) [1, 2, 3, 4, 5, 6, 7, 8, 9, 10, 11, 12, 0] rfl ?_
    exact cb_Md_branch_327 ok C hr hlk a1  mi mk mlo mhi pk ps pl ph x2 x3 x4 x5 x6 x8 x10 x12 x14 x16 1 hk
  · have hk := x_okf hk z48
    refine x_aload_n 1 C d_Md_branch_142 rfl rfl ?_
    refine x_iload_n 4 C d_Md_branch_143 rfl rfl ?_
    refine x_iconst (v := 1) C d_Md_branch_144 (by decide) ?_
    refine x_lload 7 C d_Md_branch_145 rfl ?_
    refine x_lload 7 C d_Md_branch_147 rfl ?_
    have w49 := hk.1
    have hk := hk.2
    refine x_cv0 (i := (18, 0)) (F := x_F ad cA) (As := [(.int x3), (.int 1), (.long x6), (.long x6)]) (rest := []) C k_Md_know q_908 (c_Md_know ok x3 1 x6 x6 w49) rfl rfl rfl (Nat.le_of_ble_eq_true rfl) (Nat.le_of_ble_eq_true rfl) m_18 rfl rfl rfl rfl rfl (Nat.le_of_ble_eq_true rfl) d_Md_branch_149 ⟨Nat.zero_le _, Nat.zero_le _⟩ ?_
    generalize hq50 : s_Md_know mk mlo mhi x3 1 x6 x6 = q50 at hk ⊢
    obtain ⟨mk50, mlo50, mhi50⟩ := q50
    refine x_lets ?_
    have hk := x_lete hk
    dsimp only at hk ⊢
    refine x_goto 327 C d_Md_branch_152 (by decide) ?_
    refine x_loc (lv' := [(0, (.ref (ad (18, 0)))), (1, (.int a1)), (2, (.int x2)), (3, (.int x3)), (4, (.int x4)), (5, (.int x5)), (6, (.long x6)), (8, (.long x8)), (10, (.long x10)), (12, (.long x12)), (14, (.long x14)), (16, (.int x16)), (17, (.int 1))]) [1, 2, 3, 4, 5, 6, 7, 8, 9, 10, 11, 12, 0] rfl ?_
    exact cb_Md_branch_327 ok C hr hlk a1  mi mk50 mlo50 mhi50 pk ps pl ph x2 x3 x4 x5 x6 x8 x10 x12 x14 x16 1 hk
def bk_Md_branch_111 (mo : Nat → Nat → Int32) (mi : Nat → Int32) (mk : Nat → Int32) (mlo : Nat → Int64) (mhi : Nat → Int64) (pk : Nat → Int32) (ps : Nat → Int32) (pl : Nat → Int64) (ph : Nat → Int64) (a1 : Int32) (x2 : Int32) (x3 : Int32) (x4 : Int32) (x5 : Int32) (x6 : Int64) (x8 : Int64) (x10 : Int64) (x12 : Int64) (x14 : Int64) : (Nat → Int32) × (Nat → Int32) × (Nat → Int64) × (Nat → Int64) × (Nat → Int32) × (Nat → Int32) × (Nat → Int64) × (Nat → Int64) :=
  (if x8 = x6 then (if x10 = x6 then (if (0 : Int32) = 0 then bk_Md_branch_327 mo mi mk mlo mhi pk ps pl ph a1 x2 x3 x4 x5 x6 x8 x10 x12 x14 0 0 else (x_let (s_Md_know mk mlo mhi x3 1 x6 x6) fun (mk47, mlo47, mhi47) => bk_Md_branch_327 mo mi mk47 mlo47 mhi47 pk ps pl ph a1 x2 x3 x4 x5 x6 x8 x10 x12 x14 0 0)) else bk_Md_branch_130 mo mi mk mlo mhi pk ps pl ph a1 x2 x3 x4 x5 x6 x8 x10 x12 x14 0) else bk_Md_branch_130 mo mi mk mlo mhi pk ps pl ph a1 x2 x3 x4 x5 x6 x8 x10 x12 x14 0)
def bk_ok_Md_branch_111 (mo : Nat → Nat → Int32) (mi : Nat → Int32) (mk : Nat → Int32) (mlo : Nat → Int64) (mhi : Nat → Int64) (pk : Nat → Int32) (ps : Nat → Int32) (pl : Nat → Int64) (ph : Nat → Int64) (a1 : Int32) (x2 : Int32) (x3 : Int32) (x4 : Int32) (x5 : Int32) (x6 : Int64) (x8 : Int64) (x10 : Int64) (x12 : Int64) (x14 : Int64) : Prop :=
  (if x8 = x6 then (if x10 = x6 then (if (0 : Int32) = 0 then bk_ok_Md_branch_327 mo mi mk mlo mhi pk ps pl ph a1 x2 x3 x4 x5 x6 x8 x10 x12 x14 0 0 else (k_ok_Md_know mk mlo mhi x3 1 x6 x6 ∧ (x_let (s_Md_know mk mlo mhi x3 1 x6 x6) fun (mk47, mlo47, mhi47) => bk_ok_Md_branch_327 mo mi mk47 mlo47 mhi47 pk ps pl ph a1 x2 x3 x4 x5 x6 x8 x10 x12 x14 0 0))) else bk_ok_Md_branch_130 mo mi mk mlo mhi pk ps pl ph a1 x2 x3 x4 x5 x6 x8 x10 x12 x14 0) else bk_ok_Md_branch_130 mo mi mk mlo mhi pk ps pl ph a1 x2 x3 x4 x5 x6 x8 x10 x12 x14 0)
set_option maxHeartbeats 4000000 in
set_option maxRecDepth 100000 in
theorem cb_Md_branch_111 {l : Launch} {D : va_G} {cA : Nat → ClassId} {ad : x_I → Nat} (ok : x_ok (x_k D cA ad)) {stp : Nat → Nat → Int32} {psz : Int32} {gk : Nat → Nat → Int32} {gl : Nat → Nat → Int64} {gh : Nat → Nat → Int64} {opn : Nat → Int32} {cki : Nat → Int32} {ckl : Nat → Int64} {mp : Nat → Nat → Int64} {rk : Nat → Int32} {rv : Nat → Int64} {ri : Nat → Int32} {chk : Int32} {mo : Nat → Nat → Int32} {ml : Nat → Int64} {mm : Nat → Int64} {out : Nat → Int64} {p : Program} {e : Env} {s : State} {m : MethodId} {args : Array Value} {below : List Frame} {meth : Method} {c : Code} (C : x_C p s m args c b_Md_branch 18 R_Md (Cond.code y_Md_branch b_Md_branch 18 (Option.none : Option Jvm.ClassFile.FieldType) :: x_Wd) (x_k D cA ad)) (hr : meth.sig.returnType = (Option.none : Option Jvm.ClassFile.FieldType)) (hlk : meth.locks = false) (a1 : Int32) (mi : Nat → Int32) (mk : Nat → Int32) (mlo : Nat → Int64) (mhi : Nat → Int64) (pk : Nat → Int32) (ps : Nat → Int32) (pl : Nat → Int64) (ph : Nat → Int64) (x2 : Int32) (x3 : Int32) (x4 : Int32) (x5 : Int32) (x6 : Int64) (x8 : Int64) (x10 : Int64) (x12 : Int64) (x14 : Int64) (hk : bk_ok_Md_branch_111 mo mi mk mlo mhi pk ps pl ph a1 x2 x3 x4 x5 x6 x8 x10 x12 x14) : x_V p l e { frames := 2, cells := 0, slots := 0, locals := 47 } s m args below meth c (x_k D cA ad) 18 0 0 (x_E below (x_k D cA ad) args s 0 0 (x_F ad cA) (fun q : (Nat → Int32) × (Nat → Int32) × (Nat → Int64) × (Nat → Int64) × (Nat → Int32) × (Nat → Int32) × (Nat → Int64) × (Nat → Int64) => ((none, ((stp, psz, gk, gl, gh, opn, cki, ckl, mp, rk, rv, ri, chk), (mo, q.1, ml, q.2.1, q.2.2.1, q.2.2.2.1, q.2.2.2.2.1, q.2.2.2.2.2.1, q.2.2.2.2.2.2.1, q.2.2.2.2.2.2.2, mm), out)) : Option Value × x_S)) (bk_Md_branch_111 mo mi mk mlo mhi pk ps pl ph a1 x2 x3 x4 x5 x6 x8 x10 x12 x14)) (x_F ad cA ((stp, psz, gk, gl, gh, opn, cki, ckl, mp, rk, rv, ri, chk), (mo, mi, ml, mk, mlo, mhi, pk, ps, pl, ph, mm), out)) 111 [(0, (.ref (ad (18, 0)))), (1, (.int a1)), (2, (.int x2)), (3, (.int x3)), (4, (.int x4)), (5, (.int x5)), (6, (.long x6)), (8, (.long x8)), (10, (.long x10)), (12, (.long x12)), (14, (.long x14))] [] := by
  unfold bk_Md_branch_111
  unfold bk_ok_Md_branch_111 at hk
  refine x_iconst (v := 0) C d_Md_branch_111 (by decide) ?_
  refine x_istore (lv' := [(16, (.int 0)), (0, (.ref (ad (18, 0)))), (1, (.int a1)), (2, (.int x2)), (3, (.int x3)), (4, (.int x4)), (5, (.int x5)), (6, (.long x6)), (8, (.long x8)), (10, (.long x10)), (12, (.long x12)), (14, (.long x14))]) C d_Md_branch_112 (by decide) rfl ?_
  refine x_lload 8 C d_Md_branch_114 rfl ?_
  refine x_lload 7 C d_Md_branch_116 rfl ?_
  refine x_lcmp_ne 130 C d_Md_branch_118 d_Md_branch_119 (by decide) (fun z7 => ?_) (fun z7 => ?_)
  · have hk := x_okt hk z7
    refine x_lload 9 C d_Md_branch_122 rfl ?_
    refine x_lload 7 C d_Md_branch_124 rfl ?_
    refine x_lcmp_eq 134 C d_Md_branch_126 d_Md_branch_127 (by decide) (fun z8 => ?_) (fun z8 => ?_)
    · have hk := x_okt hk z8
      refine x_iconst (v := 0) C d_Md_branch_134 (by decide) ?_
      refine x_istore (lv' := [(17, (.int 0)), (16, (.int 0)), (0, (.ref (ad (18, 0)))), (1, (.int a1)), (2, (.int x2)), (3, (.int x3)), (4, (.int x4)), (5, (.int x5)), (6, (.long x6)), (8, (.long x8)), (10, (.long x10)), (12, (.long x12)), (14, (.long x14))]) C d_Md_branch_135 (by decide) rfl ?_
      refine x_iload 1 C d_Md_branch_137 rfl ?_
      refine x_if_eq 327 C d_Md_branch_139 (by decide) (fun z9 => ?_) (fun z9 => ?_)
      · have hk := x_okt hk z9
        refine x_loc (lv' := [(0, (.ref (ad (18, 0)))), (1, (.int a1)), (2, (.int x2)), (3, (.int x3)), (4, (.int x4)), (5, (.int x5)), (6, (.long x6)), (8, (.long x8)), (10, (.long x10)), (12, (.long x12)), (14, (.long x14)), (16, (.int 0)), (17, (.int 0))]) [2, 3, 4, 5, 6, 7, 8, 9, 10, 11, 12, 1, 0] rfl ?_
        exact cb_Md_branch_327 ok C hr hlk a1  mi mk mlo mhi pk ps pl ph x2 x3 x4 x5 x6 x8 x10 x12 x14 0 0 hk
      · have hk := x_okf hk z9
        refine x_aload_n 2 C d_Md_branch_142 rfl rfl ?_
        refine x_iload_n 5 C d_Md_branch_143 rfl rfl ?_
        refine x_iconst (v := 1) C d_Md_branch_144 (by decide) ?_
        refine x_lload 8 C d_Md_branch_145 rfl ?_
        refine x_lload 8 C d_Md_branch_147 rfl ?_
        have w46 := hk.1
        have hk := hk.2
        refine x_cv0 (i := (18, 0)) (F := x_F ad cA) (As := [(.int x3), (.int 1), (.long x6), (.long x6)]) (rest := []) C k_Md_know q_908 (c_Md_know ok x3 1 x6 x6 w46) rfl rfl rfl (Nat.le_of_ble_eq_true rfl) (Nat.le_of_ble_eq_true rfl) m_18 rfl rfl rfl rfl rfl (Nat.le_of_ble_eq_true rfl) d_Md_branch_149 ⟨Nat.zero_le _, Nat.zero_le _⟩ ?_
        generalize hq47 : s_Md_know mk mlo mhi x3 1 x6 x6 = q47 at hk ⊢
        obtain ⟨mk47, mlo47, mhi47⟩ := q47
        refine x_lets ?_
        have hk := x_lete hk
        dsimp only at hk ⊢
        refine x_goto 327 C d_Md_branch_152 (by decide) ?_
        refine x_loc (lv' := [(0, (.ref (ad (18, 0)))), (1, (.int a1)), (2, (.int x2)), (3, (.int x3)), (4, (.int x4)), (5, (.int x5)), (6, (.long x6)), (8, (.long x8)), (10, (.long x10)), (12, (.long x12)), (14, (.long x14)), (16, (.int 0)), (17, (.int 0))]) [2, 3, 4, 5, 6, 7, 8, 9, 10, 11, 12, 1, 0] rfl ?_
        exact cb_Md_branch_327 ok C hr hlk a1  mi mk47 mlo47 mhi47 pk ps pl ph x2 x3 x4 x5 x6 x8 x10 x12 x14 0 0 hk
    · have hk := x_okf hk z8
      refine x_loc (lv' := [(0, (.ref (ad (18, 0)))), (1, (.int a1)), (2, (.int x2)), (3, (.int x3)), (4, (.int x4)), (5, (.int x5)), (6, (.long x6)), (8, (.long x8)), (10, (.long x10)), (12, (.long x12)), (14, (.long x14)), (16, (.int 0))]) [1, 2, 3, 4, 5, 6, 7, 8, 9, 10, 11, 0] rfl ?_
      exact cb_Md_branch_130 ok C hr hlk a1  mi mk mlo mhi pk ps pl ph x2 x3 x4 x5 x6 x8 x10 x12 x14 0 hk
  · have hk := x_okf hk z7
    refine x_loc (lv' := [(0, (.ref (ad (18, 0)))), (1, (.int a1)), (2, (.int x2)), (3, (.int x3)), (4, (.int x4)), (5, (.int x5)), (6, (.long x6)), (8, (.long x8)), (10, (.long x10)), (12, (.long x12)), (14, (.long x14)), (16, (.int 0))]) [1, 2, 3, 4, 5, 6, 7, 8, 9, 10, 11, 0] rfl ?_
    exact cb_Md_branch_130 ok C hr hlk a1  mi mk mlo mhi pk ps pl ph x2 x3 x4 x5 x6 x8 x10 x12 x14 0 hk
def bk_Md_branch_301 (mo : Nat → Nat → Int32) (mi : Nat → Int32) (mk : Nat → Int32) (mlo : Nat → Int64) (mhi : Nat → Int64) (pk : Nat → Int32) (ps : Nat → Int32) (pl : Nat → Int64) (ph : Nat → Int64) (a1 : Int32) (x2 : Int32) (x3 : Int32) (x4 : Int32) (x5 : Int32) (x6 : Int64) (x8 : Int64) (x10 : Int64) (x12 : Int64) (x14 : Int64) (x16 : Int32) (x17 : Int32) : (Nat → Int32) × (Nat → Int32) × (Nat → Int64) × (Nat → Int64) × (Nat → Int32) × (Nat → Int32) × (Nat → Int64) × (Nat → Int64) :=
  (if x16 = 0 then bk_Md_branch_327 mo mi mk mlo mhi pk ps pl ph a1 x2 x3 x4 x5 x6 x8 x10 x12 x14 x16 x17 else (if (x8 + 1) ≤ x12 then bk_Md_branch_327 mo mi mk mlo mhi pk ps pl ph a1 x2 x3 x4 x5 x6 x8 x10 x12 x14 x16 x17 else bk_Md_branch_327 mo mi mk (vp_updL mlo x4.toNatClampNeg (x8 + 1)) mhi pk ps pl ph a1 x2 x3 x4 x5 x6 x8 x10 x12 x14 x16 x17))
def bk_ok_Md_branch_301 (mo : Nat → Nat → Int32) (mi : Nat → Int32) (mk : Nat → Int32) (mlo : Nat → Int64) (mhi : Nat → Int64) (pk : Nat → Int32) (ps : Nat → Int32) (pl : Nat → Int64) (ph : Nat → Int64) (a1 : Int32) (x2 : Int32) (x3 : Int32) (x4 : Int32) (x5 : Int32) (x6 : Int64) (x8 : Int64) (x10 : Int64) (x12 : Int64) (x14 : Int64) (x16 : Int32) (x17 : Int32) : Prop :=
  (if x16 = 0 then bk_ok_Md_branch_327 mo mi mk mlo mhi pk ps pl ph a1 x2 x3 x4 x5 x6 x8 x10 x12 x14 x16 x17 else (if (x8 + 1) ≤ x12 then bk_ok_Md_branch_327 mo mi mk mlo mhi pk ps pl ph a1 x2 x3 x4 x5 x6 x8 x10 x12 x14 x16 x17 else (vp_in x4 12 ∧ bk_ok_Md_branch_327 mo mi mk (vp_updL mlo x4.toNatClampNeg (x8 + 1)) mhi pk ps pl ph a1 x2 x3 x4 x5 x6 x8 x10 x12 x14 x16 x17)))
set_option maxHeartbeats 4000000 in
set_option maxRecDepth 100000 in
theorem cb_Md_branch_301 {l : Launch} {D : va_G} {cA : Nat → ClassId} {ad : x_I → Nat} (ok : x_ok (x_k D cA ad)) {stp : Nat → Nat → Int32} {psz : Int32} {gk : Nat → Nat → Int32} {gl : Nat → Nat → Int64} {gh : Nat → Nat → Int64} {opn : Nat → Int32} {cki : Nat → Int32} {ckl : Nat → Int64} {mp : Nat → Nat → Int64} {rk : Nat → Int32} {rv : Nat → Int64} {ri : Nat → Int32} {chk : Int32} {mo : Nat → Nat → Int32} {ml : Nat → Int64} {mm : Nat → Int64} {out : Nat → Int64} {p : Program} {e : Env} {s : State} {m : MethodId} {args : Array Value} {below : List Frame} {meth : Method} {c : Code} (C : x_C p s m args c b_Md_branch 18 R_Md (Cond.code y_Md_branch b_Md_branch 18 (Option.none : Option Jvm.ClassFile.FieldType) :: x_Wd) (x_k D cA ad)) (hr : meth.sig.returnType = (Option.none : Option Jvm.ClassFile.FieldType)) (hlk : meth.locks = false) (a1 : Int32) (mi : Nat → Int32) (mk : Nat → Int32) (mlo : Nat → Int64) (mhi : Nat → Int64) (pk : Nat → Int32) (ps : Nat → Int32) (pl : Nat → Int64) (ph : Nat → Int64) (x2 : Int32) (x3 : Int32) (x4 : Int32) (x5 : Int32) (x6 : Int64) (x8 : Int64) (x10 : Int64) (x12 : Int64) (x14 : Int64) (x16 : Int32) (x17 : Int32) (hk : bk_ok_Md_branch_301 mo mi mk mlo mhi pk ps pl ph a1 x2 x3 x4 x5 x6 x8 x10 x12 x14 x16 x17) : x_V p l e { frames := 2, cells := 0, slots := 0, locals := 47 } s m args below meth c (x_k D cA ad) 18 0 0 (x_E below (x_k D cA ad) args s 0 0 (x_F ad cA) (fun q : (Nat → Int32) × (Nat → Int32) × (Nat → Int64) × (Nat → Int64) × (Nat → Int32) × (Nat → Int32) × (Nat → Int64) × (Nat → Int64) => ((none, ((stp, psz, gk, gl, gh, opn, cki, ckl, mp, rk, rv, ri, chk), (mo, q.1, ml, q.2.1, q.2.2.1, q.2.2.2.1, q.2.2.2.2.1, q.2.2.2.2.2.1, q.2.2.2.2.2.2.1, q.2.2.2.2.2.2.2, mm), out)) : Option Value × x_S)) (bk_Md_branch_301 mo mi mk mlo mhi pk ps pl ph a1 x2 x3 x4 x5 x6 x8 x10 x12 x14 x16 x17)) (x_F ad cA ((stp, psz, gk, gl, gh, opn, cki, ckl, mp, rk, rv, ri, chk), (mo, mi, ml, mk, mlo, mhi, pk, ps, pl, ph, mm), out)) 301 [(0, (.ref (ad (18, 0)))), (1, (.int a1)), (2, (.int x2)), (3, (.int x3)), (4, (.int x4)), (5, (.int x5)), (6, (.long x6)), (8, (.long x8)), (10, (.long x10)), (12, (.long x12)), (14, (.long x14)), (16, (.int x16)), (17, (.int x17))] [] := by
  unfold bk_Md_branch_301
  unfold bk_ok_Md_branch_301 at hk
  refine x_iload 11 C d_Md_branch_301 rfl ?_
  refine x_if_eq 327 C d_Md_branch_303 (by decide) (fun z80 => ?_) (fun z80 => ?_)
  · have hk := x_okt hk z80
    refine x_loc (lv' := [(0, (.ref (ad (18, 0)))), (1, (.int a1)), (2, (.int x2)), (3, (.int x3)), (4, (.int x4)), (5, (.int x5)), (6, (.long x6)), (8, (.long x8)), (10, (.long x10)), (12, (.long x12)), (14, (.long x14)), (16, (.int x16)), (17, (.int x17))]) [0, 1, 2, 3, 4, 5, 6, 7, 8, 9, 10, 11, 12] rfl ?_
    exact cb_Md_branch_327 ok C hr hlk a1  mi mk mlo mhi pk ps pl ph x2 x3 x4 x5 x6 x8 x10 x12 x14 x16 x17 hk
  · have hk := x_okf hk z80
    refine x_lload 9 C d_Md_branch_306 rfl ?_
    refine x_lload 7 C d_Md_branch_308 rfl ?_
    refine x_lconst (v := 1) C d_Md_branch_310 (by decide) ?_
    refine x_ladd C d_Md_branch_311 ?_
    refine x_lcmp_ge 327 C d_Md_branch_312 d_Md_branch_313 (by decide) (fun z81 => ?_) (fun z81 => ?_)
    · have hk := x_okt hk z81
      refine x_loc (lv' := [(0, (.ref (ad (18, 0)))), (1, (.int a1)), (2, (.int x2)), (3, (.int x3)), (4, (.int x4)), (5, (.int x5)), (6, (.long x6)), (8, (.long x8)), (10, (.long x10)), (12, (.long x12)), (14, (.long x14)), (16, (.int x16)), (17, (.int x17))]) [0, 1, 2, 3, 4, 5, 6, 7, 8, 9, 10, 11, 12] rfl ?_
      exact cb_Md_branch_327 ok C hr hlk a1  mi mk mlo mhi pk ps pl ph x2 x3 x4 x5 x6 x8 x10 x12 x14 x16 x17 hk
    · have hk := x_okf hk z81
      refine x_aload_n 0 C d_Md_branch_316 rfl rfl ?_
      refine x_get (i := (18, 0)) (v := (.ref (ad (25, 0)))) 17 C m_18 rfl rfl i_Md (by decide) (List.mem_cons_of_mem _ q_808) rfl d_Md_branch_317 ?_
      refine x_iload 4 C d_Md_branch_320 rfl ?_
      refine x_lload 7 C d_Md_branch_322 rfl ?_
      refine x_lconst (v := 1) C d_Md_branch_324 (by decide) ?_
      refine x_ladd C d_Md_branch_325 ?_
      have w82 := hk.1
      have hk := hk.2
      refine x_last (i := (25, 0)) (g := mlo) (f' := x_F ad cA ((stp, psz, gk, gl, gh, opn, cki, ckl, mp, rk, rv, ri, chk), (mo, mi, ml, mk, vp_updL mlo x4.toNatClampNeg (x8 + 1), mhi, pk, ps, pl, ph, mm), out)) 1 C m_25 rfl rfl w82 d_Md_branch_326 e_mlo ?_
      refine x_loc (lv' := [(0, (.ref (ad (18, 0)))), (1, (.int a1)), (2, (.int x2)), (3, (.int x3)), (4, (.int x4)), (5, (.int x5)), (6, (.long x6)), (8, (.long x8)), (10, (.long x10)), (12, (.long x12)), (14, (.long x14)), (16, (.int x16)), (17, (.int x17))]) [0, 1, 2, 3, 4, 5, 6, 7, 8, 9, 10, 11, 12] rfl ?_
      exact cb_Md_branch_327 ok C hr hlk a1  mi mk (vp_updL mlo x4.toNatClampNeg (x8 + 1)) mhi pk ps pl ph x2 x3 x4 x5 x6 x8 x10 x12 x14 x16 x17 hk
def bk_Md_branch_155 (mo : Nat → Nat → Int32) (mi : Nat → Int32) (mk : Nat → Int32) (mlo : Nat → Int64) (mhi : Nat → Int64) (pk : Nat → Int32) (ps : Nat → Int32) (pl : Nat → Int64) (ph : Nat → Int64) (a1 : Int32) (x2 : Int32) (x3 : Int32) (x4 : Int32) (x5 : Int32) (x6 : Int64) (x8 : Int64) (x10 : Int64) (x12 : Int64) (x14 : Int64) (x16 : Int32) (x17 : Int32) : (Nat → Int32) × (Nat → Int32) × (Nat → Int64) × (Nat → Int64) × (Nat → Int32) × (Nat → Int32) × (Nat → Int64) × (Nat → Int64) :=
  (if x2 = 10 then (x_let (s_Md_know mk mlo mhi x3 1 0 0) fun (mk59, mlo59, mhi59) => bk_Md_branch_327 mo mi mk59 mlo59 mhi59 pk ps pl ph a1 x2 x3 x4 x5 x6 x8 x10 x12 x14 x16 x17) else (if x2 = 11 then (if x10 ≤ x6 then (if x6 < x8 then (if (0 : Int32) = 0 then bk_Md_branch_327 mo mi mk mlo mhi pk ps pl ph a1 x2 x3 x4 x5 x6 x8 x10 x12 x14 0 0 else (if x6 < x8 then bk_Md_branch_327 mo mi mk mlo mhi pk ps pl ph a1 x2 x3 x4 x5 x6 x8 x10 x12 x14 0 0 else bk_Md_branch_327 mo mi mk (vp_updL mlo x3.toNatClampNeg (x6 + 1)) mhi pk ps pl ph a1 x2 x3 x4 x5 x6 x8 x10 x12 x14 0 0)) else (if (0 : Int32) = 0 then bk_Md_branch_327 mo mi mk mlo mhi pk ps pl ph a1 x2 x3 x4 x5 x6 x8 x10 x12 x14 0 1 else (if x6 < x8 then bk_Md_branch_327 mo mi mk mlo mhi pk ps pl ph a1 x2 x3 x4 x5 x6 x8 x10 x12 x14 0 1 else bk_Md_branch_327 mo mi mk (vp_updL mlo x3.toNatClampNeg (x6 + 1)) mhi pk ps pl ph a1 x2 x3 x4 x5 x6 x8 x10 x12 x14 0 1))) else (if x6 < x8 then (if (1 : Int32) = 0 then bk_Md_branch_327 mo mi mk mlo mhi pk ps pl ph a1 x2 x3 x4 x5 x6 x8 x10 x12 x14 1 0 else (if x6 < x8 then bk_Md_branch_327 mo mi mk mlo mhi pk ps pl ph a1 x2 x3 x4 x5 x6 x8 x10 x12 x14 1 0 else bk_Md_branch_327 mo mi mk (vp_updL mlo x3.toNatClampNeg (x6 + 1)) mhi pk ps pl ph a1 x2 x3 x4 x5 x6 x8 x10 x12 x14 1 0)) else (if (1 : Int32) = 0 then bk_Md_branch_327 mo mi mk mlo mhi pk ps pl ph a1 x2 x3 x4 x5 x6 x8 x10 x12 x14 1 1 else (if x6 < x8 then bk_Md_branch_327 mo mi mk mlo mhi pk ps pl ph a1 x2 x3 x4 x5 x6 x8 x10 x12 x14 1 1 else bk_Md_branch_327 mo mi mk (vp_updL mlo x3.toNatClampNeg (x6 + 1)) mhi pk ps pl ph a1 x2 x3 x4 x5 x6 x8 x10 x12 x14 1 1)))) else (if x3 = x4 then bk_Md_branch_327 mo mi mk mlo mhi pk ps pl ph a1 x2 x3 x4 x5 x6 x8 x10 x12 x14 0 x17 else (if x14 ≤ x8 then (if x10 < x12 then (if (0 : Int32) = 0 then bk_Md_branch_301 mo mi mk mlo mhi pk ps pl ph a1 x2 x3 x4 x5 x6 x8 x10 x12 x14 0 0 else (if x10 ≤ (x14 - 1) then bk_Md_branch_301 mo mi mk mlo mhi pk ps pl ph a1 x2 x3 x4 x5 x6 x8 x10 x12 x14 0 0 else bk_Md_branch_301 mo mi mk mlo (vp_updL mhi x3.toNatClampNeg (x14 - 1)) pk ps pl ph a1 x2 x3 x4 x5 x6 x8 x10 x12 x14 0 0)) else (if (0 : Int32) = 0 then bk_Md_branch_301 mo mi mk mlo mhi pk ps pl ph a1 x2 x3 x4 x5 x6 x8 x10 x12 x14 0 1 else (if x10 ≤ (x14 - 1) then bk_Md_branch_301 mo mi mk mlo mhi pk ps pl ph a1 x2 x3 x4 x5 x6 x8 x10 x12 x14 0 1 else bk_Md_branch_301 mo mi mk mlo (vp_updL mhi x3.toNatClampNeg (x14 - 1)) pk ps pl ph a1 x2 x3 x4 x5 x6 x8 x10 x12 x14 0 1))) else (if x10 < x12 then (if (1 : Int32) = 0 then bk_Md_branch_301 mo mi mk mlo mhi pk ps pl ph a1 x2 x3 x4 x5 x6 x8 x10 x12 x14 1 0 else (if x10 ≤ (x14 - 1) then bk_Md_branch_301 mo mi mk mlo mhi pk ps pl ph a1 x2 x3 x4 x5 x6 x8 x10 x12 x14 1 0 else bk_Md_branch_301 mo mi mk mlo (vp_updL mhi x3.toNatClampNeg (x14 - 1)) pk ps pl ph a1 x2 x3 x4 x5 x6 x8 x10 x12 x14 1 0)) else (if (1 : Int32) = 0 then bk_Md_branch_301 mo mi mk mlo mhi pk ps pl ph a1 x2 x3 x4 x5 x6 x8 x10 x12 x14 1 1 else (if x10 ≤ (x14 - 1) then bk_Md_branch_301 mo mi mk mlo mhi pk ps pl ph a1 x2 x3 x4 x5 x6 x8 x10 x12 x14 1 1 else bk_Md_branch_301 mo mi mk mlo (vp_updL mhi x3.toNatClampNeg (x14 - 1)) pk ps pl ph a1 x2 x3 x4 x5 x6 x8 x10 x12 x14 1 1)))))))
def bk_ok_Md_branch_155 (mo : Nat → Nat → Int32) (mi : Nat → Int32) (mk : Nat → Int32) (mlo : Nat → Int64) (mhi : Nat → Int64) (pk : Nat → Int32) (ps : Nat → Int32) (pl : Nat → Int64) (ph : Nat → Int64) (a1 : Int32) (x2 : Int32) (x3 : Int32) (x4 : Int32) (x5 : Int32) (x6 : Int64) (x8 : Int64) (x10 : Int64) (x12 : Int64) (x14 : Int64) (x16 : Int32) (x17 : Int32) : Prop :=
  (if x2 = 10 then (k_ok_Md_know mk mlo mhi x3 1 0 0 ∧ (x_let (s_Md_know mk mlo mhi x3 1 0 0) fun (mk59, mlo59, mhi59) => bk_ok_Md_branch_327 mo mi mk59 mlo59 mhi59 pk ps pl ph a1 x2 x3 x4 x5 x6 x8 x10 x12 x14 x16 x17)) else (if x2 = 11 then (if x10 ≤ x6 then (if x6 < x8 then (if (0 : Int32) = 0 then bk_ok_Md_branch_327 mo mi mk mlo mhi pk ps pl ph a1 x2 x3 x4 x5 x6 x8 x10 x12 x14 0 0 else (if x6 < x8 then bk_ok_Md_branch_327 mo mi mk mlo mhi pk ps pl ph a1 x2 x3 x4 x5 x6 x8 x10 x12 x14 0 0 else (vp_in x3 12 ∧ bk_ok_Md_branch_327 mo mi mk (vp_updL mlo x3.toNatClampNeg (x6 + 1)) mhi pk ps pl ph a1 x2 x3 x4 x5 x6 x8 x10 x12 x14 0 0))) else (if (0 : Int32) = 0 then bk_ok_Md_branch_327 mo mi mk mlo mhi pk ps pl ph a1 x2 x3 x4 x5 x6 x8 x10 x12 x14 0 1 else (if x6 < x8 then bk_ok_Md_branch_327 mo mi mk mlo mhi pk ps pl ph a1 x2 x3 x4 x5 x6 x8 x10 x12 x14 0 1 else (vp_in x3 12 ∧ bk_ok_Md_branch_327 mo mi mk (vp_updL mlo x3.toNatClampNeg (x6 + 1)) mhi pk ps pl ph a1 x2 x3 x4 x5 x6 x8 x10 x12 x14 0 1)))) else (if x6 < x8 then (if (1 : Int32) = 0 then bk_ok_Md_branch_327 mo mi mk mlo mhi pk ps pl ph a1 x2 x3 x4 x5 x6 x8 x10 x12 x14 1 0 else (if x6 < x8 then bk_ok_Md_branch_327 mo mi mk mlo mhi pk ps pl ph a1 x2 x3 x4 x5 x6 x8 x10 x12 x14 1 0 else (vp_in x3 12 ∧ bk_ok_Md_branch_327 mo mi mk (vp_updL mlo x3.toNatClampNeg (x6 + 1)) mhi pk ps pl ph a1 x2 x3 x4 x5 x6 x8 x10 x12 x14 1 0))) else (if (1 : Int32) = 0 then bk_ok_Md_branch_327 mo mi mk mlo mhi pk ps pl ph a1 x2 x3 x4 x5 x6 x8 x10 x12 x14 1 1 else (if x6 < x8 then bk_ok_Md_branch_327 mo mi mk mlo mhi pk ps pl ph a1 x2 x3 x4 x5 x6 x8 x10 x12 x14 1 1 else (vp_in x3 12 ∧ bk_ok_Md_branch_327 mo mi mk (vp_updL mlo x3.toNatClampNeg (x6 + 1)) mhi pk ps pl ph a1 x2 x3 x4 x5 x6 x8 x10 x12 x14 1 1))))) else (if x3 = x4 then bk_ok_Md_branch_327 mo mi mk mlo mhi pk ps pl ph a1 x2 x3 x4 x5 x6 x8 x10 x12 x14 0 x17 else (if x14 ≤ x8 then (if x10 < x12 then (if (0 : Int32) = 0 then bk_ok_Md_branch_301 mo mi mk mlo mhi pk ps pl ph a1 x2 x3 x4 x5 x6 x8 x10 x12 x14 0 0 else (if x10 ≤ (x14 - 1) then bk_ok_Md_branch_301 mo mi mk mlo mhi pk ps pl ph a1 x2 x3 x4 x5 x6 x8 x10 x12 x14 0 0 else (vp_in x3 12 ∧ bk_ok_Md_branch_301 mo mi mk mlo (vp_updL mhi x3.toNatClampNeg (x14 - 1)) pk ps pl ph a1 x2 x3 x4 x5 x6 x8 x10 x12 x14 0 0))) else (if (0 : Int32) = 0 then bk_ok_Md_branch_301 mo mi mk mlo mhi pk ps pl ph a1 x2 x3 x4 x5 x6 x8 x10 x12 x14 0 1 else (if x10 ≤ (x14 - 1) then bk_ok_Md_branch_301 mo mi mk mlo mhi pk ps pl ph a1 x2 x3 x4 x5 x6 x8 x10 x12 x14 0 1 else (vp_in x3 12 ∧ bk_ok_Md_branch_301 mo mi mk mlo (vp_updL mhi x3.toNatClampNeg (x14 - 1)) pk ps pl ph a1 x2 x3 x4 x5 x6 x8 x10 x12 x14 0 1)))) else (if x10 < x12 then (if (1 : Int32) = 0 then bk_ok_Md_branch_301 mo mi mk mlo mhi pk ps pl ph a1 x2 x3 x4 x5 x6 x8 x10 x12 x14 1 0 else (if x10 ≤ (x14 - 1) then bk_ok_Md_branch_301 mo mi mk mlo mhi pk ps pl ph a1 x2 x3 x4 x5 x6 x8 x10 x12 x14 1 0 else (vp_in x3 12 ∧ bk_ok_Md_branch_301 mo mi mk mlo (vp_updL mhi x3.toNatClampNeg (x14 - 1)) pk ps pl ph a1 x2 x3 x4 x5 x6 x8 x10 x12 x14 1 0))) else (if (1 : Int32) = 0 then bk_ok_Md_branch_301 mo mi mk mlo mhi pk ps pl ph a1 x2 x3 x4 x5 x6 x8 x10 x12 x14 1 1 else (if x10 ≤ (x14 - 1) then bk_ok_Md_branch_301 mo mi mk mlo mhi pk ps pl ph a1 x2 x3 x4 x5 x6 x8 x10 x12 x14 1 1 else (vp_in x3 12 ∧ bk_ok_Md_branch_301 mo mi mk mlo (vp_updL mhi x3.toNatClampNeg (x14 - 1)) pk ps pl ph a1 x2 x3 x4 x5 x6 x8 x10 x12 x14 1 1))))))))
set_option maxHeartbeats 4000000 in
set_option maxRecDepth 100000 in
theorem cb_Md_branch_155 {l : Launch} {D : va_G} {cA : Nat → ClassId} {ad : x_I → Nat} (ok : x_ok (x_k D cA ad)) {stp : Nat → Nat → Int32} {psz : Int32} {gk : Nat → Nat → Int32} {gl : Nat → Nat → Int64} {gh : Nat → Nat → Int64} {opn : Nat → Int32} {cki : Nat → Int32} {ckl : Nat → Int64} {mp : Nat → Nat → Int64} {rk : Nat → Int32} {rv : Nat → Int64} {ri : Nat → Int32} {chk : Int32} {mo : Nat → Nat → Int32} {ml : Nat → Int64} {mm : Nat → Int64} {out : Nat → Int64} {p : Program} {e : Env} {s : State} {m : MethodId} {args : Array Value} {below : List Frame} {meth : Method} {c : Code} (C : x_C p s m args c b_Md_branch 18 R_Md (Cond.code y_Md_branch b_Md_branch 18 (Option.none : Option Jvm.ClassFile.FieldType) :: x_Wd) (x_k D cA ad)) (hr : meth.sig.returnType = (Option.none : Option Jvm.ClassFile.FieldType)) (hlk : meth.locks = false) (a1 : Int32) (mi : Nat → Int32) (mk : Nat → Int32) (mlo : Nat → Int64) (mhi : Nat → Int64) (pk : Nat → Int32) (ps : Nat → Int32) (pl : Nat → Int64) (ph : Nat → Int64) (x2 : Int32) (x3 : Int32) (x4 : Int32) (x5 : Int32) (x6 : Int64) (x8 : Int64) (x10 : Int64) (x12 : Int64) (x14 : Int64) (x16 : Int32) (x17 : Int32) (hk : bk_ok_Md_branch_155 mo mi mk mlo mhi pk ps pl ph a1 x2 x3 x4 x5 x6 x8 x10 x12 x14 x16 x17) : x_V p l e { frames := 2, cells := 0, slots := 0, locals := 47 } s m args below meth c (x_k D cA ad) 18 0 0 (x_E below (x_k D cA ad) args s 0 0 (x_F ad cA) (fun q : (Nat → Int32) × (Nat → Int32) × (Nat → Int64) × (Nat → Int64) × (Nat → Int32) × (Nat → Int32) × (Nat → Int64) × (Nat → Int64) => ((none, ((stp, psz, gk, gl, gh, opn, cki, ckl, mp, rk, rv, ri, chk), (mo, q.1, ml, q.2.1, q.2.2.1, q.2.2.2.1, q.2.2.2.2.1, q.2.2.2.2.2.1, q.2.2.2.2.2.2.1, q.2.2.2.2.2.2.2, mm), out)) : Option Value × x_S)) (bk_Md_branch_155 mo mi mk mlo mhi pk ps pl ph a1 x2 x3 x4 x5 x6 x8 x10 x12 x14 x16 x17)) (x_F ad cA ((stp, psz, gk, gl, gh, opn, cki, ckl, mp, rk, rv, ri, chk), (mo, mi, ml, mk, mlo, mhi, pk, ps, pl, ph, mm), out)) 155 [(0, (.ref (ad (18, 0)))), (1, (.int a1)), (2, (.int x2)), (3, (.int x3)), (4, (.int x4)), (5, (.int x5)), (6, (.long x6)), (8, (.long x8)), (10, (.long x10)), (12, (.long x12)), (14, (.long x14)), (16, (.int x16)), (17, (.int x17))] [] := by
  unfold bk_Md_branch_155
  unfold bk_ok_Md_branch_155 at hk
  refine x_iload_n 2 C d_Md_branch_155 rfl rfl ?_
  refine x_bipush (v := 10) C d_Md_branch_156 (by decide) ?_
  refine x_icmp_ne 172 C d_Md_branch_158 (by decide) (fun z57 => ?_) (fun z57 => ?_)
  · have hk := x_okt hk z57
    refine x_aload_n 0 C d_Md_branch_161 rfl rfl ?_
    refine x_iload_n 3 C d_Md_branch_162 rfl rfl ?_
    refine x_iconst (v := 1) C d_Md_branch_163 (by decide) ?_
    refine x_lconst (v := 0) C d_Md_branch_164 (by decide) ?_
    refine x_lconst (v := 0) C d_Md_branch_165 (by decide) ?_
    have w58 := hk.1
    have hk := hk.2
    refine x_cv0 (i := (18, 0)) (F := x_F ad cA) (As := [(.int x3), (.int 1), (.long 0), (.long 0)]) (rest := []) C k_Md_know q_908 (c_Md_know ok x3 1 0 0 w58) rfl rfl rfl (Nat.le_of_ble_eq_true rfl) (Nat.le_of_ble_eq_true rfl) m_18 rfl rfl rfl rfl rfl (Nat.le_of_ble_eq_true rfl) d_Md_branch_166 ⟨Nat.zero_le _, Nat.zero_le _⟩ ?_
    generalize hq59 : s_Md_know mk mlo mhi x3 1 0 0 = q59 at hk ⊢
    obtain ⟨mk59, mlo59, mhi59⟩ := q59
    refine x_lets ?_
    have hk := x_lete hk
    dsimp only at hk ⊢
    refine x_goto 327 C d_Md_branch_169 (by decide) ?_
    refine x_loc (lv' := [(0, (.ref (ad (18, 0)))), (1, (.int a1)), (2, (.int x2)), (3, (.int x3)), (4, (.int x4)), (5, (.int x5)), (6, (.long x6)), (8, (.long x8)), (10, (.long x10)), (12, (.long x12)), (14, (.long x14)), (16, (.int x16)), (17, (.int x17))]) [0, 1, 2, 3, 4, 5, 6, 7, 8, 9, 10, 11, 12] rfl ?_
    exact cb_Md_branch_327 ok C hr hlk a1  mi mk59 mlo59 mhi59 pk ps pl ph x2 x3 x4 x5 x6 x8 x10 x12 x14 x16 x17 hk
  · have hk := x_okf hk z57
    refine x_iload_n 2 C d_Md_branch_172 rfl rfl ?_
    refine x_bipush (v := 11) C d_Md_branch_173 (by decide) ?_
    refine x_icmp_ne 234 C d_Md_branch_175 (by decide) (fun z60 => ?_) (fun z60 => ?_)
    · have hk := x_okt hk z60
      refine x_lload 8 C d_Md_branch_178 rfl ?_
      refine x_lload 6 C d_Md_branch_180 rfl ?_
      refine x_lcmp_le 190 C d_Md_branch_182 d_Md_branch_183 (by decide) (fun z61 => ?_) (fun z61 => ?_)
      · have hk := x_okt hk z61
        refine x_iconst (v := 0) C d_Md_branch_190 (by decide) ?_
        refine x_istore (lv' := [(16, (.int 0)), (0, (.ref (ad (18, 0)))), (1, (.int a1)), (2, (.int x2)), (3, (.int x3)), (4, (.int x4)), (5, (.int x5)), (6, (.long x6)), (8, (.long x8)), (10, (.long x10)), (12, (.long x12)), (14, (.long x14)), (17, (.int x17))]) C d_Md_branch_191 (by decide) rfl ?_
        refine x_lload 8 C d_Md_branch_193 rfl ?_
        refine x_lload 7 C d_Md_branch_195 rfl ?_
        refine x_lcmp_gt 205 C d_Md_branch_197 d_Md_branch_198 (by decide) (fun z62 => ?_) (fun z62 => ?_)
        · have hk := x_okt hk z62
          refine x_iconst (v := 0) C d_Md_branch_205 (by decide) ?_
          refine x_istore (lv' := [(17, (.int 0)), (16, (.int 0)), (0, (.ref (ad (18, 0)))), (1, (.int a1)), (2, (.int x2)), (3, (.int x3)), (4, (.int x4)), (5, (.int x5)), (6, (.long x6)), (8, (.long x8)), (10, (.long x10)), (12, (.long x12)), (14, (.long x14))]) C d_Md_branch_206 (by decide) rfl ?_
          refine x_iload 1 C d_Md_branch_208 rfl ?_
          refine x_if_eq 327 C d_Md_branch_210 (by decide) (fun z63 => ?_) (fun z63 => ?_)
          · have hk := x_okt hk z63
            refine x_loc (lv' := [(0, (.ref (ad (18, 0)))), (1, (.int a1)), (2, (.int x2)), (3, (.int x3)), (4, (.int x4)), (5, (.int x5)), (6, (.long x6)), (8, (.long x8)), (10, (.long x10)), (12, (.long x12)), (14, (.long x14)), (16, (.int 0)), (17, (.int 0))]) [2, 3, 4, 5, 6, 7, 8, 9, 10, 11, 12, 1, 0] rfl ?_
            exact cb_Md_branch_327 ok C hr hlk a1  mi mk mlo mhi pk ps pl ph x2 x3 x4 x5 x6 x8 x10 x12 x14 0 0 hk
          · have hk := x_okf hk z63
            refine x_lload 9 C d_Md_branch_213 rfl ?_
            refine x_lload 8 C d_Md_branch_215 rfl ?_
            refine x_lcmp_gt 327 C d_Md_branch_217 d_Md_branch_218 (by decide) (fun z64 => ?_) (fun z64 => ?_)
            · have hk := x_okt hk z64
              refine x_loc (lv' := [(0, (.ref (ad (18, 0)))), (1, (.int a1)), (2, (.int x2)), (3, (.int x3)), (4, (.int x4)), (5, (.int x5)), (6, (.long x6)), (8, (.long x8)), (10, (.long x10)), (12, (.long x12)), (14, (.long x14)), (16, (.int 0)), (17, (.int 0))]) [2, 3, 4, 5, 6, 7, 8, 9, 10, 11, 12, 1, 0] rfl ?_
              exact cb_Md_branch_327 ok C hr hlk a1  mi mk mlo mhi pk ps pl ph x2 x3 x4 x5 x6 x8 x10 x12 x14 0 0 hk
            · have hk := x_okf hk z64
              refine x_aload_n 2 C d_Md_branch_221 rfl rfl ?_
              refine x_get (i := (18, 0)) (v := (.ref (ad (25, 0)))) 17 C m_18 rfl rfl i_Md (by decide) (List.mem_cons_of_mem _ q_808) rfl d_Md_branch_222 ?_
              refine x_iload_n 5 C d_Md_branch_225 rfl rfl ?_
              refine x_lload 8 C d_Md_branch_226 rfl ?_
              refine x_lconst (v := 1) C d_Md_branch_228 (by decide) ?_
              refine x_ladd C d_Md_branch_229 ?_
              have w65 := hk.1
              have hk := hk.2
              refine x_last (i := (25, 0)) (g := mlo) (f' := x_F ad cA ((stp, psz, gk, gl, gh, opn, cki, ckl, mp, rk, rv, ri, chk), (mo, mi, ml, mk, vp_updL mlo x3.toNatClampNeg (x6 + 1), mhi, pk, ps, pl, ph, mm), out)) 1 C m_25 rfl rfl w65 d_Md_branch_230 e_mlo ?_
              refine x_goto 327 C d_Md_branch_231 (by decide) ?_
              refine x_loc (lv' := [(0, (.ref (ad (18, 0)))), (1, (.int a1)), (2, (.int x2)), (3, (.int x3)), (4, (.int x4)), (5, (.int x5)), (6, (.long x6)), (8, (.long x8)), (10, (.long x10)), (12, (.long x12)), (14, (.long x14)), (16, (.int 0)), (17, (.int 0))]) [2, 3, 4, 5, 6, 7, 8, 9, 10, 11, 12, 1, 0] rfl ?_
              exact cb_Md_branch_327 ok C hr hlk a1  mi mk (vp_updL mlo x3.toNatClampNeg (x6 + 1)) mhi pk ps pl ph x2 x3 x4 x5 x6 x8 x10 x12 x14 0 0 hk
        · have hk := x_okf hk z62
          refine x_iconst (v := 1) C d_Md_branch_201 (by decide) ?_
          refine x_goto 206 C d_Md_branch_202 (by decide) ?_
          refine x_istore (lv' := [(17, (.int 1)), (16, (.int 0)), (0, (.ref (ad (18, 0)))), (1, (.int a1)), (2, (.int x2)), (3, (.int x3)), (4, (.int x4)), (5, (.int x5)), (6, (.long x6)), (8, (.long x8)), (10, (.long x10)), (12, (.long x12)), (14, (.long x14))]) C d_Md_branch_206 (by decide) rfl ?_
          refine x_iload 1 C d_Md_branch_208 rfl ?_
          refine x_if_eq 327 C d_Md_branch_210 (by decide) (fun z66 => ?_) (fun z66 => ?_)
          · have hk := x_okt hk z66
            refine x_loc (lv' := [(0, (.ref (ad (18, 0)))), (1, (.int a1)), (2, (.int x2)), (3, (.int x3)), (4, (.int x4)), (5, (.int x5)), (6, (.long x6)), (8, (.long x8)), (10, (.long x10)), (12, (.long x12)), (14, (.long x14)), (16, (.int 0)), (17, (.int 1))]) [2, 3, 4, 5, 6, 7, 8, 9, 10, 11, 12, 1, 0] rfl ?_
            exact cb_Md_branch_327 ok C hr hlk a1  mi mk mlo mhi pk ps pl ph x2 x3 x4 x5 x6 x8 x10 x12 x14 0 1 hk
          · have hk := x_okf hk z66
            refine x_lload 9 C d_Md_branch_213 rfl ?_
            refine x_lload 8 C d_Md_branch_215 rfl ?_
            refine x_lcmp_gt 327 C d_Md_branch_217 d_Md_branch_218 (by decide) (fun z67 => ?_) (fun z67 => ?_)
            · have hk := x_okt hk z67
              refine x_loc (lv' := [(0, (.ref (ad (18, 0)))), (1, (.int a1)), (2, (.int x2)), (3, (.int x3)), (4, (.int x4)), (5, (.int x5)), (6, (.long x6)), (8, (.long x8)), (10, (.long x10)), (12, (.long x12)), (14, (.long x14)), (16, (.int 0)), (17, (.int 1))]) [2, 3, 4, 5, 6, 7, 8, 9, 10, 11, 12, 1, 0] rfl ?_
              exact cb_Md_branch_327 ok C hr hlk a1  mi mk mlo mhi pk ps pl ph x2 x3 x4 x5 x6 x8 x10 x12 x14 0 1 hk
            · have hk := x_okf hk z67
              refine x_aload_n 2 C d_Md_branch_221 rfl rfl ?_
              refine x_get (i := (18, 0)) (v := (.ref (ad (25, 0)))) 17 C m_18 rfl rfl i_Md (by decide) (List.mem_cons_of_mem _ q_808) rfl d_Md_branch_222 ?_
              refine x_iload_n 5 C d_Md_branch_225 rfl rfl ?_
              refine x_lload 8 C d_Md_branch_226 rfl ?_
              refine x_lconst (v := 1) C d_Md_branch_228 (by decide) ?_
              refine x_ladd C d_Md_branch_229 ?_
              have w68 := hk.1
              have hk := hk.2
              refine x_last (i := (25, 0)) (g := mlo) (f' := x_F ad cA ((stp, psz, gk, gl, gh, opn, cki, ckl, mp, rk, rv, ri, chk), (mo, mi, ml, mk, vp_updL mlo x3.toNatClampNeg (x6 + 1), mhi, pk, ps, pl, ph, mm), out)) 1 C m_25 rfl rfl w68 d_Md_branch_230 e_mlo ?_
              refine x_goto 327 C d_Md_branch_231 (by decide) ?_
              refine x_loc (lv' := [(0, (.ref (ad (18, 0)))), (1, (.int a1)), (2, (.int x2)), (3, (.int x3)), (4, (.int x4)), (5, (.int x5)), (6, (.long x6)), (8, (.long x8)), (10, (.long x10)), (12, (.long x12)), (14, (.long x14)), (16, (.int 0)), (17, (.int 1))]) [2, 3, 4, 5, 6, 7, 8, 9, 10, 11, 12, 1, 0] rfl ?_
              exact cb_Md_branch_327 ok C hr hlk a1  mi mk (vp_updL mlo x3.toNatClampNeg (x6 + 1)) mhi pk ps pl ph x2 x3 x4 x5 x6 x8 x10 x12 x14 0 1 hk
      · have hk := x_okf hk z61
        refine x_iconst (v := 1) C d_Md_branch_186 (by decide) ?_
        refine x_goto 191 C d_Md_branch_187 (by decide) ?_
        refine x_istore (lv' := [(16, (.int 1)), (0, (.ref (ad (18, 0)))), (1, (.int a1)), (2, (.int x2)), (3, (.int x3)), (4, (.int x4)), (5, (.int x5)), (6, (.long x6)), (8, (.long x8)), (10, (.long x10)), (12, (.long x12)), (14, (.long x14)), (17, (.int x17))]) C d_Md_branch_191 (by decide) rfl ?_
        refine x_lload 8 C d_Md_branch_193 rfl ?_
        refine x_lload 7 C d_Md_branch_195 rfl ?_
        refine x_lcmp_gt 205 C d_Md_branch_197 d_Md_branch_198 (by decide) (fun z69 => ?_) (fun z69 => ?_)
        · have hk := x_okt hk z69
          refine x_iconst (v := 0) C d_Md_branch_205 (by decide) ?_
          refine x_istore (lv' := [(17, (.int 0)), (16, (.int 1)), (0, (.ref (ad (18, 0)))), (1, (.int a1)), (2, (.int x2)), (3, (.int x3)), (4, (.int x4)), (5, (.int x5)), (6, (.long x6)), (8, (.long x8)), (10, (.long x10)), (12, (.long x12)), (14, (.long x14))]) C d_Md_branch_206 (by decide) rfl ?_
          refine x_iload 1 C d_Md_branch_208 rfl ?_
          refine x_if_eq 327 C d_Md_branch_210 (by decide) (fun z70 => ?_) (fun z70 => ?_)
          · have hk := x_okt hk z70
            refine x_loc (lv' := [(0, (.ref (ad (18, 0)))), (1, (.int a1)), (2, (.int x2)), (3, (.int x3)), (4, (.int x4)), (5, (.int x5)), (6, (.long x6)), (8, (.long x8)), (10, (.long x10)), (12, (.long x12)), (14, (.long x14)), (16, (.int 1)), (17, (.int 0))]) [2, 3, 4, 5, 6, 7, 8, 9, 10, 11, 12, 1, 0] rfl ?_
            exact cb_Md_branch_327 ok C hr hlk a1  mi mk mlo mhi pk ps pl ph x2 x3 x4 x5 x6 x8 x10 x12 x14 1 0 hk
          · have hk := x_okf hk z70
            refine x_lload 9 C d_Md_branch_213 rfl ?_
            refine x_lload 8 C d_Md_branch_215 rfl ?_
            refine x_lcmp_gt 327 C d_Md_branch_217 d_Md_branch_218 (by decide) (fun z71 => ?_) (fun z71 => ?_)
            · have hk := x_okt hk z71
              refine x_loc (lv' := [(0, (.ref (ad (18, 0)))), (1, (.int a1)), (2, (.int x2)), (3, (.int x3)), (4, (.int x4)), (5, (.int x5)), (6, (.long x6)), (8, (.long x8)), (10, (.long x10)), (12, (.long x12)), (14, (.long x14)), (16, (.int 1)), (17, (.int 0))]) [2, 3, 4, 5, 6, 7, 8, 9, 10, 11, 12, 1, 0] rfl ?_
              exact cb_Md_branch_327 ok C hr hlk a1  mi mk mlo mhi pk ps pl ph x2 x3 x4 x5 x6 x8 x10 x12 x14 1 0 hk
            · have hk := x_okf hk z71
              refine x_aload_n 2 C d_Md_branch_221 rfl rfl ?_
              refine x_get (i := (18, 0)) (v := (.ref (ad (25, 0)))) 17 C m_18 rfl rfl i_Md (by decide) (List.mem_cons_of_mem _ q_808) rfl d_Md_branch_222 ?_
              refine x_iload_n 5 C d_Md_branch_225 rfl rfl ?_
              refine x_lload 8 C d_Md_branch_226 rfl ?_
              refine x_lconst (v := 1) C d_Md_branch_228 (by decide) ?_
              refine x_ladd C d_Md_branch_229 ?_
              have w72 := hk.1
              have hk := hk.2
              refine x_last (i := (25, 0)) (g := mlo) (f' := x_F ad cA ((stp, psz, gk, gl, gh, opn, cki, ckl, mp, rk, rv, ri, chk), (mo, mi, ml, mk, vp_updL mlo x3.toNatClampNeg (x6 + 1), mhi, pk, ps, pl, ph, mm), out)) 1 C m_25 rfl rfl w72 d_Md_branch_230 e_mlo ?_
              refine x_goto 327 C d_Md_branch_231 (by decide) ?_
              refine x_loc (lv' := [(0, (.ref (ad (18, 0)))), (1, (.int a1)), (2, (.int x2)), (3, (.int x3)), (4, (.int x4)), (5, (.int x5)), (6, (.long x6)), (8, (.long x8)), (10, (.long x10)), (12, (.long x12)), (14, (.long x14)), (16, (.int 1)), (17, (.int 0))]) [2, 3, 4, 5, 6, 7, 8, 9, 10, 11, 12, 1, 0] rfl ?_
              exact cb_Md_branch_327 ok C hr hlk a1  mi mk (vp_updL mlo x3.toNatClampNeg (x6 + 1)) mhi pk ps pl ph x2 x3 x4 x5 x6 x8 x10 x12 x14 1 0 hk
        · have hk := x_okf hk z69
          refine x_iconst (v := 1) C d_Md_branch_201 (by decide) ?_
          refine x_goto 206 C d_Md_branch_202 (by decide) ?_
          refine x_istore (lv' := [(17, (.int 1)), (16, (.int 1)), (0, (.ref (ad (18, 0)))), (1, (.int a1)), (2, (.int x2)), (3, (.int x3)), (4, (.int x4)), (5, (.int x5)), (6, (.long x6)), (8, (.long x8)), (10, (.long x10)), (12, (.long x12)), (14, (.long x14))]) C d_Md_branch_206 (by decide) rfl ?_
          refine x_iload 1 C d_Md_branch_208 rfl ?_
          refine x_if_eq 327 C d_Md_branch_210 (by decide) (fun z73 => ?_) (fun z73 => ?_)
          · have hk := x_okt hk z73
            refine x_loc (lv' := [(0, (.ref (ad (18, 0)))), (1, (.int a1)), (2, (.int x2)), (3, (.int x3)), (4, (.int x4)), (5, (.int x5)), (6, (.long x6)), (8, (.long x8)), (10, (.long x10)), (12, (.long x12)), (14, (.long x14)), (16, (.int 1)), (17, (.int 1))]) [2, 3, 4, 5, 6, 7, 8, 9, 10, 11, 12, 1, 0] rfl ?_
            exact cb_Md_branch_327 ok C hr hlk a1  mi mk mlo mhi pk ps pl ph x2 x3 x4 x5 x6 x8 x10 x12 x14 1 1 hk
          · have hk := x_okf hk z73
            refine x_lload 9 C d_Md_branch_213 rfl ?_
            refine x_lload 8 C d_Md_branch_215 rfl ?_
            refine x_lcmp_gt 327 C d_Md_branch_217 d_Md_branch_218 (by decide) (fun z74 => ?_) (fun z74 => ?_)
            · have hk := x_okt hk z74
              refine x_loc (lv' := [(0, (.ref (ad (18, 0)))), (1, (.int a1)), (2, (.int x2)), (3, (.int x3)), (4, (.int x4)), (5, (.int x5)), (6, (.long x6)), (8, (.long x8)), (10, (.long x10)), (12, (.long x12)), (14, (.long x14)), (16, (.int 1)), (17, (.int 1))]) [2, 3, 4, 5, 6, 7, 8, 9, 10, 11, 12, 1, 0] rfl ?_
              exact cb_Md_branch_327 ok C hr hlk a1  mi mk mlo mhi pk ps pl ph x2 x3 x4 x5 x6 x8 x10 x12 x14 1 1 hk
            · have hk := x_okf hk z74
              refine x_aload_n 2 C d_Md_branch_221 rfl rfl ?_
              refine x_get (i := (18, 0)) (v := (.ref (ad (25, 0)))) 17 C m_18 rfl rfl i_Md (by decide) (List.mem_cons_of_mem _ q_808) rfl d_Md_branch_222 ?_
              refine x_iload_n 5 C d_Md_branch_225 rfl rfl ?_
              refine x_lload 8 C d_Md_branch_226 rfl ?_
              refine x_lconst (v := 1) C d_Md_branch_228 (by decide) ?_
              refine x_ladd C d_Md_branch_229 ?_
              have w75 := hk.1
              have hk := hk.2
              refine x_last (i := (25, 0)) (g := mlo) (f' := x_F ad cA ((stp, psz, gk, gl, gh, opn, cki, ckl, mp, rk, rv, ri, chk), (mo, mi, ml, mk, vp_updL mlo x3.toNatClampNeg (x6 + 1), mhi, pk, ps, pl, ph, mm), out)) 1 C m_25 rfl rfl w75 d_Md_branch_230 e_mlo ?_
              refine x_goto 327 C d_Md_branch_231 (by decide) ?_
              refine x_loc (lv' := [(0, (.ref (ad (18, 0)))), (1, (.int a1)), (2, (.int x2)), (3, (.int x3)), (4, (.int x4)), (5, (.int x5)), (6, (.long x6)), (8, (.long x8)), (10, (.long x10)), (12, (.long x12)), (14, (.long x14)), (16, (.int 1)), (17, (.int 1))]) [2, 3, 4, 5, 6, 7, 8, 9, 10, 11, 12, 1, 0] rfl ?_
              exact cb_Md_branch_327 ok C hr hlk a1  mi mk (vp_updL mlo x3.toNatClampNeg (x6 + 1)) mhi pk ps pl ph x2 x3 x4 x5 x6 x8 x10 x12 x14 1 1 hk
    · have hk := x_okf hk z60
      refine x_iload_n 3 C d_Md_branch_234 rfl rfl ?_
      refine x_iload 4 C d_Md_branch_235 rfl ?_
      refine x_icmp_ne 246 C d_Md_branch_237 (by decide) (fun z76 => ?_) (fun z76 => ?_)
      · have hk := x_okt hk z76
        refine x_iconst (v := 0) C d_Md_branch_240 (by decide) ?_
        refine x_istore (lv' := [(16, (.int 0)), (0, (.ref (ad (18, 0)))), (1, (.int a1)), (2, (.int x2)), (3, (.int x3)), (4, (.int x4)), (5, (.int x5)), (6, (.long x6)), (8, (.long x8)), (10, (.long x10)), (12, (.long x12)), (14, (.long x14)), (17, (.int x17))]) C d_Md_branch_241 (by decide) rfl ?_
        refine x_goto 327 C d_Md_branch_243 (by decide) ?_
        refine x_loc (lv' := [(0, (.ref (ad (18, 0)))), (1, (.int a1)), (2, (.int x2)), (3, (.int x3)), (4, (.int x4)), (5, (.int x5)), (6, (.long x6)), (8, (.long x8)), (10, (.long x10)), (12, (.long x12)), (14, (.long x14)), (16, (.int 0)), (17, (.int x17))]) [1, 2, 3, 4, 5, 6, 7, 8, 9, 10, 11, 0, 12] rfl ?_
        exact cb_Md_branch_327 ok C hr hlk a1  mi mk mlo mhi pk ps pl ph x2 x3 x4 x5 x6 x8 x10 x12 x14 0 x17 hk
      · have hk := x_okf hk z76
        refine x_lload 7 C d_Md_branch_246 rfl ?_
        refine x_lload 10 C d_Md_branch_248 rfl ?_
        refine x_lcmp_ge 258 C d_Md_branch_250 d_Md_branch_251 (by decide) (fun z77 => ?_) (fun z77 => ?_)
        · have hk := x_okt hk z77
          refine x_iconst (v := 0) C d_Md_branch_258 (by decide) ?_
          refine x_istore (lv' := [(16, (.int 0)), (0, (.ref (ad (18, 0)))), (1, (.int a1)), (2, (.int x2)), (3, (.int x3)), (4, (.int x4)), (5, (.int x5)), (6, (.long x6)), (8, (.long x8)), (10, (.long x10)), (12, (.long x12)), (14, (.long x14)), (17, (.int x17))]) C d_Md_branch_259 (by decide) rfl ?_
          refine x_lload 9 C d_Md_branch_261 rfl ?_
          refine x_lload 10 C d_Md_branch_263 rfl ?_
          refine x_lcmp_lt 273 C d_Md_branch_265 d_Md_branch_266 (by decide) (fun z78 => ?_) (fun z78 => ?_)
          · have hk := x_okt hk z78
            refine x_iconst (v := 0) C d_Md_branch_273 (by decide) ?_
            refine x_istore (lv' := [(17, (.int 0)), (16, (.int 0)), (0, (.ref (ad (18, 0)))), (1, (.int a1)), (2, (.int x2)), (3, (.int x3)), (4, (.int x4)), (5, (.int x5)), (6, (.long x6)), (8, (.long x8)), (10, (.long x10)), (12, (.long x12)), (14, (.long x14))]) C d_Md_branch_274 (by decide) rfl ?_
            refine x_iload 1 C d_Md_branch_276 rfl ?_
            refine x_if_eq 301 C d_Md_branch_278 (by decide) (fun z79 => ?_) (fun z79 => ?_)
            · have hk := x_okt hk z79
              refine x_loc (lv' := [(0, (.ref (ad (18, 0)))), (1, (.int a1)), (2, (.int x2)), (3, (.int x3)), (4, (.int x4)), (5, (.int x5)), (6, (.long x6)), (8, (.long x8)), (10, (.long x10)), (12, (.long x12)), (14, (.long x14)), (16, (.int 0)), (17, (.int 0))]) [2, 3, 4, 5, 6, 7, 8, 9, 10, 11, 12, 1, 0] rfl ?_
              exact cb_Md_branch_301 ok C hr hlk a1  mi mk mlo mhi pk ps pl ph x2 x3 x4 x5 x6 x8 x10 x12 x14 0 0 hk
            · have hk := x_okf hk z79
              refine x_lload 10 C d_Md_branch_281 rfl ?_
              refine x_lload 12 C d_Md_branch_283 rfl ?_
              refine x_lconst (v := 1) C d_Md_branch_285 (by decide) ?_
              refine x_lsub C d_Md_branch_286 ?_
              refine x_lcmp_le 301 C d_Md_branch_287 d_Md_branch_288 (by decide) (fun z83 => ?_) (fun z83 => ?_)
              · have hk := x_okt hk z83
                refine x_loc (lv' := [(0, (.ref (ad (18, 0)))), (1, (.int a1)), (2, (.int x2)), (3, (.int x3)), (4, (.int x4)), (5, (.int x5)), (6, (.long x6)), (8, (.long x8)), (10, (.long x10)), (12, (.long x12)), (14, (.long x14)), (16, (.int 0)), (17, (.int 0))]) [2, 3, 4, 5, 6, 7, 8, 9, 10, 11, 12, 1, 0] rfl ?_
                exact cb_Md_branch_301 ok C hr hlk a1  mi mk mlo mhi pk ps pl ph x2 x3 x4 x5 x6 x8 x10 x12 x14 0 0 hk
              · have hk := x_okf hk z83
                refine x_aload_n 2 C d_Md_branch_291 rfl rfl ?_
                refine x_get (i := (18, 0)) (v := (.ref (ad (26, 0)))) 18 C m_18 rfl rfl i_Md (by decide) (List.mem_cons_of_mem _ q_809) rfl d_Md_branch_292 ?_
                refine x_iload_n 5 C d_Md_branch_295 rfl rfl ?_
                refine x_lload 12 C d_Md_branch_296 rfl ?_
                refine x_lconst (v := 1) C d_Md_branch_298 (by decide) ?_
                refine x_lsub C d_Md_branch_299 ?_
                have w84 := hk.1
                have hk := hk.2
                refine x_last (i := (26, 0)) (g := mhi) (f' := x_F ad cA ((stp, psz, gk, gl, gh, opn, cki, ckl, mp, rk, rv, ri, chk), (mo, mi, ml, mk, mlo, vp_updL mhi x3.toNatClampNeg (x14 - 1), pk, ps, pl, ph, mm), out)) 1 C m_26 rfl rfl w84 d_Md_branch_300 e_mhi ?_
                refine x_loc (lv' := [(0, (.ref (ad (18, 0)))), (1, (.int a1)), (2, (.int x2)), (3, (.int x3)), (4, (.int x4)), (5, (.int x5)), (6, (.long x6)), (8, (.long x8)), (10, (.long x10)), (12, (.long x12)), (14, (.long x14)), (16, (.int 0)), (17, (.int 0))]) [2, 3, 4, 5, 6, 7, 8, 9, 10, 11, 12, 1, 0] rfl ?_
                exact cb_Md_branch_301 ok C hr hlk a1  mi mk mlo (vp_updL mhi x3.toNatClampNeg (x14 - 1)) pk ps pl ph x2 x3 x4 x5 x6 x8 x10 x12 x14 0 0 hk
          · have hk := x_okf hk z78
            refine x_iconst (v := 1) C d_Md_branch_269 (by decide) ?_
            refine x_goto 274 C d_Md_branch_270 (by decide) ?_
            refine x_istore (lv' := [(17, (.int 1)), (16, (.int 0)), (0, (.ref (ad (18, 0)))), (1, (.int a1)), (2, (.int x2)), (3, (.int x3)), (4, (.int x4)), (5, (.int x5)), (6, (.long x6)), (8, (.long x8)), (10, (.long x10)), (12, (.long x12)), (14, (.long x14))]) C d_Md_branch_274 (by decide) rfl ?_
            refine x_iload 1 C d_Md_branch_276 rfl ?_
            refine x_if_eq 301 C d_Md_branch_278 (by decide) (fun z85 => ?_) (fun z85 => ?_)
            · have hk := x_okt hk z85
              refine x_loc (lv' := [(0, (.ref (ad (18, 0)))), (1, (.int a1)), (2, (.int x2)), (3, (.int x3)), (4, (.int x4)), (5, (.int x5)), (6, (.long x6)), (8, (.long x8)), (10, (.long x10)), (12, (.long x12)), (14, (.long x14)), (16, (.int 0)), (17, (.int 1))]) [2, 3, 4, 5, 6, 7, 8, 9, 10, 11, 12, 1, 0] rfl ?_
              exact cb_Md_branch_301 ok C hr hlk a1  mi mk mlo mhi pk ps pl ph x2 x3 x4 x5 x6 x8 x10 x12 x14 0 1 hk
            · have hk := x_okf hk z85
              refine x_lload 10 C d_Md_branch_281 rfl ?_
              refine x_lload 12 C d_Md_branch_283 rfl ?_
              refine x_lconst (v := 1) C d_Md_branch_285 (by decide) ?_
              refine x_lsub C d_Md_branch_286 ?_
              refine x_lcmp_le 301 C d_Md_branch_287 d_Md_branch_288 (by decide) (fun z86 => ?_) (fun z86 => ?_)
              · have hk := x_okt hk z86
                refine x_loc (lv' := [(0, (.ref (ad (18, 0)))), (1, (.int a1)), (2, (.int x2)), (3, (.int x3)), (4, (.int x4)), (5, (.int x5)), (6, (.long x6)), (8, (.long x8)), (10, (.long x10)), (12, (.long x12)), (14, (.long x14)), (16, (.int 0)), (17, (.int 1))]) [2, 3, 4, 5, 6, 7, 8, 9, 10, 11, 12, 1, 0] rfl ?_
                exact cb_Md_branch_301 ok C hr hlk a1  mi mk mlo mhi pk ps pl ph x2 x3 x4 x5 x6 x8 x10 x12 x14 0 1 hk
              · have hk := x_okf hk z86
                refine x_aload_n 2 C d_Md_branch_291 rfl rfl ?_
                refine x_get (i := (18, 0)) (v := (.ref (ad (26, 0)))) 18 C m_18 rfl rfl i_Md (by decide) (List.mem_cons_of_mem _ q_809) rfl d_Md_branch_292 ?_
                refine x_iload_n 5 C d_Md_branch_295 rfl rfl ?_
                refine x_lload 12 C d_Md_branch_296 rfl ?_
                refine x_lconst (v := 1) C d_Md_branch_298 (by decide) ?_
                refine x_lsub C d_Md_branch_299 ?_
                have w87 := hk.1
                have hk := hk.2
                refine x_last (i := (26, 0)) (g := mhi) (f' := x_F ad cA ((stp, psz, gk, gl, gh, opn, cki, ckl, mp, rk, rv, ri, chk), (mo, mi, ml, mk, mlo, vp_updL mhi x3.toNatClampNeg (x14 - 1), pk, ps, pl, ph, mm), out)) 1 C m_26 rfl rfl w87 d_Md_branch_300 e_mhi ?_
                refine x_loc (lv' := [(0, (.ref (ad (18, 0)))), (1, (.int a1)), (2, (.int x2)), (3, (.int x3)), (4, (.int x4)), (5, (.int x5)), (6, (.long x6)), (8, (.long x8)), (10, (.long x10)), (12, (.long x12)), (14, (.long x14)), (16, (.int 0)), (17, (.int 1))]) [2, 3, 4, 5, 6, 7, 8, 9, 10, 11, 12, 1, 0] rfl ?_
                exact cb_Md_branch_301 ok C hr hlk a1  mi mk mlo (vp_updL mhi x3.toNatClampNeg (x14 - 1)) pk ps pl ph x2 x3 x4 x5 x6 x8 x10 x12 x14 0 1 hk
        · have hk := x_okf hk z77
          refine x_iconst (v := 1) C d_Md_branch_254 (by decide) ?_
          refine x_goto 259 C d_Md_branch_255 (by decide) ?_
          refine x_istore (lv' := [(16, (.int 1)), (0, (.ref (ad (18, 0)))), (1, (.int a1)), (2, (.int x2)), (3, (.int x3)), (4, (.int x4)), (5, (.int x5)), (6, (.long x6)), (8, (.long x8)), (10, (.long x10)), (12, (.long x12)), (14, (.long x14)), (17, (.int x17))]) C d_Md_branch_259 (by decide) rfl ?_
          refine x_lload 9 C d_Md_branch_261 rfl ?_
          refine x_lload 10 C d_Md_branch_263 rfl ?_
          refine x_lcmp_lt 273 C d_Md_branch_265 d_Md_branch_266 (by decide) (fun z88 => ?_) (fun z88 => ?_)
          · have hk := x_okt hk z88
            refine x_iconst (v := 0) C d_Md_branch_273 (by decide) ?_
            refine x_istore (lv' := [(17, (.int 0)), (16, (.int 1)), (0, (.ref (ad (18, 0)))), (1, (.int a1)), (2, (.int x2)), (3, (.int x3)), (4, (.int x4)), (5, (.int x5)), (6, (.long x6)), (8, (.long x8)), (10, (.long x10)), (12, (.long x12)), (14, (.long x14))]) C d_Md_branch_274 (by decide) rfl ?_
            refine x_iload 1 C d_Md_branch_276 rfl ?_
            refine x_if_eq 301 C d_Md_branch_278 (by decide) (fun z89 => ?_) (fun z89 => ?_)
            · have hk := x_okt hk z89
              refine x_loc (lv' := [(0, (.ref (ad (18, 0)))), (1, (.int a1)), (2, (.int x2)), (3, (.int x3)), (4, (.int x4)), (5, (.int x5)), (6, (.long x6)), (8, (.long x8)), (10, (.long x10)), (12, (.long x12)), (14, (.long x14)), (16, (.int 1)), (17, (.int 0))]) [2, 3, 4, 5, 6, 7, 8, 9, 10, 11, 12, 1, 0] rfl ?_
              exact cb_Md_branch_301 ok C hr hlk a1  mi mk mlo mhi pk ps pl ph x2 x3 x4 x5 x6 x8 x10 x12 x14 1 0 hk
            · have hk := x_okf hk z89
              refine x_lload 10 C d_Md_branch_281 rfl ?_
              refine x_lload 12 C d_Md_branch_283 rfl ?_
              refine x_lconst (v := 1) C d_Md_branch_285 (by decide) ?_
              refine x_lsub C d_Md_branch_286 ?_
              refine x_lcmp_le 301 C d_Md_branch_287 d_Md_branch_288 (by decide) (fun z90 => ?_) (fun z90 => ?_)
              · have hk := x_okt hk z90
                refine x_loc (lv' := [(0, (.ref (ad (18, 0)))), (1, (.int a1)), (2, (.int x2)), (3, (.int x3)), (4, (.int x4)), (5, (.int x5)), (6, (.long x6)), (8, (.long x8)), (10, (.long x10)), (12, (.long x12)), (14, (.long x14)), (16, (.int 1)), (17, (.int 0))]) [2, 3, 4, 5, 6, 7, 8, 9, 10, 11, 12, 1, 0] rfl ?_
                exact cb_Md_branch_301 ok C hr hlk a1  mi mk mlo mhi pk ps pl ph x2 x3 x4 x5 x6 x8 x10 x12 x14 1 0 hk
              · have hk := x_okf hk z90
                refine x_aload_n 2 C d_Md_branch_291 rfl rfl ?_
                refine x_get (i := (18, 0)) (v := (.ref (ad (26, 0)))) 18 C m_18 rfl rfl i_Md (by decide) (List.mem_cons_of_mem _ q_809) rfl d_Md_branch_292 ?_
                refine x_iload_n 5 C d_Md_branch_295 rfl rfl ?_
                refine x_lload 12 C d_Md_branch_296 rfl ?_
                refine x_lconst (v := 1) C d_Md_branch_298 (by decide) ?_
                refine x_lsub C d_Md_branch_299 ?_
                have w91 := hk.1
                have hk := hk.2
                refine x_last (i := (26, 0)) (g := mhi) (f' := x_F ad cA ((stp, psz, gk, gl, gh, opn, cki, ckl, mp, rk, rv, ri, chk), (mo, mi, ml, mk, mlo, vp_updL mhi x3.toNatClampNeg (x14 - 1), pk, ps, pl, ph, mm), out)) 1 C m_26 rfl rfl w91 d_Md_branch_300 e_mhi ?_
                refine x_loc (lv' := [(0, (.ref (ad (18, 0)))), (1, (.int a1)), (2, (.int x2)), (3, (.int x3)), (4, (.int x4)), (5, (.int x5)), (6, (.long x6)), (8, (.long x8)), (10, (.long x10)), (12, (.long x12)), (14, (.long x14)), (16, (.int 1)), (17, (.int 0))]) [2, 3, 4, 5, 6, 7, 8, 9, 10, 11, 12, 1, 0] rfl ?_
                exact cb_Md_branch_301 ok C hr hlk a1  mi mk mlo (vp_updL mhi x3.toNatClampNeg (x14 - 1)) pk ps pl ph x2 x3 x4 x5 x6 x8 x10 x12 x14 1 0 hk
          · have hk := x_okf hk z88
            refine x_iconst (v := 1) C d_Md_branch_269 (by decide) ?_
            refine x_goto 274 C d_Md_branch_270 (by decide) ?_
            refine x_istore (lv' := [(17, (.int 1)), (16, (.int 1)), (0, (.ref (ad (18, 0)))), (1, (.int a1)), (2, (.int x2)), (3, (.int x3)), (4, (.int x4)), (5, (.int x5)), (6, (.long x6)), (8, (.long x8)), (10, (.long x10)), (12, (.long x12)), (14, (.long x14))]) C d_Md_branch_274 (by decide) rfl ?_
            refine x_iload 1 C d_Md_branch_276 rfl ?_
            refine x_if_eq 301 C d_Md_branch_278 (by decide) (fun z92 => ?_) (fun z92 => ?_)
            · have hk := x_okt hk z92
              refine x_loc (lv' := [(0, (.ref (ad (18, 0)))), (1, (.int a1)), (2, (.int x2)), (3, (.int x3)), (4, (.int x4)), (5, (.int x5)), (6, (.long x6)), (8, (.long x8)), (10, (.long x10)), (12, (.long x12)), (14, (.long x14)), (16, (.int 1)), (17, (.int 1))]) [2, 3, 4, 5, 6, 7, 8, 9, 10, 11, 12, 1, 0] rfl ?_
              exact cb_Md_branch_301 ok C hr hlk a1  mi mk mlo mhi pk ps pl ph x2 x3 x4 x5 x6 x8 x10 x12 x14 1 1 hk
            · have hk := x_okf hk z92
              refine x_lload 10 C d_Md_branch_281 rfl ?_
              refine x_lload 12 C d_Md_branch_283 rfl ?_
              refine x_lconst (v := 1) C d_Md_branch_285 (by decide) ?_
              refine x_lsub C d_Md_branch_286 ?_
              refine x_lcmp_le 301 C d_Md_branch_287 d_Md_branch_288 (by decide) (fun z93 => ?_) (fun z93 => ?_)
              · have hk := x_okt hk z93
                refine x_loc (lv' := [(0, (.ref (ad (18, 0)))), (1, (.int a1)), (2, (.int x2)), (3, (.int x3)), (4, (.int x4)), (5, (.int x5)), (6, (.long x6)), (8, (.long x8)), (10, (.long x10)), (12, (.long x12)), (14, (.long x14)), (16, (.int 1)), (17, (.int 1))]) [2, 3, 4, 5, 6, 7, 8, 9, 10, 11, 12, 1, 0] rfl ?_
                exact cb_Md_branch_301 ok C hr hlk a1  mi mk mlo mhi pk ps pl ph x2 x3 x4 x5 x6 x8 x10 x12 x14 1 1 hk
              · have hk := x_okf hk z93
                refine x_aload_n 2 C d_Md_branch_291 rfl rfl ?_
                refine x_get (i := (18, 0)) (v := (.ref (ad (26, 0)))) 18 C m_18 rfl rfl i_Md (by decide) (List.mem_cons_of_mem _ q_809) rfl d_Md_branch_292 ?_
                refine x_iload_n 5 C d_Md_branch_295 rfl rfl ?_
                refine x_lload 12 C d_Md_branch_296 rfl ?_
                refine x_lconst (v := 1) C d_Md_branch_298 (by decide) ?_
                refine x_lsub C d_Md_branch_299 ?_
                have w94 := hk.1
                have hk := hk.2
                refine x_last (i := (26, 0)) (g := mhi) (f' := x_F ad cA ((stp, psz, gk, gl, gh, opn, cki, ckl, mp, rk, rv, ri, chk), (mo, mi, ml, mk, mlo, vp_updL mhi x3.toNatClampNeg (x14 - 1), pk, ps, pl, ph, mm), out)) 1 C m_26 rfl rfl w94 d_Md_branch_300 e_mhi ?_
                refine x_loc (lv' := [(0, (.ref (ad (18, 0)))), (1, (.int a1)), (2, (.int x2)), (3, (.int x3)), (4, (.int x4)), (5, (.int x5)), (6, (.long x6)), (8, (.long x8)), (10, (.long x10)), (12, (.long x12)), (14, (.long x14)), (16, (.int 1)), (17, (.int 1))]) [2, 3, 4, 5, 6, 7, 8, 9, 10, 11, 12, 1, 0] rfl ?_
                exact cb_Md_branch_301 ok C hr hlk a1  mi mk mlo (vp_updL mhi x3.toNatClampNeg (x14 - 1)) pk ps pl ph x2 x3 x4 x5 x6 x8 x10 x12 x14 1 1 hk
def s_Md_branch (mo : Nat → Nat → Int32) (mi : Nat → Int32) (mk : Nat → Int32) (mlo : Nat → Int64) (mhi : Nat → Int64) (pk : Nat → Int32) (ps : Nat → Int32) (pl : Nat → Int64) (ph : Nat → Int64) (a1 : Int32) : (Nat → Int32) × (Nat → Int32) × (Nat → Int64) × (Nat → Int64) × (Nat → Int32) × (Nat → Int32) × (Nat → Int64) × (Nat → Int64) :=
  (if (mo 0 a1.toNatClampNeg) = 10 then (if (mk ((mo 1 a1.toNatClampNeg).toNatClampNeg)) = 1 then (if (Int32.toInt64 (mo 3 a1.toNatClampNeg)) < (mlo ((mo 1 a1.toNatClampNeg).toNatClampNeg)) then bk_Md_branch_111 mo mi mk mlo mhi pk ps pl ph a1 (mo 0 a1.toNatClampNeg) (mo 1 a1.toNatClampNeg) (mo 2 a1.toNatClampNeg) (mk ((mo 1 a1.toNatClampNeg).toNatClampNeg)) (Int32.toInt64 (mo 3 a1.toNatClampNeg)) (mlo ((mo 1 a1.toNatClampNeg).toNatClampNeg)) (mhi ((mo 1 a1.toNatClampNeg).toNatClampNeg)) (mlo ((mo 2 a1.toNatClampNeg).toNatClampNeg)) (mhi ((mo 2 a1.toNatClampNeg).toNatClampNeg)) else (if (mhi ((mo 1 a1.toNatClampNeg).toNatClampNeg)) < (Int32.toInt64 (mo 3 a1.toNatClampNeg)) then bk_Md_branch_111 mo mi mk mlo mhi pk ps pl ph a1 (mo 0 a1.toNatClampNeg) (mo 1 a1.toNatClampNeg) (mo 2 a1.toNatClampNeg) (mk ((mo 1 a1.toNatClampNeg).toNatClampNeg)) (Int32.toInt64 (mo 3 a1.toNatClampNeg)) (mlo ((mo 1 a1.toNatClampNeg).toNatClampNeg)) (mhi ((mo 1 a1.toNatClampNeg).toNatClampNeg)) (mlo ((mo 2 a1.toNatClampNeg).toNatClampNeg)) (mhi ((mo 2 a1.toNatClampNeg).toNatClampNeg)) else (if (mlo ((mo 1 a1.toNatClampNeg).toNatClampNeg)) = (Int32.toInt64 (mo 3 a1.toNatClampNeg)) then (if (mhi ((mo 1 a1.toNatClampNeg).toNatClampNeg)) = (Int32.toInt64 (mo 3 a1.toNatClampNeg)) then (if (1 : Int32) = 0 then bk_Md_branch_327 mo mi mk mlo mhi pk ps pl ph a1 (mo 0 a1.toNatClampNeg) (mo 1 a1.toNatClampNeg) (mo 2 a1.toNatClampNeg) (mk ((mo 1 a1.toNatClampNeg).toNatClampNeg)) (Int32.toInt64 (mo 3 a1.toNatClampNeg)) (mlo ((mo 1 a1.toNatClampNeg).toNatClampNeg)) (mhi ((mo 1 a1.toNatClampNeg).toNatClampNeg)) (mlo ((mo 2 a1.toNatClampNeg).toNatClampNeg)) (mhi ((mo 2 a1.toNatClampNeg).toNatClampNeg)) 1 0 else (x_let (s_Md_know mk mlo mhi (mo 1 a1.toNatClampNeg) 1 (Int32.toInt64 (mo 3 a1.toNatClampNeg)) (Int32.toInt64 (mo 3 a1.toNatClampNeg))) fun (mk56, mlo56, mhi56) => bk_Md_branch_327 mo mi mk56 mlo56 mhi56 pk ps pl ph a1 (mo 0 a1.toNatClampNeg) (mo 1 a1.toNatClampNeg) (mo 2 a1.toNatClampNeg) (mk ((mo 1 a1.toNatClampNeg).toNatClampNeg)) (Int32.toInt64 (mo 3 a1.toNatClampNeg)) (mlo ((mo 1 a1.toNatClampNeg).toNatClampNeg)) (mhi ((mo 1 a1.toNatClampNeg).toNatClampNeg)) (mlo ((mo 2 a1.toNatClampNeg).toNatClampNeg)) (mhi ((mo 2 a1.toNatClampNeg).toNatClampNeg)) 1 0)) else bk_Md_branch_130 mo mi mk mlo mhi pk ps pl ph a1 (mo 0 a1.toNatClampNeg) (mo 1 a1.toNatClampNeg) (mo 2 a1.toNatClampNeg) (mk ((mo 1 a1.toNatClampNeg).toNatClampNeg)) (Int32.toInt64 (mo 3 a1.toNatClampNeg)) (mlo ((mo 1 a1.toNatClampNeg).toNatClampNeg)) (mhi ((mo 1 a1.toNatClampNeg).toNatClampNeg)) (mlo ((mo 2 a1.toNatClampNeg).toNatClampNeg)) (mhi ((mo 2 a1.toNatClampNeg).toNatClampNeg)) 1) else bk_Md_branch_130 mo mi mk mlo mhi pk ps pl ph a1 (mo 0 a1.toNatClampNeg) (mo 1 a1.toNatClampNeg) (mo 2 a1.toNatClampNeg) (mk ((mo 1 a1.toNatClampNeg).toNatClampNeg)) (Int32.toInt64 (mo 3 a1.toNatClampNeg)) (mlo ((mo 1 a1.toNatClampNeg).toNatClampNeg)) (mhi ((mo 1 a1.toNatClampNeg).toNatClampNeg)) (mlo ((mo 2 a1.toNatClampNeg).toNatClampNeg)) (mhi ((mo 2 a1.toNatClampNeg).toNatClampNeg)) 1))) else bk_Md_branch_155 mo mi mk mlo mhi pk ps pl ph a1 (mo 0 a1.toNatClampNeg) (mo 1 a1.toNatClampNeg) (mo 2 a1.toNatClampNeg) (mk ((mo 1 a1.toNatClampNeg).toNatClampNeg)) (Int32.toInt64 (mo 3 a1.toNatClampNeg)) (mlo ((mo 1 a1.toNatClampNeg).toNatClampNeg)) (mhi ((mo 1 a1.toNatClampNeg).toNatClampNeg)) (mlo ((mo 2 a1.toNatClampNeg).toNatClampNeg)) (mhi ((mo 2 a1.toNatClampNeg).toNatClampNeg)) 1 1) else bk_Md_branch_155 mo mi mk mlo mhi pk ps pl ph a1 (mo 0 a1.toNatClampNeg) (mo 1 a1.toNatClampNeg) (mo 2 a1.toNatClampNeg) (mk ((mo 1 a1.toNatClampNeg).toNatClampNeg)) (Int32.toInt64 (mo 3 a1.toNatClampNeg)) (mlo ((mo 1 a1.toNatClampNeg).toNatClampNeg)) (mhi ((mo 1 a1.toNatClampNeg).toNatClampNeg)) (mlo ((mo 2 a1.toNatClampNeg).toNatClampNeg)) (mhi ((mo 2 a1.toNatClampNeg).toNatClampNeg)) 1 1)
def k_ok_Md_branch (mo : Nat → Nat → Int32) (mi : Nat → Int32) (mk : Nat → Int32) (mlo : Nat → Int64) (mhi : Nat → Int64) (pk : Nat → Int32) (ps : Nat → Int32) (pl : Nat → Int64) (ph : Nat → Int64) (a1 : Int32) : Prop :=
  (vp_in a1 24 ∧ (vp_in (mo 1 a1.toNatClampNeg) 12 ∧ (vp_in (mo 2 a1.toNatClampNeg) 12 ∧ (if (mo 0 a1.toNatClampNeg) = 10 then (if (mk ((mo 1 a1.toNatClampNeg).toNatClampNeg)) = 1 then (if (Int32.toInt64 (mo 3 a1.toNatClampNeg)) < (mlo ((mo 1 a1.toNatClampNeg).toNatClampNeg)) then bk_ok_Md_branch_111 mo mi mk mlo mhi pk ps pl ph a1 (mo 0 a1.toNatClampNeg) (mo 1 a1.toNatClampNeg) (mo 2 a1.toNatClampNeg) (mk ((mo 1 a1.toNatClampNeg).toNatClampNeg)) (Int32.toInt64 (mo 3 a1.toNatClampNeg)) (mlo ((mo 1 a1.toNatClampNeg).toNatClampNeg)) (mhi ((mo 1 a1.toNatClampNeg).toNatClampNeg)) (mlo ((mo 2 a1.toNatClampNeg).toNatClampNeg)) (mhi ((mo 2 a1.toNatClampNeg).toNatClampNeg)) else (if (mhi ((mo 1 a1.toNatClampNeg).toNatClampNeg)) < (Int32.toInt64 (mo 3 a1.toNatClampNeg)) then bk_ok_Md_branch_111 mo mi mk mlo mhi pk ps pl ph a1 (mo 0 a1.toNatClampNeg) (mo 1 a1.toNatClampNeg) (mo 2 a1.toNatClampNeg) (mk ((mo 1 a1.toNatClampNeg).toNatClampNeg)) (Int32.toInt64 (mo 3 a1.toNatClampNeg)) (mlo ((mo 1 a1.toNatClampNeg).toNatClampNeg)) (mhi ((mo 1 a1.toNatClampNeg).toNatClampNeg)) (mlo ((mo 2 a1.toNatClampNeg).toNatClampNeg)) (mhi ((mo 2 a1.toNatClampNeg).toNatClampNeg)) else (if (mlo ((mo 1 a1.toNatClampNeg).toNatClampNeg)) = (Int32.toInt64 (mo 3 a1.toNatClampNeg)) then (if (mhi ((mo 1 a1.toNatClampNeg).toNatClampNeg)) = (Int32.toInt64 (mo 3 a1.toNatClampNeg)) then (if (1 : Int32) = 0 then bk_ok_Md_branch_327 mo mi mk mlo mhi pk ps pl ph a1 (mo 0 a1.toNatClampNeg) (mo 1 a1.toNatClampNeg) (mo 2 a1.toNatClampNeg) (mk ((mo 1 a1.toNatClampNeg).toNatClampNeg)) (Int32.toInt64 (mo 3 a1.toNatClampNeg)) (mlo ((mo 1 a1.toNatClampNeg).toNatClampNeg)) (mhi ((mo 1 a1.toNatClampNeg).toNatClampNeg)) (mlo ((mo 2 a1.toNatClampNeg).toNatClampNeg)) (mhi ((mo 2 a1.toNatClampNeg).toNatClampNeg)) 1 0 else (k_ok_Md_know mk mlo mhi (mo 1 a1.toNatClampNeg) 1 (Int32.toInt64 (mo 3 a1.toNatClampNeg)) (Int32.toInt64 (mo 3 a1.toNatClampNeg)) ∧ (x_let (s_Md_know mk mlo mhi (mo 1 a1.toNatClampNeg) 1 (Int32.toInt64 (mo 3 a1.toNatClampNeg)) (Int32.toInt64 (mo 3 a1.toNatClampNeg))) fun (mk56, mlo56, mhi56) => bk_ok_Md_branch_327 mo mi mk56 mlo56 mhi56 pk ps pl ph a1 (mo 0 a1.toNatClampNeg) (mo 1 a1.toNatClampNeg) (mo 2 a1.toNatClampNeg) (mk ((mo 1 a1.toNatClampNeg).toNatClampNeg)) (Int32.toInt64 (mo 3 a1.toNatClampNeg)) (mlo ((mo 1 a1.toNatClampNeg).toNatClampNeg)) (mhi ((mo 1 a1.toNatClampNeg).toNatClampNeg)) (mlo ((mo 2 a1.toNatClampNeg).toNatClampNeg)) (mhi ((mo 2 a1.toNatClampNeg).toNatClampNeg)) 1 0))) else bk_ok_Md_branch_130 mo mi mk mlo mhi pk ps pl ph a1 (mo 0 a1.toNatClampNeg) (mo 1 a1.toNatClampNeg) (mo 2 a1.toNatClampNeg) (mk ((mo 1 a1.toNatClampNeg).toNatClampNeg)) (Int32.toInt64 (mo 3 a1.toNatClampNeg)) (mlo ((mo 1 a1.toNatClampNeg).toNatClampNeg)) (mhi ((mo 1 a1.toNatClampNeg).toNatClampNeg)) (mlo ((mo 2 a1.toNatClampNeg).toNatClampNeg)) (mhi ((mo 2 a1.toNatClampNeg).toNatClampNeg)) 1) else bk_ok_Md_branch_130 mo mi mk mlo mhi pk ps pl ph a1 (mo 0 a1.toNatClampNeg) (mo 1 a1.toNatClampNeg) (mo 2 a1.toNatClampNeg) (mk ((mo 1 a1.toNatClampNeg).toNatClampNeg)) (Int32.toInt64 (mo 3 a1.toNatClampNeg)) (mlo ((mo 1 a1.toNatClampNeg).toNatClampNeg)) (mhi ((mo 1 a1.toNatClampNeg).toNatClampNeg)) (mlo ((mo 2 a1.toNatClampNeg).toNatClampNeg)) (mhi ((mo 2 a1.toNatClampNeg).toNatClampNeg)) 1))) else bk_ok_Md_branch_155 mo mi mk mlo mhi pk ps pl ph a1 (mo 0 a1.toNatClampNeg) (mo 1 a1.toNatClampNeg) (mo 2 a1.toNatClampNeg) (mk ((mo 1 a1.toNatClampNeg).toNatClampNeg)) (Int32.toInt64 (mo 3 a1.toNatClampNeg)) (mlo ((mo 1 a1.toNatClampNeg).toNatClampNeg)) (mhi ((mo 1 a1.toNatClampNeg).toNatClampNeg)) (mlo ((mo 2 a1.toNatClampNeg).toNatClampNeg)) (mhi ((mo 2 a1.toNatClampNeg).toNatClampNeg)) 1 1) else bk_ok_Md_branch_155 mo mi mk mlo mhi pk ps pl ph a1 (mo 0 a1.toNatClampNeg) (mo 1 a1.toNatClampNeg) (mo 2 a1.toNatClampNeg) (mk ((mo 1 a1.toNatClampNeg).toNatClampNeg)) (Int32.toInt64 (mo 3 a1.toNatClampNeg)) (mlo ((mo 1 a1.toNatClampNeg).toNatClampNeg)) (mhi ((mo 1 a1.toNatClampNeg).toNatClampNeg)) (mlo ((mo 2 a1.toNatClampNeg).toNatClampNeg)) (mhi ((mo 2 a1.toNatClampNeg).toNatClampNeg)) 1 1))))
set_option maxHeartbeats 4000000 in
set_option maxRecDepth 100000 in
theorem c_Md_branch {l : Launch} {D : va_G} {cA : Nat → ClassId} {ad : x_I → Nat} (ok : x_ok (x_k D cA ad)) {stp : Nat → Nat → Int32} {psz : Int32} {gk : Nat → Nat → Int32} {gl : Nat → Nat → Int64} {gh : Nat → Nat → Int64} {opn : Nat → Int32} {cki : Nat → Int32} {ckl : Nat → Int64} {mp : Nat → Nat → Int64} {rk : Nat → Int32} {rv : Nat → Int64} {ri : Nat → Int32} {chk : Int32} {mo : Nat → Nat → Int32} {mi : Nat → Int32} {ml : Nat → Int64} {mk : Nat → Int32} {mlo : Nat → Int64} {mhi : Nat → Int64} {pk : Nat → Int32} {ps : Nat → Int32} {pl : Nat → Int64} {ph : Nat → Int64} {mm : Nat → Int64} {out : Nat → Int64} (a1 : Int32) (hk : k_ok_Md_branch mo mi mk mlo mhi pk ps pl ph a1) : x_M l y_Md_branch (Cond.code y_Md_branch b_Md_branch 18 (Option.none : Option Jvm.ClassFile.FieldType) :: x_Wd) { frames := 2, cells := 0, slots := 0, locals := 47 } (x_k D cA ad) (x_F ad cA) [(.ref (ad (18, 0))), (.int a1)] ((stp, psz, gk, gl, gh, opn, cki, ckl, mp, rk, rv, ri, chk), (mo, mi, ml, mk, mlo, mhi, pk, ps, pl, ph, mm), out) ((fun q : (Nat → Int32) × (Nat → Int32) × (Nat → Int64) × (Nat → Int64) × (Nat → Int32) × (Nat → Int32) × (Nat → Int64) × (Nat → Int64) => ((none, ((stp, psz, gk, gl, gh, opn, cki, ckl, mp, rk, rv, ri, chk), (mo, q.1, ml, q.2.1, q.2.2.1, q.2.2.2.1, q.2.2.2.2.1, q.2.2.2.2.2.1, q.2.2.2.2.2.2.1, q.2.2.2.2.2.2.2, mm), out)) : Option Value × x_S)) (s_Md_branch mo mi mk mlo mhi pk ps pl ph a1)) 0 0 := by
  refine x_start (κ := x_k D cA ad) (cc := b_Md_branch) (F := x_F ad cA) (wr := (fun q : (Nat → Int32) × (Nat → Int32) × (Nat → Int64) × (Nat → Int64) × (Nat → Int32) × (Nat → Int32) × (Nat → Int64) × (Nat → Int64) => ((none, ((stp, psz, gk, gl, gh, opn, cki, ckl, mp, rk, rv, ri, chk), (mo, q.1, ml, q.2.1, q.2.2.1, q.2.2.2.1, q.2.2.2.2.1, q.2.2.2.2.2.1, q.2.2.2.2.2.2.1, q.2.2.2.2.2.2.2, mm), out)) : Option Value × x_S))) (q := s_Md_branch mo mi mk mlo mhi pk ps pl ph a1) (ret := (Option.none : Option Jvm.ClassFile.FieldType)) (lv0 := [(0, (.ref (ad (18, 0)))), (1, (.int a1))]) ok (by decide) rfl (Nat.le_of_ble_eq_true rfl) rfl ?_
  intro p e s m below meth c C hr hlk
  unfold s_Md_branch
  unfold k_ok_Md_branch at hk
  refine x_aload_n 0 C d_Md_branch_0 rfl rfl ?_
  refine x_get (i := (18, 0)) (v := (.ref (ad (19, 0)))) 0 C m_18 rfl rfl i_Md (by decide) (List.mem_cons_of_mem _ q_791) rfl d_Md_branch_1 ?_
  refine x_iload_n 1 C d_Md_branch_4 rfl rfl ?_
  have w1 := hk.1
  have hk := hk.2
  refine x_iald (i := (19, 0)) (g := mo 0) 0 C m_19 rfl rfl w1 d_Md_branch_5 ?_
  refine x_istore_n (lv' := [(2, (.int (mo 0 a1.toNatClampNeg))), (0, (.ref (ad (18, 0)))), (1, (.int a1))]) C d_Md_branch_6 rfl (by decide) rfl ?_
  refine x_aload_n 1 C d_Md_branch_7 rfl rfl ?_
  refine x_get (i := (18, 0)) (v := (.ref (ad (20, 0)))) 1 C m_18 rfl rfl i_Md (by decide) (List.mem_cons_of_mem _ q_792) rfl d_Md_branch_8 ?_
  refine x_iload_n 2 C d_Md_branch_11 rfl rfl ?_
  refine x_iald (i := (20, 0)) (g := mo 1) 0 C m_20 rfl rfl w1 d_Md_branch_12 ?_
  refine x_istore_n (lv' := [(3, (.int (mo 1 a1.toNatClampNeg))), (2, (.int (mo 0 a1.toNatClampNeg))), (0, (.ref (ad (18, 0)))), (1, (.int a1))]) C d_Md_branch_13 rfl (by decide) rfl ?_
  refine x_aload_n 2 C d_Md_branch_14 rfl rfl ?_
  refine x_get (i := (18, 0)) (v := (.ref (ad (21, 0)))) 2 C m_18 rfl rfl i_Md (by decide) (List.mem_cons_of_mem _ q_793) rfl d_Md_branch_15 ?_
  refine x_iload_n 3 C d_Md_branch_18 rfl rfl ?_
  refine x_iald (i := (21, 0)) (g := mo 2) 0 C m_21 rfl rfl w1 d_Md_branch_19 ?_
  refine x_istore (lv' := [(4, (.int (mo 2 a1.toNatClampNeg))), (3, (.int (mo 1 a1.toNatClampNeg))), (2, (.int (mo 0 a1.toNatClampNeg))), (0, (.ref (ad (18, 0)))), (1, (.int a1))]) C d_Md_branch_20 (by decide) rfl ?_
  refine x_aload_n 3 C d_Md_branch_22 rfl rfl ?_
  refine x_get (i := (18, 0)) (v := (.ref (ad (24, 0)))) 16 C m_18 rfl rfl i_Md (by decide) (List.mem_cons_of_mem _ q_807) rfl d_Md_branch_23 ?_
  refine x_iload_n 1 C d_Md_branch_26 rfl rfl ?_
  have w2 := hk.1
  have hk := hk.2
  refine x_iald (i := (24, 0)) (g := mk) 0 C m_24 rfl rfl w2 d_Md_branch_27 ?_
  refine x_istore (lv' := [(5, (.int (mk ((mo 1 a1.toNatClampNeg).toNatClampNeg)))), (4, (.int (mo 2 a1.toNatClampNeg))), (3, (.int (mo 1 a1.toNatClampNeg))), (2, (.int (mo 0 a1.toNatClampNeg))), (0, (.ref (ad (18, 0)))), (1, (.int a1))]) C d_Md_branch_28 (by decide) rfl ?_
  refine x_aload_n 4 C d_Md_branch_30 rfl rfl ?_
  refine x_get (i := (18, 0)) (v := (.ref (ad (22, 0)))) 3 C m_18 rfl rfl i_Md (by decide) (List.mem_cons_of_mem _ q_794) rfl d_Md_branch_31 ?_
  refine x_iload_n 5 C d_Md_branch_34 rfl rfl ?_
  refine x_iald (i := (22, 0)) (g := mo 3) 0 C m_22 rfl rfl w1 d_Md_branch_35 ?_
  refine x_i2l C d_Md_branch_36 ?_
  refine x_lstore (lv' := [(6, (.long (Int32.toInt64 (mo 3 a1.toNatClampNeg)))), (5, (.int (mk ((mo 1 a1.toNatClampNeg).toNatClampNeg)))), (4, (.int (mo 2 a1.toNatClampNeg))), (3, (.int (mo 1 a1.toNatClampNeg))), (2, (.int (mo 0 a1.toNatClampNeg))), (0, (.ref (ad (18, 0)))), (1, (.int a1))]) C d_Md_branch_37 (by decide) rfl ?_
  refine x_aload_n 5 C d_Md_branch_39 rfl rfl ?_
  refine x_get (i := (18, 0)) (v := (.ref (ad (25, 0)))) 17 C m_18 rfl rfl i_Md (by decide) (List.mem_cons_of_mem _ q_808) rfl d_Md_branch_40 ?_
  refine x_iload_n 3 C d_Md_branch_43 rfl rfl ?_
  refine x_lald (i := (25, 0)) (g := mlo) 1 C m_25 rfl rfl w2 d_Md_branch_44 ?_
  refine x_lstore (lv' := [(8, (.long (mlo ((mo 1 a1.toNatClampNeg).toNatClampNeg)))), (6, (.long (Int32.toInt64 (mo 3 a1.toNatClampNeg)))), (5, (.int (mk ((mo 1 a1.toNatClampNeg).toNatClampNeg)))), (4, (.int (mo 2 a1.toNatClampNeg))), (3, (.int (mo 1 a1.toNatClampNeg))), (2, (.int (mo 0 a1.toNatClampNeg))), (0, (.ref (ad (18, 0)))), (1, (.int a1))]) C d_Md_branch_45 (by decide) rfl ?_
  refine x_aload_n 6 C d_Md_branch_47 rfl rfl ?_
  refine x_get (i := (18, 0)) (v := (.ref (ad (26, 0)))) 18 C m_18 rfl rfl i_Md (by decide) (List.mem_cons_of_mem _ q_809) rfl d_Md_branch_48 ?_
  refine x_iload_n 4 C d_Md_branch_51 rfl rfl ?_
  refine x_lald (i := (26, 0)) (g := mhi) 1 C m_26 rfl rfl w2 d_Md_branch_52 ?_
  refine x_lstore (lv' := [(10, (.long (mhi ((mo 1 a1.toNatClampNeg).toNatClampNeg)))), (8, (.long (mlo ((mo 1 a1.toNatClampNeg).toNatClampNeg)))), (6, (.long (Int32.toInt64 (mo 3 a1.toNatClampNeg)))), (5, (.int (mk ((mo 1 a1.toNatClampNeg).toNatClampNeg)))), (4, (.int (mo 2 a1.toNatClampNeg))), (3, (.int (mo 1 a1.toNatClampNeg))), (2, (.int (mo 0 a1.toNatClampNeg))), (0, (.ref (ad (18, 0)))), (1, (.int a1))]) C d_Md_branch_53 (by decide) rfl ?_
  refine x_aload_n 7 C d_Md_branch_55 rfl rfl ?_
  refine x_get (i := (18, 0)) (v := (.ref (ad (25, 0)))) 17 C m_18 rfl rfl i_Md (by decide) (List.mem_cons_of_mem _ q_808) rfl d_Md_branch_56 ?_
  refine x_iload 4 C d_Md_branch_59 rfl ?_
  have w3 := hk.1
  have hk := hk.2
  refine x_lald (i := (25, 0)) (g := mlo) 1 C m_25 rfl rfl w3 d_Md_branch_61 ?_
  refine x_lstore (lv' := [(12, (.long (mlo ((mo 2 a1.toNatClampNeg).toNatClampNeg)))), (10, (.long (mhi ((mo 1 a1.toNatClampNeg).toNatClampNeg)))), (8, (.long (mlo ((mo 1 a1.toNatClampNeg).toNatClampNeg)))), (6, (.long (Int32.toInt64 (mo 3 a1.toNatClampNeg)))), (5, (.int (mk ((mo 1 a1.toNatClampNeg).toNatClampNeg)))), (4, (.int (mo 2 a1.toNatClampNeg))), (3, (.int (mo 1 a1.toNatClampNeg))), (2, (.int (mo 0 a1.toNatClampNeg))), (0, (.ref (ad (18, 0)))), (1, (.int a1))]) C d_Md_branch_62 (by decide) rfl ?_
  refine x_aload_n 8 C d_Md_branch_64 rfl rfl ?_
  refine x_get (i := (18, 0)) (v := (.ref (ad (26, 0)))) 18 C m_18 rfl rfl i_Md (by decide) (List.mem_cons_of_mem _ q_809) rfl d_Md_branch_65 ?_
  refine x_iload 5 C d_Md_branch_68 rfl ?_
  refine x_lald (i := (26, 0)) (g := mhi) 1 C m_26 rfl rfl w3 d_Md_branch_70 ?_
  refine x_lstore (lv' := [(14, (.long (mhi ((mo 2 a1.toNatClampNeg).toNatClampNeg)))), (12, (.long (mlo ((mo 2 a1.toNatClampNeg).toNatClampNeg)))), (10, (.long (mhi ((mo 1 a1.toNatClampNeg).toNatClampNeg)))), (8, (.long (mlo ((mo 1 a1.toNatClampNeg).toNatClampNeg)))), (6, (.long (Int32.toInt64 (mo 3 a1.toNatClampNeg)))), (5, (.int (mk ((mo 1 a1.toNatClampNeg).toNatClampNeg)))), (4, (.int (mo 2 a1.toNatClampNeg))), (3, (.int (mo 1 a1.toNatClampNeg))), (2, (.int (mo 0 a1.toNatClampNeg))), (0, (.ref (ad (18, 0)))), (1, (.int a1))]) C d_Md_branch_71 (by decide) rfl ?_
  refine x_iconst (v := 1) C d_Md_branch_73 (by decide) ?_
  refine x_istore (lv' := [(16, (.int 1)), (14, (.long (mhi ((mo 2 a1.toNatClampNeg).toNatClampNeg)))), (12, (.long (mlo ((mo 2 a1.toNatClampNeg).toNatClampNeg)))), (10, (.long (mhi ((mo 1 a1.toNatClampNeg).toNatClampNeg)))), (8, (.long (mlo ((mo 1 a1.toNatClampNeg).toNatClampNeg)))), (6, (.long (Int32.toInt64 (mo 3 a1.toNatClampNeg)))), (5, (.int (mk ((mo 1 a1.toNatClampNeg).toNatClampNeg)))), (4, (.int (mo 2 a1.toNatClampNeg))), (3, (.int (mo 1 a1.toNatClampNeg))), (2, (.int (mo 0 a1.toNatClampNeg))), (0, (.ref (ad (18, 0)))), (1, (.int a1))]) C d_Md_branch_74 (by decide) rfl ?_
  refine x_iconst (v := 1) C d_Md_branch_76 (by decide) ?_
  refine x_istore (lv' := [(17, (.int 1)), (16, (.int 1)), (14, (.long (mhi ((mo 2 a1.toNatClampNeg).toNatClampNeg)))), (12, (.long (mlo ((mo 2 a1.toNatClampNeg).toNatClampNeg)))), (10, (.long (mhi ((mo 1 a1.toNatClampNeg).toNatClampNeg)))), (8, (.long (mlo ((mo 1 a1.toNatClampNeg).toNatClampNeg)))), (6, (.long (Int32.toInt64 (mo 3 a1.toNatClampNeg)))), (5, (.int (mk ((mo 1 a1.toNatClampNeg).toNatClampNeg)))), (4, (.int (mo 2 a1.toNatClampNeg))), (3, (.int (mo 1 a1.toNatClampNeg))), (2, (.int (mo 0 a1.toNatClampNeg))), (0, (.ref (ad (18, 0)))), (1, (.int a1))]) C d_Md_branch_77 (by decide) rfl ?_
  refine x_iload_n 10 C d_Md_branch_79 rfl rfl ?_
  refine x_bipush (v := 10) C d_Md_branch_80 (by decide) ?_
  refine x_icmp_ne 155 C d_Md_branch_82 (by decide) (fun z4 => ?_) (fun z4 => ?_)
  · have hk := x_okt hk z4
    refine x_iload 7 C d_Md_branch_85 rfl ?_
    refine x_iconst (v := 1) C d_Md_branch_87 (by decide) ?_
    refine x_icmp_ne 155 C d_Md_branch_88 (by decide) (fun z5 => ?_) (fun z5 => ?_)
    · have hk := x_okt hk z5
      refine x_lload 5 C d_Md_branch_91 rfl ?_
      refine x_lload 6 C d_Md_branch_93 rfl ?_
      refine x_lcmp_gt 111 C d_Md_branch_95 d_Md_branch_96 (by decide) (fun z6 => ?_) (fun z6 => ?_)
      · have hk := x_okt hk z6
        refine x_loc (lv' := [(0, (.ref (ad (18, 0)))), (1, (.int a1)), (2, (.int (mo 0 a1.toNatClampNeg))), (3, (.int (mo 1 a1.toNatClampNeg))), (4, (.int (mo 2 a1.toNatClampNeg))), (5, (.int (mk ((mo 1 a1.toNatClampNeg).toNatClampNeg)))), (6, (.long (Int32.toInt64 (mo 3 a1.toNatClampNeg)))), (8, (.long (mlo ((mo 1 a1.toNatClampNeg).toNatClampNeg)))), (10, (.long (mhi ((mo 1 a1.toNatClampNeg).toNatClampNeg)))), (12, (.long (mlo ((mo 2 a1.toNatClampNeg).toNatClampNeg)))), (14, (.long (mhi ((mo 2 a1.toNatClampNeg).toNatClampNeg))))]) [11, 12, 10, 9, 8, 7, 6, 5, 4, 3, 2] rfl ?_
        exact cb_Md_branch_111 ok C hr hlk a1  mi mk mlo mhi pk ps pl ph (mo 0 a1.toNatClampNeg) (mo 1 a1.toNatClampNeg) (mo 2 a1.toNatClampNeg) (mk ((mo 1 a1.toNatClampNeg).toNatClampNeg)) (Int32.toInt64 (mo 3 a1.toNatClampNeg)) (mlo ((mo 1 a1.toNatClampNeg).toNatClampNeg)) (mhi ((mo 1 a1.toNatClampNeg).toNatClampNeg)) (mlo ((mo 2 a1.toNatClampNeg).toNatClampNeg)) (mhi ((mo 2 a1.toNatClampNeg).toNatClampNeg)) hk
      · have hk := x_okf hk z6
        refine x_lload 6 C d_Md_branch_99 rfl ?_
        refine x_lload 4 C d_Md_branch_101 rfl ?_
        refine x_lcmp_gt 111 C d_Md_branch_103 d_Md_branch_104 (by decide) (fun z51 => ?_) (fun z51 => ?_)
        · have hk := x_okt hk z51
          refine x_loc (lv' := [(0, (.ref (ad (18, 0)))), (1, (.int a1)), (2, (.int (mo 0 a1.toNatClampNeg))), (3, (.int (mo 1 a1.toNatClampNeg))), (4, (.int (mo 2 a1.toNatClampNeg))), (5, (.int (mk ((mo 1 a1.toNatClampNeg).toNatClampNeg)))), (6, (.long (Int32.toInt64 (mo 3 a1.toNatClampNeg)))), (8, (.long (mlo ((mo 1 a1.toNatClampNeg).toNatClampNeg)))), (10, (.long (mhi ((mo 1 a1.toNatClampNeg).toNatClampNeg)))), (12, (.long (mlo ((mo 2 a1.toNatClampNeg).toNatClampNeg)))), (14, (.long (mhi ((mo 2 a1.toNatClampNeg).toNatClampNeg))))]) [11, 12, 10, 9, 8, 7, 6, 5, 4, 3, 2] rfl ?_
          exact cb_Md_branch_111 ok C hr hlk a1  mi mk mlo mhi pk ps pl ph (mo 0 a1.toNatClampNeg) (mo 1 a1.toNatClampNeg) (mo 2 a1.toNatClampNeg) (mk ((mo 1 a1.toNatClampNeg).toNatClampNeg)) (Int32.toInt64 (mo 3 a1.toNatClampNeg)) (mlo ((mo 1 a1.toNatClampNeg).toNatClampNeg)) (mhi ((mo 1 a1.toNatClampNeg).toNatClampNeg)) (mlo ((mo 2 a1.toNatClampNeg).toNatClampNeg)) (mhi ((mo 2 a1.toNatClampNeg).toNatClampNeg)) hk
        · have hk := x_okf hk z51
          refine x_iconst (v := 1) C d_Md_branch_107 (by decide) ?_
          refine x_goto 112 C d_Md_branch_108 (by decide) ?_
          refine x_istore (lv' := [(16, (.int 1)), (17, (.int 1)), (14, (.long (mhi ((mo 2 a1.toNatClampNeg).toNatClampNeg)))), (12, (.long (mlo ((mo 2 a1.toNatClampNeg).toNatClampNeg)))), (10, (.long (mhi ((mo 1 a1.toNatClampNeg).toNatClampNeg)))), (8, (.long (mlo ((mo 1 a1.toNatClampNeg).toNatClampNeg)))), (6, (.long (Int32.toInt64 (mo 3 a1.toNatClampNeg)))), (5, (.int (mk ((mo 1 a1.toNatClampNeg).toNatClampNeg)))), (4, (.int (mo 2 a1.toNatClampNeg))), (3, (.int (mo 1 a1.toNatClampNeg))), (2, (.int (mo 0 a1.toNatClampNeg))), (0, (.ref (ad (18, 0)))), (1, (.int a1))]) C d_Md_branch_112 (by decide) rfl ?_
          refine x_lload 5 C d_Md_branch_114 rfl ?_
          refine x_lload 6 C d_Md_branch_116 rfl ?_
          refine x_lcmp_ne 130 C d_Md_branch_118 d_Md_branch_119 (by decide) (fun z52 => ?_) (fun z52 => ?_)
          · have hk := x_okt hk z52
            refine x_lload 4 C d_Md_branch_122 rfl ?_
            refine x_lload 6 C d_Md_branch_124 rfl ?_
            refine x_lcmp_eq 134 C d_Md_branch_126 d_Md_branch_127 (by decide) (fun z53 => ?_) (fun z53 => ?_)
            · have hk := x_okt hk z53
              refine x_iconst (v := 0) C d_Md_branch_134 (by decide) ?_
              refine x_istore (lv' := [(17, (.int 0)), (16, (.int 1)), (14, (.long (mhi ((mo 2 a1.toNatClampNeg).toNatClampNeg)))), (12, (.long (mlo ((mo 2 a1.toNatClampNeg).toNatClampNeg)))), (10, (.long (mhi ((mo 1 a1.toNatClampNeg).toNatClampNeg)))), (8, (.long (mlo ((mo 1 a1.toNatClampNeg).toNatClampNeg)))), (6, (.long (Int32.toInt64 (mo 3 a1.toNatClampNeg)))), (5, (.int (mk ((mo 1 a1.toNatClampNeg).toNatClampNeg)))), (4, (.int (mo 2 a1.toNatClampNeg))), (3, (.int (mo 1 a1.toNatClampNeg))), (2, (.int (mo 0 a1.toNatClampNeg))), (0, (.ref (ad (18, 0)))), (1, (.int a1))]) C d_Md_branch_135 (by decide) rfl ?_
              refine x_iload 1 C d_Md_branch_137 rfl ?_
              refine x_if_eq 327 C d_Md_branch_139 (by decide) (fun z54 => ?_) (fun z54 => ?_)
              · have hk := x_okt hk z54
                refine x_loc (lv' := [(0, (.ref (ad (18, 0)))), (1, (.int a1)), (2, (.int (mo 0 a1.toNatClampNeg))), (3, (.int (mo 1 a1.toNatClampNeg))), (4, (.int (mo 2 a1.toNatClampNeg))), (5, (.int (mk ((mo 1 a1.toNatClampNeg).toNatClampNeg)))), (6, (.long (Int32.toInt64 (mo 3 a1.toNatClampNeg)))), (8, (.long (mlo ((mo 1 a1.toNatClampNeg).toNatClampNeg)))), (10, (.long (mhi ((mo 1 a1.toNatClampNeg).toNatClampNeg)))), (12, (.long (mlo ((mo 2 a1.toNatClampNeg).toNatClampNeg)))), (14, (.long (mhi ((mo 2 a1.toNatClampNeg).toNatClampNeg)))), (16, (.int 1)), (17, (.int 0))]) [11, 12, 10, 9, 8, 7, 6, 5, 4, 3, 2, 1, 0] rfl ?_
                exact cb_Md_branch_327 ok C hr hlk a1  mi mk mlo mhi pk ps pl ph (mo 0 a1.toNatClampNeg) (mo 1 a1.toNatClampNeg) (mo 2 a1.toNatClampNeg) (mk ((mo 1 a1.toNatClampNeg).toNatClampNeg)) (Int32.toInt64 (mo 3 a1.toNatClampNeg)) (mlo ((mo 1 a1.toNatClampNeg).toNatClampNeg)) (mhi ((mo 1 a1.toNatClampNeg).toNatClampNeg)) (mlo ((mo 2 a1.toNatClampNeg).toNatClampNeg)) (mhi ((mo 2 a1.toNatClampNeg).toNatClampNeg)) 1 0 hk
              · have hk := x_okf hk z54
                refine x_aload_n 11 C d_Md_branch_142 rfl rfl ?_
                refine x_iload_n 9 C d_Md_branch_143 rfl rfl ?_
                refine x_iconst (v := 1) C d_Md_branch_144 (by decide) ?_
                refine x_lload 6 C d_Md_branch_145 rfl ?_
                refine x_lload 6 C d_Md_branch_147 rfl ?_
                have w55 := hk.1
                have hk := hk.2
                refine x_cv0 (i := (18, 0)) (F := x_F ad cA) (As := [(.int (mo 1 a1.toNatClampNeg)), (.int 1), (.long (Int32.toInt64 (mo 3 a1.toNatClampNeg))), (.long (Int32.toInt64 (mo 3 a1.toNatClampNeg)))]) (rest := []) C k_Md_know q_908 (c_Md_know ok (mo 1 a1.toNatClampNeg) 1 (Int32.toInt64 (mo 3 a1.toNatClampNeg)) (Int32.toInt64 (mo 3 a1.toNatClampNeg)) w55) rfl rfl rfl (Nat.le_of_ble_eq_true rfl) (Nat.le_of_ble_eq_true rfl) m_18 rfl rfl rfl rfl rfl (Nat.le_of_ble_eq_true rfl) d_Md_branch_149 ⟨Nat.zero_le _, Nat.zero_le _⟩ ?_
                generalize hq56 : s_Md_know mk mlo mhi (mo 1 a1.toNatClampNeg) 1 (Int32.toInt64 (mo 3 a1.toNatClampNeg)) (Int32.toInt64 (mo 3 a1.toNatClampNeg)) = q56 at hk ⊢
                obtain ⟨mk56, mlo56, mhi56⟩ := q56
                refine x_lets ?_
                have hk := x_lete hk
                dsimp only at hk ⊢
                refine x_goto 327 C d_Md_branch_152 (by decide) ?_
                refine x_loc (lv' := [(0, (.ref (ad (18, 0)))), (1, (.int a1)), (2, (.int (mo 0 a1.toNatClampNeg))), (3, (.int (mo 1 a1.toNatClampNeg))), (4, (.int (mo 2 a1.toNatClampNeg))), (5, (.int (mk ((mo 1 a1.toNatClampNeg).toNatClampNeg)))), (6, (.long (Int32.toInt64 (mo 3 a1.toNatClampNeg)))), (8, (.long (mlo ((mo 1 a1.toNatClampNeg).toNatClampNeg)))), (10, (.long (mhi ((mo 1 a1.toNatClampNeg).toNatClampNeg)))), (12, (.long (mlo ((mo 2 a1.toNatClampNeg).toNatClampNeg)))), (14, (.long (mhi ((mo 2 a1.toNatClampNeg).toNatClampNeg)))), (16, (.int 1)), (17, (.int 0))]) [11, 12, 10, 9, 8, 7, 6, 5, 4, 3, 2, 1, 0] rfl ?_
                exact cb_Md_branch_327 ok C hr hlk a1  mi mk56 mlo56 mhi56 pk ps pl ph (mo 0 a1.toNatClampNeg) (mo 1 a1.toNatClampNeg) (mo 2 a1.toNatClampNeg) (mk ((mo 1 a1.toNatClampNeg).toNatClampNeg)) (Int32.toInt64 (mo 3 a1.toNatClampNeg)) (mlo ((mo 1 a1.toNatClampNeg).toNatClampNeg)) (mhi ((mo 1 a1.toNatClampNeg).toNatClampNeg)) (mlo ((mo 2 a1.toNatClampNeg).toNatClampNeg)) (mhi ((mo 2 a1.toNatClampNeg).toNatClampNeg)) 1 0 hk
            · have hk := x_okf hk z53
              refine x_loc (lv' := [(0, (.ref (ad (18, 0)))), (1, (.int a1)), (2, (.int (mo 0 a1.toNatClampNeg))), (3, (.int (mo 1 a1.toNatClampNeg))), (4, (.int (mo 2 a1.toNatClampNeg))), (5, (.int (mk ((mo 1 a1.toNatClampNeg).toNatClampNeg)))), (6, (.long (Int32.toInt64 (mo 3 a1.toNatClampNeg)))), (8, (.long (mlo ((mo 1 a1.toNatClampNeg).toNatClampNeg)))), (10, (.long (mhi ((mo 1 a1.toNatClampNeg).toNatClampNeg)))), (12, (.long (mlo ((mo 2 a1.toNatClampNeg).toNatClampNeg)))), (14, (.long (mhi ((mo 2 a1.toNatClampNeg).toNatClampNeg)))), (16, (.int 1))]) [11, 12, 10, 9, 8, 7, 6, 5, 4, 3, 2, 0] rfl ?_
              exact cb_Md_branch_130 ok C hr hlk a1  mi mk mlo mhi pk ps pl ph (mo 0 a1.toNatClampNeg) (mo 1 a1.toNatClampNeg) (mo 2 a1.toNatClampNeg) (mk ((mo 1 a1.toNatClampNeg).toNatClampNeg)) (Int32.toInt64 (mo 3 a1.toNatClampNeg)) (mlo ((mo 1 a1.toNatClampNeg).toNatClampNeg)) (mhi ((mo 1 a1.toNatClampNeg).toNatClampNeg)) (mlo ((mo 2 a1.toNatClampNeg).toNatClampNeg)) (mhi ((mo 2 a1.toNatClampNeg).toNatClampNeg)) 1 hk
          · have hk := x_okf hk z52
            refine x_loc (lv' := [(0, (.ref (ad (18, 0)))), (1, (.int a1)), (2, (.int (mo 0 a1.toNatClampNeg))), (3, (.int (mo 1 a1.toNatClampNeg))), (4, (.int (mo 2 a1.toNatClampNeg))), (5, (.int (mk ((mo 1 a1.toNatClampNeg).toNatClampNeg)))), (6, (.long (Int32.toInt64 (mo 3 a1.toNatClampNeg)))), (8, (.long (mlo ((mo 1 a1.toNatClampNeg).toNatClampNeg)))), (10, (.long (mhi ((mo 1 a1.toNatClampNeg).toNatClampNeg)))), (12, (.long (mlo ((mo 2 a1.toNatClampNeg).toNatClampNeg)))), (14, (.long (mhi ((mo 2 a1.toNatClampNeg).toNatClampNeg)))), (16, (.int 1))]) [11, 12, 10, 9, 8, 7, 6, 5, 4, 3, 2, 0] rfl ?_
            exact cb_Md_branch_130 ok C hr hlk a1  mi mk mlo mhi pk ps pl ph (mo 0 a1.toNatClampNeg) (mo 1 a1.toNatClampNeg) (mo 2 a1.toNatClampNeg) (mk ((mo 1 a1.toNatClampNeg).toNatClampNeg)) (Int32.toInt64 (mo 3 a1.toNatClampNeg)) (mlo ((mo 1 a1.toNatClampNeg).toNatClampNeg)) (mhi ((mo 1 a1.toNatClampNeg).toNatClampNeg)) (mlo ((mo 2 a1.toNatClampNeg).toNatClampNeg)) (mhi ((mo 2 a1.toNatClampNeg).toNatClampNeg)) 1 hk
    · have hk := x_okf hk z5
      refine x_loc (lv' := [(0, (.ref (ad (18, 0)))), (1, (.int a1)), (2, (.int (mo 0 a1.toNatClampNeg))), (3, (.int (mo 1 a1.toNatClampNeg))), (4, (.int (mo 2 a1.toNatClampNeg))), (5, (.int (mk ((mo 1 a1.toNatClampNeg).toNatClampNeg)))), (6, (.long (Int32.toInt64 (mo 3 a1.toNatClampNeg)))), (8, (.long (mlo ((mo 1 a1.toNatClampNeg).toNatClampNeg)))), (10, (.long (mhi ((mo 1 a1.toNatClampNeg).toNatClampNeg)))), (12, (.long (mlo ((mo 2 a1.toNatClampNeg).toNatClampNeg)))), (14, (.long (mhi ((mo 2 a1.toNatClampNeg).toNatClampNeg)))), (16, (.int 1)), (17, (.int 1))]) [11, 12, 10, 9, 8, 7, 6, 5, 4, 3, 2, 1, 0] rfl ?_
      exact cb_Md_branch_155 ok C hr hlk a1  mi mk mlo mhi pk ps pl ph (mo 0 a1.toNatClampNeg) (mo 1 a1.toNatClampNeg) (mo 2 a1.toNatClampNeg) (mk ((mo 1 a1.toNatClampNeg).toNatClampNeg)) (Int32.toInt64 (mo 3 a1.toNatClampNeg)) (mlo ((mo 1 a1.toNatClampNeg).toNatClampNeg)) (mhi ((mo 1 a1.toNatClampNeg).toNatClampNeg)) (mlo ((mo 2 a1.toNatClampNeg).toNatClampNeg)) (mhi ((mo 2 a1.toNatClampNeg).toNatClampNeg)) 1 1 hk
  · have hk := x_okf hk z4
    refine x_loc (lv' := [(0, (.ref (ad (18, 0)))), (1, (.int a1)), (2, (.int (mo 0 a1.toNatClampNeg))), (3, (.int (mo 1 a1.toNatClampNeg))), (4, (.int (mo 2 a1.toNatClampNeg))), (5, (.int (mk ((mo 1 a1.toNatClampNeg).toNatClampNeg)))), (6, (.long (Int32.toInt64 (mo 3 a1.toNatClampNeg)))), (8, (.long (mlo ((mo 1 a1.toNatClampNeg).toNatClampNeg)))), (10, (.long (mhi ((mo 1 a1.toNatClampNeg).toNatClampNeg)))), (12, (.long (mlo ((mo 2 a1.toNatClampNeg).toNatClampNeg)))), (14, (.long (mhi ((mo 2 a1.toNatClampNeg).toNatClampNeg)))), (16, (.int 1)), (17, (.int 1))]) [11, 12, 10, 9, 8, 7, 6, 5, 4, 3, 2, 1, 0] rfl ?_
    exact cb_Md_branch_155 ok C hr hlk a1  mi mk mlo mhi pk ps pl ph (mo 0 a1.toNatClampNeg) (mo 1 a1.toNatClampNeg) (mo 2 a1.toNatClampNeg) (mk ((mo 1 a1.toNatClampNeg).toNatClampNeg)) (Int32.toInt64 (mo 3 a1.toNatClampNeg)) (mlo ((mo 1 a1.toNatClampNeg).toNatClampNeg)) (mhi ((mo 1 a1.toNatClampNeg).toNatClampNeg)) (mlo ((mo 2 a1.toNatClampNeg).toNatClampNeg)) (mhi ((mo 2 a1.toNatClampNeg).toNatClampNeg)) 1 1 hk
def bk_Md_leave_52 (mi : Nat → Int32) (ml : Nat → Int64) (mhi : Nat → Int64)   : (Nat → Int32) × (Nat → Int64) :=
  (upd mi 8 1, vp_updL ml 1 (mhi (Int32.toNatClampNeg 0)))
set_option maxHeartbeats 4000000 in
set_option maxRecDepth 100000 in
theorem cb_Md_leave_52 {l : Launch} {D : va_G} {cA : Nat → ClassId} {ad : x_I → Nat} (ok : x_ok (x_k D cA ad)) {stp : Nat → Nat → Int32} {psz : Int32} {gk : Nat → Nat → Int32} {gl : Nat → Nat → Int64} {gh : Nat → Nat → Int64} {opn : Nat → Int32} {cki : Nat → Int32} {ckl : Nat → Int64} {mp : Nat → Nat → Int64} {rk : Nat → Int32} {rv : Nat → Int64} {ri : Nat → Int32} {chk : Int32} {mo : Nat → Nat → Int32} {mk : Nat → Int32} {mlo : Nat → Int64} {mhi : Nat → Int64} {pk : Nat → Int32} {ps : Nat → Int32} {pl : Nat → Int64} {ph : Nat → Int64} {mm : Nat → Int64} {out : Nat → Int64} {p : Program} {e : Env} {s : State} {m : MethodId} {args : Array Value} {below : List Frame} {meth : Method} {c : Code} (C : x_C p s m args c b_Md_leave 1 R_Md (Cond.code y_Md_leave b_Md_leave 1 (Option.none : Option Jvm.ClassFile.FieldType) :: x_Wd) (x_k D cA ad)) (hr : meth.sig.returnType = (Option.none : Option Jvm.ClassFile.FieldType)) (hlk : meth.locks = false)  (mi : Nat → Int32) (ml : Nat → Int64)  : x_V p l e { frames := 0, cells := 0, slots := 0, locals := 0 } s m args below meth c (x_k D cA ad) 1 0 0 (x_E below (x_k D cA ad) args s 0 0 (x_F ad cA) (fun q : (Nat → Int32) × (Nat → Int64) => ((none, ((stp, psz, gk, gl, gh, opn, cki, ckl, mp, rk, rv, ri, chk), (mo, q.1, q.2, mk, mlo, mhi, pk, ps, pl, ph, mm), out)) : Option Value × x_S)) (bk_Md_leave_52 mi ml mhi)) (x_F ad cA ((stp, psz, gk, gl, gh, opn, cki, ckl, mp, rk, rv, ri, chk), (mo, mi, ml, mk, mlo, mhi, pk, ps, pl, ph, mm), out)) 52 [(0, (.ref (ad (18, 0))))] [] := by
  unfold bk_Md_leave_52
  refine x_aload_n 0 C d_Md_leave_52 rfl rfl ?_
  refine x_aload_n 0 C d_Md_leave_53 rfl rfl ?_
  refine x_get (i := (18, 0)) (v := (.ref (ad (26, 0)))) 18 C m_18 rfl rfl i_Md (by decide) (List.mem_cons_of_mem _ q_809) rfl d_Md_leave_54 ?_
  refine x_iconst (v := 0) C d_Md_leave_57 (by decide) ?_
  refine x_lald (i := (26, 0)) (g := mhi) 1 C m_26 rfl rfl (x_vin (by decide)) d_Md_leave_58 ?_
  refine x_put (i := (18, 0)) (f' := x_F ad cA ((stp, psz, gk, gl, gh, opn, cki, ckl, mp, rk, rv, ri, chk), (mo, mi, vp_updL ml 1 (mhi (Int32.toNatClampNeg 0)), mk, mlo, mhi, pk, ps, pl, ph, mm), out)) 15 C m_18 rfl rfl i_Md t_Md_ok n_Md (by decide) (List.mem_cons_of_mem _ q_806) rfl rfl rfl (Nat.le_of_ble_eq_true rfl) d_Md_leave_59 e_ml1 ?_
  refine x_aload_n 0 C d_Md_leave_62 rfl rfl ?_
  refine x_iconst (v := 1) C d_Md_leave_63 (by decide) ?_
  refine x_put (i := (18, 0)) (f' := x_F ad cA ((stp, psz, gk, gl, gh, opn, cki, ckl, mp, rk, rv, ri, chk), (mo, upd mi 8 1, vp_updL ml 1 (mhi (Int32.toNatClampNeg 0)), mk, mlo, mhi, pk, ps, pl, ph, mm), out)) 13 C m_18 rfl rfl i_Md t_Md_ok n_Md (by decide) (List.mem_cons_of_mem _ q_804) rfl rfl rfl (Nat.le_of_ble_eq_true rfl) d_Md_leave_64 e_mi8 ?_
  exact x_vret C hr hlk rfl d_Md_leave_67
def bk_Md_leave_31 (mi : Nat → Int32) (ml : Nat → Int64) (mhi : Nat → Int64)   : (Nat → Int32) × (Nat → Int64) :=
  (if (mi 8) = 0 then bk_Md_leave_52 mi ml mhi else (if (mhi (Int32.toNatClampNeg 0)) ≤ (ml 1) then (upd mi 8 1, ml) else bk_Md_leave_52 mi ml mhi))
set_option maxHeartbeats 4000000 in
set_option maxRecDepth 100000 in
theorem cb_Md_leave_31 {l : Launch} {D : va_G} {cA : Nat → ClassId} {ad : x_I → Nat} (ok : x_ok (x_k D cA ad)) {stp : Nat → Nat → Int32} {psz : Int32} {gk : Nat → Nat → Int32} {gl : Nat → Nat → Int64} {gh : Nat → Nat → Int64} {opn : Nat → Int32} {cki : Nat → Int32} {ckl : Nat → Int64} {mp : Nat → Nat → Int64} {rk : Nat → Int32} {rv : Nat → Int64} {ri : Nat → Int32} {chk : Int32} {mo : Nat → Nat → Int32} {mk : Nat → Int32} {mlo : Nat → Int64} {mhi : Nat → Int64} {pk : Nat → Int32} {ps : Nat → Int32} {pl : Nat → Int64} {ph : Nat → Int64} {mm : Nat → Int64} {out : Nat → Int64} {p : Program} {e : Env} {s : State} {m : MethodId} {args : Array Value} {below : List Frame} {meth : Method} {c : Code} (C : x_C p s m args c b_Md_leave 1 R_Md (Cond.code y_Md_leave b_Md_leave 1 (Option.none : Option Jvm.ClassFile.FieldType) :: x_Wd) (x_k D cA ad)) (hr : meth.sig.returnType = (Option.none : Option Jvm.ClassFile.FieldType)) (hlk : meth.locks = false)  (mi : Nat → Int32) (ml : Nat → Int64)  : x_V p l e { frames := 0, cells := 0, slots := 0, locals := 0 } s m args below meth c (x_k D cA ad) 1 0 0 (x_E below (x_k D cA ad) args s 0 0 (x_F ad cA) (fun q : (Nat → Int32) × (Nat → Int64) => ((none, ((stp, psz, gk, gl, gh, opn, cki, ckl, mp, rk, rv, ri, chk), (mo, q.1, q.2, mk, mlo, mhi, pk, ps, pl, ph, mm), out)) : Option Value × x_S)) (bk_Md_leave_31 mi ml mhi)) (x_F ad cA ((stp, psz, gk, gl, gh, opn, cki, ckl, mp, rk, rv, ri, chk), (mo, mi, ml, mk, mlo, mhi, pk, ps, pl, ph, mm), out)) 31 [(0, (.ref (ad (18, 0))))] [] := by
  unfold bk_Md_leave_31
  refine x_aload_n 0 C d_Md_leave_31 rfl rfl ?_
  refine x_get (i := (18, 0)) (v := (.int (mi 8))) 13 C m_18 rfl rfl i_Md (by decide) (List.mem_cons_of_mem _ q_804) rfl d_Md_leave_32 ?_
  refine x_if_eq 52 C d_Md_leave_35 (by decide) (fun z2 => ?_) (fun z2 => ?_)
  · refine x_loc (lv' := [(0, (.ref (ad (18, 0))))]) [0] rfl ?_
    exact cb_Md_leave_52 ok C hr hlk   mi ml 
  · refine x_aload_n 0 C d_Md_leave_38 rfl rfl ?_
    refine x_get (i := (18, 0)) (v := (.ref (ad (26, 0)))) 18 C m_18 rfl rfl i_Md (by decide) (List.mem_cons_of_mem _ q_809) rfl d_Md_leave_39 ?_
    refine x_iconst (v := 0) C d_Md_leave_42 (by decide) ?_
    refine x_lald (i := (26, 0)) (g := mhi) 1 C m_26 rfl rfl (x_vin (by decide)) d_Md_leave_43 ?_
    refine x_aload_n 0 C d_Md_leave_44 rfl rfl ?_
    refine x_get (i := (18, 0)) (v := (.long (ml 1))) 15 C m_18 rfl rfl i_Md (by decide) (List.mem_cons_of_mem _ q_806) rfl d_Md_leave_45 ?_
    refine x_lcmp_le 62 C d_Md_leave_48 d_Md_leave_49 (by decide) (fun z3 => ?_) (fun z3 => ?_)
    · refine x_aload_n 0 C d_Md_leave_62 rfl rfl ?_
      refine x_iconst (v := 1) C d_Md_leave_63 (by decide) ?_
      refine x_put (i := (18, 0)) (f' := x_F ad cA ((stp, psz, gk, gl, gh, opn, cki, ckl, mp, rk, rv, ri, chk), (mo, upd mi 8 1, ml, mk, mlo, mhi, pk, ps, pl, ph, mm), out)) 13 C m_18 rfl rfl i_Md t_Md_ok n_Md (by decide) (List.mem_cons_of_mem _ q_804) rfl rfl rfl (Nat.le_of_ble_eq_true rfl) d_Md_leave_64 e_mi8 ?_
      exact x_vret C hr hlk rfl d_Md_leave_67
    · refine x_loc (lv' := [(0, (.ref (ad (18, 0))))]) [0] rfl ?_
      exact cb_Md_leave_52 ok C hr hlk   mi ml 
def bk_Md_leave_21 (mi : Nat → Int32) (ml : Nat → Int64) (mlo : Nat → Int64) (mhi : Nat → Int64)   : (Nat → Int32) × (Nat → Int64) :=
  bk_Md_leave_31 mi (vp_updL ml 0 (mlo (Int32.toNatClampNeg 0))) mhi
set_option maxHeartbeats 4000000 in
set_option maxRecDepth 100000 in
theorem cb_Md_leave_21 {l : Launch} {D : va_G} {cA : Nat → ClassId} {ad : x_I → Nat} (ok : x_ok (x_k D cA ad)) {stp : Nat → Nat → Int32} {psz : Int32} {gk : Nat → Nat → Int32} {gl : Nat → Nat → Int64} {gh : Nat → Nat → Int64} {opn : Nat → Int32} {cki : Nat → Int32} {ckl : Nat → Int64} {mp : Nat → Nat → Int64} {rk : Nat → Int32} {rv : Nat → Int64} {ri : Nat → Int32} {chk : Int32} {mo : Nat → Nat → Int32} {mk : Nat → Int32} {mlo : Nat → Int64} {mhi : Nat → Int64} {pk : Nat → Int32} {ps : Nat → Int32} {pl : Nat → Int64} {ph : Nat → Int64} {mm : Nat → Int64} {out : Nat → Int64} {p : Program} {e : Env} {s : State} {m : MethodId} {args : Array Value} {below : List Frame} {meth : Method} {c : Code} (C : x_C p s m args c b_Md_leave 1 R_Md (Cond.code y_Md_leave b_Md_leave 1 (Option.none : Option Jvm.ClassFile.FieldType) :: x_Wd) (x_k D cA ad)) (hr : meth.sig.returnType = (Option.none : Option Jvm.ClassFile.FieldType)) (hlk : meth.locks = false)  (mi : Nat → Int32) (ml : Nat → Int64)  : x_V p l e { frames := 0, cells := 0, slots := 0, locals := 0 } s m args below meth c (x_k D cA ad) 1 0 0 (x_E below (x_k D cA ad) args s 0 0 (x_F ad cA) (fun q : (Nat → Int32) × (Nat → Int64) => ((none, ((stp, psz, gk, gl, gh, opn, cki, ckl, mp, rk, rv, ri, chk), (mo, q.1, q.2, mk, mlo, mhi, pk, ps, pl, ph, mm), out)) : Option Value × x_S)) (bk_Md_leave_21 mi ml mlo mhi)) (x_F ad cA ((stp, psz, gk, gl, gh, opn, cki, ckl, mp, rk, rv, ri, chk), (mo, mi, ml, mk, mlo, mhi, pk, ps, pl, ph, mm), out)) 21 [(0, (.ref (ad (18, 0))))] [] := by
  unfold bk_Md_leave_21
  refine x_aload_n 0 C d_Md_leave_21 rfl rfl ?_
  refine x_aload_n 0 C d_Md_leave_22 rfl rfl ?_
  refine x_get (i := (18, 0)) (v := (.ref (ad (25, 0)))) 17 C m_18 rfl rfl i_Md (by decide) (List.mem_cons_of_mem _ q_808) rfl d_Md_leave_23 ?_
  refine x_iconst (v := 0) C d_Md_leave_26 (by decide) ?_
  refine x_lald (i := (25, 0)) (g := mlo) 1 C m_25 rfl rfl (x_vin (by decide)) d_Md_leave_27 ?_
  refine x_put (i := (18, 0)) (f' := x_F ad cA ((stp, psz, gk, gl, gh, opn, cki, ckl, mp, rk, rv, ri, chk), (mo, mi, vp_updL ml 0 (mlo (Int32.toNatClampNeg 0)), mk, mlo, mhi, pk, ps, pl, ph, mm), out)) 14 C m_18 rfl rfl i_Md t_Md_ok n_Md (by decide) (List.mem_cons_of_mem _ q_805) rfl rfl rfl (Nat.le_of_ble_eq_true rfl) d_Md_leave_28 e_ml0 ?_
  refine x_loc (lv' := [(0, (.ref (ad (18, 0))))]) [0] rfl ?_
  exact cb_Md_leave_31 ok C hr hlk   mi (vp_updL ml 0 (mlo (Int32.toNatClampNeg 0))) 
def s_Md_leave (mi : Nat → Int32) (ml : Nat → Int64) (mlo : Nat → Int64) (mhi : Nat → Int64)  : (Nat → Int32) × (Nat → Int64) :=
  (if (mi 8) = 0 then bk_Md_leave_21 mi ml mlo mhi else (if (ml 0) ≤ (mlo (Int32.toNatClampNeg 0)) then bk_Md_leave_31 mi ml mhi else bk_Md_leave_21 mi ml mlo mhi))
set_option maxHeartbeats 4000000 in
set_option maxRecDepth 100000 in
theorem c_Md_leave {l : Launch} {D : va_G} {cA : Nat → ClassId} {ad : x_I → Nat} (ok : x_ok (x_k D cA ad)) {stp : Nat → Nat → Int32} {psz : Int32} {gk : Nat → Nat → Int32} {gl : Nat → Nat → Int64} {gh : Nat → Nat → Int64} {opn : Nat → Int32} {cki : Nat → Int32} {ckl : Nat → Int64} {mp : Nat → Nat → Int64} {rk : Nat → Int32} {rv : Nat → Int64} {ri : Nat → Int32} {chk : Int32} {mo : Nat → Nat → Int32} {mi : Nat → Int32} {ml : Nat → Int64} {mk : Nat → Int32} {mlo : Nat → Int64} {mhi : Nat → Int64} {pk : Nat → Int32} {ps : Nat → Int32} {pl : Nat → Int64} {ph : Nat → Int64} {mm : Nat → Int64} {out : Nat → Int64}  : x_M l y_Md_leave (Cond.code y_Md_leave b_Md_leave 1 (Option.none : Option Jvm.ClassFile.FieldType) :: x_Wd) { frames := 0, cells := 0, slots := 0, locals := 0 } (x_k D cA ad) (x_F ad cA) [(.ref (ad (18, 0)))] ((stp, psz, gk, gl, gh, opn, cki, ckl, mp, rk, rv, ri, chk), (mo, mi, ml, mk, mlo, mhi, pk, ps, pl, ph, mm), out) ((fun q : (Nat → Int32) × (Nat → Int64) => ((none, ((stp, psz, gk, gl, gh, opn, cki, ckl, mp, rk, rv, ri, chk), (mo, q.1, q.2, mk, mlo, mhi, pk, ps, pl, ph, mm), out)) : Option Value × x_S)) (s_Md_leave mi ml mlo mhi)) 0 0 := by
  refine x_start (κ := x_k D cA ad) (cc := b_Md_leave) (F := x_F ad cA) (wr := (fun q : (Nat → Int32) × (Nat → Int64) => ((none, ((stp, psz, gk, gl, gh, opn, cki, ckl, mp, rk, rv, ri, chk), (mo, q.1, q.2, mk, mlo, mhi, pk, ps, pl, ph, mm), out)) : Option Value × x_S))) (q := s_Md_leave mi ml mlo mhi) (ret := (Option.none : Option Jvm.ClassFile.FieldType)) (lv0 := [(0, (.ref (ad (18, 0))))]) ok (by decide) rfl (Nat.le_of_ble_eq_true rfl) rfl ?_
  intro p e s m below meth c C hr hlk
  unfold s_Md_leave
  refine x_aload_n 0 C d_Md_leave_0 rfl rfl ?_
  refine x_get (i := (18, 0)) (v := (.int (mi 8))) 13 C m_18 rfl rfl i_Md (by decide) (List.mem_cons_of_mem _ q_804) rfl d_Md_leave_1 ?_
  refine x_if_eq 21 C d_Md_leave_4 (by decide) (fun z1 => ?_) (fun z1 => ?_)
  · refine x_loc (lv' := [(0, (.ref (ad (18, 0))))]) [0] rfl ?_
    exact cb_Md_leave_21 ok C hr hlk   mi ml 
  · refine x_aload_n 0 C d_Md_leave_7 rfl rfl ?_
    refine x_get (i := (18, 0)) (v := (.ref (ad (25, 0)))) 17 C m_18 rfl rfl i_Md (by decide) (List.mem_cons_of_mem _ q_808) rfl d_Md_leave_8 ?_
    refine x_iconst (v := 0) C d_Md_leave_11 (by decide) ?_
    refine x_lald (i := (25, 0)) (g := mlo) 1 C m_25 rfl rfl (x_vin (by decide)) d_Md_leave_12 ?_
    refine x_aload_n 0 C d_Md_leave_13 rfl rfl ?_
    refine x_get (i := (18, 0)) (v := (.long (ml 0))) 14 C m_18 rfl rfl i_Md (by decide) (List.mem_cons_of_mem _ q_805) rfl d_Md_leave_14 ?_
    refine x_lcmp_ge 31 C d_Md_leave_17 d_Md_leave_18 (by decide) (fun z4 => ?_) (fun z4 => ?_)
    · refine x_loc (lv' := [(0, (.ref (ad (18, 0))))]) [0] rfl ?_
      exact cb_Md_leave_31 ok C hr hlk   mi ml 
    · refine x_loc (lv' := [(0, (.ref (ad (18, 0))))]) [0] rfl ?_
      exact cb_Md_leave_21 ok C hr hlk   mi ml 
def bk_Md_goOn_228 (mi : Nat → Int32) (ml : Nat → Int64) (mk : Nat → Int32) (mlo : Nat → Int64) (mhi : Nat → Int64) (pk : Nat → Int32) (ps : Nat → Int32) (pl : Nat → Int64) (ph : Nat → Int64) (a1 : Int32) (x2 : Int32) : Int32 × (Nat → Int32) × (Nat → Int64) × (Nat → Int32) × (Nat → Int64) × (Nat → Int64) × (Nat → Int32) × (Nat → Int32) × (Nat → Int64) × (Nat → Int64) :=
  (if x2 = 17 then (x_let (s_Md_leave mi ml mlo mhi) fun (mi37, ml37) => (if (mi37 9) = 0 then (0, mi37, ml37, mk, mlo, mhi, pk, ps, pl, ph) else (x_let (s_Md_pop mi37 mk mlo mhi pk ps pl ph) fun (mi40, mk40, mlo40, mhi40) => (1, mi40, ml37, mk40, mlo40, mhi40, pk, ps, pl, ph)))) else (1, mi, ml, mk, mlo, mhi, pk, ps, pl, ph))
def bk_ok_Md_goOn_228 (mi : Nat → Int32) (ml : Nat → Int64) (mk : Nat → Int32) (mlo : Nat → Int64) (mhi : Nat → Int64) (pk : Nat → Int32) (ps : Nat → Int32) (pl : Nat → Int64) (ph : Nat → Int64) (a1 : Int32) (x2 : Int32) : Prop :=
  (if x2 = 17 then (x_let (s_Md_leave mi ml mlo mhi) fun (mi37, ml37) => (if (mi37 9) = 0 then True else (k_ok_Md_pop mi37 mk mlo mhi pk ps pl ph ∧ True))) else True)
set_option maxHeartbeats 4000000 in
set_option maxRecDepth 100000 in
theorem cb_Md_goOn_228 {l : Launch} {D : va_G} {cA : Nat → ClassId} {ad : x_I → Nat} (ok : x_ok (x_k D cA ad)) {stp : Nat → Nat → Int32} {psz : Int32} {gk : Nat → Nat → Int32} {gl : Nat → Nat → Int64} {gh : Nat → Nat → Int64} {opn : Nat → Int32} {cki : Nat → Int32} {ckl : Nat → Int64} {mp : Nat → Nat → Int64} {rk : Nat → Int32} {rv : Nat → Int64} {ri : Nat → Int32} {chk : Int32} {mo : Nat → Nat → Int32} {mm : Nat → Int64} {out : Nat → Int64} {p : Program} {e : Env} {s : State} {m : MethodId} {args : Array Value} {below : List Frame} {meth : Method} {c : Code} (C : x_C p s m args c b_Md_goOn 4 R_Md (Cond.code y_Md_goOn b_Md_goOn 4 (Option.some Jvm.ClassFile.FieldType.boolean) :: x_Wd) (x_k D cA ad)) (hr : meth.sig.returnType = (Option.some Jvm.ClassFile.FieldType.boolean)) (hlk : meth.locks = false) (a1 : Int32) (mi : Nat → Int32) (ml : Nat → Int64) (mk : Nat → Int32) (mlo : Nat → Int64) (mhi : Nat → Int64) (pk : Nat → Int32) (ps : Nat → Int32) (pl : Nat → Int64) (ph : Nat → Int64) (x2 : Int32) (hk : bk_ok_Md_goOn_228 mi ml mk mlo mhi pk ps pl ph a1 x2) : x_V p l e { frames := 4, cells := 0, slots := 0, locals := 98 } s m args below meth c (x_k D cA ad) 4 0 0 (x_E below (x_k D cA ad) args s 0 0 (x_F ad cA) (fun q : Int32 × (Nat → Int32) × (Nat → Int64) × (Nat → Int32) × (Nat → Int64) × (Nat → Int64) × (Nat → Int32) × (Nat → Int32) × (Nat → Int64) × (Nat → Int64) => ((some (.int (q.1)), ((stp, psz, gk, gl, gh, opn, cki, ckl, mp, rk, rv, ri, chk), (mo, q.2.1, q.2.2.1, q.2.2.2.1, q.2.2.2.2.1, q.2.2.2.2.2.1, q.2.2.2.2.2.2.1, q.2.2.2.2.2.2.2.1, q.2.2.2.2.2.2.2.2.1, q.2.2.2.2.2.2.2.2.2, mm), out)) : Option Value × x_S)) (bk_Md_goOn_228 mi ml mk mlo mhi pk ps pl ph a1 x2)) (x_F ad cA ((stp, psz, gk, gl, gh, opn, cki, ckl, mp, rk, rv, ri, chk), (mo, mi, ml, mk, mlo, mhi, pk, ps, pl, ph, mm), out)) 228 [(0, (.ref (ad (18, 0)))), (2, (.int x2))] [] := by
  unfold bk_Md_goOn_228
  unfold bk_ok_Md_goOn_228 at hk
  refine x_iload_n 1 C d_Md_goOn_228 rfl rfl ?_
  refine x_bipush (v := 17) C d_Md_goOn_229 (by decide) ?_
  refine x_icmp_eq 236 C d_Md_goOn_231 (by decide) (fun z36 => ?_) (fun z36 => ?_)
  · have hk := x_okt hk z36
    refine x_aload_n 0 C d_Md_goOn_236 rfl rfl ?_
    refine x_cv0 (i := (18, 0)) (F := x_F ad cA) (As := []) (rest := []) C k_Md_leave q_1024 (c_Md_leave ok) rfl rfl rfl (Nat.le_of_ble_eq_true rfl) (Nat.le_of_ble_eq_true rfl) m_18 rfl rfl rfl rfl rfl (Nat.le_of_ble_eq_true rfl) d_Md_goOn_237 ⟨Nat.zero_le _, Nat.zero_le _⟩ ?_
    generalize hq37 : s_Md_leave mi ml mlo mhi = q37 at hk ⊢
    obtain ⟨mi37, ml37⟩ := q37
    refine x_lets ?_
    have hk := x_lete hk
    dsimp only at hk ⊢
    refine x_aload_n 0 C d_Md_goOn_240 rfl rfl ?_
    refine x_get (i := (18, 0)) (v := (.int (mi37 9))) 24 C m_18 rfl rfl i_Md (by decide) (List.mem_cons_of_mem _ q_815) rfl d_Md_goOn_241 ?_
    refine x_if_ne 249 C d_Md_goOn_244 (by decide) (fun z38 => ?_) (fun z38 => ?_)
    · have hk := x_okt hk z38
      refine x_iconst (v := 0) C d_Md_goOn_247 (by decide) ?_
      exact x_zret C hr hlk rfl rfl d_Md_goOn_248
    · have hk := x_okf hk z38
      refine x_aload_n 0 C d_Md_goOn_249 rfl rfl ?_
      have w39 := hk.1
      have hk := hk.2
      refine x_cv0 (i := (18, 0)) (F := x_F ad cA) (As := []) (rest := []) C k_Md_pop q_1007 (c_Md_pop ok w39) rfl rfl rfl (Nat.le_of_ble_eq_true rfl) (Nat.le_of_ble_eq_true rfl) m_18 rfl rfl rfl rfl rfl (Nat.le_of_ble_eq_true rfl) d_Md_goOn_250 ⟨Nat.zero_le _, Nat.zero_le _⟩ ?_
      generalize hq40 : s_Md_pop mi37 mk mlo mhi pk ps pl ph = q40
      obtain ⟨mi40, mk40, mlo40, mhi40⟩ := q40
      refine x_lets ?_
      dsimp only
      refine x_iconst (v := 1) C d_Md_goOn_253 (by decide) ?_
      exact x_zret C hr hlk rfl rfl d_Md_goOn_254
  · have hk := x_okf hk z36
    refine x_iconst (v := 1) C d_Md_goOn_234 (by decide) ?_
    exact x_zret C hr hlk rfl rfl d_Md_goOn_235
def bk_Md_goOn_212 (mo : Nat → Nat → Int32) (mi : Nat → Int32) (ml : Nat → Int64) (mk : Nat → Int32) (mlo : Nat → Int64) (mhi : Nat → Int64) (pk : Nat → Int32) (ps : Nat → Int32) (pl : Nat → Int64) (ph : Nat → Int64) (a1 : Int32) (x2 : Int32) : Int32 × (Nat → Int32) × (Nat → Int64) × (Nat → Int32) × (Nat → Int64) × (Nat → Int64) × (Nat → Int32) × (Nat → Int32) × (Nat → Int64) × (Nat → Int64) :=
  (if x2 = 16 then (x_let (s_Md_callGuess mk mlo mhi (mo 3 a1.toNatClampNeg)) fun (mk35, mlo35, mhi35) => bk_Md_goOn_228 mi ml mk35 mlo35 mhi35 pk ps pl ph a1 x2) else bk_Md_goOn_228 mi ml mk mlo mhi pk ps pl ph a1 x2)
def bk_ok_Md_goOn_212 (mo : Nat → Nat → Int32) (mi : Nat → Int32) (ml : Nat → Int64) (mk : Nat → Int32) (mlo : Nat → Int64) (mhi : Nat → Int64) (pk : Nat → Int32) (ps : Nat → Int32) (pl : Nat → Int64) (ph : Nat → Int64) (a1 : Int32) (x2 : Int32) : Prop :=
  (if x2 = 16 then (vp_in a1 24 ∧ (k_ok_Md_callGuess mk mlo mhi (mo 3 a1.toNatClampNeg) ∧ (x_let (s_Md_callGuess mk mlo mhi (mo 3 a1.toNatClampNeg)) fun (mk35, mlo35, mhi35) => bk_ok_Md_goOn_228 mi ml mk35 mlo35 mhi35 pk ps pl ph a1 x2))) else bk_ok_Md_goOn_228 mi ml mk mlo mhi pk ps pl ph a1 x2)
set_option maxHeartbeats 4000000 in
set_option maxRecDepth 100000 in
theorem cb_Md_goOn_212 {l : Launch} {D : va_G} {cA : Nat → ClassId} {ad : x_I → Nat} (ok : x_ok (x_k D cA ad)) {stp : Nat → Nat → Int32} {psz : Int32} {gk : Nat → Nat → Int32} {gl : Nat → Nat → Int64} {gh : Nat → Nat → Int64} {opn : Nat → Int32} {cki : Nat → Int32} {ckl : Nat → Int64} {mp : Nat → Nat → Int64} {rk : Nat → Int32} {rv : Nat → Int64} {ri : Nat → Int32} {chk : Int32} {mo : Nat → Nat → Int32} {mm : Nat → Int64} {out : Nat → Int64} {p : Program} {e : Env} {s : State} {m : MethodId} {args : Array Value} {below : List Frame} {meth : Method} {c : Code} (C : x_C p s m args c b_Md_goOn 4 R_Md (Cond.code y_Md_goOn b_Md_goOn 4 (Option.some Jvm.ClassFile.FieldType.boolean) :: x_Wd) (x_k D cA ad)) (hr : meth.sig.returnType = (Option.some Jvm.ClassFile.FieldType.boolean)) (hlk : meth.locks = false) (a1 : Int32) (mi : Nat → Int32) (ml : Nat → Int64) (mk : Nat → Int32) (mlo : Nat → Int64) (mhi : Nat → Int64) (pk : Nat → Int32) (ps : Nat → Int32) (pl : Nat → Int64) (ph : Nat → Int64) (x2 : Int32) (hk : bk_ok_Md_goOn_212 mo mi ml mk mlo mhi pk ps pl ph a1 x2) : x_V p l e { frames := 4, cells := 0, slots := 0, locals := 98 } s m args below meth c (x_k D cA ad) 4 0 0 (x_E below (x_k D cA ad) args s 0 0 (x_F ad cA) (fun q : Int32 × (Nat → Int32) × (Nat → Int64) × (Nat → Int32) × (Nat → Int64) × (Nat → Int64) × (Nat → Int32) × (Nat → Int32) × (Nat → Int64) × (Nat → Int64) => ((some (.int (q.1)), ((stp, psz, gk, gl, gh, opn, cki, ckl, mp, rk, rv, ri, chk), (mo, q.2.1, q.2.2.1, q.2.2.2.1, q.2.2.2.2.1, q.2.2.2.2.2.1, q.2.2.2.2.2.2.1, q.2.2.2.2.2.2.2.1, q.2.2.2.2.2.2.2.2.1, q.2.2.2.2.2.2.2.2.2, mm), out)) : Option Value × x_S)) (bk_Md_goOn_212 mo mi ml mk mlo mhi pk ps pl ph a1 x2)) (x_F ad cA ((stp, psz, gk, gl, gh, opn, cki, ckl, mp, rk, rv, ri, chk), (mo, mi, ml, mk, mlo, mhi, pk, ps, pl, ph, mm), out)) 212 [(0, (.ref (ad (18, 0)))), (1, (.int a1)), (2, (.int x2))] [] := by
  unfold bk_Md_goOn_212
  unfold bk_ok_Md_goOn_212 at hk
  refine x_iload_n 2 C d_Md_goOn_212 rfl rfl ?_
  refine x_bipush (v := 16) C d_Md_goOn_213 (by decide) ?_
  refine x_icmp_ne 228 C d_Md_goOn_215 (by decide) (fun z32 => ?_) (fun z32 => ?_)
  · have hk := x_okt hk z32
    refine x_aload_n 0 C d_Md_goOn_218 rfl rfl ?_
    refine x_aload_n 0 C d_Md_goOn_219 rfl rfl ?_
    refine x_get (i := (18, 0)) (v := (.ref (ad (22, 0)))) 3 C m_18 rfl rfl i_Md (by decide) (List.mem_cons_of_mem _ q_794) rfl d_Md_goOn_220 ?_
    refine x_iload_n 1 C d_Md_goOn_223 rfl rfl ?_
    have w33 := hk.1
    have hk := hk.2
    refine x_iald (i := (22, 0)) (g := mo 3) 0 C m_22 rfl rfl w33 d_Md_goOn_224 ?_
    have w34 := hk.1
    have hk := hk.2
    refine x_cv0 (i := (18, 0)) (F := x_F ad cA) (As := [(.int (mo 3 a1.toNatClampNeg))]) (rest := []) C k_Md_callGuess q_1019 (c_Md_callGuess ok (mo 3 a1.toNatClampNeg) w34) rfl rfl rfl (Nat.le_of_ble_eq_true rfl) (Nat.le_of_ble_eq_true rfl) m_18 rfl rfl rfl rfl rfl (Nat.le_of_ble_eq_true rfl) d_Md_goOn_225 ⟨Nat.zero_le _, Nat.zero_le _⟩ ?_
    generalize hq35 : s_Md_callGuess mk mlo mhi (mo 3 a1.toNatClampNeg) = q35 at hk ⊢
    obtain ⟨mk35, mlo35, mhi35⟩ := q35
    refine x_lets ?_
    have hk := x_lete hk
    dsimp only at hk ⊢
    refine x_loc (lv' := [(0, (.ref (ad (18, 0)))), (2, (.int x2))]) [0, 2] rfl ?_
    exact cb_Md_goOn_228 ok C hr hlk a1  mi ml mk35 mlo35 mhi35 pk ps pl ph x2 hk
  · have hk := x_okf hk z32
    refine x_loc (lv' := [(0, (.ref (ad (18, 0)))), (2, (.int x2))]) [0, 2] rfl ?_
    exact cb_Md_goOn_228 ok C hr hlk a1  mi ml mk mlo mhi pk ps pl ph x2 hk
def bk_Md_goOn_201 (mo : Nat → Nat → Int32) (mi : Nat → Int32) (ml : Nat → Int64) (mk : Nat → Int32) (mlo : Nat → Int64) (mhi : Nat → Int64) (pk : Nat → Int32) (ps : Nat → Int32) (pl : Nat → Int64) (ph : Nat → Int64) (a1 : Int32) (x2 : Int32) : Int32 × (Nat → Int32) × (Nat → Int64) × (Nat → Int32) × (Nat → Int64) × (Nat → Int64) × (Nat → Int32) × (Nat → Int32) × (Nat → Int64) × (Nat → Int64) :=
  (if x2 = 15 then (x_let (s_Md_store mo mk mlo mhi a1) fun (mk31, mlo31, mhi31) => bk_Md_goOn_212 mo mi ml mk31 mlo31 mhi31 pk ps pl ph a1 x2) else bk_Md_goOn_212 mo mi ml mk mlo mhi pk ps pl ph a1 x2)
def bk_ok_Md_goOn_201 (mo : Nat → Nat → Int32) (mi : Nat → Int32) (ml : Nat → Int64) (mk : Nat → Int32) (mlo : Nat → Int64) (mhi : Nat → Int64) (pk : Nat → Int32) (ps : Nat → Int32) (pl : Nat → Int64) (ph : Nat → Int64) (a1 : Int32) (x2 : Int32) : Prop :=
  (if x2 = 15 then (k_ok_Md_store mo mk mlo mhi a1 ∧ (x_let (s_Md_store mo mk mlo mhi a1) fun (mk31, mlo31, mhi31) => bk_ok_Md_goOn_212 mo mi ml mk31 mlo31 mhi31 pk ps pl ph a1 x2)) else bk_ok_Md_goOn_212 mo mi ml mk mlo mhi pk ps pl ph a1 x2)
set_option maxHeartbeats 4000000 in
set_option maxRecDepth 100000 in
theorem cb_Md_goOn_201 {l : Launch} {D : va_G} {cA : Nat → ClassId} {ad : x_I → Nat} (ok : x_ok (x_k D cA ad)) {stp : Nat → Nat → Int32} {psz : Int32} {gk : Nat → Nat → Int32} {gl : Nat → Nat → Int64} {gh : Nat → Nat → Int64} {opn : Nat → Int32} {cki : Nat → Int32} {ckl : Nat → Int64} {mp : Nat → Nat → Int64} {rk : Nat → Int32} {rv : Nat → Int64} {ri : Nat → Int32} {chk : Int32} {mo : Nat → Nat → Int32} {mm : Nat → Int64} {out : Nat → Int64} {p : Program} {e : Env} {s : State} {m : MethodId} {args : Array Value} {below : List Frame} {meth : Method} {c : Code} (C : x_C p s m args c b_Md_goOn 4 R_Md (Cond.code y_Md_goOn b_Md_goOn 4 (Option.some Jvm.ClassFile.FieldType.boolean) :: x_Wd) (x_k D cA ad)) (hr : meth.sig.returnType = (Option.some Jvm.ClassFile.FieldType.boolean)) (hlk : meth.locks = false) (a1 : Int32) (mi : Nat → Int32) (ml : Nat → Int64) (mk : Nat → Int32) (mlo : Nat → Int64) (mhi : Nat → Int64) (pk : Nat → Int32) (ps : Nat → Int32) (pl : Nat → Int64) (ph : Nat → Int64) (x2 : Int32) (hk : bk_ok_Md_goOn_201 mo mi ml mk mlo mhi pk ps pl ph a1 x2) : x_V p l e { frames := 4, cells := 0, slots := 0, locals := 98 } s m args below meth c (x_k D cA ad) 4 0 0 (x_E below (x_k D cA ad) args s 0 0 (x_F ad cA) (fun q : Int32 × (Nat → Int32) × (Nat → Int64) × (Nat → Int32) × (Nat → Int64) × (Nat → Int64) × (Nat → Int32) × (Nat → Int32) × (Nat → Int64) × (Nat → Int64) => ((some (.int (q.1)), ((stp, psz, gk, gl, gh, opn, cki, ckl, mp, rk, rv, ri, chk), (mo, q.2.1, q.2.2.1, q.2.2.2.1, q.2.2.2.2.1, q.2.2.2.2.2.1, q.2.2.2.2.2.2.1, q.2.2.2.2.2.2.2.1, q.2.2.2.2.2.2.2.2.1, q.2.2.2.2.2.2.2.2.2, mm), out)) : Option Value × x_S)) (bk_Md_goOn_201 mo mi ml mk mlo mhi pk ps pl ph a1 x2)) (x_F ad cA ((stp, psz, gk, gl, gh, opn, cki, ckl, mp, rk, rv, ri, chk), (mo, mi, ml, mk, mlo, mhi, pk, ps, pl, ph, mm), out)) 201 [(0, (.ref (ad (18, 0)))), (1, (.int a1)), (2, (.int x2))] [] := by
  unfold bk_Md_goOn_201
  unfold bk_ok_Md_goOn_201 at hk
  refine x_iload_n 2 C d_Md_goOn_201 rfl rfl ?_
  refine x_bipush (v := 15) C d_Md_goOn_202 (by decide) ?_
  refine x_icmp_ne 212 C d_Md_goOn_204 (by decide) (fun z29 => ?_) (fun z29 => ?_)
  · have hk := x_okt hk z29
    refine x_aload_n 0 C d_Md_goOn_207 rfl rfl ?_
    refine x_iload_n 1 C d_Md_goOn_208 rfl rfl ?_
    have w30 := hk.1
    have hk := hk.2
    refine x_cv0 (i := (18, 0)) (F := x_F ad cA) (As := [(.int a1)]) (rest := []) C k_Md_store q_1015 (c_Md_store ok a1 w30) rfl rfl rfl (Nat.le_of_ble_eq_true rfl) (Nat.le_of_ble_eq_true rfl) m_18 rfl rfl rfl rfl rfl (Nat.le_of_ble_eq_true rfl) d_Md_goOn_209 ⟨Nat.zero_le _, Nat.zero_le _⟩ ?_
    generalize hq31 : s_Md_store mo mk mlo mhi a1 = q31 at hk ⊢
    obtain ⟨mk31, mlo31, mhi31⟩ := q31
    refine x_lets ?_
    have hk := x_lete hk
    dsimp only at hk ⊢
    refine x_loc (lv' := [(0, (.ref (ad (18, 0)))), (1, (.int a1)), (2, (.int x2))]) [0, 1, 2] rfl ?_
    exact cb_Md_goOn_212 ok C hr hlk a1  mi ml mk31 mlo31 mhi31 pk ps pl ph x2 hk
  · have hk := x_okf hk z29
    refine x_loc (lv' := [(0, (.ref (ad (18, 0)))), (1, (.int a1)), (2, (.int x2))]) [0, 1, 2] rfl ?_
    exact cb_Md_goOn_212 ok C hr hlk a1  mi ml mk mlo mhi pk ps pl ph x2 hk
def bk_Md_goOn_190 (mo : Nat → Nat → Int32) (mi : Nat → Int32) (ml : Nat → Int64) (mk : Nat → Int32) (mlo : Nat → Int64) (mhi : Nat → Int64) (pk : Nat → Int32) (ps : Nat → Int32) (pl : Nat → Int64) (ph : Nat → Int64) (a1 : Int32) (x2 : Int32) : Int32 × (Nat → Int32) × (Nat → Int64) × (Nat → Int32) × (Nat → Int64) × (Nat → Int64) × (Nat → Int32) × (Nat → Int32) × (Nat → Int64) × (Nat → Int64) :=
  (if x2 = 14 then (x_let (s_Md_load mo mk mlo mhi a1) fun (mk28, mlo28, mhi28) => bk_Md_goOn_201 mo mi ml mk28 mlo28 mhi28 pk ps pl ph a1 x2) else bk_Md_goOn_201 mo mi ml mk mlo mhi pk ps pl ph a1 x2)
def bk_ok_Md_goOn_190 (mo : Nat → Nat → Int32) (mi : Nat → Int32) (ml : Nat → Int64) (mk : Nat → Int32) (mlo : Nat → Int64) (mhi : Nat → Int64) (pk : Nat → Int32) (ps : Nat → Int32) (pl : Nat → Int64) (ph : Nat → Int64) (a1 : Int32) (x2 : Int32) : Prop :=
  (if x2 = 14 then (k_ok_Md_load mo mk mlo mhi a1 ∧ (x_let (s_Md_load mo mk mlo mhi a1) fun (mk28, mlo28, mhi28) => bk_ok_Md_goOn_201 mo mi ml mk28 mlo28 mhi28 pk ps pl ph a1 x2)) else bk_ok_Md_goOn_201 mo mi ml mk mlo mhi pk ps pl ph a1 x2)
set_option maxHeartbeats 4000000 in
set_option maxRecDepth 100000 in
theorem cb_Md_goOn_190 {l : Launch} {D : va_G} {cA : Nat → ClassId} {ad : x_I → Nat} (ok : x_ok (x_k D cA ad)) {stp : Nat → Nat → Int32} {psz : Int32} {gk : Nat → Nat → Int32} {gl : Nat → Nat → Int64} {gh : Nat → Nat → Int64} {opn : Nat → Int32} {cki : Nat → Int32} {ckl : Nat → Int64} {mp : Nat → Nat → Int64} {rk : Nat → Int32} {rv : Nat → Int64} {ri : Nat → Int32} {chk : Int32} {mo : Nat → Nat → Int32} {mm : Nat → Int64} {out : Nat → Int64} {p : Program} {e : Env} {s : State} {m : MethodId} {args : Array Value} {below : List Frame} {meth : Method} {c : Code} (C : x_C p s m args c b_Md_goOn 4 R_Md (Cond.code y_Md_goOn b_Md_goOn 4 (Option.some Jvm.ClassFile.FieldType.boolean) :: x_Wd) (x_k D cA ad)) (hr : meth.sig.returnType = (Option.some Jvm.ClassFile.FieldType.boolean)) (hlk : meth.locks = false) (a1 : Int32) (mi : Nat → Int32) (ml : Nat → Int64) (mk : Nat → Int32) (mlo : Nat → Int64) (mhi : Nat → Int64) (pk : Nat → Int32) (ps : Nat → Int32) (pl : Nat → Int64) (ph : Nat → Int64) (x2 : Int32) (hk : bk_ok_Md_goOn_190 mo mi ml mk mlo mhi pk ps pl ph a1 x2) : x_V p l e { frames := 4, cells := 0, slots := 0, locals := 98 } s m args below meth c (x_k D cA ad) 4 0 0 (x_E below (x_k D cA ad) args s 0 0 (x_F ad cA) (fun q : Int32 × (Nat → Int32) × (Nat → Int64) × (Nat → Int32) × (Nat → Int64) × (Nat → Int64) × (Nat → Int32) × (Nat → Int32) × (Nat → Int64) × (Nat → Int64) => ((some (.int (q.1)), ((stp, psz, gk, gl, gh, opn, cki, ckl, mp, rk, rv, ri, chk), (mo, q.2.1, q.2.2.1, q.2.2.2.1, q.2.2.2.2.1, q.2.2.2.2.2.1, q.2.2.2.2.2.2.1, q.2.2.2.2.2.2.2.1, q.2.2.2.2.2.2.2.2.1, q.2.2.2.2.2.2.2.2.2, mm), out)) : Option Value × x_S)) (bk_Md_goOn_190 mo mi ml mk mlo mhi pk ps pl ph a1 x2)) (x_F ad cA ((stp, psz, gk, gl, gh, opn, cki, ckl, mp, rk, rv, ri, chk), (mo, mi, ml, mk, mlo, mhi, pk, ps, pl, ph, mm), out)) 190 [(0, (.ref (ad (18, 0)))), (1, (.int a1)), (2, (.int x2))] [] := by
  unfold bk_Md_goOn_190
  unfold bk_ok_Md_goOn_190 at hk
  refine x_iload_n 2 C d_Md_goOn_190 rfl rfl ?_
  refine x_bipush (v := 14) C d_Md_goOn_191 (by decide) ?_
  refine x_icmp_ne 201 C d_Md_goOn_193 (by decide) (fun z26 => ?_) (fun z26 => ?_)
  · have hk := x_okt hk z26
    refine x_aload_n 0 C d_Md_goOn_196 rfl rfl ?_
    refine x_iload_n 1 C d_Md_goOn_197 rfl rfl ?_
    have w27 := hk.1
    have hk := hk.2
    refine x_cv0 (i := (18, 0)) (F := x_F ad cA) (As := [(.int a1)]) (rest := []) C k_Md_load q_1011 (c_Md_load ok a1 w27) rfl rfl rfl (Nat.le_of_ble_eq_true rfl) (Nat.le_of_ble_eq_true rfl) m_18 rfl rfl rfl rfl rfl (Nat.le_of_ble_eq_true rfl) d_Md_goOn_198 ⟨Nat.zero_le _, Nat.zero_le _⟩ ?_
    generalize hq28 : s_Md_load mo mk mlo mhi a1 = q28 at hk ⊢
    obtain ⟨mk28, mlo28, mhi28⟩ := q28
    refine x_lets ?_
    have hk := x_lete hk
    dsimp only at hk ⊢
    refine x_loc (lv' := [(0, (.ref (ad (18, 0)))), (1, (.int a1)), (2, (.int x2))]) [0, 1, 2] rfl ?_
    exact cb_Md_goOn_201 ok C hr hlk a1  mi ml mk28 mlo28 mhi28 pk ps pl ph x2 hk
  · have hk := x_okf hk z26
    refine x_loc (lv' := [(0, (.ref (ad (18, 0)))), (1, (.int a1)), (2, (.int x2))]) [0, 1, 2] rfl ?_
    exact cb_Md_goOn_201 ok C hr hlk a1  mi ml mk mlo mhi pk ps pl ph x2 hk
def bk_Md_goOn_174 (mo : Nat → Nat → Int32) (mi : Nat → Int32) (ml : Nat → Int64) (mk : Nat → Int32) (mlo : Nat → Int64) (mhi : Nat → Int64) (pk : Nat → Int32) (ps : Nat → Int32) (pl : Nat → Int64) (ph : Nat → Int64) (a1 : Int32) (x2 : Int32) : Int32 × (Nat → Int32) × (Nat → Int64) × (Nat → Int32) × (Nat → Int64) × (Nat → Int64) × (Nat → Int32) × (Nat → Int32) × (Nat → Int64) × (Nat → Int64) :=
  (if x2 = 13 then bk_Md_goOn_190 mo (upd mi 10 (mo 4 a1.toNatClampNeg)) ml mk mlo mhi pk ps pl ph a1 x2 else bk_Md_goOn_190 mo mi ml mk mlo mhi pk ps pl ph a1 x2)
def bk_ok_Md_goOn_174 (mo : Nat → Nat → Int32) (mi : Nat → Int32) (ml : Nat → Int64) (mk : Nat → Int32) (mlo : Nat → Int64) (mhi : Nat → Int64) (pk : Nat → Int32) (ps : Nat → Int32) (pl : Nat → Int64) (ph : Nat → Int64) (a1 : Int32) (x2 : Int32) : Prop :=
  (if x2 = 13 then (vp_in a1 24 ∧ bk_ok_Md_goOn_190 mo (upd mi 10 (mo 4 a1.toNatClampNeg)) ml mk mlo mhi pk ps pl ph a1 x2) else bk_ok_Md_goOn_190 mo mi ml mk mlo mhi pk ps pl ph a1 x2)
set_option maxHeartbeats 4000000 in
set_option maxRecDepth 100000 in
theorem cb_Md_goOn_174 {l : Launch} {D : va_G} {cA : Nat → ClassId} {ad : x_I → Nat} (ok : x_ok (x_k D cA ad)) {stp : Nat → Nat → Int32} {psz : Int32} {gk : Nat → Nat → Int32} {gl : Nat → Nat → Int64} {gh : Nat → Nat → Int64} {opn : Nat → Int32} {cki : Nat → Int32} {ckl : Nat → Int64} {mp : Nat → Nat → Int64} {rk : Nat → Int32} {rv : Nat → Int64} {ri : Nat → Int32} {chk : Int32} {mo : Nat → Nat → Int32} {mm : Nat → Int64} {out : Nat → Int64} {p : Program} {e : Env} {s : State} {m : MethodId} {args : Array Value} {below : List Frame} {meth : Method} {c : Code} (C : x_C p s m args c b_Md_goOn 4 R_Md (Cond.code y_Md_goOn b_Md_goOn 4 (Option.some Jvm.ClassFile.FieldType.boolean) :: x_Wd) (x_k D cA ad)) (hr : meth.sig.returnType = (Option.some Jvm.ClassFile.FieldType.boolean)) (hlk : meth.locks = false) (a1 : Int32) (mi : Nat → Int32) (ml : Nat → Int64) (mk : Nat → Int32) (mlo : Nat → Int64) (mhi : Nat → Int64) (pk : Nat → Int32) (ps : Nat → Int32) (pl : Nat → Int64) (ph : Nat → Int64) (x2 : Int32) (hk : bk_ok_Md_goOn_174 mo mi ml mk mlo mhi pk ps pl ph a1 x2) : x_V p l e { frames := 4, cells := 0, slots := 0, locals := 98 } s m args below meth c (x_k D cA ad) 4 0 0 (x_E below (x_k D cA ad) args s 0 0 (x_F ad cA) (fun q : Int32 × (Nat → Int32) × (Nat → Int64) × (Nat → Int32) × (Nat → Int64) × (Nat → Int64) × (Nat → Int32) × (Nat → Int32) × (Nat → Int64) × (Nat → Int64) => ((some (.int (q.1)), ((stp, psz, gk, gl, gh, opn, cki, ckl, mp, rk, rv, ri, chk), (mo, q.2.1, q.2.2.1, q.2.2.2.1, q.2.2.2.2.1, q.2.2.2.2.2.1, q.2.2.2.2.2.2.1, q.2.2.2.2.2.2.2.1, q.2.2.2.2.2.2.2.2.1, q.2.2.2.2.2.2.2.2.2, mm), out)) : Option Value × x_S)) (bk_Md_goOn_174 mo mi ml mk mlo mhi pk ps pl ph a1 x2)) (x_F ad cA ((stp, psz, gk, gl, gh, opn, cki, ckl, mp, rk, rv, ri, chk), (mo, mi, ml, mk, mlo, mhi, pk, ps, pl, ph, mm), out)) 174 [(0, (.ref (ad (18, 0)))), (1, (.int a1)), (2, (.int x2))] [] := by
  unfold bk_Md_goOn_174
  unfold bk_ok_Md_goOn_174 at hk
  refine x_iload_n 2 C d_Md_goOn_174 rfl rfl ?_
  refine x_bipush (v := 13) C d_Md_goOn_175 (by decide) ?_
  refine x_icmp_ne 190 C d_Md_goOn_177 (by decide) (fun z24 => ?_) (fun z24 => ?_)
  · have hk := x_okt hk z24
    refine x_aload_n 0 C d_Md_goOn_180 rfl rfl ?_
    refine x_aload_n 0 C d_Md_goOn_181 rfl rfl ?_
    refine x_get (i := (18, 0)) (v := (.ref (ad (23, 0)))) 4 C m_18 rfl rfl i_Md (by decide) (List.mem_cons_of_mem _ q_795) rfl d_Md_goOn_182 ?_
    refine x_iload_n 1 C d_Md_goOn_185 rfl rfl ?_
    have w25 := hk.1
    have hk := hk.2
    refine x_iald (i := (23, 0)) (g := mo 4) 0 C m_23 rfl rfl w25 d_Md_goOn_186 ?_
    refine x_put (i := (18, 0)) (f' := x_F ad cA ((stp, psz, gk, gl, gh, opn, cki, ckl, mp, rk, rv, ri, chk), (mo, upd mi 10 (mo 4 a1.toNatClampNeg), ml, mk, mlo, mhi, pk, ps, pl, ph, mm), out)) 25 C m_18 rfl rfl i_Md t_Md_ok n_Md (by decide) (List.mem_cons_of_mem _ q_816) rfl rfl rfl (Nat.le_of_ble_eq_true rfl) d_Md_goOn_187 e_mi10 ?_
    refine x_loc (lv' := [(0, (.ref (ad (18, 0)))), (1, (.int a1)), (2, (.int x2))]) [0, 1, 2] rfl ?_
    exact cb_Md_goOn_190 ok C hr hlk a1  (upd mi 10 (mo 4 a1.toNatClampNeg)) ml mk mlo mhi pk ps pl ph x2 hk
  · have hk := x_okf hk z24
    refine x_loc (lv' := [(0, (.ref (ad (18, 0)))), (1, (.int a1)), (2, (.int x2))]) [0, 1, 2] rfl ?_
    exact cb_Md_goOn_190 ok C hr hlk a1  mi ml mk mlo mhi pk ps pl ph x2 hk
def bk_Md_goOn_157 (mo : Nat → Nat → Int32) (mi : Nat → Int32) (ml : Nat → Int64) (mk : Nat → Int32) (mlo : Nat → Int64) (mhi : Nat → Int64) (pk : Nat → Int32) (ps : Nat → Int32) (pl : Nat → Int64) (ph : Nat → Int64) (a1 : Int32) (x2 : Int32) : Int32 × (Nat → Int32) × (Nat → Int64) × (Nat → Int32) × (Nat → Int64) × (Nat → Int64) × (Nat → Int32) × (Nat → Int32) × (Nat → Int64) × (Nat → Int64) :=
  (if x2 ≤ 9 then bk_Md_goOn_174 mo mi ml mk mlo mhi pk ps pl ph a1 x2 else (if 13 ≤ x2 then bk_Md_goOn_174 mo mi ml mk mlo mhi pk ps pl ph a1 x2 else (x_let (s_Md_branch mo mi mk mlo mhi pk ps pl ph a1) fun (mi43, mk43, mlo43, mhi43, pk43, ps43, pl43, ph43) => bk_Md_goOn_174 mo mi43 ml mk43 mlo43 mhi43 pk43 ps43 pl43 ph43 a1 x2)))
def bk_ok_Md_goOn_157 (mo : Nat → Nat → Int32) (mi : Nat → Int32) (ml : Nat → Int64) (mk : Nat → Int32) (mlo : Nat → Int64) (mhi : Nat → Int64) (pk : Nat → Int32) (ps : Nat → Int32) (pl : Nat → Int64) (ph : Nat → Int64) (a1 : Int32) (x2 : Int32) : Prop :=
  (if x2 ≤ 9 then bk_ok_Md_goOn_174 mo mi ml mk mlo mhi pk ps pl ph a1 x2 else (if 13 ≤ x2 then bk_ok_Md_goOn_174 mo mi ml mk mlo mhi pk ps pl ph a1 x2 else (k_ok_Md_branch mo mi mk mlo mhi pk ps pl ph a1 ∧ (x_let (s_Md_branch mo mi mk mlo mhi pk ps pl ph a1) fun (mi43, mk43, mlo43, mhi43, pk43, ps43, pl43, ph43) => bk_ok_Md_goOn_174 mo mi43 ml mk43 mlo43 mhi43 pk43 ps43 pl43 ph43 a1 x2))))
set_option maxHeartbeats 4000000 in
set_option maxRecDepth 100000 in
theorem cb_Md_goOn_157 {l : Launch} {D : va_G} {cA : Nat → ClassId} {ad : x_I → Nat} (ok : x_ok (x_k D cA ad)) {stp : Nat → Nat → Int32} {psz : Int32} {gk : Nat → Nat → Int32} {gl : Nat → Nat → Int64} {gh : Nat → Nat → Int64} {opn : Nat → Int32} {cki : Nat → Int32} {ckl : Nat → Int64} {mp : Nat → Nat → Int64} {rk : Nat → Int32} {rv : Nat → Int64} {ri : Nat → Int32} {chk : Int32} {mo : Nat → Nat → Int32} {mm : Nat → Int64} {out : Nat → Int64} {p : Program} {e : Env} {s : State} {m : MethodId} {args : Array Value} {below : List Frame} {meth : Method} {c : Code} (C : x_C p s m args c b_Md_goOn 4 R_Md (Cond.code y_Md_goOn b_Md_goOn 4 (Option.some Jvm.ClassFile.FieldType.boolean) :: x_Wd) (x_k D cA ad)) (hr : meth.sig.returnType = (Option.some Jvm.ClassFile.FieldType.boolean)) (hlk : meth.locks = false) (a1 : Int32) (mi : Nat → Int32) (ml : Nat → Int64) (mk : Nat → Int32) (mlo : Nat → Int64) (mhi : Nat → Int64) (pk : Nat → Int32) (ps : Nat → Int32) (pl : Nat → Int64) (ph : Nat → Int64) (x2 : Int32) (hk : bk_ok_Md_goOn_157 mo mi ml mk mlo mhi pk ps pl ph a1 x2) : x_V p l e { frames := 4, cells := 0, slots := 0, locals := 98 } s m args below meth c (x_k D cA ad) 4 0 0 (x_E below (x_k D cA ad) args s 0 0 (x_F ad cA) (fun q : Int32 × (Nat → Int32) × (Nat → Int64) × (Nat → Int32) × (Nat → Int64) × (Nat → Int64) × (Nat → Int32) × (Nat → Int32) × (Nat → Int64) × (Nat → Int64) => ((some (.int (q.1)), ((stp, psz, gk, gl, gh, opn, cki, ckl, mp, rk, rv, ri, chk), (mo, q.2.1, q.2.2.1, q.2.2.2.1, q.2.2.2.2.1, q.2.2.2.2.2.1, q.2.2.2.2.2.2.1, q.2.2.2.2.2.2.2.1, q.2.2.2.2.2.2.2.2.1, q.2.2.2.2.2.2.2.2.2, mm), out)) : Option Value × x_S)) (bk_Md_goOn_157 mo mi ml mk mlo mhi pk ps pl ph a1 x2)) (x_F ad cA ((stp, psz, gk, gl, gh, opn, cki, ckl, mp, rk, rv, ri, chk), (mo, mi, ml, mk, mlo, mhi, pk, ps, pl, ph, mm), out)) 157 [(0, (.ref (ad (18, 0)))), (1, (.int a1)), (2, (.int x2))] [] := by
  unfold bk_Md_goOn_157
  unfold bk_ok_Md_goOn_157 at hk
  refine x_iload_n 2 C d_Md_goOn_157 rfl rfl ?_
  refine x_bipush (v := 9) C d_Md_goOn_158 (by decide) ?_
  refine x_icmp_le 174 C d_Md_goOn_160 (by decide) (fun z23 => ?_) (fun z23 => ?_)
  · have hk := x_okt hk z23
    refine x_loc (lv' := [(0, (.ref (ad (18, 0)))), (1, (.int a1)), (2, (.int x2))]) [0, 1, 2] rfl ?_
    exact cb_Md_goOn_174 ok C hr hlk a1  mi ml mk mlo mhi pk ps pl ph x2 hk
  · have hk := x_okf hk z23
    refine x_iload_n 2 C d_Md_goOn_163 rfl rfl ?_
    refine x_bipush (v := 13) C d_Md_goOn_164 (by decide) ?_
    refine x_icmp_ge 174 C d_Md_goOn_166 (by decide) (fun z41 => ?_) (fun z41 => ?_)
    · have hk := x_okt hk z41
      refine x_loc (lv' := [(0, (.ref (ad (18, 0)))), (1, (.int a1)), (2, (.int x2))]) [0, 1, 2] rfl ?_
      exact cb_Md_goOn_174 ok C hr hlk a1  mi ml mk mlo mhi pk ps pl ph x2 hk
    · have hk := x_okf hk z41
      refine x_aload_n 0 C d_Md_goOn_169 rfl rfl ?_
      refine x_iload_n 1 C d_Md_goOn_170 rfl rfl ?_
      have w42 := hk.1
      have hk := hk.2
      refine x_cv0 (i := (18, 0)) (F := x_F ad cA) (As := [(.int a1)]) (rest := []) C k_Md_branch q_999 (c_Md_branch ok a1 w42) rfl rfl rfl (Nat.le_of_ble_eq_true rfl) (Nat.le_of_ble_eq_true rfl) m_18 rfl rfl rfl rfl rfl (Nat.le_of_ble_eq_true rfl) d_Md_goOn_171 ⟨Nat.zero_le _, Nat.zero_le _⟩ ?_
      generalize hq43 : s_Md_branch mo mi mk mlo mhi pk ps pl ph a1 = q43 at hk ⊢
      obtain ⟨mi43, mk43, mlo43, mhi43, pk43, ps43, pl43, ph43⟩ := q43
      refine x_lets ?_
      have hk := x_lete hk
      dsimp only at hk ⊢
      refine x_loc (lv' := [(0, (.ref (ad (18, 0)))), (1, (.int a1)), (2, (.int x2))]) [0, 1, 2] rfl ?_
      exact cb_Md_goOn_174 ok C hr hlk a1  mi43 ml mk43 mlo43 mhi43 pk43 ps43 pl43 ph43 x2 hk
def bk_Md_goOn_133 (mo : Nat → Nat → Int32) (mi : Nat → Int32) (ml : Nat → Int64) (mk : Nat → Int32) (mlo : Nat → Int64) (mhi : Nat → Int64) (pk : Nat → Int32) (ps : Nat → Int32) (pl : Nat → Int64) (ph : Nat → Int64) (a1 : Int32) (x2 : Int32) (x3 : Int32) : Int32 × (Nat → Int32) × (Nat → Int64) × (Nat → Int32) × (Nat → Int64) × (Nat → Int64) × (Nat → Int32) × (Nat → Int32) × (Nat → Int64) × (Nat → Int64) :=
  (if x2 ≤ 4 then bk_Md_goOn_157 mo mi ml mk mlo mhi pk ps pl ph a1 x2 else (if 10 ≤ x2 then bk_Md_goOn_157 mo mi ml mk mlo mhi pk ps pl ph a1 x2 else (x_let (s_Md_arithmetic mk mlo mhi x2 x3 (Int32.toInt64 (mo 3 a1.toNatClampNeg))) fun (mk47, mlo47, mhi47) => bk_Md_goOn_157 mo mi ml mk47 mlo47 mhi47 pk ps pl ph a1 x2)))
def bk_ok_Md_goOn_133 (mo : Nat → Nat → Int32) (mi : Nat → Int32) (ml : Nat → Int64) (mk : Nat → Int32) (mlo : Nat → Int64) (mhi : Nat → Int64) (pk : Nat → Int32) (ps : Nat → Int32) (pl : Nat → Int64) (ph : Nat → Int64) (a1 : Int32) (x2 : Int32) (x3 : Int32) : Prop :=
  (if x2 ≤ 4 then bk_ok_Md_goOn_157 mo mi ml mk mlo mhi pk ps pl ph a1 x2 else (if 10 ≤ x2 then bk_ok_Md_goOn_157 mo mi ml mk mlo mhi pk ps pl ph a1 x2 else (vp_in a1 24 ∧ (k_ok_Md_arithmetic mk mlo mhi x2 x3 (Int32.toInt64 (mo 3 a1.toNatClampNeg)) ∧ (x_let (s_Md_arithmetic mk mlo mhi x2 x3 (Int32.toInt64 (mo 3 a1.toNatClampNeg))) fun (mk47, mlo47, mhi47) => bk_ok_Md_goOn_157 mo mi ml mk47 mlo47 mhi47 pk ps pl ph a1 x2)))))
set_option maxHeartbeats 4000000 in
set_option maxRecDepth 100000 in
theorem cb_Md_goOn_133 {l : Launch} {D : va_G} {cA : Nat → ClassId} {ad : x_I → Nat} (ok : x_ok (x_k D cA ad)) {stp : Nat → Nat → Int32} {psz : Int32} {gk : Nat → Nat → Int32} {gl : Nat → Nat → Int64} {gh : Nat → Nat → Int64} {opn : Nat → Int32} {cki : Nat → Int32} {ckl : Nat → Int64} {mp : Nat → Nat → Int64} {rk : Nat → Int32} {rv : Nat → Int64} {ri : Nat → Int32} {chk : Int32} {mo : Nat → Nat → Int32} {mm : Nat → Int64} {out : Nat → Int64} {p : Program} {e : Env} {s : State} {m : MethodId} {args : Array Value} {below : List Frame} {meth : Method} {c : Code} (C : x_C p s m args c b_Md_goOn 4 R_Md (Cond.code y_Md_goOn b_Md_goOn 4 (Option.some Jvm.ClassFile.FieldType.boolean) :: x_Wd) (x_k D cA ad)) (hr : meth.sig.returnType = (Option.some Jvm.ClassFile.FieldType.boolean)) (hlk : meth.locks = false) (a1 : Int32) (mi : Nat → Int32) (ml : Nat → Int64) (mk : Nat → Int32) (mlo : Nat → Int64) (mhi : Nat → Int64) (pk : Nat → Int32) (ps : Nat → Int32) (pl : Nat → Int64) (ph : Nat → Int64) (x2 : Int32) (x3 : Int32) (hk : bk_ok_Md_goOn_133 mo mi ml mk mlo mhi pk ps pl ph a1 x2 x3) : x_V p l e { frames := 4, cells := 0, slots := 0, locals := 98 } s m args below meth c (x_k D cA ad) 4 0 0 (x_E below (x_k D cA ad) args s 0 0 (x_F ad cA) (fun q : Int32 × (Nat → Int32) × (Nat → Int64) × (Nat → Int32) × (Nat → Int64) × (Nat → Int64) × (Nat → Int32) × (Nat → Int32) × (Nat → Int64) × (Nat → Int64) => ((some (.int (q.1)), ((stp, psz, gk, gl, gh, opn, cki, ckl, mp, rk, rv, ri, chk), (mo, q.2.1, q.2.2.1, q.2.2.2.1, q.2.2.2.2.1, q.2.2.2.2.2.1, q.2.2.2.2.2.2.1, q.2.2.2.2.2.2.2.1, q.2.2.2.2.2.2.2.2.1, q.2.2.2.2.2.2.2.2.2, mm), out)) : Option Value × x_S)) (bk_Md_goOn_133 mo mi ml mk mlo mhi pk ps pl ph a1 x2 x3)) (x_F ad cA ((stp, psz, gk, gl, gh, opn, cki, ckl, mp, rk, rv, ri, chk), (mo, mi, ml, mk, mlo, mhi, pk, ps, pl, ph, mm), out)) 133 [(0, (.ref (ad (18, 0)))), (1, (.int a1)), (2, (.int x2)), (3, (.int x3))] [] := by
  unfold bk_Md_goOn_133
  unfold bk_ok_Md_goOn_133 at hk
  refine x_iload_n 2 C d_Md_goOn_133 rfl rfl ?_
  refine x_iconst (v := 4) C d_Md_goOn_134 (by decide) ?_
  refine x_icmp_le 157 C d_Md_goOn_135 (by decide) (fun z22 => ?_) (fun z22 => ?_)
  · have hk := x_okt hk z22
    refine x_loc (lv' := [(0, (.ref (ad (18, 0)))), (1, (.int a1)), (2, (.int x2))]) [0, 1, 2] rfl ?_
    exact cb_Md_goOn_157 ok C hr hlk a1  mi ml mk mlo mhi pk ps pl ph x2 hk
  · have hk := x_okf hk z22
    refine x_iload_n 2 C d_Md_goOn_138 rfl rfl ?_
    refine x_bipush (v := 10) C d_Md_goOn_139 (by decide) ?_
    refine x_icmp_ge 157 C d_Md_goOn_141 (by decide) (fun z44 => ?_) (fun z44 => ?_)
    · have hk := x_okt hk z44
      refine x_loc (lv' := [(0, (.ref (ad (18, 0)))), (1, (.int a1)), (2, (.int x2))]) [0, 1, 2] rfl ?_
      exact cb_Md_goOn_157 ok C hr hlk a1  mi ml mk mlo mhi pk ps pl ph x2 hk
    · have hk := x_okf hk z44
      refine x_aload_n 0 C d_Md_goOn_144 rfl rfl ?_
      refine x_iload_n 2 C d_Md_goOn_145 rfl rfl ?_
      refine x_iload_n 3 C d_Md_goOn_146 rfl rfl ?_
      refine x_aload_n 0 C d_Md_goOn_147 rfl rfl ?_
      refine x_get (i := (18, 0)) (v := (.ref (ad (22, 0)))) 3 C m_18 rfl rfl i_Md (by decide) (List.mem_cons_of_mem _ q_794) rfl d_Md_goOn_148 ?_
      refine x_iload_n 1 C d_Md_goOn_151 rfl rfl ?_
      have w45 := hk.1
      have hk := hk.2
      refine x_iald (i := (22, 0)) (g := mo 3) 0 C m_22 rfl rfl w45 d_Md_goOn_152 ?_
      refine x_i2l C d_Md_goOn_153 ?_
      have w46 := hk.1
      have hk := hk.2
      refine x_cv0 (i := (18, 0)) (F := x_F ad cA) (As := [(.int x2), (.int x3), (.long (Int32.toInt64 (mo 3 a1.toNatClampNeg)))]) (rest := []) C k_Md_arithmetic q_984 (c_Md_arithmetic ok x2 x3 (Int32.toInt64 (mo 3 a1.toNatClampNeg)) w46) rfl rfl rfl (Nat.le_of_ble_eq_true rfl) (Nat.le_of_ble_eq_true rfl) m_18 rfl rfl rfl rfl rfl (Nat.le_of_ble_eq_true rfl) d_Md_goOn_154 ⟨Nat.zero_le _, Nat.zero_le _⟩ ?_
      generalize hq47 : s_Md_arithmetic mk mlo mhi x2 x3 (Int32.toInt64 (mo 3 a1.toNatClampNeg)) = q47 at hk ⊢
      obtain ⟨mk47, mlo47, mhi47⟩ := q47
      refine x_lets ?_
      have hk := x_lete hk
      dsimp only at hk ⊢
      refine x_loc (lv' := [(0, (.ref (ad (18, 0)))), (1, (.int a1)), (2, (.int x2))]) [0, 1, 2] rfl ?_
      exact cb_Md_goOn_157 ok C hr hlk a1  mi ml mk47 mlo47 mhi47 pk ps pl ph x2 hk
def bk_Md_goOn_117 (mo : Nat → Nat → Int32) (mi : Nat → Int32) (ml : Nat → Int64) (mk : Nat → Int32) (mlo : Nat → Int64) (mhi : Nat → Int64) (pk : Nat → Int32) (ps : Nat → Int32) (pl : Nat → Int64) (ph : Nat → Int64) (a1 : Int32) (x2 : Int32) (x3 : Int32) : Int32 × (Nat → Int32) × (Nat → Int64) × (Nat → Int32) × (Nat → Int64) × (Nat → Int64) × (Nat → Int32) × (Nat → Int32) × (Nat → Int64) × (Nat → Int64) :=
  (if x2 = 4 then (x_let (s_Md_subtract mk mlo mhi x3 (mo 2 a1.toNatClampNeg)) fun (mk21, mlo21, mhi21) => bk_Md_goOn_133 mo mi ml mk21 mlo21 mhi21 pk ps pl ph a1 x2 x3) else bk_Md_goOn_133 mo mi ml mk mlo mhi pk ps pl ph a1 x2 x3)
def bk_ok_Md_goOn_117 (mo : Nat → Nat → Int32) (mi : Nat → Int32) (ml : Nat → Int64) (mk : Nat → Int32) (mlo : Nat → Int64) (mhi : Nat → Int64) (pk : Nat → Int32) (ps : Nat → Int32) (pl : Nat → Int64) (ph : Nat → Int64) (a1 : Int32) (x2 : Int32) (x3 : Int32) : Prop :=
  (if x2 = 4 then (vp_in a1 24 ∧ (k_ok_Md_subtract mk mlo mhi x3 (mo 2 a1.toNatClampNeg) ∧ (x_let (s_Md_subtract mk mlo mhi x3 (mo 2 a1.toNatClampNeg)) fun (mk21, mlo21, mhi21) => bk_ok_Md_goOn_133 mo mi ml mk21 mlo21 mhi21 pk ps pl ph a1 x2 x3))) else bk_ok_Md_goOn_133 mo mi ml mk mlo mhi pk ps pl ph a1 x2 x3)
set_option maxHeartbeats 4000000 in
set_option maxRecDepth 100000 in
theorem cb_Md_goOn_117 {l : Launch} {D : va_G} {cA : Nat → ClassId} {ad : x_I → Nat} (ok : x_ok (x_k D cA ad)) {stp : Nat → Nat → Int32} {psz : Int32} {gk : Nat → Nat → Int32} {gl : Nat → Nat → Int64} {gh : Nat → Nat → Int64} {opn : Nat → Int32} {cki : Nat → Int32} {ckl : Nat → Int64} {mp : Nat → Nat → Int64} {rk : Nat → Int32} {rv : Nat → Int64} {ri : Nat → Int32} {chk : Int32} {mo : Nat → Nat → Int32} {mm : Nat → Int64} {out : Nat → Int64} {p : Program} {e : Env} {s : State} {m : MethodId} {args : Array Value} {below : List Frame} {meth : Method} {c : Code} (C : x_C p s m args c b_Md_goOn 4 R_Md (Cond.code y_Md_goOn b_Md_goOn 4 (Option.some Jvm.ClassFile.FieldType.boolean) :: x_Wd) (x_k D cA ad)) (hr : meth.sig.returnType = (Option.some Jvm.ClassFile.FieldType.boolean)) (hlk : meth.locks = false) (a1 : Int32) (mi : Nat → Int32) (ml : Nat → Int64) (mk : Nat → Int32) (mlo : Nat → Int64) (mhi : Nat → Int64) (pk : Nat → Int32) (ps : Nat → Int32) (pl : Nat → Int64) (ph : Nat → Int64) (x2 : Int32) (x3 : Int32) (hk : bk_ok_Md_goOn_117 mo mi ml mk mlo mhi pk ps pl ph a1 x2 x3) : x_V p l e { frames := 4, cells := 0, slots := 0, locals := 98 } s m args below meth c (x_k D cA ad) 4 0 0 (x_E below (x_k D cA ad) args s 0 0 (x_F ad cA) (fun q : Int32 × (Nat → Int32) × (Nat → Int64) × (Nat → Int32) × (Nat → Int64) × (Nat → Int64) × (Nat → Int32) × (Nat → Int32) × (Nat → Int64) × (Nat → Int64) => ((some (.int (q.1)), ((stp, psz, gk, gl, gh, opn, cki, ckl, mp, rk, rv, ri, chk), (mo, q.2.1, q.2.2.1, q.2.2.2.1, q.2.2.2.2.1, q.2.2.2.2.2.1, q.2.2.2.2.2.2.1, q.2.2.2.2.2.2.2.1, q.2.2.2.2.2.2.2.2.1, q.2.2.2.2.2.2.2.2.2, mm), out)) : Option Value × x_S)) (bk_Md_goOn_117 mo mi ml mk mlo mhi pk ps pl ph a1 x2 x3)) (x_F ad cA ((stp, psz, gk, gl, gh, opn, cki, ckl, mp, rk, rv, ri, chk), (mo, mi, ml, mk, mlo, mhi, pk, ps, pl, ph, mm), out)) 117 [(0, (.ref (ad (18, 0)))), (1, (.int a1)), (2, (.int x2)), (3, (.int x3))] [] := by
  unfold bk_Md_goOn_117
  unfold bk_ok_Md_goOn_117 at hk
  refine x_iload_n 2 C d_Md_goOn_117 rfl rfl ?_
  refine x_iconst (v := 4) C d_Md_goOn_118 (by decide) ?_
  refine x_icmp_ne 133 C d_Md_goOn_119 (by decide) (fun z18 => ?_) (fun z18 => ?_)
  · have hk := x_okt hk z18
    refine x_aload_n 0 C d_Md_goOn_122 rfl rfl ?_
    refine x_iload_n 3 C d_Md_goOn_123 rfl rfl ?_
    refine x_aload_n 0 C d_Md_goOn_124 rfl rfl ?_
    refine x_get (i := (18, 0)) (v := (.ref (ad (21, 0)))) 2 C m_18 rfl rfl i_Md (by decide) (List.mem_cons_of_mem _ q_793) rfl d_Md_goOn_125 ?_
    refine x_iload_n 1 C d_Md_goOn_128 rfl rfl ?_
    have w19 := hk.1
    have hk := hk.2
    refine x_iald (i := (21, 0)) (g := mo 2) 0 C m_21 rfl rfl w19 d_Md_goOn_129 ?_
    have w20 := hk.1
    have hk := hk.2
    refine x_cv0 (i := (18, 0)) (F := x_F ad cA) (As := [(.int x3), (.int (mo 2 a1.toNatClampNeg))]) (rest := []) C k_Md_subtract q_980 (c_Md_subtract ok x3 (mo 2 a1.toNatClampNeg) w20) rfl rfl rfl (Nat.le_of_ble_eq_true rfl) (Nat.le_of_ble_eq_true rfl) m_18 rfl rfl rfl rfl rfl (Nat.le_of_ble_eq_true rfl) d_Md_goOn_130 ⟨Nat.zero_le _, Nat.zero_le _⟩ ?_
    generalize hq21 : s_Md_subtract mk mlo mhi x3 (mo 2 a1.toNatClampNeg) = q21 at hk ⊢
    obtain ⟨mk21, mlo21, mhi21⟩ := q21
    refine x_lets ?_
    have hk := x_lete hk
    dsimp only at hk ⊢
    refine x_loc (lv' := [(0, (.ref (ad (18, 0)))), (1, (.int a1)), (2, (.int x2)), (3, (.int x3))]) [0, 1, 2, 3] rfl ?_
    exact cb_Md_goOn_133 ok C hr hlk a1  mi ml mk21 mlo21 mhi21 pk ps pl ph x2 x3 hk
  · have hk := x_okf hk z18
    refine x_loc (lv' := [(0, (.ref (ad (18, 0)))), (1, (.int a1)), (2, (.int x2)), (3, (.int x3))]) [0, 1, 2, 3] rfl ?_
    exact cb_Md_goOn_133 ok C hr hlk a1  mi ml mk mlo mhi pk ps pl ph x2 x3 hk
def bk_Md_goOn_85 (mo : Nat → Nat → Int32) (mi : Nat → Int32) (ml : Nat → Int64) (mk : Nat → Int32) (mlo : Nat → Int64) (mhi : Nat → Int64) (pk : Nat → Int32) (ps : Nat → Int32) (pl : Nat → Int64) (ph : Nat → Int64) (a1 : Int32) (x2 : Int32) (x3 : Int32) : Int32 × (Nat → Int32) × (Nat → Int64) × (Nat → Int32) × (Nat → Int64) × (Nat → Int64) × (Nat → Int32) × (Nat → Int32) × (Nat → Int64) × (Nat → Int64) :=
  (if x2 = 3 then (x_let (s_Md_move mk mlo mhi x3 (mlo ((mo 2 a1.toNatClampNeg).toNatClampNeg)) (mhi ((mo 2 a1.toNatClampNeg).toNatClampNeg))) fun (mk17, mlo17, mhi17) => bk_Md_goOn_117 mo mi ml mk17 mlo17 mhi17 pk ps pl ph a1 x2 x3) else bk_Md_goOn_117 mo mi ml mk mlo mhi pk ps pl ph a1 x2 x3)
def bk_ok_Md_goOn_85 (mo : Nat → Nat → Int32) (mi : Nat → Int32) (ml : Nat → Int64) (mk : Nat → Int32) (mlo : Nat → Int64) (mhi : Nat → Int64) (pk : Nat → Int32) (ps : Nat → Int32) (pl : Nat → Int64) (ph : Nat → Int64) (a1 : Int32) (x2 : Int32) (x3 : Int32) : Prop :=
  (if x2 = 3 then (vp_in a1 24 ∧ (vp_in (mo 2 a1.toNatClampNeg) 12 ∧ (k_ok_Md_move mk mlo mhi x3 (mlo ((mo 2 a1.toNatClampNeg).toNatClampNeg)) (mhi ((mo 2 a1.toNatClampNeg).toNatClampNeg)) ∧ (x_let (s_Md_move mk mlo mhi x3 (mlo ((mo 2 a1.toNatClampNeg).toNatClampNeg)) (mhi ((mo 2 a1.toNatClampNeg).toNatClampNeg))) fun (mk17, mlo17, mhi17) => bk_ok_Md_goOn_117 mo mi ml mk17 mlo17 mhi17 pk ps pl ph a1 x2 x3)))) else bk_ok_Md_goOn_117 mo mi ml mk mlo mhi pk ps pl ph a1 x2 x3)
set_option maxHeartbeats 4000000 in
set_option maxRecDepth 100000 in
theorem cb_Md_goOn_85 {l : Launch} {D : va_G} {cA : Nat → ClassId} {ad : x_I → Nat} (ok : x_ok (x_k D cA ad)) {stp : Nat → Nat → Int32} {psz : Int32} {gk : Nat → Nat → Int32} {gl : Nat → Nat → Int64} {gh : Nat → Nat → Int64} {opn : Nat → Int32} {cki : Nat → Int32} {ckl : Nat → Int64} {mp : Nat → Nat → Int64} {rk : Nat → Int32} {rv : Nat → Int64} {ri : Nat → Int32} {chk : Int32} {mo : Nat → Nat → Int32} {mm : Nat → Int64} {out : Nat → Int64} {p : Program} {e : Env} {s : State} {m : MethodId} {args : Array Value} {below : List Frame} {meth : Method} {c : Code} (C : x_C p s m args c b_Md_goOn 4 R_Md (Cond.code y_Md_goOn b_Md_goOn 4 (Option.some Jvm.ClassFile.FieldType.boolean) :: x_Wd) (x_k D cA ad)) (hr : meth.sig.returnType = (Option.some Jvm.ClassFile.FieldType.boolean)) (hlk : meth.locks = false) (a1 : Int32) (mi : Nat → Int32) (ml : Nat → Int64) (mk : Nat → Int32) (mlo : Nat → Int64) (mhi : Nat → Int64) (pk : Nat → Int32) (ps : Nat → Int32) (pl : Nat → Int64) (ph : Nat → Int64) (x2 : Int32) (x3 : Int32) (hk : bk_ok_Md_goOn_85 mo mi ml mk mlo mhi pk ps pl ph a1 x2 x3) : x_V p l e { frames := 4, cells := 0, slots := 0, locals := 98 } s m args below meth c (x_k D cA ad) 4 0 0 (x_E below (x_k D cA ad) args s 0 0 (x_F ad cA) (fun q : Int32 × (Nat → Int32) × (Nat → Int64) × (Nat → Int32) × (Nat → Int64) × (Nat → Int64) × (Nat → Int32) × (Nat → Int32) × (Nat → Int64) × (Nat → Int64) => ((some (.int (q.1)), ((stp, psz, gk, gl, gh, opn, cki, ckl, mp, rk, rv, ri, chk), (mo, q.2.1, q.2.2.1, q.2.2.2.1, q.2.2.2.2.1, q.2.2.2.2.2.1, q.2.2.2.2.2.2.1, q.2.2.2.2.2.2.2.1, q.2.2.2.2.2.2.2.2.1, q.2.2.2.2.2.2.2.2.2, mm), out)) : Option Value × x_S)) (bk_Md_goOn_85 mo mi ml mk mlo mhi pk ps pl ph a1 x2 x3)) (x_F ad cA ((stp, psz, gk, gl, gh, opn, cki, ckl, mp, rk, rv, ri, chk), (mo, mi, ml, mk, mlo, mhi, pk, ps, pl, ph, mm), out)) 85 [(0, (.ref (ad (18, 0)))), (1, (.int a1)), (2, (.int x2)), (3, (.int x3))] [] := by
  unfold bk_Md_goOn_85
  unfold bk_ok_Md_goOn_85 at hk
  refine x_iload_n 2 C d_Md_goOn_85 rfl rfl ?_
  refine x_iconst (v := 3) C d_Md_goOn_86 (by decide) ?_
  refine x_icmp_ne 117 C d_Md_goOn_87 (by decide) (fun z13 => ?_) (fun z13 => ?_)
  · have hk := x_okt hk z13
    refine x_aload_n 0 C d_Md_goOn_90 rfl rfl ?_
    refine x_iload_n 3 C d_Md_goOn_91 rfl rfl ?_
    refine x_aload_n 0 C d_Md_goOn_92 rfl rfl ?_
    refine x_get (i := (18, 0)) (v := (.ref (ad (25, 0)))) 17 C m_18 rfl rfl i_Md (by decide) (List.mem_cons_of_mem _ q_808) rfl d_Md_goOn_93 ?_
    refine x_aload_n 0 C d_Md_goOn_96 rfl rfl ?_
    refine x_get (i := (18, 0)) (v := (.ref (ad (21, 0)))) 2 C m_18 rfl rfl i_Md (by decide) (List.mem_cons_of_mem _ q_793) rfl d_Md_goOn_97 ?_
    refine x_iload_n 1 C d_Md_goOn_100 rfl rfl ?_
    have w14 := hk.1
    have hk := hk.2
    refine x_iald (i := (21, 0)) (g := mo 2) 0 C m_21 rfl rfl w14 d_Md_goOn_101 ?_
    have w15 := hk.1
    have hk := hk.2
    refine x_lald (i := (25, 0)) (g := mlo) 1 C m_25 rfl rfl w15 d_Md_goOn_102 ?_
    refine x_aload_n 0 C d_Md_goOn_103 rfl rfl ?_
    refine x_get (i := (18, 0)) (v := (.ref (ad (26, 0)))) 18 C m_18 rfl rfl i_Md (by decide) (List.mem_cons_of_mem _ q_809) rfl d_Md_goOn_104 ?_
    refine x_aload_n 0 C d_Md_goOn_107 rfl rfl ?_
    refine x_get (i := (18, 0)) (v := (.ref (ad (21, 0)))) 2 C m_18 rfl rfl i_Md (by decide) (List.mem_cons_of_mem _ q_793) rfl d_Md_goOn_108 ?_
    refine x_iload_n 1 C d_Md_goOn_111 rfl rfl ?_
    refine x_iald (i := (21, 0)) (g := mo 2) 0 C m_21 rfl rfl w14 d_Md_goOn_112 ?_
    refine x_lald (i := (26, 0)) (g := mhi) 1 C m_26 rfl rfl w15 d_Md_goOn_113 ?_
    have w16 := hk.1
    have hk := hk.2
    refine x_cv0 (i := (18, 0)) (F := x_F ad cA) (As := [(.int x3), (.long (mlo ((mo 2 a1.toNatClampNeg).toNatClampNeg))), (.long (mhi ((mo 2 a1.toNatClampNeg).toNatClampNeg)))]) (rest := []) C k_Md_move q_976 (c_Md_move ok x3 (mlo ((mo 2 a1.toNatClampNeg).toNatClampNeg)) (mhi ((mo 2 a1.toNatClampNeg).toNatClampNeg)) w16) rfl rfl rfl (Nat.le_of_ble_eq_true rfl) (Nat.le_of_ble_eq_true rfl) m_18 rfl rfl rfl rfl rfl (Nat.le_of_ble_eq_true rfl) d_Md_goOn_114 ⟨Nat.zero_le _, Nat.zero_le _⟩ ?_
    generalize hq17 : s_Md_move mk mlo mhi x3 (mlo ((mo 2 a1.toNatClampNeg).toNatClampNeg)) (mhi ((mo 2 a1.toNatClampNeg).toNatClampNeg)) = q17 at hk ⊢
    obtain ⟨mk17, mlo17, mhi17⟩ := q17
    refine x_lets ?_
    have hk := x_lete hk
    dsimp only at hk ⊢
    refine x_loc (lv' := [(0, (.ref (ad (18, 0)))), (1, (.int a1)), (2, (.int x2)), (3, (.int x3))]) [0, 1, 2, 3] rfl ?_
    exact cb_Md_goOn_117 ok C hr hlk a1  mi ml mk17 mlo17 mhi17 pk ps pl ph x2 x3 hk
  · have hk := x_okf hk z13
    refine x_loc (lv' := [(0, (.ref (ad (18, 0)))), (1, (.int a1)), (2, (.int x2)), (3, (.int x3))]) [0, 1, 2, 3] rfl ?_
    exact cb_Md_goOn_117 ok C hr hlk a1  mi ml mk mlo mhi pk ps pl ph x2 x3 hk
def bk_Md_goOn_61 (mo : Nat → Nat → Int32) (mi : Nat → Int32) (ml : Nat → Int64) (mk : Nat → Int32) (mlo : Nat → Int64) (mhi : Nat → Int64) (pk : Nat → Int32) (ps : Nat → Int32) (pl : Nat → Int64) (ph : Nat → Int64) (a1 : Int32) (x2 : Int32) (x3 : Int32) : Int32 × (Nat → Int32) × (Nat → Int64) × (Nat → Int32) × (Nat → Int64) × (Nat → Int64) × (Nat → Int32) × (Nat → Int32) × (Nat → Int64) × (Nat → Int64) :=
  (if x2 = 2 then (x_let (s_Md_move mk mlo mhi x3 (Int32.toInt64 (mo 3 a1.toNatClampNeg)) (Int32.toInt64 (mo 3 a1.toNatClampNeg))) fun (mk12, mlo12, mhi12) => bk_Md_goOn_85 mo mi ml mk12 mlo12 mhi12 pk ps pl ph a1 x2 x3) else bk_Md_goOn_85 mo mi ml mk mlo mhi pk ps pl ph a1 x2 x3)
def bk_ok_Md_goOn_61 (mo : Nat → Nat → Int32) (mi : Nat → Int32) (ml : Nat → Int64) (mk : Nat → Int32) (mlo : Nat → Int64) (mhi : Nat → Int64) (pk : Nat → Int32) (ps : Nat → Int32) (pl : Nat → Int64) (ph : Nat → Int64) (a1 : Int32) (x2 : Int32) (x3 : Int32) : Prop :=
  (if x2 = 2 then (vp_in a1 24 ∧ (k_ok_Md_move mk mlo mhi x3 (Int32.toInt64 (mo 3 a1.toNatClampNeg)) (Int32.toInt64 (mo 3 a1.toNatClampNeg)) ∧ (x_let (s_Md_move mk mlo mhi x3 (Int32.toInt64 (mo 3 a1.toNatClampNeg)) (Int32.toInt64 (mo 3 a1.toNatClampNeg))) fun (mk12, mlo12, mhi12) => bk_ok_Md_goOn_85 mo mi ml mk12 mlo12 mhi12 pk ps pl ph a1 x2 x3))) else bk_ok_Md_goOn_85 mo mi ml mk mlo mhi pk ps pl ph a1 x2 x3)
set_option maxHeartbeats 4000000 in
set_option maxRecDepth 100000 in
theorem cb_Md_goOn_61 {l : Launch} {D : va_G} {cA : Nat → ClassId} {ad : x_I → Nat} (ok : x_ok (x_k D cA ad)) {stp : Nat → Nat → Int32} {psz : Int32} {gk : Nat → Nat → Int32} {gl : Nat → Nat → Int64} {gh : Nat → Nat → Int64} {opn : Nat → Int32} {cki : Nat → Int32} {ckl : Nat → Int64} {mp : Nat → Nat → Int64} {rk : Nat → Int32} {rv : Nat → Int64} {ri : Nat → Int32} {chk : Int32} {mo : Nat → Nat → Int32} {mm : Nat → Int64} {out : Nat → Int64} {p : Program} {e : Env} {s : State} {m : MethodId} {args : Array Value} {below : List Frame} {meth : Method} {c : Code} (C : x_C p s m args c b_Md_goOn 4 R_Md (Cond.code y_Md_goOn b_Md_goOn 4 (Option.some Jvm.ClassFile.FieldType.boolean) :: x_Wd) (x_k D cA ad)) (hr : meth.sig.returnType = (Option.some Jvm.ClassFile.FieldType.boolean)) (hlk : meth.locks = false) (a1 : Int32) (mi : Nat → Int32) (ml : Nat → Int64) (mk : Nat → Int32) (mlo : Nat → Int64) (mhi : Nat → Int64) (pk : Nat → Int32) (ps : Nat → Int32) (pl : Nat → Int64) (ph : Nat → Int64) (x2 : Int32) (x3 : Int32) (hk : bk_ok_Md_goOn_61 mo mi ml mk mlo mhi pk ps pl ph a1 x2 x3) : x_V p l e { frames := 4, cells := 0, slots := 0, locals := 98 } s m args below meth c (x_k D cA ad) 4 0 0 (x_E below (x_k D cA ad) args s 0 0 (x_F ad cA) (fun q : Int32 × (Nat → Int32) × (Nat → Int64) × (Nat → Int32) × (Nat → Int64) × (Nat → Int64) × (Nat → Int32) × (Nat → Int32) × (Nat → Int64) × (Nat → Int64) => ((some (.int (q.1)), ((stp, psz, gk, gl, gh, opn, cki, ckl, mp, rk, rv, ri, chk), (mo, q.2.1, q.2.2.1, q.2.2.2.1, q.2.2.2.2.1, q.2.2.2.2.2.1, q.2.2.2.2.2.2.1, q.2.2.2.2.2.2.2.1, q.2.2.2.2.2.2.2.2.1, q.2.2.2.2.2.2.2.2.2, mm), out)) : Option Value × x_S)) (bk_Md_goOn_61 mo mi ml mk mlo mhi pk ps pl ph a1 x2 x3)) (x_F ad cA ((stp, psz, gk, gl, gh, opn, cki, ckl, mp, rk, rv, ri, chk), (mo, mi, ml, mk, mlo, mhi, pk, ps, pl, ph, mm), out)) 61 [(0, (.ref (ad (18, 0)))), (1, (.int a1)), (2, (.int x2)), (3, (.int x3))] [] := by
  unfold bk_Md_goOn_61
  unfold bk_ok_Md_goOn_61 at hk
  refine x_iload_n 2 C d_Md_goOn_61 rfl rfl ?_
  refine x_iconst (v := 2) C d_Md_goOn_62 (by decide) ?_
  refine x_icmp_ne 85 C d_Md_goOn_63 (by decide) (fun z9 => ?_) (fun z9 => ?_)
  · have hk := x_okt hk z9
    refine x_aload_n 0 C d_Md_goOn_66 rfl rfl ?_
    refine x_iload_n 3 C d_Md_goOn_67 rfl rfl ?_
    refine x_aload_n 0 C d_Md_goOn_68 rfl rfl ?_
    refine x_get (i := (18, 0)) (v := (.ref (ad (22, 0)))) 3 C m_18 rfl rfl i_Md (by decide) (List.mem_cons_of_mem _ q_794) rfl d_Md_goOn_69 ?_
    refine x_iload_n 1 C d_Md_goOn_72 rfl rfl ?_
    have w10 := hk.1
    have hk := hk.2
    refine x_iald (i := (22, 0)) (g := mo 3) 0 C m_22 rfl rfl w10 d_Md_goOn_73 ?_
    refine x_i2l C d_Md_goOn_74 ?_
    refine x_aload_n 0 C d_Md_goOn_75 rfl rfl ?_
    refine x_get (i := (18, 0)) (v := (.ref (ad (22, 0)))) 3 C m_18 rfl rfl i_Md (by decide) (List.mem_cons_of_mem _ q_794) rfl d_Md_goOn_76 ?_
    refine x_iload_n 1 C d_Md_goOn_79 rfl rfl ?_
    refine x_iald (i := (22, 0)) (g := mo 3) 0 C m_22 rfl rfl w10 d_Md_goOn_80 ?_
    refine x_i2l C d_Md_goOn_81 ?_
    have w11 := hk.1
    have hk := hk.2
    refine x_cv0 (i := (18, 0)) (F := x_F ad cA) (As := [(.int x3), (.long (Int32.toInt64 (mo 3 a1.toNatClampNeg))), (.long (Int32.toInt64 (mo 3 a1.toNatClampNeg)))]) (rest := []) C k_Md_move q_976 (c_Md_move ok x3 (Int32.toInt64 (mo 3 a1.toNatClampNeg)) (Int32.toInt64 (mo 3 a1.toNatClampNeg)) w11) rfl rfl rfl (Nat.le_of_ble_eq_true rfl) (Nat.le_of_ble_eq_true rfl) m_18 rfl rfl rfl rfl rfl (Nat.le_of_ble_eq_true rfl) d_Md_goOn_82 ⟨Nat.zero_le _, Nat.zero_le _⟩ ?_
    generalize hq12 : s_Md_move mk mlo mhi x3 (Int32.toInt64 (mo 3 a1.toNatClampNeg)) (Int32.toInt64 (mo 3 a1.toNatClampNeg)) = q12 at hk ⊢
    obtain ⟨mk12, mlo12, mhi12⟩ := q12
    refine x_lets ?_
    have hk := x_lete hk
    dsimp only at hk ⊢
    refine x_loc (lv' := [(0, (.ref (ad (18, 0)))), (1, (.int a1)), (2, (.int x2)), (3, (.int x3))]) [0, 1, 2, 3] rfl ?_
    exact cb_Md_goOn_85 ok C hr hlk a1  mi ml mk12 mlo12 mhi12 pk ps pl ph x2 x3 hk
  · have hk := x_okf hk z9
    refine x_loc (lv' := [(0, (.ref (ad (18, 0)))), (1, (.int a1)), (2, (.int x2)), (3, (.int x3))]) [0, 1, 2, 3] rfl ?_
    exact cb_Md_goOn_85 ok C hr hlk a1  mi ml mk mlo mhi pk ps pl ph x2 x3 hk
def bk_Md_goOn_45 (mo : Nat → Nat → Int32) (mi : Nat → Int32) (ml : Nat → Int64) (mk : Nat → Int32) (mlo : Nat → Int64) (mhi : Nat → Int64) (pk : Nat → Int32) (ps : Nat → Int32) (pl : Nat → Int64) (ph : Nat → Int64) (a1 : Int32) (x2 : Int32) (x3 : Int32) : Int32 × (Nat → Int32) × (Nat → Int64) × (Nat → Int32) × (Nat → Int64) × (Nat → Int64) × (Nat → Int32) × (Nat → Int32) × (Nat → Int64) × (Nat → Int64) :=
  (if x2 = 1 then (x_let (s_Md_copy mk mlo mhi (mo 2 a1.toNatClampNeg) x3) fun (mk8, mlo8, mhi8) => bk_Md_goOn_61 mo mi ml mk8 mlo8 mhi8 pk ps pl ph a1 x2 x3) else bk_Md_goOn_61 mo mi ml mk mlo mhi pk ps pl ph a1 x2 x3)
def bk_ok_Md_goOn_45 (mo : Nat → Nat → Int32) (mi : Nat → Int32) (ml : Nat → Int64) (mk : Nat → Int32) (mlo : Nat → Int64) (mhi : Nat → Int64) (pk : Nat → Int32) (ps : Nat → Int32) (pl : Nat → Int64) (ph : Nat → Int64) (a1 : Int32) (x2 : Int32) (x3 : Int32) : Prop :=
  (if x2 = 1 then (vp_in a1 24 ∧ (k_ok_Md_copy mk mlo mhi (mo 2 a1.toNatClampNeg) x3 ∧ (x_let (s_Md_copy mk mlo mhi (mo 2 a1.toNatClampNeg) x3) fun (mk8, mlo8, mhi8) => bk_ok_Md_goOn_61 mo mi ml mk8 mlo8 mhi8 pk ps pl ph a1 x2 x3))) else bk_ok_Md_goOn_61 mo mi ml mk mlo mhi pk ps pl ph a1 x2 x3)
set_option maxHeartbeats 4000000 in
set_option maxRecDepth 100000 in
theorem cb_Md_goOn_45 {l : Launch} {D : va_G} {cA : Nat → ClassId} {ad : x_I → Nat} (ok : x_ok (x_k D cA ad)) {stp : Nat → Nat → Int32} {psz : Int32} {gk : Nat → Nat → Int32} {gl : Nat → Nat → Int64} {gh : Nat → Nat → Int64} {opn : Nat → Int32} {cki : Nat → Int32} {ckl : Nat → Int64} {mp : Nat → Nat → Int64} {rk : Nat → Int32} {rv : Nat → Int64} {ri : Nat → Int32} {chk : Int32} {mo : Nat → Nat → Int32} {mm : Nat → Int64} {out : Nat → Int64} {p : Program} {e : Env} {s : State} {m : MethodId} {args : Array Value} {below : List Frame} {meth : Method} {c : Code} (C : x_C p s m args c b_Md_goOn 4 R_Md (Cond.code y_Md_goOn b_Md_goOn 4 (Option.some Jvm.ClassFile.FieldType.boolean) :: x_Wd) (x_k D cA ad)) (hr : meth.sig.returnType = (Option.some Jvm.ClassFile.FieldType.boolean)) (hlk : meth.locks = false) (a1 : Int32) (mi : Nat → Int32) (ml : Nat → Int64) (mk : Nat → Int32) (mlo : Nat → Int64) (mhi : Nat → Int64) (pk : Nat → Int32) (ps : Nat → Int32) (pl : Nat → Int64) (ph : Nat → Int64) (x2 : Int32) (x3 : Int32) (hk : bk_ok_Md_goOn_45 mo mi ml mk mlo mhi pk ps pl ph a1 x2 x3) : x_V p l e { frames := 4, cells := 0, slots := 0, locals := 98 } s m args below meth c (x_k D cA ad) 4 0 0 (x_E below (x_k D cA ad) args s 0 0 (x_F ad cA) (fun q : Int32 × (Nat → Int32) × (Nat → Int64) × (Nat → Int32) × (Nat → Int64) × (Nat → Int64) × (Nat → Int32) × (Nat → Int32) × (Nat → Int64) × (Nat → Int64) => ((some (.int (q.1)), ((stp, psz, gk, gl, gh, opn, cki, ckl, mp, rk, rv, ri, chk), (mo, q.2.1, q.2.2.1, q.2.2.2.1, q.2.2.2.2.1, q.2.2.2.2.2.1, q.2.2.2.2.2.2.1, q.2.2.2.2.2.2.2.1, q.2.2.2.2.2.2.2.2.1, q.2.2.2.2.2.2.2.2.2, mm), out)) : Option Value × x_S)) (bk_Md_goOn_45 mo mi ml mk mlo mhi pk ps pl ph a1 x2 x3)) (x_F ad cA ((stp, psz, gk, gl, gh, opn, cki, ckl, mp, rk, rv, ri, chk), (mo, mi, ml, mk, mlo, mhi, pk, ps, pl, ph, mm), out)) 45 [(0, (.ref (ad (18, 0)))), (1, (.int a1)), (2, (.int x2)), (3, (.int x3))] [] := by
  unfold bk_Md_goOn_45
  unfold bk_ok_Md_goOn_45 at hk
  refine x_iload_n 2 C d_Md_goOn_45 rfl rfl ?_
  refine x_iconst (v := 1) C d_Md_goOn_46 (by decide) ?_
  refine x_icmp_ne 61 C d_Md_goOn_47 (by decide) (fun z5 => ?_) (fun z5 => ?_)
  · have hk := x_okt hk z5
    refine x_aload_n 0 C d_Md_goOn_50 rfl rfl ?_
    refine x_aload_n 0 C d_Md_goOn_51 rfl rfl ?_
    refine x_get (i := (18, 0)) (v := (.ref (ad (21, 0)))) 2 C m_18 rfl rfl i_Md (by decide) (List.mem_cons_of_mem _ q_793) rfl d_Md_goOn_52 ?_
    refine x_iload_n 1 C d_Md_goOn_55 rfl rfl ?_
    have w6 := hk.1
    have hk := hk.2
    refine x_iald (i := (21, 0)) (g := mo 2) 0 C m_21 rfl rfl w6 d_Md_goOn_56 ?_
    refine x_iload_n 3 C d_Md_goOn_57 rfl rfl ?_
    have w7 := hk.1
    have hk := hk.2
    refine x_cv0 (i := (18, 0)) (F := x_F ad cA) (As := [(.int (mo 2 a1.toNatClampNeg)), (.int x3)]) (rest := []) C k_Md_copy q_972 (c_Md_copy ok (mo 2 a1.toNatClampNeg) x3 w7) rfl rfl rfl (Nat.le_of_ble_eq_true rfl) (Nat.le_of_ble_eq_true rfl) m_18 rfl rfl rfl rfl rfl (Nat.le_of_ble_eq_true rfl) d_Md_goOn_58 ⟨Nat.zero_le _, Nat.zero_le _⟩ ?_
    generalize hq8 : s_Md_copy mk mlo mhi (mo 2 a1.toNatClampNeg) x3 = q8 at hk ⊢
    obtain ⟨mk8, mlo8, mhi8⟩ := q8
    refine x_lets ?_
    have hk := x_lete hk
    dsimp only at hk ⊢
    refine x_loc (lv' := [(0, (.ref (ad (18, 0)))), (1, (.int a1)), (2, (.int x2)), (3, (.int x3))]) [0, 1, 2, 3] rfl ?_
    exact cb_Md_goOn_61 ok C hr hlk a1  mi ml mk8 mlo8 mhi8 pk ps pl ph x2 x3 hk
  · have hk := x_okf hk z5
    refine x_loc (lv' := [(0, (.ref (ad (18, 0)))), (1, (.int a1)), (2, (.int x2)), (3, (.int x3))]) [0, 1, 2, 3] rfl ?_
    exact cb_Md_goOn_61 ok C hr hlk a1  mi ml mk mlo mhi pk ps pl ph x2 x3 hk
def s_Md_goOn (mo : Nat → Nat → Int32) (mi : Nat → Int32) (ml : Nat → Int64) (mk : Nat → Int32) (mlo : Nat → Int64) (mhi : Nat → Int64) (pk : Nat → Int32) (ps : Nat → Int32) (pl : Nat → Int64) (ph : Nat → Int64) (a1 : Int32) : Int32 × (Nat → Int32) × (Nat → Int64) × (Nat → Int32) × (Nat → Int64) × (Nat → Int64) × (Nat → Int32) × (Nat → Int32) × (Nat → Int64) × (Nat → Int64) :=
  (if (mo 0 a1.toNatClampNeg) = 0 then (x_let (s_Md_know mk mlo mhi (mo 1 a1.toNatClampNeg) 1 (Int32.toInt64 (mo 3 a1.toNatClampNeg)) (Int32.toInt64 (mo 3 a1.toNatClampNeg))) fun (mk4, mlo4, mhi4) => bk_Md_goOn_45 mo (upd mi 10 (a1 + 1)) ml mk4 mlo4 mhi4 pk ps pl ph a1 (mo 0 a1.toNatClampNeg) (mo 1 a1.toNatClampNeg)) else bk_Md_goOn_45 mo (upd mi 10 (a1 + 1)) ml mk mlo mhi pk ps pl ph a1 (mo 0 a1.toNatClampNeg) (mo 1 a1.toNatClampNeg))
def k_ok_Md_goOn (mo : Nat → Nat → Int32) (mi : Nat → Int32) (ml : Nat → Int64) (mk : Nat → Int32) (mlo : Nat → Int64) (mhi : Nat → Int64) (pk : Nat → Int32) (ps : Nat → Int32) (pl : Nat → Int64) (ph : Nat → Int64) (a1 : Int32) : Prop :=
  (vp_in a1 24 ∧ (if (mo 0 a1.toNatClampNeg) = 0 then (k_ok_Md_know mk mlo mhi (mo 1 a1.toNatClampNeg) 1 (Int32.toInt64 (mo 3 a1.toNatClampNeg)) (Int32.toInt64 (mo 3 a1.toNatClampNeg)) ∧ (x_let (s_Md_know mk mlo mhi (mo 1 a1.toNatClampNeg) 1 (Int32.toInt64 (mo 3 a1.toNatClampNeg)) (Int32.toInt64 (mo 3 a1.toNatClampNeg))) fun (mk4, mlo4, mhi4) => bk_ok_Md_goOn_45 mo (upd mi 10 (a1 + 1)) ml mk4 mlo4 mhi4 pk ps pl ph a1 (mo 0 a1.toNatClampNeg) (mo 1 a1.toNatClampNeg))) else bk_ok_Md_goOn_45 mo (upd mi 10 (a1 + 1)) ml mk mlo mhi pk ps pl ph a1 (mo 0 a1.toNatClampNeg) (mo 1 a1.toNatClampNeg)))
set_option maxHeartbeats 4000000 in
set_option maxRecDepth 100000 in
theorem c_Md_goOn {l : Launch} {D : va_G} {cA : Nat → ClassId} {ad : x_I → Nat} (ok : x_ok (x_k D cA ad)) {stp : Nat → Nat → Int32} {psz : Int32} {gk : Nat → Nat → Int32} {gl : Nat → Nat → Int64} {gh : Nat → Nat → Int64} {opn : Nat → Int32} {cki : Nat → Int32} {ckl : Nat → Int64} {mp : Nat → Nat → Int64} {rk : Nat → Int32} {rv : Nat → Int64} {ri : Nat → Int32} {chk : Int32} {mo : Nat → Nat → Int32} {mi : Nat → Int32} {ml : Nat → Int64} {mk : Nat → Int32} {mlo : Nat → Int64} {mhi : Nat → Int64} {pk : Nat → Int32} {ps : Nat → Int32} {pl : Nat → Int64} {ph : Nat → Int64} {mm : Nat → Int64} {out : Nat → Int64} (a1 : Int32) (hk : k_ok_Md_goOn mo mi ml mk mlo mhi pk ps pl ph a1) : x_M l y_Md_goOn (Cond.code y_Md_goOn b_Md_goOn 4 (Option.some Jvm.ClassFile.FieldType.boolean) :: x_Wd) { frames := 4, cells := 0, slots := 0, locals := 98 } (x_k D cA ad) (x_F ad cA) [(.ref (ad (18, 0))), (.int a1)] ((stp, psz, gk, gl, gh, opn, cki, ckl, mp, rk, rv, ri, chk), (mo, mi, ml, mk, mlo, mhi, pk, ps, pl, ph, mm), out) ((fun q : Int32 × (Nat → Int32) × (Nat → Int64) × (Nat → Int32) × (Nat → Int64) × (Nat → Int64) × (Nat → Int32) × (Nat → Int32) × (Nat → Int64) × (Nat → Int64) => ((some (.int (q.1)), ((stp, psz, gk, gl, gh, opn, cki, ckl, mp, rk, rv, ri, chk), (mo, q.2.1, q.2.2.1, q.2.2.2.1, q.2.2.2.2.1, q.2.2.2.2.2.1, q.2.2.2.2.2.2.1, q.2.2.2.2.2.2.2.1, q.2.2.2.2.2.2.2.2.1, q.2.2.2.2.2.2.2.2.2, mm), out)) : Option Value × x_S)) (s_Md_goOn mo mi ml mk mlo mhi pk ps pl ph a1)) 0 0 := by
  refine x_start (κ := x_k D cA ad) (cc := b_Md_goOn) (F := x_F ad cA) (wr := (fun q : Int32 × (Nat → Int32) × (Nat → Int64) × (Nat → Int32) × (Nat → Int64) × (Nat → Int64) × (Nat → Int32) × (Nat → Int32) × (Nat → Int64) × (Nat → Int64) => ((some (.int (q.1)), ((stp, psz, gk, gl, gh, opn, cki, ckl, mp, rk, rv, ri, chk), (mo, q.2.1, q.2.2.1, q.2.2.2.1, q.2.2.2.2.1, q.2.2.2.2.2.1, q.2.2.2.2.2.2.1, q.2.2.2.2.2.2.2.1, q.2.2.2.2.2.2.2.2.1, q.2.2.2.2.2.2.2.2.2, mm), out)) : Option Value × x_S))) (q := s_Md_goOn mo mi ml mk mlo mhi pk ps pl ph a1) (ret := (Option.some Jvm.ClassFile.FieldType.boolean)) (lv0 := [(0, (.ref (ad (18, 0)))), (1, (.int a1))]) ok (by decide) rfl (Nat.le_of_ble_eq_true rfl) rfl ?_
  intro p e s m below meth c C hr hlk
  unfold s_Md_goOn
  unfold k_ok_Md_goOn at hk
  refine x_aload_n 0 C d_Md_goOn_0 rfl rfl ?_
  refine x_get (i := (18, 0)) (v := (.ref (ad (19, 0)))) 0 C m_18 rfl rfl i_Md (by decide) (List.mem_cons_of_mem _ q_791) rfl d_Md_goOn_1 ?_
  refine x_iload_n 1 C d_Md_goOn_4 rfl rfl ?_
  have w1 := hk.1
  have hk := hk.2
  refine x_iald (i := (19, 0)) (g := mo 0) 0 C m_19 rfl rfl w1 d_Md_goOn_5 ?_
  refine x_istore_n (lv' := [(2, (.int (mo 0 a1.toNatClampNeg))), (0, (.ref (ad (18, 0)))), (1, (.int a1))]) C d_Md_goOn_6 rfl (by decide) rfl ?_
  refine x_aload_n 1 C d_Md_goOn_7 rfl rfl ?_
  refine x_get (i := (18, 0)) (v := (.ref (ad (20, 0)))) 1 C m_18 rfl rfl i_Md (by decide) (List.mem_cons_of_mem _ q_792) rfl d_Md_goOn_8 ?_
  refine x_iload_n 2 C d_Md_goOn_11 rfl rfl ?_
  refine x_iald (i := (20, 0)) (g := mo 1) 0 C m_20 rfl rfl w1 d_Md_goOn_12 ?_
  refine x_istore_n (lv' := [(3, (.int (mo 1 a1.toNatClampNeg))), (2, (.int (mo 0 a1.toNatClampNeg))), (0, (.ref (ad (18, 0)))), (1, (.int a1))]) C d_Md_goOn_13 rfl (by decide) rfl ?_
  refine x_aload_n 2 C d_Md_goOn_14 rfl rfl ?_
  refine x_iload_n 3 C d_Md_goOn_15 rfl rfl ?_
  refine x_iconst (v := 1) C d_Md_goOn_16 (by decide) ?_
  refine x_iadd C d_Md_goOn_17 ?_
  refine x_put (i := (18, 0)) (f' := x_F ad cA ((stp, psz, gk, gl, gh, opn, cki, ckl, mp, rk, rv, ri, chk), (mo, upd mi 10 (a1 + 1), ml, mk, mlo, mhi, pk, ps, pl, ph, mm), out)) 25 C m_18 rfl rfl i_Md t_Md_ok n_Md (by decide) (List.mem_cons_of_mem _ q_816) rfl rfl rfl (Nat.le_of_ble_eq_true rfl) d_Md_goOn_18 e_mi10 ?_
  refine x_iload_n 1 C d_Md_goOn_21 rfl rfl ?_
  refine x_if_ne 45 C d_Md_goOn_22 (by decide) (fun z2 => ?_) (fun z2 => ?_)
  · have hk := x_okt hk z2
    refine x_aload_n 2 C d_Md_goOn_25 rfl rfl ?_
    refine x_iload_n 0 C d_Md_goOn_26 rfl rfl ?_
    refine x_iconst (v := 1) C d_Md_goOn_27 (by decide) ?_
    refine x_aload_n 2 C d_Md_goOn_28 rfl rfl ?_
    refine x_get (i := (18, 0)) (v := (.ref (ad (22, 0)))) 3 C m_18 rfl rfl i_Md (by decide) (List.mem_cons_of_mem _ q_794) rfl d_Md_goOn_29 ?_
    refine x_iload_n 3 C d_Md_goOn_32 rfl rfl ?_
    refine x_iald (i := (22, 0)) (g := mo 3) 0 C m_22 rfl rfl w1 d_Md_goOn_33 ?_
    refine x_i2l C d_Md_goOn_34 ?_
    refine x_aload_n 2 C d_Md_goOn_35 rfl rfl ?_
    refine x_get (i := (18, 0)) (v := (.ref (ad (22, 0)))) 3 C m_18 rfl rfl i_Md (by decide) (List.mem_cons_of_mem _ q_794) rfl d_Md_goOn_36 ?_
    refine x_iload_n 3 C d_Md_goOn_39 rfl rfl ?_
    refine x_iald (i := (22, 0)) (g := mo 3) 0 C m_22 rfl rfl w1 d_Md_goOn_40 ?_
    refine x_i2l C d_Md_goOn_41 ?_
    have w3 := hk.1
    have hk := hk.2
    refine x_cv0 (i := (18, 0)) (F := x_F ad cA) (As := [(.int (mo 1 a1.toNatClampNeg)), (.int 1), (.long (Int32.toInt64 (mo 3 a1.toNatClampNeg))), (.long (Int32.toInt64 (mo 3 a1.toNatClampNeg)))]) (rest := []) C k_Md_know q_908 (c_Md_know ok (mo 1 a1.toNatClampNeg) 1 (Int32.toInt64 (mo 3 a1.toNatClampNeg)) (Int32.toInt64 (mo 3 a1.toNatClampNeg)) w3) rfl rfl rfl (Nat.le_of_ble_eq_true rfl) (Nat.le_of_ble_eq_true rfl) m_18 rfl rfl rfl rfl rfl (Nat.le_of_ble_eq_true rfl) d_Md_goOn_42 ⟨Nat.zero_le _, Nat.zero_le _⟩ ?_
    generalize hq4 : s_Md_know mk mlo mhi (mo 1 a1.toNatClampNeg) 1 (Int32.toInt64 (mo 3 a1.toNatClampNeg)) (Int32.toInt64 (mo 3 a1.toNatClampNeg)) = q4 at hk ⊢
    obtain ⟨mk4, mlo4, mhi4⟩ := q4
    refine x_lets ?_
    have hk := x_lete hk
    dsimp only at hk ⊢
    refine x_loc (lv' := [(0, (.ref (ad (18, 0)))), (1, (.int a1)), (2, (.int (mo 0 a1.toNatClampNeg))), (3, (.int (mo 1 a1.toNatClampNeg)))]) [2, 3, 1, 0] rfl ?_
    exact cb_Md_goOn_45 ok C hr hlk a1  (upd mi 10 (a1 + 1)) ml mk4 mlo4 mhi4 pk ps pl ph (mo 0 a1.toNatClampNeg) (mo 1 a1.toNatClampNeg) hk
  · have hk := x_okf hk z2
    refine x_loc (lv' := [(0, (.ref (ad (18, 0)))), (1, (.int a1)), (2, (.int (mo 0 a1.toNatClampNeg))), (3, (.int (mo 1 a1.toNatClampNeg)))]) [2, 3, 1, 0] rfl ?_
    exact cb_Md_goOn_45 ok C hr hlk a1  (upd mi 10 (a1 + 1)) ml mk mlo mhi pk ps pl ph (mo 0 a1.toNatClampNeg) (mo 1 a1.toNatClampNeg) hk
