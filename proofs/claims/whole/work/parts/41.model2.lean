def bk_Md_empties_113 (mo : Nat → Nat → Int32) (mk : Nat → Int32) (a1 : Int32)  : Int32 :=
  (if (mo 3 a1.toNatClampNeg) = 2 then (if (mk (Int32.toNatClampNeg 2)) = 0 then (1) else (0)) else (0))
def bk_ok_Md_empties_113 (mo : Nat → Nat → Int32) (mk : Nat → Int32) (a1 : Int32)  : Prop :=
  (vp_in a1 24 ∧ True)
set_option maxHeartbeats 4000000 in
set_option maxRecDepth 100000 in
theorem cb_Md_empties_113 {l : Launch} {D : va_G} {cA : Nat → ClassId} {ad : x_I → Nat} (ok : x_ok (x_k D cA ad)) {stp : Nat → Nat → Int32} {psz : Int32} {gk : Nat → Nat → Int32} {gl : Nat → Nat → Int64} {gh : Nat → Nat → Int64} {opn : Nat → Int32} {cki : Nat → Int32} {ckl : Nat → Int64} {mp : Nat → Nat → Int64} {rk : Nat → Int32} {rv : Nat → Int64} {ri : Nat → Int32} {chk : Int32} {mo : Nat → Nat → Int32} {mi : Nat → Int32} {ml : Nat → Int64} {mk : Nat → Int32} {mlo : Nat → Int64} {mhi : Nat → Int64} {pk : Nat → Int32} {ps : Nat → Int32} {pl : Nat → Int64} {ph : Nat → Int64} {mm : Nat → Int64} {out : Nat → Int64} {p : Program} {e : Env} {s : State} {m : MethodId} {args : Array Value} {below : List Frame} {meth : Method} {c : Code} (C : x_C p s m args c b_Md_empties 3 R_Md (Cond.code y_Md_empties b_Md_empties 3 (Option.some Jvm.ClassFile.FieldType.boolean) :: x_Wd) (x_k D cA ad)) (hr : meth.sig.returnType = (Option.some Jvm.ClassFile.FieldType.boolean)) (hlk : meth.locks = false) (a1 : Int32)   (hk : bk_ok_Md_empties_113 mo mk a1) : x_V p l e { frames := 1, cells := 0, slots := 0, locals := 21 } s m args below meth c (x_k D cA ad) 3 0 0 (x_E below (x_k D cA ad) args s 0 0 (x_F ad cA) (fun q : Int32 => ((some (.int (q)), ((stp, psz, gk, gl, gh, opn, cki, ckl, mp, rk, rv, ri, chk), (mo, mi, ml, mk, mlo, mhi, pk, ps, pl, ph, mm), out)) : Option Value × x_S)) (bk_Md_empties_113 mo mk a1)) (x_F ad cA ((stp, psz, gk, gl, gh, opn, cki, ckl, mp, rk, rv, ri, chk), (mo, mi, ml, mk, mlo, mhi, pk, ps, pl, ph, mm), out)) 113 [(0, (.ref (ad (18, 0)))), (1, (.int a1))] [] := by
  unfold bk_Md_empties_113
  unfold bk_ok_Md_empties_113 at hk
  refine x_aload_n 0 C d_Md_empties_113 rfl rfl ?_
  refine x_get (i := (18, 0)) (v := (.ref (ad (22, 0)))) 3 C m_18 rfl rfl i_Md (by decide) (List.mem_cons_of_mem _ q_794) rfl d_Md_empties_114 ?_
  refine x_iload_n 1 C d_Md_empties_117 rfl rfl ?_
  have w7 := hk.1
  have hk := hk.2
  refine x_iald (i := (22, 0)) (g := mo 3) 0 C m_22 rfl rfl w7 d_Md_empties_118 ?_
  refine x_iconst (v := 2) C d_Md_empties_119 (by decide) ?_
  refine x_icmp_ne 136 C d_Md_empties_120 (by decide) (fun z8 => ?_) (fun z8 => ?_)
  · refine x_aload_n 0 C d_Md_empties_123 rfl rfl ?_
    refine x_get (i := (18, 0)) (v := (.ref (ad (24, 0)))) 16 C m_18 rfl rfl i_Md (by decide) (List.mem_cons_of_mem _ q_807) rfl d_Md_empties_124 ?_
    refine x_iconst (v := 2) C d_Md_empties_127 (by decide) ?_
    refine x_iald (i := (24, 0)) (g := mk) 0 C m_24 rfl rfl (x_vin (by decide)) d_Md_empties_128 ?_
    refine x_if_ne 136 C d_Md_empties_129 (by decide) (fun z9 => ?_) (fun z9 => ?_)
    · refine x_iconst (v := 1) C d_Md_empties_132 (by decide) ?_
      refine x_goto 137 C d_Md_empties_133 (by decide) ?_
      exact x_zret C hr hlk rfl rfl d_Md_empties_137
    · refine x_iconst (v := 0) C d_Md_empties_136 (by decide) ?_
      exact x_zret C hr hlk rfl rfl d_Md_empties_137
  · refine x_iconst (v := 0) C d_Md_empties_136 (by decide) ?_
    exact x_zret C hr hlk rfl rfl d_Md_empties_137
def bk_Md_empties_104 (mo : Nat → Nat → Int32) (mk : Nat → Int32) (a1 : Int32)  : Int32 :=
  (if (mk (Int32.toNatClampNeg 1)) = 0 then (1) else bk_Md_empties_113 mo mk a1)
def bk_ok_Md_empties_104 (mo : Nat → Nat → Int32) (mk : Nat → Int32) (a1 : Int32)  : Prop :=
  (if (mk (Int32.toNatClampNeg 1)) = 0 then True else bk_ok_Md_empties_113 mo mk a1)
set_option maxHeartbeats 4000000 in
set_option maxRecDepth 100000 in
theorem cb_Md_empties_104 {l : Launch} {D : va_G} {cA : Nat → ClassId} {ad : x_I → Nat} (ok : x_ok (x_k D cA ad)) {stp : Nat → Nat → Int32} {psz : Int32} {gk : Nat → Nat → Int32} {gl : Nat → Nat → Int64} {gh : Nat → Nat → Int64} {opn : Nat → Int32} {cki : Nat → Int32} {ckl : Nat → Int64} {mp : Nat → Nat → Int64} {rk : Nat → Int32} {rv : Nat → Int64} {ri : Nat → Int32} {chk : Int32} {mo : Nat → Nat → Int32} {mi : Nat → Int32} {ml : Nat → Int64} {mk : Nat → Int32} {mlo : Nat → Int64} {mhi : Nat → Int64} {pk : Nat → Int32} {ps : Nat → Int32} {pl : Nat → Int64} {ph : Nat → Int64} {mm : Nat → Int64} {out : Nat → Int64} {p : Program} {e : Env} {s : State} {m : MethodId} {args : Array Value} {below : List Frame} {meth : Method} {c : Code} (C : x_C p s m args c b_Md_empties 3 R_Md (Cond.code y_Md_empties b_Md_empties 3 (Option.some Jvm.ClassFile.FieldType.boolean) :: x_Wd) (x_k D cA ad)) (hr : meth.sig.returnType = (Option.some Jvm.ClassFile.FieldType.boolean)) (hlk : meth.locks = false) (a1 : Int32)   (hk : bk_ok_Md_empties_104 mo mk a1) : x_V p l e { frames := 1, cells := 0, slots := 0, locals := 21 } s m args below meth c (x_k D cA ad) 3 0 0 (x_E below (x_k D cA ad) args s 0 0 (x_F ad cA) (fun q : Int32 => ((some (.int (q)), ((stp, psz, gk, gl, gh, opn, cki, ckl, mp, rk, rv, ri, chk), (mo, mi, ml, mk, mlo, mhi, pk, ps, pl, ph, mm), out)) : Option Value × x_S)) (bk_Md_empties_104 mo mk a1)) (x_F ad cA ((stp, psz, gk, gl, gh, opn, cki, ckl, mp, rk, rv, ri, chk), (mo, mi, ml, mk, mlo, mhi, pk, ps, pl, ph, mm), out)) 104 [(0, (.ref (ad (18, 0)))), (1, (.int a1))] [] := by
  unfold bk_Md_empties_104
  unfold bk_ok_Md_empties_104 at hk
  refine x_aload_n 0 C d_Md_empties_104 rfl rfl ?_
  refine x_get (i := (18, 0)) (v := (.ref (ad (24, 0)))) 16 C m_18 rfl rfl i_Md (by decide) (List.mem_cons_of_mem _ q_807) rfl d_Md_empties_105 ?_
  refine x_iconst (v := 1) C d_Md_empties_108 (by decide) ?_
  refine x_iald (i := (24, 0)) (g := mk) 0 C m_24 rfl rfl (x_vin (by decide)) d_Md_empties_109 ?_
  refine x_if_eq 132 C d_Md_empties_110 (by decide) (fun z6 => ?_) (fun z6 => ?_)
  · have hk := x_okt hk z6
    refine x_iconst (v := 1) C d_Md_empties_132 (by decide) ?_
    refine x_goto 137 C d_Md_empties_133 (by decide) ?_
    exact x_zret C hr hlk rfl rfl d_Md_empties_137
  · have hk := x_okf hk z6
    refine x_loc (lv' := [(0, (.ref (ad (18, 0)))), (1, (.int a1))]) [0, 1] rfl ?_
    exact cb_Md_empties_113 ok C hr hlk a1    hk
def bk_Md_empties_35 (mo : Nat → Nat → Int32) (mk : Nat → Int32) (a1 : Int32) (x2 : Int32) : Int32 :=
  (x_let (s_Md_usesS x2) fun r13 => (if r13 = 0 then (0) else (if (mk ((mo 2 a1.toNatClampNeg).toNatClampNeg)) = 0 then (1) else (0))))
def bk_ok_Md_empties_35 (mo : Nat → Nat → Int32) (mk : Nat → Int32) (a1 : Int32) (x2 : Int32) : Prop :=
  (x_let (s_Md_usesS x2) fun r13 => (if r13 = 0 then True else (vp_in a1 24 ∧ (vp_in (mo 2 a1.toNatClampNeg) 12 ∧ True))))
set_option maxHeartbeats 4000000 in
set_option maxRecDepth 100000 in
theorem cb_Md_empties_35 {l : Launch} {D : va_G} {cA : Nat → ClassId} {ad : x_I → Nat} (ok : x_ok (x_k D cA ad)) {stp : Nat → Nat → Int32} {psz : Int32} {gk : Nat → Nat → Int32} {gl : Nat → Nat → Int64} {gh : Nat → Nat → Int64} {opn : Nat → Int32} {cki : Nat → Int32} {ckl : Nat → Int64} {mp : Nat → Nat → Int64} {rk : Nat → Int32} {rv : Nat → Int64} {ri : Nat → Int32} {chk : Int32} {mo : Nat → Nat → Int32} {mi : Nat → Int32} {ml : Nat → Int64} {mk : Nat → Int32} {mlo : Nat → Int64} {mhi : Nat → Int64} {pk : Nat → Int32} {ps : Nat → Int32} {pl : Nat → Int64} {ph : Nat → Int64} {mm : Nat → Int64} {out : Nat → Int64} {p : Program} {e : Env} {s : State} {m : MethodId} {args : Array Value} {below : List Frame} {meth : Method} {c : Code} (C : x_C p s m args c b_Md_empties 3 R_Md (Cond.code y_Md_empties b_Md_empties 3 (Option.some Jvm.ClassFile.FieldType.boolean) :: x_Wd) (x_k D cA ad)) (hr : meth.sig.returnType = (Option.some Jvm.ClassFile.FieldType.boolean)) (hlk : meth.locks = false) (a1 : Int32)  (x2 : Int32) (hk : bk_ok_Md_empties_35 mo mk a1 x2) : x_V p l e { frames := 1, cells := 0, slots := 0, locals := 21 } s m args below meth c (x_k D cA ad) 3 0 0 (x_E below (x_k D cA ad) args s 0 0 (x_F ad cA) (fun q : Int32 => ((some (.int (q)), ((stp, psz, gk, gl, gh, opn, cki, ckl, mp, rk, rv, ri, chk), (mo, mi, ml, mk, mlo, mhi, pk, ps, pl, ph, mm), out)) : Option Value × x_S)) (bk_Md_empties_35 mo mk a1 x2)) (x_F ad cA ((stp, psz, gk, gl, gh, opn, cki, ckl, mp, rk, rv, ri, chk), (mo, mi, ml, mk, mlo, mhi, pk, ps, pl, ph, mm), out)) 35 [(0, (.ref (ad (18, 0)))), (1, (.int a1)), (2, (.int x2))] [] := by
  unfold bk_Md_empties_35
  unfold bk_ok_Md_empties_35 at hk
  refine x_aload_n 0 C d_Md_empties_35 rfl rfl ?_
  refine x_iload_n 2 C d_Md_empties_36 rfl rfl ?_
  refine x_cv (i := (18, 0)) (F := x_F ad cA) (As := [(.int x2)]) (rest := []) C k_Md_usesS q_932 (c_Md_usesS ok x2) rfl rfl rfl (Nat.le_of_ble_eq_true rfl) (Nat.le_of_ble_eq_true rfl) m_18 rfl rfl rfl rfl rfl (Nat.le_of_ble_eq_true rfl) d_Md_empties_37 ⟨Nat.zero_le _, Nat.zero_le _⟩ ?_
  generalize hq13 : s_Md_usesS x2 = r13 at hk ⊢
  refine x_lets ?_
  have hk := x_lete hk
  refine x_if_eq 61 C d_Md_empties_40 (by decide) (fun z14 => ?_) (fun z14 => ?_)
  · have hk := x_okt hk z14
    refine x_iconst (v := 0) C d_Md_empties_61 (by decide) ?_
    exact x_zret C hr hlk rfl rfl d_Md_empties_62
  · have hk := x_okf hk z14
    refine x_aload_n 0 C d_Md_empties_43 rfl rfl ?_
    refine x_get (i := (18, 0)) (v := (.ref (ad (24, 0)))) 16 C m_18 rfl rfl i_Md (by decide) (List.mem_cons_of_mem _ q_807) rfl d_Md_empties_44 ?_
    refine x_aload_n 0 C d_Md_empties_47 rfl rfl ?_
    refine x_get (i := (18, 0)) (v := (.ref (ad (21, 0)))) 2 C m_18 rfl rfl i_Md (by decide) (List.mem_cons_of_mem _ q_793) rfl d_Md_empties_48 ?_
    refine x_iload_n 1 C d_Md_empties_51 rfl rfl ?_
    have w15 := hk.1
    have hk := hk.2
    refine x_iald (i := (21, 0)) (g := mo 2) 0 C m_21 rfl rfl w15 d_Md_empties_52 ?_
    have w16 := hk.1
    have hk := hk.2
    refine x_iald (i := (24, 0)) (g := mk) 0 C m_24 rfl rfl w16 d_Md_empties_53 ?_
    refine x_if_ne 61 C d_Md_empties_54 (by decide) (fun z17 => ?_) (fun z17 => ?_)
    · refine x_iconst (v := 1) C d_Md_empties_57 (by decide) ?_
      refine x_goto 62 C d_Md_empties_58 (by decide) ?_
      exact x_zret C hr hlk rfl rfl d_Md_empties_62
    · refine x_iconst (v := 0) C d_Md_empties_61 (by decide) ?_
      exact x_zret C hr hlk rfl rfl d_Md_empties_62
def s_Md_empties (mo : Nat → Nat → Int32) (mk : Nat → Int32) (a1 : Int32) : Int32 :=
  (if 16 ≤ (mo 0 a1.toNatClampNeg) then (if (mo 0 a1.toNatClampNeg) = 17 then (if (mk (Int32.toNatClampNeg 0)) = 0 then (1) else (0)) else (if (mo 3 a1.toNatClampNeg) = 1 then bk_Md_empties_104 mo mk a1 else (if (mo 3 a1.toNatClampNeg) = 2 then bk_Md_empties_104 mo mk a1 else bk_Md_empties_113 mo mk a1))) else (x_let (s_Md_usesD (mo 0 a1.toNatClampNeg)) fun r11 => (if r11 = 0 then bk_Md_empties_35 mo mk a1 (mo 0 a1.toNatClampNeg) else (if (mk ((mo 1 a1.toNatClampNeg).toNatClampNeg)) = 0 then (1) else bk_Md_empties_35 mo mk a1 (mo 0 a1.toNatClampNeg)))))
def k_ok_Md_empties (mo : Nat → Nat → Int32) (mk : Nat → Int32) (a1 : Int32) : Prop :=
  (vp_in a1 24 ∧ (if 16 ≤ (mo 0 a1.toNatClampNeg) then (if (mo 0 a1.toNatClampNeg) = 17 then True else (if (mo 3 a1.toNatClampNeg) = 1 then bk_ok_Md_empties_104 mo mk a1 else (if (mo 3 a1.toNatClampNeg) = 2 then bk_ok_Md_empties_104 mo mk a1 else bk_ok_Md_empties_113 mo mk a1))) else (x_let (s_Md_usesD (mo 0 a1.toNatClampNeg)) fun r11 => (if r11 = 0 then bk_ok_Md_empties_35 mo mk a1 (mo 0 a1.toNatClampNeg) else (vp_in (mo 1 a1.toNatClampNeg) 12 ∧ (if (mk ((mo 1 a1.toNatClampNeg).toNatClampNeg)) = 0 then True else bk_ok_Md_empties_35 mo mk a1 (mo 0 a1.toNatClampNeg)))))))
set_option maxHeartbeats 4000000 in
set_option maxRecDepth 100000 in
theorem c_Md_empties {l : Launch} {D : va_G} {cA : Nat → ClassId} {ad : x_I → Nat} (ok : x_ok (x_k D cA ad)) {stp : Nat → Nat → Int32} {psz : Int32} {gk : Nat → Nat → Int32} {gl : Nat → Nat → Int64} {gh : Nat → Nat → Int64} {opn : Nat → Int32} {cki : Nat → Int32} {ckl : Nat → Int64} {mp : Nat → Nat → Int64} {rk : Nat → Int32} {rv : Nat → Int64} {ri : Nat → Int32} {chk : Int32} {mo : Nat → Nat → Int32} {mi : Nat → Int32} {ml : Nat → Int64} {mk : Nat → Int32} {mlo : Nat → Int64} {mhi : Nat → Int64} {pk : Nat → Int32} {ps : Nat → Int32} {pl : Nat → Int64} {ph : Nat → Int64} {mm : Nat → Int64} {out : Nat → Int64} (a1 : Int32) (hk : k_ok_Md_empties mo mk a1) : x_M l y_Md_empties (Cond.code y_Md_empties b_Md_empties 3 (Option.some Jvm.ClassFile.FieldType.boolean) :: x_Wd) { frames := 1, cells := 0, slots := 0, locals := 21 } (x_k D cA ad) (x_F ad cA) [(.ref (ad (18, 0))), (.int a1)] ((stp, psz, gk, gl, gh, opn, cki, ckl, mp, rk, rv, ri, chk), (mo, mi, ml, mk, mlo, mhi, pk, ps, pl, ph, mm), out) ((fun q : Int32 => ((some (.int (q)), ((stp, psz, gk, gl, gh, opn, cki, ckl, mp, rk, rv, ri, chk), (mo, mi, ml, mk, mlo, mhi, pk, ps, pl, ph, mm), out)) : Option Value × x_S)) (s_Md_empties mo mk a1)) 0 0 := by
  refine x_start (κ := x_k D cA ad) (cc := b_Md_empties) (F := x_F ad cA) (wr := (fun q : Int32 => ((some (.int (q)), ((stp, psz, gk, gl, gh, opn, cki, ckl, mp, rk, rv, ri, chk), (mo, mi, ml, mk, mlo, mhi, pk, ps, pl, ph, mm), out)) : Option Value × x_S))) (q := s_Md_empties mo mk a1) (ret := (Option.some Jvm.ClassFile.FieldType.boolean)) (lv0 := [(0, (.ref (ad (18, 0)))), (1, (.int a1))]) ok (by decide) rfl (Nat.le_of_ble_eq_true rfl) rfl ?_
  intro p e s m below meth c C hr hlk
  unfold s_Md_empties
  unfold k_ok_Md_empties at hk
  refine x_aload_n 0 C d_Md_empties_0 rfl rfl ?_
  refine x_get (i := (18, 0)) (v := (.ref (ad (19, 0)))) 0 C m_18 rfl rfl i_Md (by decide) (List.mem_cons_of_mem _ q_791) rfl d_Md_empties_1 ?_
  refine x_iload_n 1 C d_Md_empties_4 rfl rfl ?_
  have w1 := hk.1
  have hk := hk.2
  refine x_iald (i := (19, 0)) (g := mo 0) 0 C m_19 rfl rfl w1 d_Md_empties_5 ?_
  refine x_istore_n (lv' := [(2, (.int (mo 0 a1.toNatClampNeg))), (0, (.ref (ad (18, 0)))), (1, (.int a1))]) C d_Md_empties_6 rfl (by decide) rfl ?_
  refine x_iload_n 0 C d_Md_empties_7 rfl rfl ?_
  refine x_bipush (v := 16) C d_Md_empties_8 (by decide) ?_
  refine x_icmp_ge 63 C d_Md_empties_10 (by decide) (fun z2 => ?_) (fun z2 => ?_)
  · have hk := x_okt hk z2
    refine x_iload_n 0 C d_Md_empties_63 rfl rfl ?_
    refine x_bipush (v := 17) C d_Md_empties_64 (by decide) ?_
    refine x_icmp_ne 84 C d_Md_empties_66 (by decide) (fun z3 => ?_) (fun z3 => ?_)
    · have hk := x_okt hk z3
      refine x_aload_n 1 C d_Md_empties_69 rfl rfl ?_
      refine x_get (i := (18, 0)) (v := (.ref (ad (24, 0)))) 16 C m_18 rfl rfl i_Md (by decide) (List.mem_cons_of_mem _ q_807) rfl d_Md_empties_70 ?_
      refine x_iconst (v := 0) C d_Md_empties_73 (by decide) ?_
      refine x_iald (i := (24, 0)) (g := mk) 0 C m_24 rfl rfl (x_vin (by decide)) d_Md_empties_74 ?_
      refine x_if_ne 82 C d_Md_empties_75 (by decide) (fun z4 => ?_) (fun z4 => ?_)
      · refine x_iconst (v := 1) C d_Md_empties_78 (by decide) ?_
        refine x_goto 83 C d_Md_empties_79 (by decide) ?_
        exact x_zret C hr hlk rfl rfl d_Md_empties_83
      · refine x_iconst (v := 0) C d_Md_empties_82 (by decide) ?_
        exact x_zret C hr hlk rfl rfl d_Md_empties_83
    · have hk := x_okf hk z3
      refine x_aload_n 1 C d_Md_empties_84 rfl rfl ?_
      refine x_get (i := (18, 0)) (v := (.ref (ad (22, 0)))) 3 C m_18 rfl rfl i_Md (by decide) (List.mem_cons_of_mem _ q_794) rfl d_Md_empties_85 ?_
      refine x_iload_n 2 C d_Md_empties_88 rfl rfl ?_
      refine x_iald (i := (22, 0)) (g := mo 3) 0 C m_22 rfl rfl w1 d_Md_empties_89 ?_
      refine x_iconst (v := 1) C d_Md_empties_90 (by decide) ?_
      refine x_icmp_eq 104 C d_Md_empties_91 (by decide) (fun z5 => ?_) (fun z5 => ?_)
      · have hk := x_okt hk z5
        refine x_loc (lv' := [(0, (.ref (ad (18, 0)))), (1, (.int a1))]) [1, 2] rfl ?_
        exact cb_Md_empties_104 ok C hr hlk a1    hk
      · have hk := x_okf hk z5
        refine x_aload_n 1 C d_Md_empties_94 rfl rfl ?_
        refine x_get (i := (18, 0)) (v := (.ref (ad (22, 0)))) 3 C m_18 rfl rfl i_Md (by decide) (List.mem_cons_of_mem _ q_794) rfl d_Md_empties_95 ?_
        refine x_iload_n 2 C d_Md_empties_98 rfl rfl ?_
        refine x_iald (i := (22, 0)) (g := mo 3) 0 C m_22 rfl rfl w1 d_Md_empties_99 ?_
        refine x_iconst (v := 2) C d_Md_empties_100 (by decide) ?_
        refine x_icmp_ne 113 C d_Md_empties_101 (by decide) (fun z10 => ?_) (fun z10 => ?_)
        · have hk := x_okt hk z10
          refine x_loc (lv' := [(0, (.ref (ad (18, 0)))), (1, (.int a1))]) [1, 2] rfl ?_
          exact cb_Md_empties_104 ok C hr hlk a1    hk
        · have hk := x_okf hk z10
          refine x_loc (lv' := [(0, (.ref (ad (18, 0)))), (1, (.int a1))]) [1, 2] rfl ?_
          exact cb_Md_empties_113 ok C hr hlk a1    hk
  · have hk := x_okf hk z2
    refine x_aload_n 1 C d_Md_empties_13 rfl rfl ?_
    refine x_iload_n 0 C d_Md_empties_14 rfl rfl ?_
    refine x_cv (i := (18, 0)) (F := x_F ad cA) (As := [(.int (mo 0 a1.toNatClampNeg))]) (rest := []) C k_Md_usesD q_928 (c_Md_usesD ok (mo 0 a1.toNatClampNeg)) rfl rfl rfl (Nat.le_of_ble_eq_true rfl) (Nat.le_of_ble_eq_true rfl) m_18 rfl rfl rfl rfl rfl (Nat.le_of_ble_eq_true rfl) d_Md_empties_15 ⟨Nat.zero_le _, Nat.zero_le _⟩ ?_
    generalize hq11 : s_Md_usesD (mo 0 a1.toNatClampNeg) = r11 at hk ⊢
    refine x_lets ?_
    have hk := x_lete hk
    refine x_if_eq 35 C d_Md_empties_18 (by decide) (fun z12 => ?_) (fun z12 => ?_)
    · have hk := x_okt hk z12
      refine x_loc (lv' := [(0, (.ref (ad (18, 0)))), (1, (.int a1)), (2, (.int (mo 0 a1.toNatClampNeg)))]) [1, 2, 0] rfl ?_
      exact cb_Md_empties_35 ok C hr hlk a1   (mo 0 a1.toNatClampNeg) hk
    · have hk := x_okf hk z12
      refine x_aload_n 1 C d_Md_empties_21 rfl rfl ?_
      refine x_get (i := (18, 0)) (v := (.ref (ad (24, 0)))) 16 C m_18 rfl rfl i_Md (by decide) (List.mem_cons_of_mem _ q_807) rfl d_Md_empties_22 ?_
      refine x_aload_n 1 C d_Md_empties_25 rfl rfl ?_
      refine x_get (i := (18, 0)) (v := (.ref (ad (20, 0)))) 1 C m_18 rfl rfl i_Md (by decide) (List.mem_cons_of_mem _ q_792) rfl d_Md_empties_26 ?_
      refine x_iload_n 2 C d_Md_empties_29 rfl rfl ?_
      refine x_iald (i := (20, 0)) (g := mo 1) 0 C m_20 rfl rfl w1 d_Md_empties_30 ?_
      have w18 := hk.1
      have hk := hk.2
      refine x_iald (i := (24, 0)) (g := mk) 0 C m_24 rfl rfl w18 d_Md_empties_31 ?_
      refine x_if_eq 57 C d_Md_empties_32 (by decide) (fun z19 => ?_) (fun z19 => ?_)
      · have hk := x_okt hk z19
        refine x_iconst (v := 1) C d_Md_empties_57 (by decide) ?_
        refine x_goto 62 C d_Md_empties_58 (by decide) ?_
        exact x_zret C hr hlk rfl rfl d_Md_empties_62
      · have hk := x_okf hk z19
        refine x_loc (lv' := [(0, (.ref (ad (18, 0)))), (1, (.int a1)), (2, (.int (mo 0 a1.toNatClampNeg)))]) [1, 2, 0] rfl ?_
        exact cb_Md_empties_35 ok C hr hlk a1   (mo 0 a1.toNatClampNeg) hk
def bk_Md_wrongNumber_45 (mo : Nat → Nat → Int32) (a1 : Int32) (x2 : Int32) : Int32 :=
  (if x2 = 16 then (x_let (s_Md_in (Int32.toInt64 (mo 3 a1.toNatClampNeg)) 0 2) fun r10 => (if r10 = 0 then (1) else (0))) else (0))
def bk_ok_Md_wrongNumber_45 (mo : Nat → Nat → Int32) (a1 : Int32) (x2 : Int32) : Prop :=
  (if x2 = 16 then (vp_in a1 24 ∧ True) else True)
set_option maxHeartbeats 4000000 in
set_option maxRecDepth 100000 in
theorem cb_Md_wrongNumber_45 {l : Launch} {D : va_G} {cA : Nat → ClassId} {ad : x_I → Nat} (ok : x_ok (x_k D cA ad)) {stp : Nat → Nat → Int32} {psz : Int32} {gk : Nat → Nat → Int32} {gl : Nat → Nat → Int64} {gh : Nat → Nat → Int64} {opn : Nat → Int32} {cki : Nat → Int32} {ckl : Nat → Int64} {mp : Nat → Nat → Int64} {rk : Nat → Int32} {rv : Nat → Int64} {ri : Nat → Int32} {chk : Int32} {mo : Nat → Nat → Int32} {mi : Nat → Int32} {ml : Nat → Int64} {mk : Nat → Int32} {mlo : Nat → Int64} {mhi : Nat → Int64} {pk : Nat → Int32} {ps : Nat → Int32} {pl : Nat → Int64} {ph : Nat → Int64} {mm : Nat → Int64} {out : Nat → Int64} {p : Program} {e : Env} {s : State} {m : MethodId} {args : Array Value} {below : List Frame} {meth : Method} {c : Code} (C : x_C p s m args c b_Md_wrongNumber 3 R_Md (Cond.code y_Md_wrongNumber b_Md_wrongNumber 3 (Option.some Jvm.ClassFile.FieldType.boolean) :: x_Wd) (x_k D cA ad)) (hr : meth.sig.returnType = (Option.some Jvm.ClassFile.FieldType.boolean)) (hlk : meth.locks = false) (a1 : Int32)  (x2 : Int32) (hk : bk_ok_Md_wrongNumber_45 mo a1 x2) : x_V p l e { frames := 1, cells := 0, slots := 0, locals := 25 } s m args below meth c (x_k D cA ad) 3 0 0 (x_E below (x_k D cA ad) args s 0 0 (x_F ad cA) (fun q : Int32 => ((some (.int (q)), ((stp, psz, gk, gl, gh, opn, cki, ckl, mp, rk, rv, ri, chk), (mo, mi, ml, mk, mlo, mhi, pk, ps, pl, ph, mm), out)) : Option Value × x_S)) (bk_Md_wrongNumber_45 mo a1 x2)) (x_F ad cA ((stp, psz, gk, gl, gh, opn, cki, ckl, mp, rk, rv, ri, chk), (mo, mi, ml, mk, mlo, mhi, pk, ps, pl, ph, mm), out)) 45 [(0, (.ref (ad (18, 0)))), (1, (.int a1)), (2, (.int x2))] [] := by
  unfold bk_Md_wrongNumber_45
  unfold bk_ok_Md_wrongNumber_45 at hk
  refine x_iload_n 2 C d_Md_wrongNumber_45 rfl rfl ?_
  refine x_bipush (v := 16) C d_Md_wrongNumber_46 (by decide) ?_
  refine x_icmp_ne 72 C d_Md_wrongNumber_48 (by decide) (fun z8 => ?_) (fun z8 => ?_)
  · have hk := x_okt hk z8
    refine x_aload_n 0 C d_Md_wrongNumber_51 rfl rfl ?_
    refine x_get (i := (18, 0)) (v := (.ref (ad (22, 0)))) 3 C m_18 rfl rfl i_Md (by decide) (List.mem_cons_of_mem _ q_794) rfl d_Md_wrongNumber_52 ?_
    refine x_iload_n 1 C d_Md_wrongNumber_55 rfl rfl ?_
    have w9 := hk.1
    have hk := hk.2
    refine x_iald (i := (22, 0)) (g := mo 3) 0 C m_22 rfl rfl w9 d_Md_wrongNumber_56 ?_
    refine x_i2l C d_Md_wrongNumber_57 ?_
    refine x_lconst (v := 0) C d_Md_wrongNumber_58 (by decide) ?_
    refine x_ldc2 (v := 2) C (List.mem_cons_of_mem _ q_941) d_Md_wrongNumber_59 ?_
    refine x_cs (F := x_F ad cA) (As := [(.long (Int32.toInt64 (mo 3 a1.toNatClampNeg))), (.long 0), (.long 2)]) (rest := []) C k_Md_in q_883 (c_Md_in ok (Int32.toInt64 (mo 3 a1.toNatClampNeg)) 0 2) rfl rfl rfl (Nat.le_of_ble_eq_true rfl) (Nat.le_of_ble_eq_true rfl) rfl rfl (Nat.le_of_ble_eq_true rfl) d_Md_wrongNumber_62 ⟨Nat.zero_le _, Nat.zero_le _⟩ ?_
    generalize hq10 : s_Md_in (Int32.toInt64 (mo 3 a1.toNatClampNeg)) 0 2 = r10
    refine x_lets ?_
    refine x_if_ne 72 C d_Md_wrongNumber_65 (by decide) (fun z11 => ?_) (fun z11 => ?_)
    · refine x_iconst (v := 1) C d_Md_wrongNumber_68 (by decide) ?_
      refine x_goto 73 C d_Md_wrongNumber_69 (by decide) ?_
      exact x_zret C hr hlk rfl rfl d_Md_wrongNumber_73
    · refine x_iconst (v := 0) C d_Md_wrongNumber_72 (by decide) ?_
      exact x_zret C hr hlk rfl rfl d_Md_wrongNumber_73
  · have hk := x_okf hk z8
    refine x_iconst (v := 0) C d_Md_wrongNumber_72 (by decide) ?_
    exact x_zret C hr hlk rfl rfl d_Md_wrongNumber_73
def bk_Md_wrongNumber_30 (mo : Nat → Nat → Int32) (a1 : Int32) (x2 : Int32) : Int32 :=
  (if x2 = 8 then (if (mo 3 a1.toNatClampNeg) = 0 then (1) else bk_Md_wrongNumber_45 mo a1 x2) else bk_Md_wrongNumber_45 mo a1 x2)
def bk_ok_Md_wrongNumber_30 (mo : Nat → Nat → Int32) (a1 : Int32) (x2 : Int32) : Prop :=
  (if x2 = 8 then (vp_in a1 24 ∧ (if (mo 3 a1.toNatClampNeg) = 0 then True else bk_ok_Md_wrongNumber_45 mo a1 x2)) else bk_ok_Md_wrongNumber_45 mo a1 x2)
set_option maxHeartbeats 4000000 in
set_option maxRecDepth 100000 in
theorem cb_Md_wrongNumber_30 {l : Launch} {D : va_G} {cA : Nat → ClassId} {ad : x_I → Nat} (ok : x_ok (x_k D cA ad)) {stp : Nat → Nat → Int32} {psz : Int32} {gk : Nat → Nat → Int32} {gl : Nat → Nat → Int64} {gh : Nat → Nat → Int64} {opn : Nat → Int32} {cki : Nat → Int32} {ckl : Nat → Int64} {mp : Nat → Nat → Int64} {rk : Nat → Int32} {rv : Nat → Int64} {ri : Nat → Int32} {chk : Int32} {mo : Nat → Nat → Int32} {mi : Nat → Int32} {ml : Nat → Int64} {mk : Nat → Int32} {mlo : Nat → Int64} {mhi : Nat → Int64} {pk : Nat → Int32} {ps : Nat → Int32} {pl : Nat → Int64} {ph : Nat → Int64} {mm : Nat → Int64} {out : Nat → Int64} {p : Program} {e : Env} {s : State} {m : MethodId} {args : Array Value} {below : List Frame} {meth : Method} {c : Code} (C : x_C p s m args c b_Md_wrongNumber 3 R_Md (Cond.code y_Md_wrongNumber b_Md_wrongNumber 3 (Option.some Jvm.ClassFile.FieldType.boolean) :: x_Wd) (x_k D cA ad)) (hr : meth.sig.returnType = (Option.some Jvm.ClassFile.FieldType.boolean)) (hlk : meth.locks = false) (a1 : Int32)  (x2 : Int32) (hk : bk_ok_Md_wrongNumber_30 mo a1 x2) : x_V p l e { frames := 1, cells := 0, slots := 0, locals := 25 } s m args below meth c (x_k D cA ad) 3 0 0 (x_E below (x_k D cA ad) args s 0 0 (x_F ad cA) (fun q : Int32 => ((some (.int (q)), ((stp, psz, gk, gl, gh, opn, cki, ckl, mp, rk, rv, ri, chk), (mo, mi, ml, mk, mlo, mhi, pk, ps, pl, ph, mm), out)) : Option Value × x_S)) (bk_Md_wrongNumber_30 mo a1 x2)) (x_F ad cA ((stp, psz, gk, gl, gh, opn, cki, ckl, mp, rk, rv, ri, chk), (mo, mi, ml, mk, mlo, mhi, pk, ps, pl, ph, mm), out)) 30 [(0, (.ref (ad (18, 0)))), (1, (.int a1)), (2, (.int x2))] [] := by
  unfold bk_Md_wrongNumber_30
  unfold bk_ok_Md_wrongNumber_30 at hk
  refine x_iload_n 2 C d_Md_wrongNumber_30 rfl rfl ?_
  refine x_bipush (v := 8) C d_Md_wrongNumber_31 (by decide) ?_
  refine x_icmp_ne 45 C d_Md_wrongNumber_33 (by decide) (fun z5 => ?_) (fun z5 => ?_)
  · have hk := x_okt hk z5
    refine x_aload_n 0 C d_Md_wrongNumber_36 rfl rfl ?_
    refine x_get (i := (18, 0)) (v := (.ref (ad (22, 0)))) 3 C m_18 rfl rfl i_Md (by decide) (List.mem_cons_of_mem _ q_794) rfl d_Md_wrongNumber_37 ?_
    refine x_iload_n 1 C d_Md_wrongNumber_40 rfl rfl ?_
    have w6 := hk.1
    have hk := hk.2
    refine x_iald (i := (22, 0)) (g := mo 3) 0 C m_22 rfl rfl w6 d_Md_wrongNumber_41 ?_
    refine x_if_eq 68 C d_Md_wrongNumber_42 (by decide) (fun z7 => ?_) (fun z7 => ?_)
    · have hk := x_okt hk z7
      refine x_iconst (v := 1) C d_Md_wrongNumber_68 (by decide) ?_
      refine x_goto 73 C d_Md_wrongNumber_69 (by decide) ?_
      exact x_zret C hr hlk rfl rfl d_Md_wrongNumber_73
    · have hk := x_okf hk z7
      refine x_loc (lv' := [(0, (.ref (ad (18, 0)))), (1, (.int a1)), (2, (.int x2))]) [0, 1, 2] rfl ?_
      exact cb_Md_wrongNumber_45 ok C hr hlk a1   x2 hk
  · have hk := x_okf hk z5
    refine x_loc (lv' := [(0, (.ref (ad (18, 0)))), (1, (.int a1)), (2, (.int x2))]) [0, 1, 2] rfl ?_
    exact cb_Md_wrongNumber_45 ok C hr hlk a1   x2 hk
def s_Md_wrongNumber (mo : Nat → Nat → Int32) (a1 : Int32) : Int32 :=
  (if (mo 0 a1.toNatClampNeg) = 7 then (x_let (s_Md_in (Int32.toInt64 (mo 3 a1.toNatClampNeg)) 0 63) fun r3 => (if r3 = 0 then (1) else bk_Md_wrongNumber_30 mo a1 (mo 0 a1.toNatClampNeg))) else bk_Md_wrongNumber_30 mo a1 (mo 0 a1.toNatClampNeg))
def k_ok_Md_wrongNumber (mo : Nat → Nat → Int32) (a1 : Int32) : Prop :=
  (vp_in a1 24 ∧ (if (mo 0 a1.toNatClampNeg) = 7 then (x_let (s_Md_in (Int32.toInt64 (mo 3 a1.toNatClampNeg)) 0 63) fun r3 => (if r3 = 0 then True else bk_ok_Md_wrongNumber_30 mo a1 (mo 0 a1.toNatClampNeg))) else bk_ok_Md_wrongNumber_30 mo a1 (mo 0 a1.toNatClampNeg)))
set_option maxHeartbeats 4000000 in
set_option maxRecDepth 100000 in
theorem c_Md_wrongNumber {l : Launch} {D : va_G} {cA : Nat → ClassId} {ad : x_I → Nat} (ok : x_ok (x_k D cA ad)) {stp : Nat → Nat → Int32} {psz : Int32} {gk : Nat → Nat → Int32} {gl : Nat → Nat → Int64} {gh : Nat → Nat → Int64} {opn : Nat → Int32} {cki : Nat → Int32} {ckl : Nat → Int64} {mp : Nat → Nat → Int64} {rk : Nat → Int32} {rv : Nat → Int64} {ri : Nat → Int32} {chk : Int32} {mo : Nat → Nat → Int32} {mi : Nat → Int32} {ml : Nat → Int64} {mk : Nat → Int32} {mlo : Nat → Int64} {mhi : Nat → Int64} {pk : Nat → Int32} {ps : Nat → Int32} {pl : Nat → Int64} {ph : Nat → Int64} {mm : Nat → Int64} {out : Nat → Int64} (a1 : Int32) (hk : k_ok_Md_wrongNumber mo a1) : x_M l y_Md_wrongNumber (Cond.code y_Md_wrongNumber b_Md_wrongNumber 3 (Option.some Jvm.ClassFile.FieldType.boolean) :: x_Wd) { frames := 1, cells := 0, slots := 0, locals := 25 } (x_k D cA ad) (x_F ad cA) [(.ref (ad (18, 0))), (.int a1)] ((stp, psz, gk, gl, gh, opn, cki, ckl, mp, rk, rv, ri, chk), (mo, mi, ml, mk, mlo, mhi, pk, ps, pl, ph, mm), out) ((fun q : Int32 => ((some (.int (q)), ((stp, psz, gk, gl, gh, opn, cki, ckl, mp, rk, rv, ri, chk), (mo, mi, ml, mk, mlo, mhi, pk, ps, pl, ph, mm), out)) : Option Value × x_S)) (s_Md_wrongNumber mo a1)) 0 0 := by
  refine x_start (κ := x_k D cA ad) (cc := b_Md_wrongNumber) (F := x_F ad cA) (wr := (fun q : Int32 => ((some (.int (q)), ((stp, psz, gk, gl, gh, opn, cki, ckl, mp, rk, rv, ri, chk), (mo, mi, ml, mk, mlo, mhi, pk, ps, pl, ph, mm), out)) : Option Value × x_S))) (q := s_Md_wrongNumber mo a1) (ret := (Option.some Jvm.ClassFile.FieldType.boolean)) (lv0 := [(0, (.ref (ad (18, 0)))), (1, (.int a1))]) ok (by decide) rfl (Nat.le_of_ble_eq_true rfl) rfl ?_
  intro p e s m below meth c C hr hlk
  unfold s_Md_wrongNumber
  unfold k_ok_Md_wrongNumber at hk
  refine x_aload_n 0 C d_Md_wrongNumber_0 rfl rfl ?_
  refine x_get (i := (18, 0)) (v := (.ref (ad (19, 0)))) 0 C m_18 rfl rfl i_Md (by decide) (List.mem_cons_of_mem _ q_791) rfl d_Md_wrongNumber_1 ?_
  refine x_iload_n 1 C d_Md_wrongNumber_4 rfl rfl ?_
  have w1 := hk.1
  have hk := hk.2
  refine x_iald (i := (19, 0)) (g := mo 0) 0 C m_19 rfl rfl w1 d_Md_wrongNumber_5 ?_
  refine x_istore_n (lv' := [(2, (.int (mo 0 a1.toNatClampNeg))), (0, (.ref (ad (18, 0)))), (1, (.int a1))]) C d_Md_wrongNumber_6 rfl (by decide) rfl ?_
  refine x_iload_n 0 C d_Md_wrongNumber_7 rfl rfl ?_
  refine x_bipush (v := 7) C d_Md_wrongNumber_8 (by decide) ?_
  refine x_icmp_ne 30 C d_Md_wrongNumber_10 (by decide) (fun z2 => ?_) (fun z2 => ?_)
  · have hk := x_okt hk z2
    refine x_aload_n 1 C d_Md_wrongNumber_13 rfl rfl ?_
    refine x_get (i := (18, 0)) (v := (.ref (ad (22, 0)))) 3 C m_18 rfl rfl i_Md (by decide) (List.mem_cons_of_mem _ q_794) rfl d_Md_wrongNumber_14 ?_
    refine x_iload_n 2 C d_Md_wrongNumber_17 rfl rfl ?_
    refine x_iald (i := (22, 0)) (g := mo 3) 0 C m_22 rfl rfl w1 d_Md_wrongNumber_18 ?_
    refine x_i2l C d_Md_wrongNumber_19 ?_
    refine x_lconst (v := 0) C d_Md_wrongNumber_20 (by decide) ?_
    refine x_ldc2 (v := 63) C (List.mem_cons_of_mem _ q_940) d_Md_wrongNumber_21 ?_
    refine x_cs (F := x_F ad cA) (As := [(.long (Int32.toInt64 (mo 3 a1.toNatClampNeg))), (.long 0), (.long 63)]) (rest := []) C k_Md_in q_883 (c_Md_in ok (Int32.toInt64 (mo 3 a1.toNatClampNeg)) 0 63) rfl rfl rfl (Nat.le_of_ble_eq_true rfl) (Nat.le_of_ble_eq_true rfl) rfl rfl (Nat.le_of_ble_eq_true rfl) d_Md_wrongNumber_24 ⟨Nat.zero_le _, Nat.zero_le _⟩ ?_
    generalize hq3 : s_Md_in (Int32.toInt64 (mo 3 a1.toNatClampNeg)) 0 63 = r3 at hk ⊢
    refine x_lets ?_
    have hk := x_lete hk
    refine x_if_eq 68 C d_Md_wrongNumber_27 (by decide) (fun z4 => ?_) (fun z4 => ?_)
    · have hk := x_okt hk z4
      refine x_iconst (v := 1) C d_Md_wrongNumber_68 (by decide) ?_
      refine x_goto 73 C d_Md_wrongNumber_69 (by decide) ?_
      exact x_zret C hr hlk rfl rfl d_Md_wrongNumber_73
    · have hk := x_okf hk z4
      refine x_loc (lv' := [(0, (.ref (ad (18, 0)))), (1, (.int a1)), (2, (.int (mo 0 a1.toNatClampNeg)))]) [1, 2, 0] rfl ?_
      exact cb_Md_wrongNumber_30 ok C hr hlk a1   (mo 0 a1.toNatClampNeg) hk
  · have hk := x_okf hk z2
    refine x_loc (lv' := [(0, (.ref (ad (18, 0)))), (1, (.int a1)), (2, (.int (mo 0 a1.toNatClampNeg)))]) [1, 2, 0] rfl ?_
    exact cb_Md_wrongNumber_30 ok C hr hlk a1   (mo 0 a1.toNatClampNeg) hk
def bk_Md_wrongKind_87 (mk : Nat → Int32) (a1 : Int32) (x4 : Int32) : Int32 :=
  (if (mk x4.toNatClampNeg) = 1 then (0) else (1))
def bk_ok_Md_wrongKind_87 (mk : Nat → Int32) (a1 : Int32) (x4 : Int32) : Prop :=
  (vp_in x4 12 ∧ True)
set_option maxHeartbeats 4000000 in
set_option maxRecDepth 100000 in
theorem cb_Md_wrongKind_87 {l : Launch} {D : va_G} {cA : Nat → ClassId} {ad : x_I → Nat} (ok : x_ok (x_k D cA ad)) {stp : Nat → Nat → Int32} {psz : Int32} {gk : Nat → Nat → Int32} {gl : Nat → Nat → Int64} {gh : Nat → Nat → Int64} {opn : Nat → Int32} {cki : Nat → Int32} {ckl : Nat → Int64} {mp : Nat → Nat → Int64} {rk : Nat → Int32} {rv : Nat → Int64} {ri : Nat → Int32} {chk : Int32} {mo : Nat → Nat → Int32} {mi : Nat → Int32} {ml : Nat → Int64} {mk : Nat → Int32} {mlo : Nat → Int64} {mhi : Nat → Int64} {pk : Nat → Int32} {ps : Nat → Int32} {pl : Nat → Int64} {ph : Nat → Int64} {mm : Nat → Int64} {out : Nat → Int64} {p : Program} {e : Env} {s : State} {m : MethodId} {args : Array Value} {below : List Frame} {meth : Method} {c : Code} (C : x_C p s m args c b_Md_wrongKind 5 R_Md (Cond.code y_Md_wrongKind b_Md_wrongKind 5 (Option.some Jvm.ClassFile.FieldType.boolean) :: x_Wd) (x_k D cA ad)) (hr : meth.sig.returnType = (Option.some Jvm.ClassFile.FieldType.boolean)) (hlk : meth.locks = false) (a1 : Int32)  (x4 : Int32) (hk : bk_ok_Md_wrongKind_87 mk a1 x4) : x_V p l e { frames := 1, cells := 0, slots := 0, locals := 21 } s m args below meth c (x_k D cA ad) 5 0 0 (x_E below (x_k D cA ad) args s 0 0 (x_F ad cA) (fun q : Int32 => ((some (.int (q)), ((stp, psz, gk, gl, gh, opn, cki, ckl, mp, rk, rv, ri, chk), (mo, mi, ml, mk, mlo, mhi, pk, ps, pl, ph, mm), out)) : Option Value × x_S)) (bk_Md_wrongKind_87 mk a1 x4)) (x_F ad cA ((stp, psz, gk, gl, gh, opn, cki, ckl, mp, rk, rv, ri, chk), (mo, mi, ml, mk, mlo, mhi, pk, ps, pl, ph, mm), out)) 87 [(0, (.ref (ad (18, 0)))), (4, (.int x4))] [] := by
  unfold bk_Md_wrongKind_87
  unfold bk_ok_Md_wrongKind_87 at hk
  refine x_aload_n 0 C d_Md_wrongKind_87 rfl rfl ?_
  refine x_get (i := (18, 0)) (v := (.ref (ad (24, 0)))) 16 C m_18 rfl rfl i_Md (by decide) (List.mem_cons_of_mem _ q_807) rfl d_Md_wrongKind_88 ?_
  refine x_iload 1 C d_Md_wrongKind_91 rfl ?_
  have w13 := hk.1
  have hk := hk.2
  refine x_iald (i := (24, 0)) (g := mk) 0 C m_24 rfl rfl w13 d_Md_wrongKind_93 ?_
  refine x_iconst (v := 1) C d_Md_wrongKind_94 (by decide) ?_
  refine x_icmp_eq 102 C d_Md_wrongKind_95 (by decide) (fun z14 => ?_) (fun z14 => ?_)
  · refine x_iconst (v := 0) C d_Md_wrongKind_102 (by decide) ?_
    exact x_zret C hr hlk rfl rfl d_Md_wrongKind_103
  · refine x_iconst (v := 1) C d_Md_wrongKind_98 (by decide) ?_
    refine x_goto 103 C d_Md_wrongKind_99 (by decide) ?_
    exact x_zret C hr hlk rfl rfl d_Md_wrongKind_103
def bk_Md_wrongKind_115 (mk : Nat → Int32) (a1 : Int32) (x3 : Int32) (x4 : Int32) : Int32 :=
  (if (mk x3.toNatClampNeg) = 1 then (if (mk x4.toNatClampNeg) = 1 then (0) else (1)) else (1))
def bk_ok_Md_wrongKind_115 (mk : Nat → Int32) (a1 : Int32) (x3 : Int32) (x4 : Int32) : Prop :=
  (vp_in x3 12 ∧ (if (mk x3.toNatClampNeg) = 1 then (vp_in x4 12 ∧ True) else True))
set_option maxHeartbeats 4000000 in
set_option maxRecDepth 100000 in
theorem cb_Md_wrongKind_115 {l : Launch} {D : va_G} {cA : Nat → ClassId} {ad : x_I → Nat} (ok : x_ok (x_k D cA ad)) {stp : Nat → Nat → Int32} {psz : Int32} {gk : Nat → Nat → Int32} {gl : Nat → Nat → Int64} {gh : Nat → Nat → Int64} {opn : Nat → Int32} {cki : Nat → Int32} {ckl : Nat → Int64} {mp : Nat → Nat → Int64} {rk : Nat → Int32} {rv : Nat → Int64} {ri : Nat → Int32} {chk : Int32} {mo : Nat → Nat → Int32} {mi : Nat → Int32} {ml : Nat → Int64} {mk : Nat → Int32} {mlo : Nat → Int64} {mhi : Nat → Int64} {pk : Nat → Int32} {ps : Nat → Int32} {pl : Nat → Int64} {ph : Nat → Int64} {mm : Nat → Int64} {out : Nat → Int64} {p : Program} {e : Env} {s : State} {m : MethodId} {args : Array Value} {below : List Frame} {meth : Method} {c : Code} (C : x_C p s m args c b_Md_wrongKind 5 R_Md (Cond.code y_Md_wrongKind b_Md_wrongKind 5 (Option.some Jvm.ClassFile.FieldType.boolean) :: x_Wd) (x_k D cA ad)) (hr : meth.sig.returnType = (Option.some Jvm.ClassFile.FieldType.boolean)) (hlk : meth.locks = false) (a1 : Int32)  (x3 : Int32) (x4 : Int32) (hk : bk_ok_Md_wrongKind_115 mk a1 x3 x4) : x_V p l e { frames := 1, cells := 0, slots := 0, locals := 21 } s m args below meth c (x_k D cA ad) 5 0 0 (x_E below (x_k D cA ad) args s 0 0 (x_F ad cA) (fun q : Int32 => ((some (.int (q)), ((stp, psz, gk, gl, gh, opn, cki, ckl, mp, rk, rv, ri, chk), (mo, mi, ml, mk, mlo, mhi, pk, ps, pl, ph, mm), out)) : Option Value × x_S)) (bk_Md_wrongKind_115 mk a1 x3 x4)) (x_F ad cA ((stp, psz, gk, gl, gh, opn, cki, ckl, mp, rk, rv, ri, chk), (mo, mi, ml, mk, mlo, mhi, pk, ps, pl, ph, mm), out)) 115 [(0, (.ref (ad (18, 0)))), (3, (.int x3)), (4, (.int x4))] [] := by
  unfold bk_Md_wrongKind_115
  unfold bk_ok_Md_wrongKind_115 at hk
  refine x_aload_n 0 C d_Md_wrongKind_115 rfl rfl ?_
  refine x_get (i := (18, 0)) (v := (.ref (ad (24, 0)))) 16 C m_18 rfl rfl i_Md (by decide) (List.mem_cons_of_mem _ q_807) rfl d_Md_wrongKind_116 ?_
  refine x_iload_n 1 C d_Md_wrongKind_119 rfl rfl ?_
  have w19 := hk.1
  have hk := hk.2
  refine x_iald (i := (24, 0)) (g := mk) 0 C m_24 rfl rfl w19 d_Md_wrongKind_120 ?_
  refine x_iconst (v := 1) C d_Md_wrongKind_121 (by decide) ?_
  refine x_icmp_ne 136 C d_Md_wrongKind_122 (by decide) (fun z20 => ?_) (fun z20 => ?_)
  · have hk := x_okt hk z20
    refine x_aload_n 0 C d_Md_wrongKind_125 rfl rfl ?_
    refine x_get (i := (18, 0)) (v := (.ref (ad (24, 0)))) 16 C m_18 rfl rfl i_Md (by decide) (List.mem_cons_of_mem _ q_807) rfl d_Md_wrongKind_126 ?_
    refine x_iload 2 C d_Md_wrongKind_129 rfl ?_
    have w21 := hk.1
    have hk := hk.2
    refine x_iald (i := (24, 0)) (g := mk) 0 C m_24 rfl rfl w21 d_Md_wrongKind_131 ?_
    refine x_iconst (v := 1) C d_Md_wrongKind_132 (by decide) ?_
    refine x_icmp_eq 140 C d_Md_wrongKind_133 (by decide) (fun z22 => ?_) (fun z22 => ?_)
    · refine x_iconst (v := 0) C d_Md_wrongKind_140 (by decide) ?_
      exact x_zret C hr hlk rfl rfl d_Md_wrongKind_141
    · refine x_iconst (v := 1) C d_Md_wrongKind_136 (by decide) ?_
      refine x_goto 141 C d_Md_wrongKind_137 (by decide) ?_
      exact x_zret C hr hlk rfl rfl d_Md_wrongKind_141
  · have hk := x_okf hk z20
    refine x_iconst (v := 1) C d_Md_wrongKind_136 (by decide) ?_
    refine x_goto 141 C d_Md_wrongKind_137 (by decide) ?_
    exact x_zret C hr hlk rfl rfl d_Md_wrongKind_141
def bk_Md_wrongKind_266 (mk : Nat → Int32) (a1 : Int32) (x4 : Int32) : Int32 :=
  (if (mk x4.toNatClampNeg) = 1 then (0) else (1))
def bk_ok_Md_wrongKind_266 (mk : Nat → Int32) (a1 : Int32) (x4 : Int32) : Prop :=
  (vp_in x4 12 ∧ True)
set_option maxHeartbeats 4000000 in
set_option maxRecDepth 100000 in
theorem cb_Md_wrongKind_266 {l : Launch} {D : va_G} {cA : Nat → ClassId} {ad : x_I → Nat} (ok : x_ok (x_k D cA ad)) {stp : Nat → Nat → Int32} {psz : Int32} {gk : Nat → Nat → Int32} {gl : Nat → Nat → Int64} {gh : Nat → Nat → Int64} {opn : Nat → Int32} {cki : Nat → Int32} {ckl : Nat → Int64} {mp : Nat → Nat → Int64} {rk : Nat → Int32} {rv : Nat → Int64} {ri : Nat → Int32} {chk : Int32} {mo : Nat → Nat → Int32} {mi : Nat → Int32} {ml : Nat → Int64} {mk : Nat → Int32} {mlo : Nat → Int64} {mhi : Nat → Int64} {pk : Nat → Int32} {ps : Nat → Int32} {pl : Nat → Int64} {ph : Nat → Int64} {mm : Nat → Int64} {out : Nat → Int64} {p : Program} {e : Env} {s : State} {m : MethodId} {args : Array Value} {below : List Frame} {meth : Method} {c : Code} (C : x_C p s m args c b_Md_wrongKind 5 R_Md (Cond.code y_Md_wrongKind b_Md_wrongKind 5 (Option.some Jvm.ClassFile.FieldType.boolean) :: x_Wd) (x_k D cA ad)) (hr : meth.sig.returnType = (Option.some Jvm.ClassFile.FieldType.boolean)) (hlk : meth.locks = false) (a1 : Int32)  (x4 : Int32) (hk : bk_ok_Md_wrongKind_266 mk a1 x4) : x_V p l e { frames := 1, cells := 0, slots := 0, locals := 21 } s m args below meth c (x_k D cA ad) 5 0 0 (x_E below (x_k D cA ad) args s 0 0 (x_F ad cA) (fun q : Int32 => ((some (.int (q)), ((stp, psz, gk, gl, gh, opn, cki, ckl, mp, rk, rv, ri, chk), (mo, mi, ml, mk, mlo, mhi, pk, ps, pl, ph, mm), out)) : Option Value × x_S)) (bk_Md_wrongKind_266 mk a1 x4)) (x_F ad cA ((stp, psz, gk, gl, gh, opn, cki, ckl, mp, rk, rv, ri, chk), (mo, mi, ml, mk, mlo, mhi, pk, ps, pl, ph, mm), out)) 266 [(0, (.ref (ad (18, 0)))), (4, (.int x4))] [] := by
  unfold bk_Md_wrongKind_266
  unfold bk_ok_Md_wrongKind_266 at hk
  refine x_aload_n 0 C d_Md_wrongKind_266 rfl rfl ?_
  refine x_get (i := (18, 0)) (v := (.ref (ad (24, 0)))) 16 C m_18 rfl rfl i_Md (by decide) (List.mem_cons_of_mem _ q_807) rfl d_Md_wrongKind_267 ?_
  refine x_iload 1 C d_Md_wrongKind_270 rfl ?_
  have w40 := hk.1
  have hk := hk.2
  refine x_iald (i := (24, 0)) (g := mk) 0 C m_24 rfl rfl w40 d_Md_wrongKind_272 ?_
  refine x_iconst (v := 1) C d_Md_wrongKind_273 (by decide) ?_
  refine x_icmp_eq 281 C d_Md_wrongKind_274 (by decide) (fun z41 => ?_) (fun z41 => ?_)
  · refine x_iconst (v := 0) C d_Md_wrongKind_281 (by decide) ?_
    exact x_zret C hr hlk rfl rfl d_Md_wrongKind_282
  · refine x_iconst (v := 1) C d_Md_wrongKind_277 (by decide) ?_
    refine x_goto 282 C d_Md_wrongKind_278 (by decide) ?_
    exact x_zret C hr hlk rfl rfl d_Md_wrongKind_282
def bk_Md_wrongKind_324 (mo : Nat → Nat → Int32) (mk : Nat → Int32) (a1 : Int32)  : Int32 :=
  (if (mo 3 a1.toNatClampNeg) = 2 then (if (mk (Int32.toNatClampNeg 2)) = 1 then (0) else (1)) else (0))
def bk_ok_Md_wrongKind_324 (mo : Nat → Nat → Int32) (mk : Nat → Int32) (a1 : Int32)  : Prop :=
  (vp_in a1 24 ∧ True)
set_option maxHeartbeats 4000000 in
set_option maxRecDepth 100000 in
theorem cb_Md_wrongKind_324 {l : Launch} {D : va_G} {cA : Nat → ClassId} {ad : x_I → Nat} (ok : x_ok (x_k D cA ad)) {stp : Nat → Nat → Int32} {psz : Int32} {gk : Nat → Nat → Int32} {gl : Nat → Nat → Int64} {gh : Nat → Nat → Int64} {opn : Nat → Int32} {cki : Nat → Int32} {ckl : Nat → Int64} {mp : Nat → Nat → Int64} {rk : Nat → Int32} {rv : Nat → Int64} {ri : Nat → Int32} {chk : Int32} {mo : Nat → Nat → Int32} {mi : Nat → Int32} {ml : Nat → Int64} {mk : Nat → Int32} {mlo : Nat → Int64} {mhi : Nat → Int64} {pk : Nat → Int32} {ps : Nat → Int32} {pl : Nat → Int64} {ph : Nat → Int64} {mm : Nat → Int64} {out : Nat → Int64} {p : Program} {e : Env} {s : State} {m : MethodId} {args : Array Value} {below : List Frame} {meth : Method} {c : Code} (C : x_C p s m args c b_Md_wrongKind 5 R_Md (Cond.code y_Md_wrongKind b_Md_wrongKind 5 (Option.some Jvm.ClassFile.FieldType.boolean) :: x_Wd) (x_k D cA ad)) (hr : meth.sig.returnType = (Option.some Jvm.ClassFile.FieldType.boolean)) (hlk : meth.locks = false) (a1 : Int32)   (hk : bk_ok_Md_wrongKind_324 mo mk a1) : x_V p l e { frames := 1, cells := 0, slots := 0, locals := 21 } s m args below meth c (x_k D cA ad) 5 0 0 (x_E below (x_k D cA ad) args s 0 0 (x_F ad cA) (fun q : Int32 => ((some (.int (q)), ((stp, psz, gk, gl, gh, opn, cki, ckl, mp, rk, rv, ri, chk), (mo, mi, ml, mk, mlo, mhi, pk, ps, pl, ph, mm), out)) : Option Value × x_S)) (bk_Md_wrongKind_324 mo mk a1)) (x_F ad cA ((stp, psz, gk, gl, gh, opn, cki, ckl, mp, rk, rv, ri, chk), (mo, mi, ml, mk, mlo, mhi, pk, ps, pl, ph, mm), out)) 324 [(0, (.ref (ad (18, 0)))), (1, (.int a1))] [] := by
  unfold bk_Md_wrongKind_324
  unfold bk_ok_Md_wrongKind_324 at hk
  refine x_aload_n 0 C d_Md_wrongKind_324 rfl rfl ?_
  refine x_get (i := (18, 0)) (v := (.ref (ad (22, 0)))) 3 C m_18 rfl rfl i_Md (by decide) (List.mem_cons_of_mem _ q_794) rfl d_Md_wrongKind_325 ?_
  refine x_iload_n 1 C d_Md_wrongKind_328 rfl rfl ?_
  have w46 := hk.1
  have hk := hk.2
  refine x_iald (i := (22, 0)) (g := mo 3) 0 C m_22 rfl rfl w46 d_Md_wrongKind_329 ?_
  refine x_iconst (v := 2) C d_Md_wrongKind_330 (by decide) ?_
  refine x_icmp_ne 348 C d_Md_wrongKind_331 (by decide) (fun z47 => ?_) (fun z47 => ?_)
  · refine x_aload_n 0 C d_Md_wrongKind_334 rfl rfl ?_
    refine x_get (i := (18, 0)) (v := (.ref (ad (24, 0)))) 16 C m_18 rfl rfl i_Md (by decide) (List.mem_cons_of_mem _ q_807) rfl d_Md_wrongKind_335 ?_
    refine x_iconst (v := 2) C d_Md_wrongKind_338 (by decide) ?_
    refine x_iald (i := (24, 0)) (g := mk) 0 C m_24 rfl rfl (x_vin (by decide)) d_Md_wrongKind_339 ?_
    refine x_iconst (v := 1) C d_Md_wrongKind_340 (by decide) ?_
    refine x_icmp_eq 348 C d_Md_wrongKind_341 (by decide) (fun z48 => ?_) (fun z48 => ?_)
    · refine x_iconst (v := 0) C d_Md_wrongKind_348 (by decide) ?_
      exact x_zret C hr hlk rfl rfl d_Md_wrongKind_349
    · refine x_iconst (v := 1) C d_Md_wrongKind_344 (by decide) ?_
      refine x_goto 349 C d_Md_wrongKind_345 (by decide) ?_
      exact x_zret C hr hlk rfl rfl d_Md_wrongKind_349
  · refine x_iconst (v := 0) C d_Md_wrongKind_348 (by decide) ?_
    exact x_zret C hr hlk rfl rfl d_Md_wrongKind_349
def s_Md_wrongKind (mo : Nat → Nat → Int32) (mk : Nat → Int32) (mlo : Nat → Int64) (mhi : Nat → Int64) (a1 : Int32) : Int32 :=
  (if (mo 0 a1.toNatClampNeg) < 2 then (0) else (if (mo 0 a1.toNatClampNeg) = 13 then (0) else (if (mo 0 a1.toNatClampNeg) = 2 then (if (mk ((mo 1 a1.toNatClampNeg).toNatClampNeg)) = 1 then (0) else (x_let (s_Md_place mk (mo 1 a1.toNatClampNeg)) fun r8 => (if r8 = 0 then (1) else (0)))) else (if (mo 0 a1.toNatClampNeg) = 3 then (if (mk ((mo 1 a1.toNatClampNeg).toNatClampNeg)) = 1 then bk_Md_wrongKind_87 mk a1 (mo 2 a1.toNatClampNeg) else (x_let (s_Md_place mk (mo 1 a1.toNatClampNeg)) fun r16 => (if r16 = 0 then (1) else bk_Md_wrongKind_87 mk a1 (mo 2 a1.toNatClampNeg)))) else (if (mo 0 a1.toNatClampNeg) = 4 then bk_Md_wrongKind_115 mk a1 (mo 1 a1.toNatClampNeg) (mo 2 a1.toNatClampNeg) else (if (mo 0 a1.toNatClampNeg) = 12 then bk_Md_wrongKind_115 mk a1 (mo 1 a1.toNatClampNeg) (mo 2 a1.toNatClampNeg) else (if (mo 0 a1.toNatClampNeg) = 10 then (if (mk ((mo 1 a1.toNatClampNeg).toNatClampNeg)) = 1 then (0) else (if (mk ((mo 1 a1.toNatClampNeg).toNatClampNeg)) = 4 then (if (mo 3 a1.toNatClampNeg) = 0 then (0) else (1)) else (1))) else (if 12 ≤ (mo 0 a1.toNatClampNeg) then (if (mo 0 a1.toNatClampNeg) = 14 then (x_let (s_Md_place mk (mo 2 a1.toNatClampNeg)) fun r32 => (if r32 = 0 then (1) else (0))) else (if (mo 0 a1.toNatClampNeg) = 15 then (x_let (s_Md_place mk (mo 1 a1.toNatClampNeg)) fun r36 => (if r36 = 0 then (1) else (if (mk ((mo 1 a1.toNatClampNeg).toNatClampNeg)) = 3 then bk_Md_wrongKind_266 mk a1 (mo 2 a1.toNatClampNeg) else (if (mlo ((mo 1 a1.toNatClampNeg).toNatClampNeg)) = (mhi ((mo 1 a1.toNatClampNeg).toNatClampNeg)) then (0) else bk_Md_wrongKind_266 mk a1 (mo 2 a1.toNatClampNeg))))) else (if (mo 0 a1.toNatClampNeg) = 17 then (if (mk (Int32.toNatClampNeg 0)) = 1 then (0) else (1)) else (if (mo 3 a1.toNatClampNeg) ≤ 0 then bk_Md_wrongKind_324 mo mk a1 else (if (mk (Int32.toNatClampNeg 1)) = 1 then bk_Md_wrongKind_324 mo mk a1 else (1)))))) else (if (mk ((mo 1 a1.toNatClampNeg).toNatClampNeg)) = 1 then (0) else (1))))))))))
def k_ok_Md_wrongKind (mo : Nat → Nat → Int32) (mk : Nat → Int32) (mlo : Nat → Int64) (mhi : Nat → Int64) (a1 : Int32) : Prop :=
  (vp_in a1 24 ∧ (if (mo 0 a1.toNatClampNeg) < 2 then True else (if (mo 0 a1.toNatClampNeg) = 13 then True else (if (mo 0 a1.toNatClampNeg) = 2 then (vp_in (mo 1 a1.toNatClampNeg) 12 ∧ (if (mk ((mo 1 a1.toNatClampNeg).toNatClampNeg)) = 1 then True else (k_ok_Md_place mk (mo 1 a1.toNatClampNeg) ∧ True))) else (if (mo 0 a1.toNatClampNeg) = 3 then (vp_in (mo 1 a1.toNatClampNeg) 12 ∧ (if (mk ((mo 1 a1.toNatClampNeg).toNatClampNeg)) = 1 then bk_ok_Md_wrongKind_87 mk a1 (mo 2 a1.toNatClampNeg) else (k_ok_Md_place mk (mo 1 a1.toNatClampNeg) ∧ (x_let (s_Md_place mk (mo 1 a1.toNatClampNeg)) fun r16 => (if r16 = 0 then True else bk_ok_Md_wrongKind_87 mk a1 (mo 2 a1.toNatClampNeg)))))) else (if (mo 0 a1.toNatClampNeg) = 4 then bk_ok_Md_wrongKind_115 mk a1 (mo 1 a1.toNatClampNeg) (mo 2 a1.toNatClampNeg) else (if (mo 0 a1.toNatClampNeg) = 12 then bk_ok_Md_wrongKind_115 mk a1 (mo 1 a1.toNatClampNeg) (mo 2 a1.toNatClampNeg) else (if (mo 0 a1.toNatClampNeg) = 10 then (vp_in (mo 1 a1.toNatClampNeg) 12 ∧ True) else (if 12 ≤ (mo 0 a1.toNatClampNeg) then (if (mo 0 a1.toNatClampNeg) = 14 then (k_ok_Md_place mk (mo 2 a1.toNatClampNeg) ∧ True) else (if (mo 0 a1.toNatClampNeg) = 15 then (k_ok_Md_place mk (mo 1 a1.toNatClampNeg) ∧ (x_let (s_Md_place mk (mo 1 a1.toNatClampNeg)) fun r36 => (if r36 = 0 then True else (vp_in (mo 1 a1.toNatClampNeg) 12 ∧ (if (mk ((mo 1 a1.toNatClampNeg).toNatClampNeg)) = 3 then bk_ok_Md_wrongKind_266 mk a1 (mo 2 a1.toNatClampNeg) else (if (mlo ((mo 1 a1.toNatClampNeg).toNatClampNeg)) = (mhi ((mo 1 a1.toNatClampNeg).toNatClampNeg)) then True else bk_ok_Md_wrongKind_266 mk a1 (mo 2 a1.toNatClampNeg))))))) else (if (mo 0 a1.toNatClampNeg) = 17 then True else (if (mo 3 a1.toNatClampNeg) ≤ 0 then bk_ok_Md_wrongKind_324 mo mk a1 else (if (mk (Int32.toNatClampNeg 1)) = 1 then bk_ok_Md_wrongKind_324 mo mk a1 else True))))) else (vp_in (mo 1 a1.toNatClampNeg) 12 ∧ True))))))))))
set_option maxHeartbeats 4000000 in
set_option maxRecDepth 100000 in
theorem c_Md_wrongKind {l : Launch} {D : va_G} {cA : Nat → ClassId} {ad : x_I → Nat} (ok : x_ok (x_k D cA ad)) {stp : Nat → Nat → Int32} {psz : Int32} {gk : Nat → Nat → Int32} {gl : Nat → Nat → Int64} {gh : Nat → Nat → Int64} {opn : Nat → Int32} {cki : Nat → Int32} {ckl : Nat → Int64} {mp : Nat → Nat → Int64} {rk : Nat → Int32} {rv : Nat → Int64} {ri : Nat → Int32} {chk : Int32} {mo : Nat → Nat → Int32} {mi : Nat → Int32} {ml : Nat → Int64} {mk : Nat → Int32} {mlo : Nat → Int64} {mhi : Nat → Int64} {pk : Nat → Int32} {ps : Nat → Int32} {pl : Nat → Int64} {ph : Nat → Int64} {mm : Nat → Int64} {out : Nat → Int64} (a1 : Int32) (hk : k_ok_Md_wrongKind mo mk mlo mhi a1) : x_M l y_Md_wrongKind (Cond.code y_Md_wrongKind b_Md_wrongKind 5 (Option.some Jvm.ClassFile.FieldType.boolean) :: x_Wd) { frames := 1, cells := 0, slots := 0, locals := 21 } (x_k D cA ad) (x_F ad cA) [(.ref (ad (18, 0))), (.int a1)] ((stp, psz, gk, gl, gh, opn, cki, ckl, mp, rk, rv, ri, chk), (mo, mi, ml, mk, mlo, mhi, pk, ps, pl, ph, mm), out) ((fun q : Int32 => ((some (.int (q)), ((stp, psz, gk, gl, gh, opn, cki, ckl, mp, rk, rv, ri, chk), (mo, mi, ml, mk, mlo, mhi, pk, ps, pl, ph, mm), out)) : Option Value × x_S)) (s_Md_wrongKind mo mk mlo mhi a1)) 0 0 := by
  refine x_start (κ := x_k D cA ad) (cc := b_Md_wrongKind) (F := x_F ad cA) (wr := (fun q : Int32 => ((some (.int (q)), ((stp, psz, gk, gl, gh, opn, cki, ckl, mp, rk, rv, ri, chk), (mo, mi, ml, mk, mlo, mhi, pk, ps, pl, ph, mm), out)) : Option Value × x_S))) (q := s_Md_wrongKind mo mk mlo mhi a1) (ret := (Option.some Jvm.ClassFile.FieldType.boolean)) (lv0 := [(0, (.ref (ad (18, 0)))), (1, (.int a1))]) ok (by decide) rfl (Nat.le_of_ble_eq_true rfl) rfl ?_
  intro p e s m below meth c C hr hlk
  unfold s_Md_wrongKind
  unfold k_ok_Md_wrongKind at hk
  refine x_aload_n 0 C d_Md_wrongKind_0 rfl rfl ?_
  refine x_get (i := (18, 0)) (v := (.ref (ad (19, 0)))) 0 C m_18 rfl rfl i_Md (by decide) (List.mem_cons_of_mem _ q_791) rfl d_Md_wrongKind_1 ?_
  refine x_iload_n 1 C d_Md_wrongKind_4 rfl rfl ?_
  have w1 := hk.1
  have hk := hk.2
  refine x_iald (i := (19, 0)) (g := mo 0) 0 C m_19 rfl rfl w1 d_Md_wrongKind_5 ?_
  refine x_istore_n (lv' := [(2, (.int (mo 0 a1.toNatClampNeg))), (0, (.ref (ad (18, 0)))), (1, (.int a1))]) C d_Md_wrongKind_6 rfl (by decide) rfl ?_
  refine x_aload_n 1 C d_Md_wrongKind_7 rfl rfl ?_
  refine x_get (i := (18, 0)) (v := (.ref (ad (20, 0)))) 1 C m_18 rfl rfl i_Md (by decide) (List.mem_cons_of_mem _ q_792) rfl d_Md_wrongKind_8 ?_
  refine x_iload_n 2 C d_Md_wrongKind_11 rfl rfl ?_
  refine x_iald (i := (20, 0)) (g := mo 1) 0 C m_20 rfl rfl w1 d_Md_wrongKind_12 ?_
  refine x_istore_n (lv' := [(3, (.int (mo 1 a1.toNatClampNeg))), (2, (.int (mo 0 a1.toNatClampNeg))), (0, (.ref (ad (18, 0)))), (1, (.int a1))]) C d_Md_wrongKind_13 rfl (by decide) rfl ?_
  refine x_aload_n 2 C d_Md_wrongKind_14 rfl rfl ?_
  refine x_get (i := (18, 0)) (v := (.ref (ad (21, 0)))) 2 C m_18 rfl rfl i_Md (by decide) (List.mem_cons_of_mem _ q_793) rfl d_Md_wrongKind_15 ?_
  refine x_iload_n 3 C d_Md_wrongKind_18 rfl rfl ?_
  refine x_iald (i := (21, 0)) (g := mo 2) 0 C m_21 rfl rfl w1 d_Md_wrongKind_19 ?_
  refine x_istore (lv' := [(4, (.int (mo 2 a1.toNatClampNeg))), (3, (.int (mo 1 a1.toNatClampNeg))), (2, (.int (mo 0 a1.toNatClampNeg))), (0, (.ref (ad (18, 0)))), (1, (.int a1))]) C d_Md_wrongKind_20 (by decide) rfl ?_
  refine x_iload_n 2 C d_Md_wrongKind_22 rfl rfl ?_
  refine x_iconst (v := 2) C d_Md_wrongKind_23 (by decide) ?_
  refine x_icmp_lt 33 C d_Md_wrongKind_24 (by decide) (fun z2 => ?_) (fun z2 => ?_)
  · have hk := x_okt hk z2
    refine x_iconst (v := 0) C d_Md_wrongKind_33 (by decide) ?_
    exact x_zret C hr hlk rfl rfl d_Md_wrongKind_34
  · have hk := x_okf hk z2
    refine x_iload_n 2 C d_Md_wrongKind_27 rfl rfl ?_
    refine x_bipush (v := 13) C d_Md_wrongKind_28 (by decide) ?_
    refine x_icmp_ne 35 C d_Md_wrongKind_30 (by decide) (fun z3 => ?_) (fun z3 => ?_)
    · have hk := x_okt hk z3
      refine x_iconst (v := 0) C d_Md_wrongKind_33 (by decide) ?_
      exact x_zret C hr hlk rfl rfl d_Md_wrongKind_34
    · have hk := x_okf hk z3
      refine x_iload_n 2 C d_Md_wrongKind_35 rfl rfl ?_
      refine x_iconst (v := 2) C d_Md_wrongKind_36 (by decide) ?_
      refine x_icmp_ne 64 C d_Md_wrongKind_37 (by decide) (fun z4 => ?_) (fun z4 => ?_)
      · have hk := x_okt hk z4
        refine x_aload_n 3 C d_Md_wrongKind_40 rfl rfl ?_
        refine x_get (i := (18, 0)) (v := (.ref (ad (24, 0)))) 16 C m_18 rfl rfl i_Md (by decide) (List.mem_cons_of_mem _ q_807) rfl d_Md_wrongKind_41 ?_
        refine x_iload_n 1 C d_Md_wrongKind_44 rfl rfl ?_
        have w5 := hk.1
        have hk := hk.2
        refine x_iald (i := (24, 0)) (g := mk) 0 C m_24 rfl rfl w5 d_Md_wrongKind_45 ?_
        refine x_iconst (v := 1) C d_Md_wrongKind_46 (by decide) ?_
        refine x_icmp_eq 62 C d_Md_wrongKind_47 (by decide) (fun z6 => ?_) (fun z6 => ?_)
        · have hk := x_okt hk z6
          refine x_iconst (v := 0) C d_Md_wrongKind_62 (by decide) ?_
          exact x_zret C hr hlk rfl rfl d_Md_wrongKind_63
        · have hk := x_okf hk z6
          refine x_aload_n 3 C d_Md_wrongKind_50 rfl rfl ?_
          refine x_iload_n 1 C d_Md_wrongKind_51 rfl rfl ?_
          have w7 := hk.1
          have hk := hk.2
          refine x_cv (i := (18, 0)) (F := x_F ad cA) (As := [(.int (mo 1 a1.toNatClampNeg))]) (rest := []) C k_Md_place q_946 (c_Md_place ok (mo 1 a1.toNatClampNeg) w7) rfl rfl rfl (Nat.le_of_ble_eq_true rfl) (Nat.le_of_ble_eq_true rfl) m_18 rfl rfl rfl rfl rfl (Nat.le_of_ble_eq_true rfl) d_Md_wrongKind_52 ⟨Nat.zero_le _, Nat.zero_le _⟩ ?_
          generalize hq8 : s_Md_place mk (mo 1 a1.toNatClampNeg) = r8
          refine x_lets ?_
          refine x_if_ne 62 C d_Md_wrongKind_55 (by decide) (fun z9 => ?_) (fun z9 => ?_)
          · refine x_iconst (v := 1) C d_Md_wrongKind_58 (by decide) ?_
            refine x_goto 63 C d_Md_wrongKind_59 (by decide) ?_
            exact x_zret C hr hlk rfl rfl d_Md_wrongKind_63
          · refine x_iconst (v := 0) C d_Md_wrongKind_62 (by decide) ?_
            exact x_zret C hr hlk rfl rfl d_Md_wrongKind_63
      · have hk := x_okf hk z4
        refine x_iload_n 2 C d_Md_wrongKind_64 rfl rfl ?_
        refine x_iconst (v := 3) C d_Md_wrongKind_65 (by decide) ?_
        refine x_icmp_ne 104 C d_Md_wrongKind_66 (by decide) (fun z10 => ?_) (fun z10 => ?_)
        · have hk := x_okt hk z10
          refine x_aload_n 3 C d_Md_wrongKind_69 rfl rfl ?_
          refine x_get (i := (18, 0)) (v := (.ref (ad (24, 0)))) 16 C m_18 rfl rfl i_Md (by decide) (List.mem_cons_of_mem _ q_807) rfl d_Md_wrongKind_70 ?_
          refine x_iload_n 1 C d_Md_wrongKind_73 rfl rfl ?_
          have w11 := hk.1
          have hk := hk.2
          refine x_iald (i := (24, 0)) (g := mk) 0 C m_24 rfl rfl w11 d_Md_wrongKind_74 ?_
          refine x_iconst (v := 1) C d_Md_wrongKind_75 (by decide) ?_
          refine x_icmp_eq 87 C d_Md_wrongKind_76 (by decide) (fun z12 => ?_) (fun z12 => ?_)
          · have hk := x_okt hk z12
            refine x_loc (lv' := [(0, (.ref (ad (18, 0)))), (4, (.int (mo 2 a1.toNatClampNeg)))]) [3, 0] rfl ?_
            exact cb_Md_wrongKind_87 ok C hr hlk a1   (mo 2 a1.toNatClampNeg) hk
          · have hk := x_okf hk z12
            refine x_aload_n 3 C d_Md_wrongKind_79 rfl rfl ?_
            refine x_iload_n 1 C d_Md_wrongKind_80 rfl rfl ?_
            have w15 := hk.1
            have hk := hk.2
            refine x_cv (i := (18, 0)) (F := x_F ad cA) (As := [(.int (mo 1 a1.toNatClampNeg))]) (rest := []) C k_Md_place q_946 (c_Md_place ok (mo 1 a1.toNatClampNeg) w15) rfl rfl rfl (Nat.le_of_ble_eq_true rfl) (Nat.le_of_ble_eq_true rfl) m_18 rfl rfl rfl rfl rfl (Nat.le_of_ble_eq_true rfl) d_Md_wrongKind_81 ⟨Nat.zero_le _, Nat.zero_le _⟩ ?_
            generalize hq16 : s_Md_place mk (mo 1 a1.toNatClampNeg) = r16 at hk ⊢
            refine x_lets ?_
            have hk := x_lete hk
            refine x_if_eq 98 C d_Md_wrongKind_84 (by decide) (fun z17 => ?_) (fun z17 => ?_)
            · have hk := x_okt hk z17
              refine x_iconst (v := 1) C d_Md_wrongKind_98 (by decide) ?_
              refine x_goto 103 C d_Md_wrongKind_99 (by decide) ?_
              exact x_zret C hr hlk rfl rfl d_Md_wrongKind_103
            · have hk := x_okf hk z17
              refine x_loc (lv' := [(0, (.ref (ad (18, 0)))), (4, (.int (mo 2 a1.toNatClampNeg)))]) [3, 0] rfl ?_
              exact cb_Md_wrongKind_87 ok C hr hlk a1   (mo 2 a1.toNatClampNeg) hk
        · have hk := x_okf hk z10
          refine x_iload_n 2 C d_Md_wrongKind_104 rfl rfl ?_
          refine x_iconst (v := 4) C d_Md_wrongKind_105 (by decide) ?_
          refine x_icmp_eq 115 C d_Md_wrongKind_106 (by decide) (fun z18 => ?_) (fun z18 => ?_)
          · have hk := x_okt hk z18
            refine x_loc (lv' := [(0, (.ref (ad (18, 0)))), (3, (.int (mo 1 a1.toNatClampNeg))), (4, (.int (mo 2 a1.toNatClampNeg)))]) [3, 1, 0] rfl ?_
            exact cb_Md_wrongKind_115 ok C hr hlk a1   (mo 1 a1.toNatClampNeg) (mo 2 a1.toNatClampNeg) hk
          · have hk := x_okf hk z18
            refine x_iload_n 2 C d_Md_wrongKind_109 rfl rfl ?_
            refine x_bipush (v := 12) C d_Md_wrongKind_110 (by decide) ?_
            refine x_icmp_ne 142 C d_Md_wrongKind_112 (by decide) (fun z23 => ?_) (fun z23 => ?_)
            · have hk := x_okt hk z23
              refine x_loc (lv' := [(0, (.ref (ad (18, 0)))), (3, (.int (mo 1 a1.toNatClampNeg))), (4, (.int (mo 2 a1.toNatClampNeg)))]) [3, 1, 0] rfl ?_
              exact cb_Md_wrongKind_115 ok C hr hlk a1   (mo 1 a1.toNatClampNeg) (mo 2 a1.toNatClampNeg) hk
            · have hk := x_okf hk z23
              refine x_iload_n 2 C d_Md_wrongKind_142 rfl rfl ?_
              refine x_bipush (v := 10) C d_Md_wrongKind_143 (by decide) ?_
              refine x_icmp_ne 183 C d_Md_wrongKind_145 (by decide) (fun z24 => ?_) (fun z24 => ?_)
              · have hk := x_okt hk z24
                refine x_aload_n 3 C d_Md_wrongKind_148 rfl rfl ?_
                refine x_get (i := (18, 0)) (v := (.ref (ad (24, 0)))) 16 C m_18 rfl rfl i_Md (by decide) (List.mem_cons_of_mem _ q_807) rfl d_Md_wrongKind_149 ?_
                refine x_iload_n 1 C d_Md_wrongKind_152 rfl rfl ?_
                have w25 := hk.1
                have hk := hk.2
                refine x_iald (i := (24, 0)) (g := mk) 0 C m_24 rfl rfl w25 d_Md_wrongKind_153 ?_
                refine x_iconst (v := 1) C d_Md_wrongKind_154 (by decide) ?_
                refine x_icmp_eq 181 C d_Md_wrongKind_155 (by decide) (fun z26 => ?_) (fun z26 => ?_)
                · refine x_iconst (v := 0) C d_Md_wrongKind_181 (by decide) ?_
                  exact x_zret C hr hlk rfl rfl d_Md_wrongKind_182
                · refine x_aload_n 3 C d_Md_wrongKind_158 rfl rfl ?_
                  refine x_get (i := (18, 0)) (v := (.ref (ad (24, 0)))) 16 C m_18 rfl rfl i_Md (by decide) (List.mem_cons_of_mem _ q_807) rfl d_Md_wrongKind_159 ?_
                  refine x_iload_n 1 C d_Md_wrongKind_162 rfl rfl ?_
                  refine x_iald (i := (24, 0)) (g := mk) 0 C m_24 rfl rfl w25 d_Md_wrongKind_163 ?_
                  refine x_iconst (v := 4) C d_Md_wrongKind_164 (by decide) ?_
                  refine x_icmp_ne 177 C d_Md_wrongKind_165 (by decide) (fun z27 => ?_) (fun z27 => ?_)
                  · refine x_aload_n 3 C d_Md_wrongKind_168 rfl rfl ?_
                    refine x_get (i := (18, 0)) (v := (.ref (ad (22, 0)))) 3 C m_18 rfl rfl i_Md (by decide) (List.mem_cons_of_mem _ q_794) rfl d_Md_wrongKind_169 ?_
                    refine x_iload_n 4 C d_Md_wrongKind_172 rfl rfl ?_
                    refine x_iald (i := (22, 0)) (g := mo 3) 0 C m_22 rfl rfl w1 d_Md_wrongKind_173 ?_
                    refine x_if_eq 181 C d_Md_wrongKind_174 (by decide) (fun z28 => ?_) (fun z28 => ?_)
                    · refine x_iconst (v := 0) C d_Md_wrongKind_181 (by decide) ?_
                      exact x_zret C hr hlk rfl rfl d_Md_wrongKind_182
                    · refine x_iconst (v := 1) C d_Md_wrongKind_177 (by decide) ?_
                      refine x_goto 182 C d_Md_wrongKind_178 (by decide) ?_
                      exact x_zret C hr hlk rfl rfl d_Md_wrongKind_182
                  · refine x_iconst (v := 1) C d_Md_wrongKind_177 (by decide) ?_
                    refine x_goto 182 C d_Md_wrongKind_178 (by decide) ?_
                    exact x_zret C hr hlk rfl rfl d_Md_wrongKind_182
              · have hk := x_okf hk z24
                refine x_iload_n 2 C d_Md_wrongKind_183 rfl rfl ?_
                refine x_bipush (v := 12) C d_Md_wrongKind_184 (by decide) ?_
                refine x_icmp_ge 205 C d_Md_wrongKind_186 (by decide) (fun z29 => ?_) (fun z29 => ?_)
                · have hk := x_okt hk z29
                  refine x_iload_n 2 C d_Md_wrongKind_205 rfl rfl ?_
                  refine x_bipush (v := 14) C d_Md_wrongKind_206 (by decide) ?_
                  refine x_icmp_ne 226 C d_Md_wrongKind_208 (by decide) (fun z30 => ?_) (fun z30 => ?_)
                  · have hk := x_okt hk z30
                    refine x_aload_n 3 C d_Md_wrongKind_211 rfl rfl ?_
                    refine x_iload 0 C d_Md_wrongKind_212 rfl ?_
                    have w31 := hk.1
                    have hk := hk.2
                    refine x_cv (i := (18, 0)) (F := x_F ad cA) (As := [(.int (mo 2 a1.toNatClampNeg))]) (rest := []) C k_Md_place q_946 (c_Md_place ok (mo 2 a1.toNatClampNeg) w31) rfl rfl rfl (Nat.le_of_ble_eq_true rfl) (Nat.le_of_ble_eq_true rfl) m_18 rfl rfl rfl rfl rfl (Nat.le_of_ble_eq_true rfl) d_Md_wrongKind_214 ⟨Nat.zero_le _, Nat.zero_le _⟩ ?_
                    generalize hq32 : s_Md_place mk (mo 2 a1.toNatClampNeg) = r32
                    refine x_lets ?_
                    refine x_if_ne 224 C d_Md_wrongKind_217 (by decide) (fun z33 => ?_) (fun z33 => ?_)
                    · refine x_iconst (v := 1) C d_Md_wrongKind_220 (by decide) ?_
                      refine x_goto 225 C d_Md_wrongKind_221 (by decide) ?_
                      exact x_zret C hr hlk rfl rfl d_Md_wrongKind_225
                    · refine x_iconst (v := 0) C d_Md_wrongKind_224 (by decide) ?_
                      exact x_zret C hr hlk rfl rfl d_Md_wrongKind_225
                  · have hk := x_okf hk z30
                    refine x_iload_n 2 C d_Md_wrongKind_226 rfl rfl ?_
                    refine x_bipush (v := 15) C d_Md_wrongKind_227 (by decide) ?_
                    refine x_icmp_ne 283 C d_Md_wrongKind_229 (by decide) (fun z34 => ?_) (fun z34 => ?_)
                    · have hk := x_okt hk z34
                      refine x_aload_n 3 C d_Md_wrongKind_232 rfl rfl ?_
                      refine x_iload_n 1 C d_Md_wrongKind_233 rfl rfl ?_
                      have w35 := hk.1
                      have hk := hk.2
                      refine x_cv (i := (18, 0)) (F := x_F ad cA) (As := [(.int (mo 1 a1.toNatClampNeg))]) (rest := []) C k_Md_place q_946 (c_Md_place ok (mo 1 a1.toNatClampNeg) w35) rfl rfl rfl (Nat.le_of_ble_eq_true rfl) (Nat.le_of_ble_eq_true rfl) m_18 rfl rfl rfl rfl rfl (Nat.le_of_ble_eq_true rfl) d_Md_wrongKind_234 ⟨Nat.zero_le _, Nat.zero_le _⟩ ?_
                      generalize hq36 : s_Md_place mk (mo 1 a1.toNatClampNeg) = r36 at hk ⊢
                      refine x_lets ?_
                      have hk := x_lete hk
                      refine x_if_eq 277 C d_Md_wrongKind_237 (by decide) (fun z37 => ?_) (fun z37 => ?_)
                      · have hk := x_okt hk z37
                        refine x_iconst (v := 1) C d_Md_wrongKind_277 (by decide) ?_
                        refine x_goto 282 C d_Md_wrongKind_278 (by decide) ?_
                        exact x_zret C hr hlk rfl rfl d_Md_wrongKind_282
                      · have hk := x_okf hk z37
                        refine x_aload_n 3 C d_Md_wrongKind_240 rfl rfl ?_
                        refine x_get (i := (18, 0)) (v := (.ref (ad (24, 0)))) 16 C m_18 rfl rfl i_Md (by decide) (List.mem_cons_of_mem _ q_807) rfl d_Md_wrongKind_241 ?_
                        refine x_iload_n 1 C d_Md_wrongKind_244 rfl rfl ?_
                        have w38 := hk.1
                        have hk := hk.2
                        refine x_iald (i := (24, 0)) (g := mk) 0 C m_24 rfl rfl w38 d_Md_wrongKind_245 ?_
                        refine x_iconst (v := 3) C d_Md_wrongKind_246 (by decide) ?_
                        refine x_icmp_eq 266 C d_Md_wrongKind_247 (by decide) (fun z39 => ?_) (fun z39 => ?_)
                        · have hk := x_okt hk z39
                          refine x_loc (lv' := [(0, (.ref (ad (18, 0)))), (4, (.int (mo 2 a1.toNatClampNeg)))]) [3, 0] rfl ?_
                          exact cb_Md_wrongKind_266 ok C hr hlk a1   (mo 2 a1.toNatClampNeg) hk
                        · have hk := x_okf hk z39
                          refine x_aload_n 3 C d_Md_wrongKind_250 rfl rfl ?_
                          refine x_get (i := (18, 0)) (v := (.ref (ad (25, 0)))) 17 C m_18 rfl rfl i_Md (by decide) (List.mem_cons_of_mem _ q_808) rfl d_Md_wrongKind_251 ?_
                          refine x_iload_n 1 C d_Md_wrongKind_254 rfl rfl ?_
                          refine x_lald (i := (25, 0)) (g := mlo) 1 C m_25 rfl rfl w38 d_Md_wrongKind_255 ?_
                          refine x_aload_n 3 C d_Md_wrongKind_256 rfl rfl ?_
                          refine x_get (i := (18, 0)) (v := (.ref (ad (26, 0)))) 18 C m_18 rfl rfl i_Md (by decide) (List.mem_cons_of_mem _ q_809) rfl d_Md_wrongKind_257 ?_
                          refine x_iload_n 1 C d_Md_wrongKind_260 rfl rfl ?_
                          refine x_lald (i := (26, 0)) (g := mhi) 1 C m_26 rfl rfl w38 d_Md_wrongKind_261 ?_
                          refine x_lcmp_eq 281 C d_Md_wrongKind_262 d_Md_wrongKind_263 (by decide) (fun z42 => ?_) (fun z42 => ?_)
                          · have hk := x_okt hk z42
                            refine x_iconst (v := 0) C d_Md_wrongKind_281 (by decide) ?_
                            exact x_zret C hr hlk rfl rfl d_Md_wrongKind_282
                          · have hk := x_okf hk z42
                            refine x_loc (lv' := [(0, (.ref (ad (18, 0)))), (4, (.int (mo 2 a1.toNatClampNeg)))]) [3, 0] rfl ?_
                            exact cb_Md_wrongKind_266 ok C hr hlk a1   (mo 2 a1.toNatClampNeg) hk
                    · have hk := x_okf hk z34
                      refine x_iload_n 2 C d_Md_wrongKind_283 rfl rfl ?_
                      refine x_bipush (v := 17) C d_Md_wrongKind_284 (by decide) ?_
                      refine x_icmp_ne 305 C d_Md_wrongKind_286 (by decide) (fun z43 => ?_) (fun z43 => ?_)
                      · have hk := x_okt hk z43
                        refine x_aload_n 3 C d_Md_wrongKind_289 rfl rfl ?_
                        refine x_get (i := (18, 0)) (v := (.ref (ad (24, 0)))) 16 C m_18 rfl rfl i_Md (by decide) (List.mem_cons_of_mem _ q_807) rfl d_Md_wrongKind_290 ?_
                        refine x_iconst (v := 0) C d_Md_wrongKind_293 (by decide) ?_
                        refine x_iald (i := (24, 0)) (g := mk) 0 C m_24 rfl rfl (x_vin (by decide)) d_Md_wrongKind_294 ?_
                        refine x_iconst (v := 1) C d_Md_wrongKind_295 (by decide) ?_
                        refine x_icmp_eq 303 C d_Md_wrongKind_296 (by decide) (fun z44 => ?_) (fun z44 => ?_)
                        · refine x_iconst (v := 0) C d_Md_wrongKind_303 (by decide) ?_
                          exact x_zret C hr hlk rfl rfl d_Md_wrongKind_304
                        · refine x_iconst (v := 1) C d_Md_wrongKind_299 (by decide) ?_
                          refine x_goto 304 C d_Md_wrongKind_300 (by decide) ?_
                          exact x_zret C hr hlk rfl rfl d_Md_wrongKind_304
                      · have hk := x_okf hk z43
                        refine x_aload_n 3 C d_Md_wrongKind_305 rfl rfl ?_
                        refine x_get (i := (18, 0)) (v := (.ref (ad (22, 0)))) 3 C m_18 rfl rfl i_Md (by decide) (List.mem_cons_of_mem _ q_794) rfl d_Md_wrongKind_306 ?_
                        refine x_iload_n 4 C d_Md_wrongKind_309 rfl rfl ?_
                        refine x_iald (i := (22, 0)) (g := mo 3) 0 C m_22 rfl rfl w1 d_Md_wrongKind_310 ?_
                        refine x_if_le 324 C d_Md_wrongKind_311 (by decide) (fun z45 => ?_) (fun z45 => ?_)
                        · have hk := x_okt hk z45
                          refine x_loc (lv' := [(0, (.ref (ad (18, 0)))), (1, (.int a1))]) [3, 4] rfl ?_
                          exact cb_Md_wrongKind_324 ok C hr hlk a1    hk
                        · have hk := x_okf hk z45
                          refine x_aload_n 3 C d_Md_wrongKind_314 rfl rfl ?_
                          refine x_get (i := (18, 0)) (v := (.ref (ad (24, 0)))) 16 C m_18 rfl rfl i_Md (by decide) (List.mem_cons_of_mem _ q_807) rfl d_Md_wrongKind_315 ?_
                          refine x_iconst (v := 1) C d_Md_wrongKind_318 (by decide) ?_
                          refine x_iald (i := (24, 0)) (g := mk) 0 C m_24 rfl rfl (x_vin (by decide)) d_Md_wrongKind_319 ?_
                          refine x_iconst (v := 1) C d_Md_wrongKind_320 (by decide) ?_
                          refine x_icmp_ne 344 C d_Md_wrongKind_321 (by decide) (fun z49 => ?_) (fun z49 => ?_)
                          · have hk := x_okt hk z49
                            refine x_loc (lv' := [(0, (.ref (ad (18, 0)))), (1, (.int a1))]) [3, 4] rfl ?_
                            exact cb_Md_wrongKind_324 ok C hr hlk a1    hk
                          · have hk := x_okf hk z49
                            refine x_iconst (v := 1) C d_Md_wrongKind_344 (by decide) ?_
                            refine x_goto 349 C d_Md_wrongKind_345 (by decide) ?_
                            exact x_zret C hr hlk rfl rfl d_Md_wrongKind_349
                · have hk := x_okf hk z29
                  refine x_aload_n 3 C d_Md_wrongKind_189 rfl rfl ?_
                  refine x_get (i := (18, 0)) (v := (.ref (ad (24, 0)))) 16 C m_18 rfl rfl i_Md (by decide) (List.mem_cons_of_mem _ q_807) rfl d_Md_wrongKind_190 ?_
                  refine x_iload_n 1 C d_Md_wrongKind_193 rfl rfl ?_
                  have w50 := hk.1
                  have hk := hk.2
                  refine x_iald (i := (24, 0)) (g := mk) 0 C m_24 rfl rfl w50 d_Md_wrongKind_194 ?_
                  refine x_iconst (v := 1) C d_Md_wrongKind_195 (by decide) ?_
                  refine x_icmp_eq 203 C d_Md_wrongKind_196 (by decide) (fun z51 => ?_) (fun z51 => ?_)
                  · refine x_iconst (v := 0) C d_Md_wrongKind_203 (by decide) ?_
                    exact x_zret C hr hlk rfl rfl d_Md_wrongKind_204
                  · refine x_iconst (v := 1) C d_Md_wrongKind_199 (by decide) ?_
                    refine x_goto 204 C d_Md_wrongKind_200 (by decide) ?_
                    exact x_zret C hr hlk rfl rfl d_Md_wrongKind_204
def bk_Md_wrongPlace_178 (mo : Nat → Nat → Int32) (mk : Nat → Int32) (mlo : Nat → Int64) (mhi : Nat → Int64) (a1 : Int32) (x2 : Int32) (x3 : Int32) (x4 : Int32) : Int32 :=
  (if x2 = 14 then (if (mk x4.toNatClampNeg) = 3 then (x_let (s_Md_in ((mlo x4.toNatClampNeg) + (Int32.toInt64 (mo 3 a1.toNatClampNeg))) 0 1) fun r11 => (if r11 = 0 then (1) else (x_let (s_Md_in ((mhi x4.toNatClampNeg) + (Int32.toInt64 (mo 3 a1.toNatClampNeg))) 0 1) fun r13 => (if r13 = 0 then (1) else (0))))) else (x_let (s_Md_in ((mlo x4.toNatClampNeg) + (Int32.toInt64 (mo 3 a1.toNatClampNeg))) 0 5) fun r16 => (if r16 = 0 then (1) else (x_let (s_Md_in ((mhi x4.toNatClampNeg) + (Int32.toInt64 (mo 3 a1.toNatClampNeg))) 0 5) fun r18 => (if r18 = 0 then (1) else (0)))))) else (if (mk x3.toNatClampNeg) = 3 then (x_let (s_Md_in ((mlo x3.toNatClampNeg) + (Int32.toInt64 (mo 3 a1.toNatClampNeg))) 0 1) fun r23 => (if r23 = 0 then (1) else (x_let (s_Md_in ((mhi x3.toNatClampNeg) + (Int32.toInt64 (mo 3 a1.toNatClampNeg))) 0 1) fun r25 => (if r25 = 0 then (1) else (0))))) else (x_let (s_Md_in ((mlo x3.toNatClampNeg) + (Int32.toInt64 (mo 3 a1.toNatClampNeg))) 0 5) fun r28 => (if r28 = 0 then (1) else (x_let (s_Md_in ((mhi x3.toNatClampNeg) + (Int32.toInt64 (mo 3 a1.toNatClampNeg))) 0 5) fun r30 => (if r30 = 0 then (1) else (0)))))))
def bk_ok_Md_wrongPlace_178 (mo : Nat → Nat → Int32) (mk : Nat → Int32) (mlo : Nat → Int64) (mhi : Nat → Int64) (a1 : Int32) (x2 : Int32) (x3 : Int32) (x4 : Int32) : Prop :=
  (if x2 = 14 then (vp_in x4 12 ∧ (if (mk x4.toNatClampNeg) = 3 then (vp_in a1 24 ∧ True) else (vp_in a1 24 ∧ True))) else (vp_in x3 12 ∧ (if (mk x3.toNatClampNeg) = 3 then (vp_in a1 24 ∧ True) else (vp_in a1 24 ∧ True))))
set_option maxHeartbeats 4000000 in
set_option maxRecDepth 100000 in
theorem cb_Md_wrongPlace_178 {l : Launch} {D : va_G} {cA : Nat → ClassId} {ad : x_I → Nat} (ok : x_ok (x_k D cA ad)) {stp : Nat → Nat → Int32} {psz : Int32} {gk : Nat → Nat → Int32} {gl : Nat → Nat → Int64} {gh : Nat → Nat → Int64} {opn : Nat → Int32} {cki : Nat → Int32} {ckl : Nat → Int64} {mp : Nat → Nat → Int64} {rk : Nat → Int32} {rv : Nat → Int64} {ri : Nat → Int32} {chk : Int32} {mo : Nat → Nat → Int32} {mi : Nat → Int32} {ml : Nat → Int64} {mk : Nat → Int32} {mlo : Nat → Int64} {mhi : Nat → Int64} {pk : Nat → Int32} {ps : Nat → Int32} {pl : Nat → Int64} {ph : Nat → Int64} {mm : Nat → Int64} {out : Nat → Int64} {p : Program} {e : Env} {s : State} {m : MethodId} {args : Array Value} {below : List Frame} {meth : Method} {c : Code} (C : x_C p s m args c b_Md_wrongPlace 9 R_Md (Cond.code y_Md_wrongPlace b_Md_wrongPlace 9 (Option.some Jvm.ClassFile.FieldType.boolean) :: x_Wd) (x_k D cA ad)) (hr : meth.sig.returnType = (Option.some Jvm.ClassFile.FieldType.boolean)) (hlk : meth.locks = false) (a1 : Int32)  (x2 : Int32) (x3 : Int32) (x4 : Int32) (hk : bk_ok_Md_wrongPlace_178 mo mk mlo mhi a1 x2 x3 x4) : x_V p l e { frames := 1, cells := 0, slots := 0, locals := 25 } s m args below meth c (x_k D cA ad) 9 0 0 (x_E below (x_k D cA ad) args s 0 0 (x_F ad cA) (fun q : Int32 => ((some (.int (q)), ((stp, psz, gk, gl, gh, opn, cki, ckl, mp, rk, rv, ri, chk), (mo, mi, ml, mk, mlo, mhi, pk, ps, pl, ph, mm), out)) : Option Value × x_S)) (bk_Md_wrongPlace_178 mo mk mlo mhi a1 x2 x3 x4)) (x_F ad cA ((stp, psz, gk, gl, gh, opn, cki, ckl, mp, rk, rv, ri, chk), (mo, mi, ml, mk, mlo, mhi, pk, ps, pl, ph, mm), out)) 178 [(0, (.ref (ad (18, 0)))), (1, (.int a1)), (2, (.int x2)), (3, (.int x3)), (4, (.int x4))] [] := by
  unfold bk_Md_wrongPlace_178
  unfold bk_ok_Md_wrongPlace_178 at hk
  refine x_iload_n 2 C d_Md_wrongPlace_178 rfl rfl ?_
  refine x_bipush (v := 14) C d_Md_wrongPlace_179 (by decide) ?_
  refine x_icmp_ne 189 C d_Md_wrongPlace_181 (by decide) (fun z7 => ?_) (fun z7 => ?_)
  · have hk := x_okt hk z7
    refine x_iload 4 C d_Md_wrongPlace_184 rfl ?_
    refine x_goto 190 C d_Md_wrongPlace_186 (by decide) ?_
    refine x_istore (lv' := [(5, (.int x4)), (0, (.ref (ad (18, 0)))), (1, (.int a1)), (2, (.int x2)), (3, (.int x3)), (4, (.int x4))]) C d_Md_wrongPlace_190 (by decide) rfl ?_
    refine x_aload_n 1 C d_Md_wrongPlace_192 rfl rfl ?_
    refine x_get (i := (18, 0)) (v := (.ref (ad (24, 0)))) 16 C m_18 rfl rfl i_Md (by decide) (List.mem_cons_of_mem _ q_807) rfl d_Md_wrongPlace_193 ?_
    refine x_iload 0 C d_Md_wrongPlace_196 rfl ?_
    have w8 := hk.1
    have hk := hk.2
    refine x_iald (i := (24, 0)) (g := mk) 0 C m_24 rfl rfl w8 d_Md_wrongPlace_198 ?_
    refine x_iconst (v := 3) C d_Md_wrongPlace_199 (by decide) ?_
    refine x_icmp_ne 207 C d_Md_wrongPlace_200 (by decide) (fun z9 => ?_) (fun z9 => ?_)
    · have hk := x_okt hk z9
      refine x_lconst (v := 1) C d_Md_wrongPlace_203 (by decide) ?_
      refine x_goto 210 C d_Md_wrongPlace_204 (by decide) ?_
      refine x_lstore (lv' := [(6, (.long 1)), (5, (.int x4)), (0, (.ref (ad (18, 0)))), (1, (.int a1)), (2, (.int x2)), (3, (.int x3)), (4, (.int x4))]) C d_Md_wrongPlace_210 (by decide) rfl ?_
      refine x_aload_n 2 C d_Md_wrongPlace_212 rfl rfl ?_
      refine x_get (i := (18, 0)) (v := (.ref (ad (25, 0)))) 17 C m_18 rfl rfl i_Md (by decide) (List.mem_cons_of_mem _ q_808) rfl d_Md_wrongPlace_213 ?_
      refine x_iload 1 C d_Md_wrongPlace_216 rfl ?_
      refine x_lald (i := (25, 0)) (g := mlo) 1 C m_25 rfl rfl w8 d_Md_wrongPlace_218 ?_
      refine x_aload_n 2 C d_Md_wrongPlace_219 rfl rfl ?_
      refine x_get (i := (18, 0)) (v := (.ref (ad (22, 0)))) 3 C m_18 rfl rfl i_Md (by decide) (List.mem_cons_of_mem _ q_794) rfl d_Md_wrongPlace_220 ?_
      refine x_iload_n 3 C d_Md_wrongPlace_223 rfl rfl ?_
      have w10 := hk.1
      have hk := hk.2
      refine x_iald (i := (22, 0)) (g := mo 3) 0 C m_22 rfl rfl w10 d_Md_wrongPlace_224 ?_
      refine x_i2l C d_Md_wrongPlace_225 ?_
      refine x_ladd C d_Md_wrongPlace_226 ?_
      refine x_lconst (v := 0) C d_Md_wrongPlace_227 (by decide) ?_
      refine x_lload 0 C d_Md_wrongPlace_228 rfl ?_
      refine x_cs (F := x_F ad cA) (As := [(.long ((mlo x4.toNatClampNeg) + (Int32.toInt64 (mo 3 a1.toNatClampNeg)))), (.long 0), (.long 1)]) (rest := []) C k_Md_in q_883 (c_Md_in ok ((mlo x4.toNatClampNeg) + (Int32.toInt64 (mo 3 a1.toNatClampNeg))) 0 1) rfl rfl rfl (Nat.le_of_ble_eq_true rfl) (Nat.le_of_ble_eq_true rfl) rfl rfl (Nat.le_of_ble_eq_true rfl) d_Md_wrongPlace_230 ⟨Nat.zero_le _, Nat.zero_le _⟩ ?_
      generalize hq11 : s_Md_in ((mlo x4.toNatClampNeg) + (Int32.toInt64 (mo 3 a1.toNatClampNeg))) 0 1 = r11
      refine x_lets ?_
      refine x_if_eq 260 C d_Md_wrongPlace_233 (by decide) (fun z12 => ?_) (fun z12 => ?_)
      · refine x_iconst (v := 1) C d_Md_wrongPlace_260 (by decide) ?_
        refine x_goto 265 C d_Md_wrongPlace_261 (by decide) ?_
        exact x_zret C hr hlk rfl rfl d_Md_wrongPlace_265
      · refine x_aload_n 2 C d_Md_wrongPlace_236 rfl rfl ?_
        refine x_get (i := (18, 0)) (v := (.ref (ad (26, 0)))) 18 C m_18 rfl rfl i_Md (by decide) (List.mem_cons_of_mem _ q_809) rfl d_Md_wrongPlace_237 ?_
        refine x_iload 1 C d_Md_wrongPlace_240 rfl ?_
        refine x_lald (i := (26, 0)) (g := mhi) 1 C m_26 rfl rfl w8 d_Md_wrongPlace_242 ?_
        refine x_aload_n 2 C d_Md_wrongPlace_243 rfl rfl ?_
        refine x_get (i := (18, 0)) (v := (.ref (ad (22, 0)))) 3 C m_18 rfl rfl i_Md (by decide) (List.mem_cons_of_mem _ q_794) rfl d_Md_wrongPlace_244 ?_
        refine x_iload_n 3 C d_Md_wrongPlace_247 rfl rfl ?_
        refine x_iald (i := (22, 0)) (g := mo 3) 0 C m_22 rfl rfl w10 d_Md_wrongPlace_248 ?_
        refine x_i2l C d_Md_wrongPlace_249 ?_
        refine x_ladd C d_Md_wrongPlace_250 ?_
        refine x_lconst (v := 0) C d_Md_wrongPlace_251 (by decide) ?_
        refine x_lload 0 C d_Md_wrongPlace_252 rfl ?_
        refine x_cs (F := x_F ad cA) (As := [(.long ((mhi x4.toNatClampNeg) + (Int32.toInt64 (mo 3 a1.toNatClampNeg)))), (.long 0), (.long 1)]) (rest := []) C k_Md_in q_883 (c_Md_in ok ((mhi x4.toNatClampNeg) + (Int32.toInt64 (mo 3 a1.toNatClampNeg))) 0 1) rfl rfl rfl (Nat.le_of_ble_eq_true rfl) (Nat.le_of_ble_eq_true rfl) rfl rfl (Nat.le_of_ble_eq_true rfl) d_Md_wrongPlace_254 ⟨Nat.zero_le _, Nat.zero_le _⟩ ?_
        generalize hq13 : s_Md_in ((mhi x4.toNatClampNeg) + (Int32.toInt64 (mo 3 a1.toNatClampNeg))) 0 1 = r13
        refine x_lets ?_
        refine x_if_ne 264 C d_Md_wrongPlace_257 (by decide) (fun z14 => ?_) (fun z14 => ?_)
        · refine x_iconst (v := 1) C d_Md_wrongPlace_260 (by decide) ?_
          refine x_goto 265 C d_Md_wrongPlace_261 (by decide) ?_
          exact x_zret C hr hlk rfl rfl d_Md_wrongPlace_265
        · refine x_iconst (v := 0) C d_Md_wrongPlace_264 (by decide) ?_
          exact x_zret C hr hlk rfl rfl d_Md_wrongPlace_265
    · have hk := x_okf hk z9
      refine x_ldc2 (v := 5) C (List.mem_cons_of_mem _ q_886) d_Md_wrongPlace_207 ?_
      refine x_lstore (lv' := [(6, (.long 5)), (5, (.int x4)), (0, (.ref (ad (18, 0)))), (1, (.int a1)), (2, (.int x2)), (3, (.int x3)), (4, (.int x4))]) C d_Md_wrongPlace_210 (by decide) rfl ?_
      refine x_aload_n 2 C d_Md_wrongPlace_212 rfl rfl ?_
      refine x_get (i := (18, 0)) (v := (.ref (ad (25, 0)))) 17 C m_18 rfl rfl i_Md (by decide) (List.mem_cons_of_mem _ q_808) rfl d_Md_wrongPlace_213 ?_
      refine x_iload 1 C d_Md_wrongPlace_216 rfl ?_
      refine x_lald (i := (25, 0)) (g := mlo) 1 C m_25 rfl rfl w8 d_Md_wrongPlace_218 ?_
      refine x_aload_n 2 C d_Md_wrongPlace_219 rfl rfl ?_
      refine x_get (i := (18, 0)) (v := (.ref (ad (22, 0)))) 3 C m_18 rfl rfl i_Md (by decide) (List.mem_cons_of_mem _ q_794) rfl d_Md_wrongPlace_220 ?_
      refine x_iload_n 3 C d_Md_wrongPlace_223 rfl rfl ?_
      have w15 := hk.1
      have hk := hk.2
      refine x_iald (i := (22, 0)) (g := mo 3) 0 C m_22 rfl rfl w15 d_Md_wrongPlace_224 ?_
      refine x_i2l C d_Md_wrongPlace_225 ?_
      refine x_ladd C d_Md_wrongPlace_226 ?_
      refine x_lconst (v := 0) C d_Md_wrongPlace_227 (by decide) ?_
      refine x_lload 0 C d_Md_wrongPlace_228 rfl ?_
      refine x_cs (F := x_F ad cA) (As := [(.long ((mlo x4.toNatClampNeg) + (Int32.toInt64 (mo 3 a1.toNatClampNeg)))), (.long 0), (.long 5)]) (rest := []) C k_Md_in q_883 (c_Md_in ok ((mlo x4.toNatClampNeg) + (Int32.toInt64 (mo 3 a1.toNatClampNeg))) 0 5) rfl rfl rfl (Nat.le_of_ble_eq_true rfl) (Nat.le_of_ble_eq_true rfl) rfl rfl (Nat.le_of_ble_eq_true rfl) d_Md_wrongPlace_230 ⟨Nat.zero_le _, Nat.zero_le _⟩ ?_
      generalize hq16 : s_Md_in ((mlo x4.toNatClampNeg) + (Int32.toInt64 (mo 3 a1.toNatClampNeg))) 0 5 = r16
      refine x_lets ?_
      refine x_if_eq 260 C d_Md_wrongPlace_233 (by decide) (fun z17 => ?_) (fun z17 => ?_)
      · refine x_iconst (v := 1) C d_Md_wrongPlace_260 (by decide) ?_
        refine x_goto 265 C d_Md_wrongPlace_261 (by decide) ?_
        exact x_zret C hr hlk rfl rfl d_Md_wrongPlace_265
      · refine x_aload_n 2 C d_Md_wrongPlace_236 rfl rfl ?_
        refine x_get (i := (18, 0)) (v := (.ref (ad (26, 0)))) 18 C m_18 rfl rfl i_Md (by decide) (List.mem_cons_of_mem _ q_809) rfl d_Md_wrongPlace_237 ?_
        refine x_iload 1 C d_Md_wrongPlace_240 rfl ?_
        refine x_lald (i := (26, 0)) (g := mhi) 1 C m_26 rfl rfl w8 d_Md_wrongPlace_242 ?_
        refine x_aload_n 2 C d_Md_wrongPlace_243 rfl rfl ?_
        refine x_get (i := (18, 0)) (v := (.ref (ad (22, 0)))) 3 C m_18 rfl rfl i_Md (by decide) (List.mem_cons_of_mem _ q_794) rfl d_Md_wrongPlace_244 ?_
        refine x_iload_n 3 C d_Md_wrongPlace_247 rfl rfl ?_
        refine x_iald (i := (22, 0)) (g := mo 3) 0 C m_22 rfl rfl w15 d_Md_wrongPlace_248 ?_
        refine x_i2l C d_Md_wrongPlace_249 ?_
        refine x_ladd C d_Md_wrongPlace_250 ?_
        refine x_lconst (v := 0) C d_Md_wrongPlace_251 (by decide) ?_
        refine x_lload 0 C d_Md_wrongPlace_252 rfl ?_
        refine x_cs (F := x_F ad cA) (As := [(.long ((mhi x4.toNatClampNeg) + (Int32.toInt64 (mo 3 a1.toNatClampNeg)))), (.long 0), (.long 5)]) (rest := []) C k_Md_in q_883 (c_Md_in ok ((mhi x4.toNatClampNeg) + (Int32.toInt64 (mo 3 a1.toNatClampNeg))) 0 5) rfl rfl rfl (Nat.le_of_ble_eq_true rfl) (Nat.le_of_ble_eq_true rfl) rfl rfl (Nat.le_of_ble_eq_true rfl) d_Md_wrongPlace_254 ⟨Nat.zero_le _, Nat.zero_le _⟩ ?_
        generalize hq18 : s_Md_in ((mhi x4.toNatClampNeg) + (Int32.toInt64 (mo 3 a1.toNatClampNeg))) 0 5 = r18
        refine x_lets ?_
        refine x_if_ne 264 C d_Md_wrongPlace_257 (by decide) (fun z19 => ?_) (fun z19 => ?_)
        · refine x_iconst (v := 1) C d_Md_wrongPlace_260 (by decide) ?_
          refine x_goto 265 C d_Md_wrongPlace_261 (by decide) ?_
          exact x_zret C hr hlk rfl rfl d_Md_wrongPlace_265
        · refine x_iconst (v := 0) C d_Md_wrongPlace_264 (by decide) ?_
          exact x_zret C hr hlk rfl rfl d_Md_wrongPlace_265
  · have hk := x_okf hk z7
    refine x_iload_n 3 C d_Md_wrongPlace_189 rfl rfl ?_
    refine x_istore (lv' := [(5, (.int x3)), (0, (.ref (ad (18, 0)))), (1, (.int a1)), (2, (.int x2)), (3, (.int x3)), (4, (.int x4))]) C d_Md_wrongPlace_190 (by decide) rfl ?_
    refine x_aload_n 1 C d_Md_wrongPlace_192 rfl rfl ?_
    refine x_get (i := (18, 0)) (v := (.ref (ad (24, 0)))) 16 C m_18 rfl rfl i_Md (by decide) (List.mem_cons_of_mem _ q_807) rfl d_Md_wrongPlace_193 ?_
    refine x_iload 0 C d_Md_wrongPlace_196 rfl ?_
    have w20 := hk.1
    have hk := hk.2
    refine x_iald (i := (24, 0)) (g := mk) 0 C m_24 rfl rfl w20 d_Md_wrongPlace_198 ?_
    refine x_iconst (v := 3) C d_Md_wrongPlace_199 (by decide) ?_
    refine x_icmp_ne 207 C d_Md_wrongPlace_200 (by decide) (fun z21 => ?_) (fun z21 => ?_)
    · have hk := x_okt hk z21
      refine x_lconst (v := 1) C d_Md_wrongPlace_203 (by decide) ?_
      refine x_goto 210 C d_Md_wrongPlace_204 (by decide) ?_
      refine x_lstore (lv' := [(6, (.long 1)), (5, (.int x3)), (0, (.ref (ad (18, 0)))), (1, (.int a1)), (2, (.int x2)), (3, (.int x3)), (4, (.int x4))]) C d_Md_wrongPlace_210 (by decide) rfl ?_
      refine x_aload_n 2 C d_Md_wrongPlace_212 rfl rfl ?_
      refine x_get (i := (18, 0)) (v := (.ref (ad (25, 0)))) 17 C m_18 rfl rfl i_Md (by decide) (List.mem_cons_of_mem _ q_808) rfl d_Md_wrongPlace_213 ?_
      refine x_iload 1 C d_Md_wrongPlace_216 rfl ?_
      refine x_lald (i := (25, 0)) (g := mlo) 1 C m_25 rfl rfl w20 d_Md_wrongPlace_218 ?_
      refine x_aload_n 2 C d_Md_wrongPlace_219 rfl rfl ?_
      refine x_get (i := (18, 0)) (v := (.ref (ad (22, 0)))) 3 C m_18 rfl rfl i_Md (by decide) (List.mem_cons_of_mem _ q_794) rfl d_Md_wrongPlace_220 ?_
      refine x_iload_n 3 C d_Md_wrongPlace_223 rfl rfl ?_
      have w22 := hk.1
      have hk := hk.2
      refine x_iald (i := (22, 0)) (g := mo 3) 0 C m_22 rfl rfl w22 d_Md_wrongPlace_224 ?_
      refine x_i2l C d_Md_wrongPlace_225 ?_
      refine x_ladd C d_Md_wrongPlace_226 ?_
      refine x_lconst (v := 0) C d_Md_wrongPlace_227 (by decide) ?_
      refine x_lload 0 C d_Md_wrongPlace_228 rfl ?_
      refine x_cs (F := x_F ad cA) (As := [(.long ((mlo x3.toNatClampNeg) + (Int32.toInt64 (mo 3 a1.toNatClampNeg)))), (.long 0), (.long 1)]) (rest := []) C k_Md_in q_883 (c_Md_in ok ((mlo x3.toNatClampNeg) + (Int32.toInt64 (mo 3 a1.toNatClampNeg))) 0 1) rfl rfl rfl (Nat.le_of_ble_eq_true rfl) (Nat.le_of_ble_eq_true rfl) rfl rfl (Nat.le_of_ble_eq_true rfl) d_Md_wrongPlace_230 ⟨Nat.zero_le _, Nat.zero_le _⟩ ?_
      generalize hq23 : s_Md_in ((mlo x3.toNatClampNeg) + (Int32.toInt64 (mo 3 a1.toNatClampNeg))) 0 1 = r23
      refine x_lets ?_
      refine x_if_eq 260 C d_Md_wrongPlace_233 (by decide) (fun z24 => ?_) (fun z24 => ?_)
      · refine x_iconst (v := 1) C d_Md_wrongPlace_260 (by decide) ?_
        refine x_goto 265 C d_Md_wrongPlace_261 (by decide) ?_
        exact x_zret C hr hlk rfl rfl d_Md_wrongPlace_265
      · refine x_aload_n 2 C d_Md_wrongPlace_236 rfl rfl ?_
        refine x_get (i := (18, 0)) (v := (.ref (ad (26, 0)))) 18 C m_18 rfl rfl i_Md (by decide) (List.mem_cons_of_mem _ q_809) rfl d_Md_wrongPlace_237 ?_
        refine x_iload 1 C d_Md_wrongPlace_240 rfl ?_
        refine x_lald (i := (26, 0)) (g := mhi) 1 C m_26 rfl rfl w20 d_Md_wrongPlace_242 ?_
        refine x_aload_n 2 C d_Md_wrongPlace_243 rfl rfl ?_
        refine x_get (i := (18, 0)) (v := (.ref (ad (22, 0)))) 3 C m_18 rfl rfl i_Md (by decide) (List.mem_cons_of_mem _ q_794) rfl d_Md_wrongPlace_244 ?_
        refine x_iload_n 3 C d_Md_wrongPlace_247 rfl rfl ?_
        refine x_iald (i := (22, 0)) (g := mo 3) 0 C m_22 rfl rfl w22 d_Md_wrongPlace_248 ?_
        refine x_i2l C d_Md_wrongPlace_249 ?_
        refine x_ladd C d_Md_wrongPlace_250 ?_
        refine x_lconst (v := 0) C d_Md_wrongPlace_251 (by decide) ?_
        refine x_lload 0 C d_Md_wrongPlace_252 rfl ?_
        refine x_cs (F := x_F ad cA) (As := [(.long ((mhi x3.toNatClampNeg) + (Int32.toInt64 (mo 3 a1.toNatClampNeg)))), (.long 0), (.long 1)]) (rest := []) C k_Md_in q_883 (c_Md_in ok ((mhi x3.toNatClampNeg) + (Int32.toInt64 (mo 3 a1.toNatClampNeg))) 0 1) rfl rfl rfl (Nat.le_of_ble_eq_true rfl) (Nat.le_of_ble_eq_true rfl) rfl rfl (Nat.le_of_ble_eq_true rfl) d_Md_wrongPlace_254 ⟨Nat.zero_le _, Nat.zero_le _⟩ ?_
        generalize hq25 : s_Md_in ((mhi x3.toNatClampNeg) + (Int32.toInt64 (mo 3 a1.toNatClampNeg))) 0 1 = r25
        refine x_lets ?_
        refine x_if_ne 264 C d_Md_wrongPlace_257 (by decide) (fun z26 => ?_) (fun z26 => ?_)
        · refine x_iconst (v := 1) C d_Md_wrongPlace_260 (by decide) ?_
          refine x_goto 265 C d_Md_wrongPlace_261 (by decide) ?_
          exact x_zret C hr hlk rfl rfl d_Md_wrongPlace_265
        · refine x_iconst (v := 0) C d_Md_wrongPlace_264 (by decide) ?_
          exact x_zret C hr hlk rfl rfl d_Md_wrongPlace_265
    · have hk := x_okf hk z21
      refine x_ldc2 (v := 5) C (List.mem_cons_of_mem _ q_886) d_Md_wrongPlace_207 ?_
      refine x_lstore (lv' := [(6, (.long 5)), (5, (.int x3)), (0, (.ref (ad (18, 0)))), (1, (.int a1)), (2, (.int x2)), (3, (.int x3)), (4, (.int x4))]) C d_Md_wrongPlace_210 (by decide) rfl ?_
      refine x_aload_n 2 C d_Md_wrongPlace_212 rfl rfl ?_
      refine x_get (i := (18, 0)) (v := (.ref (ad (25, 0)))) 17 C m_18 rfl rfl i_Md (by decide) (List.mem_cons_of_mem _ q_808) rfl d_Md_wrongPlace_213 ?_
      refine x_iload 1 C d_Md_wrongPlace_216 rfl ?_
      refine x_lald (i := (25, 0)) (g := mlo) 1 C m_25 rfl rfl w20 d_Md_wrongPlace_218 ?_
      refine x_aload_n 2 C d_Md_wrongPlace_219 rfl rfl ?_
      refine x_get (i := (18, 0)) (v := (.ref (ad (22, 0)))) 3 C m_18 rfl rfl i_Md (by decide) (List.mem_cons_of_mem _ q_794) rfl d_Md_wrongPlace_220 ?_
      refine x_iload_n 3 C d_Md_wrongPlace_223 rfl rfl ?_
      have w27 := hk.1
      have hk := hk.2
      refine x_iald (i := (22, 0)) (g := mo 3) 0 C m_22 rfl rfl w27 d_Md_wrongPlace_224 ?_
      refine x_i2l C d_Md_wrongPlace_225 ?_
      refine x_ladd C d_Md_wrongPlace_226 ?_
      refine x_lconst (v := 0) C d_Md_wrongPlace_227 (by decide) ?_
      refine x_lload 0 C d_Md_wrongPlace_228 rfl ?_
      refine x_cs (F := x_F ad cA) (As := [(.long ((mlo x3.toNatClampNeg) + (Int32.toInt64 (mo 3 a1.toNatClampNeg)))), (.long 0), (.long 5)]) (rest := []) C k_Md_in q_883 (c_Md_in ok ((mlo x3.toNatClampNeg) + (Int32.toInt64 (mo 3 a1.toNatClampNeg))) 0 5) rfl rfl rfl (Nat.le_of_ble_eq_true rfl) (Nat.le_of_ble_eq_true rfl) rfl rfl (Nat.le_of_ble_eq_true rfl) d_Md_wrongPlace_230 ⟨Nat.zero_le _, Nat.zero_le _⟩ ?_
      generalize hq28 : s_Md_in ((mlo x3.toNatClampNeg) + (Int32.toInt64 (mo 3 a1.toNatClampNeg))) 0 5 = r28
      refine x_lets ?_
      refine x_if_eq 260 C d_Md_wrongPlace_233 (by decide) (fun z29 => ?_) (fun z29 => ?_)
      · refine x_iconst (v := 1) C d_Md_wrongPlace_260 (by decide) ?_
        refine x_goto 265 C d_Md_wrongPlace_261 (by decide) ?_
        exact x_zret C hr hlk rfl rfl d_Md_wrongPlace_265
      · refine x_aload_n 2 C d_Md_wrongPlace_236 rfl rfl ?_
        refine x_get (i := (18, 0)) (v := (.ref (ad (26, 0)))) 18 C m_18 rfl rfl i_Md (by decide) (List.mem_cons_of_mem _ q_809) rfl d_Md_wrongPlace_237 ?_
        refine x_iload 1 C d_Md_wrongPlace_240 rfl ?_
        refine x_lald (i := (26, 0)) (g := mhi) 1 C m_26 rfl rfl w20 d_Md_wrongPlace_242 ?_
        refine x_aload_n 2 C d_Md_wrongPlace_243 rfl rfl ?_
        refine x_get (i := (18, 0)) (v := (.ref (ad (22, 0)))) 3 C m_18 rfl rfl i_Md (by decide) (List.mem_cons_of_mem _ q_794) rfl d_Md_wrongPlace_244 ?_
        refine x_iload_n 3 C d_Md_wrongPlace_247 rfl rfl ?_
        refine x_iald (i := (22, 0)) (g := mo 3) 0 C m_22 rfl rfl w27 d_Md_wrongPlace_248 ?_
        refine x_i2l C d_Md_wrongPlace_249 ?_
        refine x_ladd C d_Md_wrongPlace_250 ?_
        refine x_lconst (v := 0) C d_Md_wrongPlace_251 (by decide) ?_
        refine x_lload 0 C d_Md_wrongPlace_252 rfl ?_
        refine x_cs (F := x_F ad cA) (As := [(.long ((mhi x3.toNatClampNeg) + (Int32.toInt64 (mo 3 a1.toNatClampNeg)))), (.long 0), (.long 5)]) (rest := []) C k_Md_in q_883 (c_Md_in ok ((mhi x3.toNatClampNeg) + (Int32.toInt64 (mo 3 a1.toNatClampNeg))) 0 5) rfl rfl rfl (Nat.le_of_ble_eq_true rfl) (Nat.le_of_ble_eq_true rfl) rfl rfl (Nat.le_of_ble_eq_true rfl) d_Md_wrongPlace_254 ⟨Nat.zero_le _, Nat.zero_le _⟩ ?_
        generalize hq30 : s_Md_in ((mhi x3.toNatClampNeg) + (Int32.toInt64 (mo 3 a1.toNatClampNeg))) 0 5 = r30
        refine x_lets ?_
        refine x_if_ne 264 C d_Md_wrongPlace_257 (by decide) (fun z31 => ?_) (fun z31 => ?_)
        · refine x_iconst (v := 1) C d_Md_wrongPlace_260 (by decide) ?_
          refine x_goto 265 C d_Md_wrongPlace_261 (by decide) ?_
          exact x_zret C hr hlk rfl rfl d_Md_wrongPlace_265
        · refine x_iconst (v := 0) C d_Md_wrongPlace_264 (by decide) ?_
          exact x_zret C hr hlk rfl rfl d_Md_wrongPlace_265
def bk_Md_wrongPlace_164 (mo : Nat → Nat → Int32) (mk : Nat → Int32) (mlo : Nat → Int64) (mhi : Nat → Int64) (a1 : Int32) (x2 : Int32) (x3 : Int32) (x4 : Int32) : Int32 :=
  (if x2 = 14 then bk_Md_wrongPlace_178 mo mk mlo mhi a1 x2 x3 x4 else (if x2 = 15 then bk_Md_wrongPlace_178 mo mk mlo mhi a1 x2 x3 x4 else (0)))
def bk_ok_Md_wrongPlace_164 (mo : Nat → Nat → Int32) (mk : Nat → Int32) (mlo : Nat → Int64) (mhi : Nat → Int64) (a1 : Int32) (x2 : Int32) (x3 : Int32) (x4 : Int32) : Prop :=
  (if x2 = 14 then bk_ok_Md_wrongPlace_178 mo mk mlo mhi a1 x2 x3 x4 else (if x2 = 15 then bk_ok_Md_wrongPlace_178 mo mk mlo mhi a1 x2 x3 x4 else True))
set_option maxHeartbeats 4000000 in
set_option maxRecDepth 100000 in
theorem cb_Md_wrongPlace_164 {l : Launch} {D : va_G} {cA : Nat → ClassId} {ad : x_I → Nat} (ok : x_ok (x_k D cA ad)) {stp : Nat → Nat → Int32} {psz : Int32} {gk : Nat → Nat → Int32} {gl : Nat → Nat → Int64} {gh : Nat → Nat → Int64} {opn : Nat → Int32} {cki : Nat → Int32} {ckl : Nat → Int64} {mp : Nat → Nat → Int64} {rk : Nat → Int32} {rv : Nat → Int64} {ri : Nat → Int32} {chk : Int32} {mo : Nat → Nat → Int32} {mi : Nat → Int32} {ml : Nat → Int64} {mk : Nat → Int32} {mlo : Nat → Int64} {mhi : Nat → Int64} {pk : Nat → Int32} {ps : Nat → Int32} {pl : Nat → Int64} {ph : Nat → Int64} {mm : Nat → Int64} {out : Nat → Int64} {p : Program} {e : Env} {s : State} {m : MethodId} {args : Array Value} {below : List Frame} {meth : Method} {c : Code} (C : x_C p s m args c b_Md_wrongPlace 9 R_Md (Cond.code y_Md_wrongPlace b_Md_wrongPlace 9 (Option.some Jvm.ClassFile.FieldType.boolean) :: x_Wd) (x_k D cA ad)) (hr : meth.sig.returnType = (Option.some Jvm.ClassFile.FieldType.boolean)) (hlk : meth.locks = false) (a1 : Int32)  (x2 : Int32) (x3 : Int32) (x4 : Int32) (hk : bk_ok_Md_wrongPlace_164 mo mk mlo mhi a1 x2 x3 x4) : x_V p l e { frames := 1, cells := 0, slots := 0, locals := 25 } s m args below meth c (x_k D cA ad) 9 0 0 (x_E below (x_k D cA ad) args s 0 0 (x_F ad cA) (fun q : Int32 => ((some (.int (q)), ((stp, psz, gk, gl, gh, opn, cki, ckl, mp, rk, rv, ri, chk), (mo, mi, ml, mk, mlo, mhi, pk, ps, pl, ph, mm), out)) : Option Value × x_S)) (bk_Md_wrongPlace_164 mo mk mlo mhi a1 x2 x3 x4)) (x_F ad cA ((stp, psz, gk, gl, gh, opn, cki, ckl, mp, rk, rv, ri, chk), (mo, mi, ml, mk, mlo, mhi, pk, ps, pl, ph, mm), out)) 164 [(0, (.ref (ad (18, 0)))), (1, (.int a1)), (2, (.int x2)), (3, (.int x3)), (4, (.int x4))] [] := by
  unfold bk_Md_wrongPlace_164
  unfold bk_ok_Md_wrongPlace_164 at hk
  refine x_iload_n 2 C d_Md_wrongPlace_164 rfl rfl ?_
  refine x_bipush (v := 14) C d_Md_wrongPlace_165 (by decide) ?_
  refine x_icmp_eq 178 C d_Md_wrongPlace_167 (by decide) (fun z6 => ?_) (fun z6 => ?_)
  · have hk := x_okt hk z6
    refine x_loc (lv' := [(0, (.ref (ad (18, 0)))), (1, (.int a1)), (2, (.int x2)), (3, (.int x3)), (4, (.int x4))]) [0, 1, 2, 3, 4] rfl ?_
    exact cb_Md_wrongPlace_178 ok C hr hlk a1   x2 x3 x4 hk
  · have hk := x_okf hk z6
    refine x_iload_n 2 C d_Md_wrongPlace_170 rfl rfl ?_
    refine x_bipush (v := 15) C d_Md_wrongPlace_171 (by decide) ?_
    refine x_icmp_eq 178 C d_Md_wrongPlace_173 (by decide) (fun z32 => ?_) (fun z32 => ?_)
    · have hk := x_okt hk z32
      refine x_loc (lv' := [(0, (.ref (ad (18, 0)))), (1, (.int a1)), (2, (.int x2)), (3, (.int x3)), (4, (.int x4))]) [0, 1, 2, 3, 4] rfl ?_
      exact cb_Md_wrongPlace_178 ok C hr hlk a1   x2 x3 x4 hk
    · have hk := x_okf hk z32
      refine x_iconst (v := 0) C d_Md_wrongPlace_176 (by decide) ?_
      exact x_zret C hr hlk rfl rfl d_Md_wrongPlace_177
def bk_Md_wrongPlace_32 (mo : Nat → Nat → Int32) (mk : Nat → Int32) (mlo : Nat → Int64) (mhi : Nat → Int64) (a1 : Int32) (x2 : Int32) (x3 : Int32) (x4 : Int32) : Int32 :=
  (x_let (s_Md_place mk x3) fun r4 => (if r4 = 0 then bk_Md_wrongPlace_164 mo mk mlo mhi a1 x2 x3 x4 else (if x2 = 2 then (if x2 = 2 then (x_let (s_Md_overflows (mlo x3.toNatClampNeg) (Int32.toInt64 (mo 3 a1.toNatClampNeg))) fun r37 => (if r37 = 0 then (x_let (s_Md_overflows (mhi x3.toNatClampNeg) (Int32.toInt64 (mo 3 a1.toNatClampNeg))) fun r39 => (if r39 = 0 then (x_let (s_Md_in ((mlo x3.toNatClampNeg) + (Int32.toInt64 (mo 3 a1.toNatClampNeg))) (-100) 100) fun r41 => (if r41 = 0 then (1) else (x_let (s_Md_in ((mhi x3.toNatClampNeg) + (Int32.toInt64 (mo 3 a1.toNatClampNeg))) (-100) 100) fun r43 => (if r43 = 0 then (1) else (0))))) else (1))) else (1))) else (x_let (s_Md_overflows (mlo x3.toNatClampNeg) (Int32.toInt64 (mo 3 a1.toNatClampNeg))) fun r47 => (if r47 = 0 then (x_let (s_Md_overflows (mhi x3.toNatClampNeg) (mhi x4.toNatClampNeg)) fun r49 => (if r49 = 0 then (x_let (s_Md_in ((mlo x3.toNatClampNeg) + (Int32.toInt64 (mo 3 a1.toNatClampNeg))) (-100) 100) fun r51 => (if r51 = 0 then (1) else (x_let (s_Md_in ((mhi x3.toNatClampNeg) + (mhi x4.toNatClampNeg)) (-100) 100) fun r53 => (if r53 = 0 then (1) else (0))))) else (1))) else (1)))) else (if x2 = 2 then (x_let (s_Md_overflows (mlo x3.toNatClampNeg) (mlo x4.toNatClampNeg)) fun r59 => (if r59 = 0 then (x_let (s_Md_overflows (mhi x3.toNatClampNeg) (Int32.toInt64 (mo 3 a1.toNatClampNeg))) fun r61 => (if r61 = 0 then (x_let (s_Md_in ((mlo x3.toNatClampNeg) + (mlo x4.toNatClampNeg)) (-100) 100) fun r63 => (if r63 = 0 then (1) else (x_let (s_Md_in ((mhi x3.toNatClampNeg) + (Int32.toInt64 (mo 3 a1.toNatClampNeg))) (-100) 100) fun r65 => (if r65 = 0 then (1) else (0))))) else (1))) else (1))) else (x_let (s_Md_overflows (mlo x3.toNatClampNeg) (mlo x4.toNatClampNeg)) fun r68 => (if r68 = 0 then (x_let (s_Md_overflows (mhi x3.toNatClampNeg) (mhi x4.toNatClampNeg)) fun r70 => (if r70 = 0 then (x_let (s_Md_in ((mlo x3.toNatClampNeg) + (mlo x4.toNatClampNeg)) (-100) 100) fun r72 => (if r72 = 0 then (1) else (x_let (s_Md_in ((mhi x3.toNatClampNeg) + (mhi x4.toNatClampNeg)) (-100) 100) fun r74 => (if r74 = 0 then (1) else (0))))) else (1))) else (1)))))))
def bk_ok_Md_wrongPlace_32 (mo : Nat → Nat → Int32) (mk : Nat → Int32) (mlo : Nat → Int64) (mhi : Nat → Int64) (a1 : Int32) (x2 : Int32) (x3 : Int32) (x4 : Int32) : Prop :=
  (k_ok_Md_place mk x3 ∧ (x_let (s_Md_place mk x3) fun r4 => (if r4 = 0 then bk_ok_Md_wrongPlace_164 mo mk mlo mhi a1 x2 x3 x4 else (if x2 = 2 then (vp_in a1 24 ∧ (if x2 = 2 then (vp_in x3 12 ∧ True) else (vp_in x4 12 ∧ (vp_in x3 12 ∧ True)))) else (vp_in x4 12 ∧ (if x2 = 2 then (vp_in a1 24 ∧ (vp_in x3 12 ∧ True)) else (vp_in x3 12 ∧ True)))))))
set_option maxHeartbeats 4000000 in
set_option maxRecDepth 100000 in
theorem cb_Md_wrongPlace_32 {l : Launch} {D : va_G} {cA : Nat → ClassId} {ad : x_I → Nat} (ok : x_ok (x_k D cA ad)) {stp : Nat → Nat → Int32} {psz : Int32} {gk : Nat → Nat → Int32} {gl : Nat → Nat → Int64} {gh : Nat → Nat → Int64} {opn : Nat → Int32} {cki : Nat → Int32} {ckl : Nat → Int64} {mp : Nat → Nat → Int64} {rk : Nat → Int32} {rv : Nat → Int64} {ri : Nat → Int32} {chk : Int32} {mo : Nat → Nat → Int32} {mi : Nat → Int32} {ml : Nat → Int64} {mk : Nat → Int32} {mlo : Nat → Int64} {mhi : Nat → Int64} {pk : Nat → Int32} {ps : Nat → Int32} {pl : Nat → Int64} {ph : Nat → Int64} {mm : Nat → Int64} {out : Nat → Int64} {p : Program} {e : Env} {s : State} {m : MethodId} {args : Array Value} {below : List Frame} {meth : Method} {c : Code} (C : x_C p s m args c b_Md_wrongPlace 9 R_Md (Cond.code y_Md_wrongPlace b_Md_wrongPlace 9 (Option.some Jvm.ClassFile.FieldType.boolean) :: x_Wd) (x_k D cA ad)) (hr : meth.sig.returnType = (Option.some Jvm.ClassFile.FieldType.boolean)) (hlk : meth.locks = false) (a1 : Int32)  (x2 : Int32) (x3 : Int32) (x4 : Int32) (hk : bk_ok_Md_wrongPlace_32 mo mk mlo mhi a1 x2 x3 x4) : x_V p l e { frames := 1, cells := 0, slots := 0, locals := 25 } s m args below meth c (x_k D cA ad) 9 0 0 (x_E below (x_k D cA ad) args s 0 0 (x_F ad cA) (fun q : Int32 => ((some (.int (q)), ((stp, psz, gk, gl, gh, opn, cki, ckl, mp, rk, rv, ri, chk), (mo, mi, ml, mk, mlo, mhi, pk, ps, pl, ph, mm), out)) : Option Value × x_S)) (bk_Md_wrongPlace_32 mo mk mlo mhi a1 x2 x3 x4)) (x_F ad cA ((stp, psz, gk, gl, gh, opn, cki, ckl, mp, rk, rv, ri, chk), (mo, mi, ml, mk, mlo, mhi, pk, ps, pl, ph, mm), out)) 32 [(0, (.ref (ad (18, 0)))), (1, (.int a1)), (2, (.int x2)), (3, (.int x3)), (4, (.int x4))] [] := by
  unfold bk_Md_wrongPlace_32
  unfold bk_ok_Md_wrongPlace_32 at hk
  refine x_aload_n 0 C d_Md_wrongPlace_32 rfl rfl ?_
  refine x_iload_n 3 C d_Md_wrongPlace_33 rfl rfl ?_
  have w3 := hk.1
  have hk := hk.2
  refine x_cv (i := (18, 0)) (F := x_F ad cA) (As := [(.int x3)]) (rest := []) C k_Md_place q_946 (c_Md_place ok x3 w3) rfl rfl rfl (Nat.le_of_ble_eq_true rfl) (Nat.le_of_ble_eq_true rfl) m_18 rfl rfl rfl rfl rfl (Nat.le_of_ble_eq_true rfl) d_Md_wrongPlace_34 ⟨Nat.zero_le _, Nat.zero_le _⟩ ?_
  generalize hq4 : s_Md_place mk x3 = r4 at hk ⊢
  refine x_lets ?_
  have hk := x_lete hk
  refine x_if_eq 164 C d_Md_wrongPlace_37 (by decide) (fun z5 => ?_) (fun z5 => ?_)
  · have hk := x_okt hk z5
    refine x_loc (lv' := [(0, (.ref (ad (18, 0)))), (1, (.int a1)), (2, (.int x2)), (3, (.int x3)), (4, (.int x4))]) [0, 1, 2, 3, 4] rfl ?_
    exact cb_Md_wrongPlace_164 ok C hr hlk a1   x2 x3 x4 hk
  · have hk := x_okf hk z5
    refine x_iload_n 2 C d_Md_wrongPlace_40 rfl rfl ?_
    refine x_iconst (v := 2) C d_Md_wrongPlace_41 (by decide) ?_
    refine x_icmp_ne 55 C d_Md_wrongPlace_42 (by decide) (fun z33 => ?_) (fun z33 => ?_)
    · have hk := x_okt hk z33
      refine x_aload_n 0 C d_Md_wrongPlace_45 rfl rfl ?_
      refine x_get (i := (18, 0)) (v := (.ref (ad (22, 0)))) 3 C m_18 rfl rfl i_Md (by decide) (List.mem_cons_of_mem _ q_794) rfl d_Md_wrongPlace_46 ?_
      refine x_iload_n 1 C d_Md_wrongPlace_49 rfl rfl ?_
      have w34 := hk.1
      have hk := hk.2
      refine x_iald (i := (22, 0)) (g := mo 3) 0 C m_22 rfl rfl w34 d_Md_wrongPlace_50 ?_
      refine x_i2l C d_Md_wrongPlace_51 ?_
      refine x_goto 62 C d_Md_wrongPlace_52 (by decide) ?_
      refine x_lstore (lv' := [(5, (.long (Int32.toInt64 (mo 3 a1.toNatClampNeg)))), (0, (.ref (ad (18, 0)))), (1, (.int a1)), (2, (.int x2)), (3, (.int x3)), (4, (.int x4))]) C d_Md_wrongPlace_62 (by decide) rfl ?_
      refine x_iload_n 3 C d_Md_wrongPlace_64 rfl rfl ?_
      refine x_iconst (v := 2) C d_Md_wrongPlace_65 (by decide) ?_
      refine x_icmp_ne 79 C d_Md_wrongPlace_66 (by decide) (fun z35 => ?_) (fun z35 => ?_)
      · have hk := x_okt hk z35
        refine x_aload_n 1 C d_Md_wrongPlace_69 rfl rfl ?_
        refine x_get (i := (18, 0)) (v := (.ref (ad (22, 0)))) 3 C m_18 rfl rfl i_Md (by decide) (List.mem_cons_of_mem _ q_794) rfl d_Md_wrongPlace_70 ?_
        refine x_iload_n 2 C d_Md_wrongPlace_73 rfl rfl ?_
        refine x_iald (i := (22, 0)) (g := mo 3) 0 C m_22 rfl rfl w34 d_Md_wrongPlace_74 ?_
        refine x_i2l C d_Md_wrongPlace_75 ?_
        refine x_goto 86 C d_Md_wrongPlace_76 (by decide) ?_
        refine x_lstore (lv' := [(7, (.long (Int32.toInt64 (mo 3 a1.toNatClampNeg)))), (5, (.long (Int32.toInt64 (mo 3 a1.toNatClampNeg)))), (0, (.ref (ad (18, 0)))), (1, (.int a1)), (2, (.int x2)), (3, (.int x3)), (4, (.int x4))]) C d_Md_wrongPlace_86 (by decide) rfl ?_
        refine x_aload_n 2 C d_Md_wrongPlace_88 rfl rfl ?_
        refine x_get (i := (18, 0)) (v := (.ref (ad (25, 0)))) 17 C m_18 rfl rfl i_Md (by decide) (List.mem_cons_of_mem _ q_808) rfl d_Md_wrongPlace_89 ?_
        refine x_iload_n 5 C d_Md_wrongPlace_92 rfl rfl ?_
        have w36 := hk.1
        have hk := hk.2
        refine x_lald (i := (25, 0)) (g := mlo) 1 C m_25 rfl rfl w36 d_Md_wrongPlace_93 ?_
        refine x_lload 1 C d_Md_wrongPlace_94 rfl ?_
        refine x_cs (F := x_F ad cA) (As := [(.long (mlo x3.toNatClampNeg)), (.long (Int32.toInt64 (mo 3 a1.toNatClampNeg)))]) (rest := []) C k_Md_overflows q_958 (c_Md_overflows ok (mlo x3.toNatClampNeg) (Int32.toInt64 (mo 3 a1.toNatClampNeg))) rfl rfl rfl (Nat.le_of_ble_eq_true rfl) (Nat.le_of_ble_eq_true rfl) rfl rfl (Nat.le_of_ble_eq_true rfl) d_Md_wrongPlace_96 ⟨Nat.zero_le _, Nat.zero_le _⟩ ?_
        generalize hq37 : s_Md_overflows (mlo x3.toNatClampNeg) (Int32.toInt64 (mo 3 a1.toNatClampNeg)) = r37
        refine x_lets ?_
        refine x_if_ne 158 C d_Md_wrongPlace_99 (by decide) (fun z38 => ?_) (fun z38 => ?_)
        · refine x_aload_n 2 C d_Md_wrongPlace_102 rfl rfl ?_
          refine x_get (i := (18, 0)) (v := (.ref (ad (26, 0)))) 18 C m_18 rfl rfl i_Md (by decide) (List.mem_cons_of_mem _ q_809) rfl d_Md_wrongPlace_103 ?_
          refine x_iload_n 5 C d_Md_wrongPlace_106 rfl rfl ?_
          refine x_lald (i := (26, 0)) (g := mhi) 1 C m_26 rfl rfl w36 d_Md_wrongPlace_107 ?_
          refine x_lload 0 C d_Md_wrongPlace_108 rfl ?_
          refine x_cs (F := x_F ad cA) (As := [(.long (mhi x3.toNatClampNeg)), (.long (Int32.toInt64 (mo 3 a1.toNatClampNeg)))]) (rest := []) C k_Md_overflows q_958 (c_Md_overflows ok (mhi x3.toNatClampNeg) (Int32.toInt64 (mo 3 a1.toNatClampNeg))) rfl rfl rfl (Nat.le_of_ble_eq_true rfl) (Nat.le_of_ble_eq_true rfl) rfl rfl (Nat.le_of_ble_eq_true rfl) d_Md_wrongPlace_110 ⟨Nat.zero_le _, Nat.zero_le _⟩ ?_
          generalize hq39 : s_Md_overflows (mhi x3.toNatClampNeg) (Int32.toInt64 (mo 3 a1.toNatClampNeg)) = r39
          refine x_lets ?_
          refine x_if_ne 158 C d_Md_wrongPlace_113 (by decide) (fun z40 => ?_) (fun z40 => ?_)
          · refine x_aload_n 2 C d_Md_wrongPlace_116 rfl rfl ?_
            refine x_get (i := (18, 0)) (v := (.ref (ad (25, 0)))) 17 C m_18 rfl rfl i_Md (by decide) (List.mem_cons_of_mem _ q_808) rfl d_Md_wrongPlace_117 ?_
            refine x_iload_n 5 C d_Md_wrongPlace_120 rfl rfl ?_
            refine x_lald (i := (25, 0)) (g := mlo) 1 C m_25 rfl rfl w36 d_Md_wrongPlace_121 ?_
            refine x_lload 1 C d_Md_wrongPlace_122 rfl ?_
            refine x_ladd C d_Md_wrongPlace_124 ?_
            refine x_ldc2 (v := (-100)) C (List.mem_cons_of_mem _ q_961) d_Md_wrongPlace_125 ?_
            refine x_ldc2 (v := 100) C (List.mem_cons_of_mem _ q_962) d_Md_wrongPlace_128 ?_
            refine x_cs (F := x_F ad cA) (As := [(.long ((mlo x3.toNatClampNeg) + (Int32.toInt64 (mo 3 a1.toNatClampNeg)))), (.long (-100)), (.long 100)]) (rest := []) C k_Md_in q_883 (c_Md_in ok ((mlo x3.toNatClampNeg) + (Int32.toInt64 (mo 3 a1.toNatClampNeg))) (-100) 100) rfl rfl rfl (Nat.le_of_ble_eq_true rfl) (Nat.le_of_ble_eq_true rfl) rfl rfl (Nat.le_of_ble_eq_true rfl) d_Md_wrongPlace_131 ⟨Nat.zero_le _, Nat.zero_le _⟩ ?_
            generalize hq41 : s_Md_in ((mlo x3.toNatClampNeg) + (Int32.toInt64 (mo 3 a1.toNatClampNeg))) (-100) 100 = r41
            refine x_lets ?_
            refine x_if_eq 158 C d_Md_wrongPlace_134 (by decide) (fun z42 => ?_) (fun z42 => ?_)
            · refine x_iconst (v := 1) C d_Md_wrongPlace_158 (by decide) ?_
              refine x_goto 163 C d_Md_wrongPlace_159 (by decide) ?_
              exact x_zret C hr hlk rfl rfl d_Md_wrongPlace_163
            · refine x_aload_n 2 C d_Md_wrongPlace_137 rfl rfl ?_
              refine x_get (i := (18, 0)) (v := (.ref (ad (26, 0)))) 18 C m_18 rfl rfl i_Md (by decide) (List.mem_cons_of_mem _ q_809) rfl d_Md_wrongPlace_138 ?_
              refine x_iload_n 5 C d_Md_wrongPlace_141 rfl rfl ?_
              refine x_lald (i := (26, 0)) (g := mhi) 1 C m_26 rfl rfl w36 d_Md_wrongPlace_142 ?_
              refine x_lload 0 C d_Md_wrongPlace_143 rfl ?_
              refine x_ladd C d_Md_wrongPlace_145 ?_
              refine x_ldc2 (v := (-100)) C (List.mem_cons_of_mem _ q_961) d_Md_wrongPlace_146 ?_
              refine x_ldc2 (v := 100) C (List.mem_cons_of_mem _ q_962) d_Md_wrongPlace_149 ?_
              refine x_cs (F := x_F ad cA) (As := [(.long ((mhi x3.toNatClampNeg) + (Int32.toInt64 (mo 3 a1.toNatClampNeg)))), (.long (-100)), (.long 100)]) (rest := []) C k_Md_in q_883 (c_Md_in ok ((mhi x3.toNatClampNeg) + (Int32.toInt64 (mo 3 a1.toNatClampNeg))) (-100) 100) rfl rfl rfl (Nat.le_of_ble_eq_true rfl) (Nat.le_of_ble_eq_true rfl) rfl rfl (Nat.le_of_ble_eq_true rfl) d_Md_wrongPlace_152 ⟨Nat.zero_le _, Nat.zero_le _⟩ ?_
              generalize hq43 : s_Md_in ((mhi x3.toNatClampNeg) + (Int32.toInt64 (mo 3 a1.toNatClampNeg))) (-100) 100 = r43
              refine x_lets ?_
              refine x_if_ne 162 C d_Md_wrongPlace_155 (by decide) (fun z44 => ?_) (fun z44 => ?_)
              · refine x_iconst (v := 1) C d_Md_wrongPlace_158 (by decide) ?_
                refine x_goto 163 C d_Md_wrongPlace_159 (by decide) ?_
                exact x_zret C hr hlk rfl rfl d_Md_wrongPlace_163
              · refine x_iconst (v := 0) C d_Md_wrongPlace_162 (by decide) ?_
                exact x_zret C hr hlk rfl rfl d_Md_wrongPlace_163
          · refine x_iconst (v := 1) C d_Md_wrongPlace_158 (by decide) ?_
            refine x_goto 163 C d_Md_wrongPlace_159 (by decide) ?_
            exact x_zret C hr hlk rfl rfl d_Md_wrongPlace_163
        · refine x_iconst (v := 1) C d_Md_wrongPlace_158 (by decide) ?_
          refine x_goto 163 C d_Md_wrongPlace_159 (by decide) ?_
          exact x_zret C hr hlk rfl rfl d_Md_wrongPlace_163
      · have hk := x_okf hk z35
        refine x_aload_n 1 C d_Md_wrongPlace_79 rfl rfl ?_
        refine x_get (i := (18, 0)) (v := (.ref (ad (26, 0)))) 18 C m_18 rfl rfl i_Md (by decide) (List.mem_cons_of_mem _ q_809) rfl d_Md_wrongPlace_80 ?_
        refine x_iload 5 C d_Md_wrongPlace_83 rfl ?_
        have w45 := hk.1
        have hk := hk.2
        refine x_lald (i := (26, 0)) (g := mhi) 1 C m_26 rfl rfl w45 d_Md_wrongPlace_85 ?_
        refine x_lstore (lv' := [(7, (.long (mhi x4.toNatClampNeg))), (5, (.long (Int32.toInt64 (mo 3 a1.toNatClampNeg)))), (0, (.ref (ad (18, 0)))), (1, (.int a1)), (2, (.int x2)), (3, (.int x3)), (4, (.int x4))]) C d_Md_wrongPlace_86 (by decide) rfl ?_
        refine x_aload_n 2 C d_Md_wrongPlace_88 rfl rfl ?_
        refine x_get (i := (18, 0)) (v := (.ref (ad (25, 0)))) 17 C m_18 rfl rfl i_Md (by decide) (List.mem_cons_of_mem _ q_808) rfl d_Md_wrongPlace_89 ?_
        refine x_iload_n 5 C d_Md_wrongPlace_92 rfl rfl ?_
        have w46 := hk.1
        have hk := hk.2
        refine x_lald (i := (25, 0)) (g := mlo) 1 C m_25 rfl rfl w46 d_Md_wrongPlace_93 ?_
        refine x_lload 1 C d_Md_wrongPlace_94 rfl ?_
        refine x_cs (F := x_F ad cA) (As := [(.long (mlo x3.toNatClampNeg)), (.long (Int32.toInt64 (mo 3 a1.toNatClampNeg)))]) (rest := []) C k_Md_overflows q_958 (c_Md_overflows ok (mlo x3.toNatClampNeg) (Int32.toInt64 (mo 3 a1.toNatClampNeg))) rfl rfl rfl (Nat.le_of_ble_eq_true rfl) (Nat.le_of_ble_eq_true rfl) rfl rfl (Nat.le_of_ble_eq_true rfl) d_Md_wrongPlace_96 ⟨Nat.zero_le _, Nat.zero_le _⟩ ?_
        generalize hq47 : s_Md_overflows (mlo x3.toNatClampNeg) (Int32.toInt64 (mo 3 a1.toNatClampNeg)) = r47
        refine x_lets ?_
        refine x_if_ne 158 C d_Md_wrongPlace_99 (by decide) (fun z48 => ?_) (fun z48 => ?_)
        · refine x_aload_n 2 C d_Md_wrongPlace_102 rfl rfl ?_
          refine x_get (i := (18, 0)) (v := (.ref (ad (26, 0)))) 18 C m_18 rfl rfl i_Md (by decide) (List.mem_cons_of_mem _ q_809) rfl d_Md_wrongPlace_103 ?_
          refine x_iload_n 5 C d_Md_wrongPlace_106 rfl rfl ?_
          refine x_lald (i := (26, 0)) (g := mhi) 1 C m_26 rfl rfl w46 d_Md_wrongPlace_107 ?_
          refine x_lload 0 C d_Md_wrongPlace_108 rfl ?_
          refine x_cs (F := x_F ad cA) (As := [(.long (mhi x3.toNatClampNeg)), (.long (mhi x4.toNatClampNeg))]) (rest := []) C k_Md_overflows q_958 (c_Md_overflows ok (mhi x3.toNatClampNeg) (mhi x4.toNatClampNeg)) rfl rfl rfl (Nat.le_of_ble_eq_true rfl) (Nat.le_of_ble_eq_true rfl) rfl rfl (Nat.le_of_ble_eq_true rfl) d_Md_wrongPlace_110 ⟨Nat.zero_le _, Nat.zero_le _⟩ ?_
          generalize hq49 : s_Md_overflows (mhi x3.toNatClampNeg) (mhi x4.toNatClampNeg) = r49
          refine x_lets ?_
          refine x_if_ne 158 C d_Md_wrongPlace_113 (by decide) (fun z50 => ?_) (fun z50 => ?_)
          · refine x_aload_n 2 C d_Md_wrongPlace_116 rfl rfl ?_
            refine x_get (i := (18, 0)) (v := (.ref (ad (25, 0)))) 17 C m_18 rfl rfl i_Md (by decide) (List.mem_cons_of_mem _ q_808) rfl d_Md_wrongPlace_117 ?_
            refine x_iload_n 5 C d_Md_wrongPlace_120 rfl rfl ?_
            refine x_lald (i := (25, 0)) (g := mlo) 1 C m_25 rfl rfl w46 d_Md_wrongPlace_121 ?_
            refine x_lload 1 C d_Md_wrongPlace_122 rfl ?_
            refine x_ladd C d_Md_wrongPlace_124 ?_
            refine x_ldc2 (v := (-100)) C (List.mem_cons_of_mem _ q_961) d_Md_wrongPlace_125 ?_
            refine x_ldc2 (v := 100) C (List.mem_cons_of_mem _ q_962) d_Md_wrongPlace_128 ?_
            refine x_cs (F := x_F ad cA) (As := [(.long ((mlo x3.toNatClampNeg) + (Int32.toInt64 (mo 3 a1.toNatClampNeg)))), (.long (-100)), (.long 100)]) (rest := []) C k_Md_in q_883 (c_Md_in ok ((mlo x3.toNatClampNeg) + (Int32.toInt64 (mo 3 a1.toNatClampNeg))) (-100) 100) rfl rfl rfl (Nat.le_of_ble_eq_true rfl) (Nat.le_of_ble_eq_true rfl) rfl rfl (Nat.le_of_ble_eq_true rfl) d_Md_wrongPlace_131 ⟨Nat.zero_le _, Nat.zero_le _⟩ ?_
            generalize hq51 : s_Md_in ((mlo x3.toNatClampNeg) + (Int32.toInt64 (mo 3 a1.toNatClampNeg))) (-100) 100 = r51
            refine x_lets ?_
            refine x_if_eq 158 C d_Md_wrongPlace_134 (by decide) (fun z52 => ?_) (fun z52 => ?_)
            · refine x_iconst (v := 1) C d_Md_wrongPlace_158 (by decide) ?_
              refine x_goto 163 C d_Md_wrongPlace_159 (by decide) ?_
              exact x_zret C hr hlk rfl rfl d_Md_wrongPlace_163
            · refine x_aload_n 2 C d_Md_wrongPlace_137 rfl rfl ?_
              refine x_get (i := (18, 0)) (v := (.ref (ad (26, 0)))) 18 C m_18 rfl rfl i_Md (by decide) (List.mem_cons_of_mem _ q_809) rfl d_Md_wrongPlace_138 ?_
              refine x_iload_n 5 C d_Md_wrongPlace_141 rfl rfl ?_
              refine x_lald (i := (26, 0)) (g := mhi) 1 C m_26 rfl rfl w46 d_Md_wrongPlace_142 ?_
              refine x_lload 0 C d_Md_wrongPlace_143 rfl ?_
              refine x_ladd C d_Md_wrongPlace_145 ?_
              refine x_ldc2 (v := (-100)) C (List.mem_cons_of_mem _ q_961) d_Md_wrongPlace_146 ?_
              refine x_ldc2 (v := 100) C (List.mem_cons_of_mem _ q_962) d_Md_wrongPlace_149 ?_
              refine x_cs (F := x_F ad cA) (As := [(.long ((mhi x3.toNatClampNeg) + (mhi x4.toNatClampNeg))), (.long (-100)), (.long 100)]) (rest := []) C k_Md_in q_883 (c_Md_in ok ((mhi x3.toNatClampNeg) + (mhi x4.toNatClampNeg)) (-100) 100) rfl rfl rfl (Nat.le_of_ble_eq_true rfl) (Nat.le_of_ble_eq_true rfl) rfl rfl (Nat.le_of_ble_eq_true rfl) d_Md_wrongPlace_152 ⟨Nat.zero_le _, Nat.zero_le _⟩ ?_
              generalize hq53 : s_Md_in ((mhi x3.toNatClampNeg) + (mhi x4.toNatClampNeg)) (-100) 100 = r53
              refine x_lets ?_
              refine x_if_ne 162 C d_Md_wrongPlace_155 (by decide) (fun z54 => ?_) (fun z54 => ?_)
              · refine x_iconst (v := 1) C d_Md_wrongPlace_158 (by decide) ?_
                refine x_goto 163 C d_Md_wrongPlace_159 (by decide) ?_
                exact x_zret C hr hlk rfl rfl d_Md_wrongPlace_163
              · refine x_iconst (v := 0) C d_Md_wrongPlace_162 (by decide) ?_
                exact x_zret C hr hlk rfl rfl d_Md_wrongPlace_163
          · refine x_iconst (v := 1) C d_Md_wrongPlace_158 (by decide) ?_
            refine x_goto 163 C d_Md_wrongPlace_159 (by decide) ?_
            exact x_zret C hr hlk rfl rfl d_Md_wrongPlace_163
        · refine x_iconst (v := 1) C d_Md_wrongPlace_158 (by decide) ?_
          refine x_goto 163 C d_Md_wrongPlace_159 (by decide) ?_
          exact x_zret C hr hlk rfl rfl d_Md_wrongPlace_163
    · have hk := x_okf hk z33
      refine x_aload_n 0 C d_Md_wrongPlace_55 rfl rfl ?_
      refine x_get (i := (18, 0)) (v := (.ref (ad (25, 0)))) 17 C m_18 rfl rfl i_Md (by decide) (List.mem_cons_of_mem _ q_808) rfl d_Md_wrongPlace_56 ?_
      refine x_iload 4 C d_Md_wrongPlace_59 rfl ?_
      have w55 := hk.1
      have hk := hk.2
      refine x_lald (i := (25, 0)) (g := mlo) 1 C m_25 rfl rfl w55 d_Md_wrongPlace_61 ?_
      refine x_lstore (lv' := [(5, (.long (mlo x4.toNatClampNeg))), (0, (.ref (ad (18, 0)))), (1, (.int a1)), (2, (.int x2)), (3, (.int x3)), (4, (.int x4))]) C d_Md_wrongPlace_62 (by decide) rfl ?_
      refine x_iload_n 3 C d_Md_wrongPlace_64 rfl rfl ?_
      refine x_iconst (v := 2) C d_Md_wrongPlace_65 (by decide) ?_
      refine x_icmp_ne 79 C d_Md_wrongPlace_66 (by decide) (fun z56 => ?_) (fun z56 => ?_)
      · have hk := x_okt hk z56
        refine x_aload_n 1 C d_Md_wrongPlace_69 rfl rfl ?_
        refine x_get (i := (18, 0)) (v := (.ref (ad (22, 0)))) 3 C m_18 rfl rfl i_Md (by decide) (List.mem_cons_of_mem _ q_794) rfl d_Md_wrongPlace_70 ?_
        refine x_iload_n 2 C d_Md_wrongPlace_73 rfl rfl ?_
        have w57 := hk.1
        have hk := hk.2
        refine x_iald (i := (22, 0)) (g := mo 3) 0 C m_22 rfl rfl w57 d_Md_wrongPlace_74 ?_
        refine x_i2l C d_Md_wrongPlace_75 ?_
        refine x_goto 86 C d_Md_wrongPlace_76 (by decide) ?_
        refine x_lstore (lv' := [(7, (.long (Int32.toInt64 (mo 3 a1.toNatClampNeg)))), (5, (.long (mlo x4.toNatClampNeg))), (0, (.ref (ad (18, 0)))), (1, (.int a1)), (2, (.int x2)), (3, (.int x3)), (4, (.int x4))]) C d_Md_wrongPlace_86 (by decide) rfl ?_
        refine x_aload_n 2 C d_Md_wrongPlace_88 rfl rfl ?_
        refine x_get (i := (18, 0)) (v := (.ref (ad (25, 0)))) 17 C m_18 rfl rfl i_Md (by decide) (List.mem_cons_of_mem _ q_808) rfl d_Md_wrongPlace_89 ?_
        refine x_iload_n 5 C d_Md_wrongPlace_92 rfl rfl ?_
        have w58 := hk.1
        have hk := hk.2
        refine x_lald (i := (25, 0)) (g := mlo) 1 C m_25 rfl rfl w58 d_Md_wrongPlace_93 ?_
        refine x_lload 1 C d_Md_wrongPlace_94 rfl ?_
        refine x_cs (F := x_F ad cA) (As := [(.long (mlo x3.toNatClampNeg)), (.long (mlo x4.toNatClampNeg))]) (rest := []) C k_Md_overflows q_958 (c_Md_overflows ok (mlo x3.toNatClampNeg) (mlo x4.toNatClampNeg)) rfl rfl rfl (Nat.le_of_ble_eq_true rfl) (Nat.le_of_ble_eq_true rfl) rfl rfl (Nat.le_of_ble_eq_true rfl) d_Md_wrongPlace_96 ⟨Nat.zero_le _, Nat.zero_le _⟩ ?_
        generalize hq59 : s_Md_overflows (mlo x3.toNatClampNeg) (mlo x4.toNatClampNeg) = r59
        refine x_lets ?_
        refine x_if_ne 158 C d_Md_wrongPlace_99 (by decide) (fun z60 => ?_) (fun z60 => ?_)
        · refine x_aload_n 2 C d_Md_wrongPlace_102 rfl rfl ?_
          refine x_get (i := (18, 0)) (v := (.ref (ad (26, 0)))) 18 C m_18 rfl rfl i_Md (by decide) (List.mem_cons_of_mem _ q_809) rfl d_Md_wrongPlace_103 ?_
          refine x_iload_n 5 C d_Md_wrongPlace_106 rfl rfl ?_
          refine x_lald (i := (26, 0)) (g := mhi) 1 C m_26 rfl rfl w58 d_Md_wrongPlace_107 ?_
          refine x_lload 0 C d_Md_wrongPlace_108 rfl ?_
          refine x_cs (F := x_F ad cA) (As := [(.long (mhi x3.toNatClampNeg)), (.long (Int32.toInt64 (mo 3 a1.toNatClampNeg)))]) (rest := []) C k_Md_overflows q_958 (c_Md_overflows ok (mhi x3.toNatClampNeg) (Int32.toInt64 (mo 3 a1.toNatClampNeg))) rfl rfl rfl (Nat.le_of_ble_eq_true rfl) (Nat.le_of_ble_eq_true rfl) rfl rfl (Nat.le_of_ble_eq_true rfl) d_Md_wrongPlace_110 ⟨Nat.zero_le _, Nat.zero_le _⟩ ?_
          generalize hq61 : s_Md_overflows (mhi x3.toNatClampNeg) (Int32.toInt64 (mo 3 a1.toNatClampNeg)) = r61
          refine x_lets ?_
          refine x_if_ne 158 C d_Md_wrongPlace_113 (by decide) (fun z62 => ?_) (fun z62 => ?_)
          · refine x_aload_n 2 C d_Md_wrongPlace_116 rfl rfl ?_
            refine x_get (i := (18, 0)) (v := (.ref (ad (25, 0)))) 17 C m_18 rfl rfl i_Md (by decide) (List.mem_cons_of_mem _ q_808) rfl d_Md_wrongPlace_117 ?_
            refine x_iload_n 5 C d_Md_wrongPlace_120 rfl rfl ?_
            refine x_lald (i := (25, 0)) (g := mlo) 1 C m_25 rfl rfl w58 d_Md_wrongPlace_121 ?_
            refine x_lload 1 C d_Md_wrongPlace_122 rfl ?_
            refine x_ladd C d_Md_wrongPlace_124 ?_
            refine x_ldc2 (v := (-100)) C (List.mem_cons_of_mem _ q_961) d_Md_wrongPlace_125 ?_
            refine x_ldc2 (v := 100) C (List.mem_cons_of_mem _ q_962) d_Md_wrongPlace_128 ?_
            refine x_cs (F := x_F ad cA) (As := [(.long ((mlo x3.toNatClampNeg) + (mlo x4.toNatClampNeg))), (.long (-100)), (.long 100)]) (rest := []) C k_Md_in q_883 (c_Md_in ok ((mlo x3.toNatClampNeg) + (mlo x4.toNatClampNeg)) (-100) 100) rfl rfl rfl (Nat.le_of_ble_eq_true rfl) (Nat.le_of_ble_eq_true rfl) rfl rfl (Nat.le_of_ble_eq_true rfl) d_Md_wrongPlace_131 ⟨Nat.zero_le _, Nat.zero_le _⟩ ?_
            generalize hq63 : s_Md_in ((mlo x3.toNatClampNeg) + (mlo x4.toNatClampNeg)) (-100) 100 = r63
            refine x_lets ?_
            refine x_if_eq 158 C d_Md_wrongPlace_134 (by decide) (fun z64 => ?_) (fun z64 => ?_)
            · refine x_iconst (v := 1) C d_Md_wrongPlace_158 (by decide) ?_
              refine x_goto 163 C d_Md_wrongPlace_159 (by decide) ?_
              exact x_zret C hr hlk rfl rfl d_Md_wrongPlace_163
            · refine x_aload_n 2 C d_Md_wrongPlace_137 rfl rfl ?_
              refine x_get (i := (18, 0)) (v := (.ref (ad (26, 0)))) 18 C m_18 rfl rfl i_Md (by decide) (List.mem_cons_of_mem _ q_809) rfl d_Md_wrongPlace_138 ?_
              refine x_iload_n 5 C d_Md_wrongPlace_141 rfl rfl ?_
              refine x_lald (i := (26, 0)) (g := mhi) 1 C m_26 rfl rfl w58 d_Md_wrongPlace_142 ?_
              refine x_lload 0 C d_Md_wrongPlace_143 rfl ?_
              refine x_ladd C d_Md_wrongPlace_145 ?_
              refine x_ldc2 (v := (-100)) C (List.mem_cons_of_mem _ q_961) d_Md_wrongPlace_146 ?_
              refine x_ldc2 (v := 100) C (List.mem_cons_of_mem _ q_962) d_Md_wrongPlace_149 ?_
              refine x_cs (F := x_F ad cA) (As := [(.long ((mhi x3.toNatClampNeg) + (Int32.toInt64 (mo 3 a1.toNatClampNeg)))), (.long (-100)), (.long 100)]) (rest := []) C k_Md_in q_883 (c_Md_in ok ((mhi x3.toNatClampNeg) + (Int32.toInt64 (mo 3 a1.toNatClampNeg))) (-100) 100) rfl rfl rfl (Nat.le_of_ble_eq_true rfl) (Nat.le_of_ble_eq_true rfl) rfl rfl (Nat.le_of_ble_eq_true rfl) d_Md_wrongPlace_152 ⟨Nat.zero_le _, Nat.zero_le _⟩ ?_
              generalize hq65 : s_Md_in ((mhi x3.toNatClampNeg) + (Int32.toInt64 (mo 3 a1.toNatClampNeg))) (-100) 100 = r65
              refine x_lets ?_
              refine x_if_ne 162 C d_Md_wrongPlace_155 (by decide) (fun z66 => ?_) (fun z66 => ?_)
              · refine x_iconst (v := 1) C d_Md_wrongPlace_158 (by decide) ?_
                refine x_goto 163 C d_Md_wrongPlace_159 (by decide) ?_
                exact x_zret C hr hlk rfl rfl d_Md_wrongPlace_163
              · refine x_iconst (v := 0) C d_Md_wrongPlace_162 (by decide) ?_
                exact x_zret C hr hlk rfl rfl d_Md_wrongPlace_163
          · refine x_iconst (v := 1) C d_Md_wrongPlace_158 (by decide) ?_
            refine x_goto 163 C d_Md_wrongPlace_159 (by decide) ?_
            exact x_zret C hr hlk rfl rfl d_Md_wrongPlace_163
        · refine x_iconst (v := 1) C d_Md_wrongPlace_158 (by decide) ?_
          refine x_goto 163 C d_Md_wrongPlace_159 (by decide) ?_
          exact x_zret C hr hlk rfl rfl d_Md_wrongPlace_163
      · have hk := x_okf hk z56
        refine x_aload_n 1 C d_Md_wrongPlace_79 rfl rfl ?_
        refine x_get (i := (18, 0)) (v := (.ref (ad (26, 0)))) 18 C m_18 rfl rfl i_Md (by decide) (List.mem_cons_of_mem _ q_809) rfl d_Md_wrongPlace_80 ?_
        refine x_iload 5 C d_Md_wrongPlace_83 rfl ?_
        refine x_lald (i := (26, 0)) (g := mhi) 1 C m_26 rfl rfl w55 d_Md_wrongPlace_85 ?_
        refine x_lstore (lv' := [(7, (.long (mhi x4.toNatClampNeg))), (5, (.long (mlo x4.toNatClampNeg))), (0, (.ref (ad (18, 0)))), (1, (.int a1)), (2, (.int x2)), (3, (.int x3)), (4, (.int x4))]) C d_Md_wrongPlace_86 (by decide) rfl ?_
        refine x_aload_n 2 C d_Md_wrongPlace_88 rfl rfl ?_
        refine x_get (i := (18, 0)) (v := (.ref (ad (25, 0)))) 17 C m_18 rfl rfl i_Md (by decide) (List.mem_cons_of_mem _ q_808) rfl d_Md_wrongPlace_89 ?_
        refine x_iload_n 5 C d_Md_wrongPlace_92 rfl rfl ?_
        have w67 := hk.1
        have hk := hk.2
        refine x_lald (i := (25, 0)) (g := mlo) 1 C m_25 rfl rfl w67 d_Md_wrongPlace_93 ?_
        refine x_lload 1 C d_Md_wrongPlace_94 rfl ?_
        refine x_cs (F := x_F ad cA) (As := [(.long (mlo x3.toNatClampNeg)), (.long (mlo x4.toNatClampNeg))]) (rest := []) C k_Md_overflows q_958 (c_Md_overflows ok (mlo x3.toNatClampNeg) (mlo x4.toNatClampNeg)) rfl rfl rfl (Nat.le_of_ble_eq_true rfl) (Nat.le_of_ble_eq_true rfl) rfl rfl (Nat.le_of_ble_eq_true rfl) d_Md_wrongPlace_96 ⟨Nat.zero_le _, Nat.zero_le _⟩ ?_
        generalize hq68 : s_Md_overflows (mlo x3.toNatClampNeg) (mlo x4.toNatClampNeg) = r68
        refine x_lets ?_
        refine x_if_ne 158 C d_Md_wrongPlace_99 (by decide) (fun z69 => ?_) (fun z69 => ?_)
        · refine x_aload_n 2 C d_Md_wrongPlace_102 rfl rfl ?_
          refine x_get (i := (18, 0)) (v := (.ref (ad (26, 0)))) 18 C m_18 rfl rfl i_Md (by decide) (List.mem_cons_of_mem _ q_809) rfl d_Md_wrongPlace_103 ?_
          refine x_iload_n 5 C d_Md_wrongPlace_106 rfl rfl ?_
          refine x_lald (i := (26, 0)) (g := mhi) 1 C m_26 rfl rfl w67 d_Md_wrongPlace_107 ?_
          refine x_lload 0 C d_Md_wrongPlace_108 rfl ?_
          refine x_cs (F := x_F ad cA) (As := [(.long (mhi x3.toNatClampNeg)), (.long (mhi x4.toNatClampNeg))]) (rest := []) C k_Md_overflows q_958 (c_Md_overflows ok (mhi x3.toNatClampNeg) (mhi x4.toNatClampNeg)) rfl rfl rfl (Nat.le_of_ble_eq_true rfl) (Nat.le_of_ble_eq_true rfl) rfl rfl (Nat.le_of_ble_eq_true rfl) d_Md_wrongPlace_110 ⟨Nat.zero_le _, Nat.zero_le _⟩ ?_
          generalize hq70 : s_Md_overflows (mhi x3.toNatClampNeg) (mhi x4.toNatClampNeg) = r70
          refine x_lets ?_
          refine x_if_ne 158 C d_Md_wrongPlace_113 (by decide) (fun z71 => ?_) (fun z71 => ?_)
          · refine x_aload_n 2 C d_Md_wrongPlace_116 rfl rfl ?_
            refine x_get (i := (18, 0)) (v := (.ref (ad (25, 0)))) 17 C m_18 rfl rfl i_Md (by decide) (List.mem_cons_of_mem _ q_808) rfl d_Md_wrongPlace_117 ?_
            refine x_iload_n 5 C d_Md_wrongPlace_120 rfl rfl ?_
            refine x_lald (i := (25, 0)) (g := mlo) 1 C m_25 rfl rfl w67 d_Md_wrongPlace_121 ?_
            refine x_lload 1 C d_Md_wrongPlace_122 rfl ?_
            refine x_ladd C d_Md_wrongPlace_124 ?_
            refine x_ldc2 (v := (-100)) C (List.mem_cons_of_mem _ q_961) d_Md_wrongPlace_125 ?_
            refine x_ldc2 (v := 100) C (List.mem_cons_of_mem _ q_962) d_Md_wrongPlace_128 ?_
            refine x_cs (F := x_F ad cA) (As := [(.long ((mlo x3.toNatClampNeg) + (mlo x4.toNatClampNeg))), (.long (-100)), (.long 100)]) (rest := []) C k_Md_in q_883 (c_Md_in ok ((mlo x3.toNatClampNeg) + (mlo x4.toNatClampNeg)) (-100) 100) rfl rfl rfl (Nat.le_of_ble_eq_true rfl) (Nat.le_of_ble_eq_true rfl) rfl rfl (Nat.le_of_ble_eq_true rfl) d_Md_wrongPlace_131 ⟨Nat.zero_le _, Nat.zero_le _⟩ ?_
            generalize hq72 : s_Md_in ((mlo x3.toNatClampNeg) + (mlo x4.toNatClampNeg)) (-100) 100 = r72
            refine x_lets ?_
            refine x_if_eq 158 C d_Md_wrongPlace_134 (by decide) (fun z73 => ?_) (fun z73 => ?_)
            · refine x_iconst (v := 1) C d_Md_wrongPlace_158 (by decide) ?_
              refine x_goto 163 C d_Md_wrongPlace_159 (by decide) ?_
              exact x_zret C hr hlk rfl rfl d_Md_wrongPlace_163
            · refine x_aload_n 2 C d_Md_wrongPlace_137 rfl rfl ?_
              refine x_get (i := (18, 0)) (v := (.ref (ad (26, 0)))) 18 C m_18 rfl rfl i_Md (by decide) (List.mem_cons_of_mem _ q_809) rfl d_Md_wrongPlace_138 ?_
              refine x_iload_n 5 C d_Md_wrongPlace_141 rfl rfl ?_
              refine x_lald (i := (26, 0)) (g := mhi) 1 C m_26 rfl rfl w67 d_Md_wrongPlace_142 ?_
              refine x_lload 0 C d_Md_wrongPlace_143 rfl ?_
              refine x_ladd C d_Md_wrongPlace_145 ?_
              refine x_ldc2 (v := (-100)) C (List.mem_cons_of_mem _ q_961) d_Md_wrongPlace_146 ?_
              refine x_ldc2 (v := 100) C (List.mem_cons_of_mem _ q_962) d_Md_wrongPlace_149 ?_
              refine x_cs (F := x_F ad cA) (As := [(.long ((mhi x3.toNatClampNeg) + (mhi x4.toNatClampNeg))), (.long (-100)), (.long 100)]) (rest := []) C k_Md_in q_883 (c_Md_in ok ((mhi x3.toNatClampNeg) + (mhi x4.toNatClampNeg)) (-100) 100) rfl rfl rfl (Nat.le_of_ble_eq_true rfl) (Nat.le_of_ble_eq_true rfl) rfl rfl (Nat.le_of_ble_eq_true rfl) d_Md_wrongPlace_152 ⟨Nat.zero_le _, Nat.zero_le _⟩ ?_
              generalize hq74 : s_Md_in ((mhi x3.toNatClampNeg) + (mhi x4.toNatClampNeg)) (-100) 100 = r74
              refine x_lets ?_
              refine x_if_ne 162 C d_Md_wrongPlace_155 (by decide) (fun z75 => ?_) (fun z75 => ?_)
              · refine x_iconst (v := 1) C d_Md_wrongPlace_158 (by decide) ?_
                refine x_goto 163 C d_Md_wrongPlace_159 (by decide) ?_
                exact x_zret C hr hlk rfl rfl d_Md_wrongPlace_163
              · refine x_iconst (v := 0) C d_Md_wrongPlace_162 (by decide) ?_
                exact x_zret C hr hlk rfl rfl d_Md_wrongPlace_163
          · refine x_iconst (v := 1) C d_Md_wrongPlace_158 (by decide) ?_
            refine x_goto 163 C d_Md_wrongPlace_159 (by decide) ?_
            exact x_zret C hr hlk rfl rfl d_Md_wrongPlace_163
        · refine x_iconst (v := 1) C d_Md_wrongPlace_158 (by decide) ?_
          refine x_goto 163 C d_Md_wrongPlace_159 (by decide) ?_
          exact x_zret C hr hlk rfl rfl d_Md_wrongPlace_163
def s_Md_wrongPlace (mo : Nat → Nat → Int32) (mk : Nat → Int32) (mlo : Nat → Int64) (mhi : Nat → Int64) (a1 : Int32) : Int32 :=
  (if (mo 0 a1.toNatClampNeg) = 2 then bk_Md_wrongPlace_32 mo mk mlo mhi a1 (mo 0 a1.toNatClampNeg) (mo 1 a1.toNatClampNeg) (mo 2 a1.toNatClampNeg) else (if (mo 0 a1.toNatClampNeg) = 3 then bk_Md_wrongPlace_32 mo mk mlo mhi a1 (mo 0 a1.toNatClampNeg) (mo 1 a1.toNatClampNeg) (mo 2 a1.toNatClampNeg) else bk_Md_wrongPlace_164 mo mk mlo mhi a1 (mo 0 a1.toNatClampNeg) (mo 1 a1.toNatClampNeg) (mo 2 a1.toNatClampNeg)))
def k_ok_Md_wrongPlace (mo : Nat → Nat → Int32) (mk : Nat → Int32) (mlo : Nat → Int64) (mhi : Nat → Int64) (a1 : Int32) : Prop :=
  (vp_in a1 24 ∧ (if (mo 0 a1.toNatClampNeg) = 2 then bk_ok_Md_wrongPlace_32 mo mk mlo mhi a1 (mo 0 a1.toNatClampNeg) (mo 1 a1.toNatClampNeg) (mo 2 a1.toNatClampNeg) else (if (mo 0 a1.toNatClampNeg) = 3 then bk_ok_Md_wrongPlace_32 mo mk mlo mhi a1 (mo 0 a1.toNatClampNeg) (mo 1 a1.toNatClampNeg) (mo 2 a1.toNatClampNeg) else bk_ok_Md_wrongPlace_164 mo mk mlo mhi a1 (mo 0 a1.toNatClampNeg) (mo 1 a1.toNatClampNeg) (mo 2 a1.toNatClampNeg))))
set_option maxHeartbeats 4000000 in
set_option maxRecDepth 100000 in
theorem c_Md_wrongPlace {l : Launch} {D : va_G} {cA : Nat → ClassId} {ad : x_I → Nat} (ok : x_ok (x_k D cA ad)) {stp : Nat → Nat → Int32} {psz : Int32} {gk : Nat → Nat → Int32} {gl : Nat → Nat → Int64} {gh : Nat → Nat → Int64} {opn : Nat → Int32} {cki : Nat → Int32} {ckl : Nat → Int64} {mp : Nat → Nat → Int64} {rk : Nat → Int32} {rv : Nat → Int64} {ri : Nat → Int32} {chk : Int32} {mo : Nat → Nat → Int32} {mi : Nat → Int32} {ml : Nat → Int64} {mk : Nat → Int32} {mlo : Nat → Int64} {mhi : Nat → Int64} {pk : Nat → Int32} {ps : Nat → Int32} {pl : Nat → Int64} {ph : Nat → Int64} {mm : Nat → Int64} {out : Nat → Int64} (a1 : Int32) (hk : k_ok_Md_wrongPlace mo mk mlo mhi a1) : x_M l y_Md_wrongPlace (Cond.code y_Md_wrongPlace b_Md_wrongPlace 9 (Option.some Jvm.ClassFile.FieldType.boolean) :: x_Wd) { frames := 1, cells := 0, slots := 0, locals := 25 } (x_k D cA ad) (x_F ad cA) [(.ref (ad (18, 0))), (.int a1)] ((stp, psz, gk, gl, gh, opn, cki, ckl, mp, rk, rv, ri, chk), (mo, mi, ml, mk, mlo, mhi, pk, ps, pl, ph, mm), out) ((fun q : Int32 => ((some (.int (q)), ((stp, psz, gk, gl, gh, opn, cki, ckl, mp, rk, rv, ri, chk), (mo, mi, ml, mk, mlo, mhi, pk, ps, pl, ph, mm), out)) : Option Value × x_S)) (s_Md_wrongPlace mo mk mlo mhi a1)) 0 0 := by
  refine x_start (κ := x_k D cA ad) (cc := b_Md_wrongPlace) (F := x_F ad cA) (wr := (fun q : Int32 => ((some (.int (q)), ((stp, psz, gk, gl, gh, opn, cki, ckl, mp, rk, rv, ri, chk), (mo, mi, ml, mk, mlo, mhi, pk, ps, pl, ph, mm), out)) : Option Value × x_S))) (q := s_Md_wrongPlace mo mk mlo mhi a1) (ret := (Option.some Jvm.ClassFile.FieldType.boolean)) (lv0 := [(0, (.ref (ad (18, 0)))), (1, (.int a1))]) ok (by decide) rfl (Nat.le_of_ble_eq_true rfl) rfl ?_
  intro p e s m below meth c C hr hlk
  unfold s_Md_wrongPlace
  unfold k_ok_Md_wrongPlace at hk
  refine x_aload_n 0 C d_Md_wrongPlace_0 rfl rfl ?_
  refine x_get (i := (18, 0)) (v := (.ref (ad (19, 0)))) 0 C m_18 rfl rfl i_Md (by decide) (List.mem_cons_of_mem _ q_791) rfl d_Md_wrongPlace_1 ?_
  refine x_iload_n 1 C d_Md_wrongPlace_4 rfl rfl ?_
  have w1 := hk.1
  have hk := hk.2
  refine x_iald (i := (19, 0)) (g := mo 0) 0 C m_19 rfl rfl w1 d_Md_wrongPlace_5 ?_
  refine x_istore_n (lv' := [(2, (.int (mo 0 a1.toNatClampNeg))), (0, (.ref (ad (18, 0)))), (1, (.int a1))]) C d_Md_wrongPlace_6 rfl (by decide) rfl ?_
  refine x_aload_n 1 C d_Md_wrongPlace_7 rfl rfl ?_
  refine x_get (i := (18, 0)) (v := (.ref (ad (20, 0)))) 1 C m_18 rfl rfl i_Md (by decide) (List.mem_cons_of_mem _ q_792) rfl d_Md_wrongPlace_8 ?_
  refine x_iload_n 2 C d_Md_wrongPlace_11 rfl rfl ?_
  refine x_iald (i := (20, 0)) (g := mo 1) 0 C m_20 rfl rfl w1 d_Md_wrongPlace_12 ?_
  refine x_istore_n (lv' := [(3, (.int (mo 1 a1.toNatClampNeg))), (2, (.int (mo 0 a1.toNatClampNeg))), (0, (.ref (ad (18, 0)))), (1, (.int a1))]) C d_Md_wrongPlace_13 rfl (by decide) rfl ?_
  refine x_aload_n 2 C d_Md_wrongPlace_14 rfl rfl ?_
  refine x_get (i := (18, 0)) (v := (.ref (ad (21, 0)))) 2 C m_18 rfl rfl i_Md (by decide) (List.mem_cons_of_mem _ q_793) rfl d_Md_wrongPlace_15 ?_
  refine x_iload_n 3 C d_Md_wrongPlace_18 rfl rfl ?_
  refine x_iald (i := (21, 0)) (g := mo 2) 0 C m_21 rfl rfl w1 d_Md_wrongPlace_19 ?_
  refine x_istore (lv' := [(4, (.int (mo 2 a1.toNatClampNeg))), (3, (.int (mo 1 a1.toNatClampNeg))), (2, (.int (mo 0 a1.toNatClampNeg))), (0, (.ref (ad (18, 0)))), (1, (.int a1))]) C d_Md_wrongPlace_20 (by decide) rfl ?_
  refine x_iload_n 2 C d_Md_wrongPlace_22 rfl rfl ?_
  refine x_iconst (v := 2) C d_Md_wrongPlace_23 (by decide) ?_
  refine x_icmp_eq 32 C d_Md_wrongPlace_24 (by decide) (fun z2 => ?_) (fun z2 => ?_)
  · have hk := x_okt hk z2
    refine x_loc (lv' := [(0, (.ref (ad (18, 0)))), (1, (.int a1)), (2, (.int (mo 0 a1.toNatClampNeg))), (3, (.int (mo 1 a1.toNatClampNeg))), (4, (.int (mo 2 a1.toNatClampNeg)))]) [3, 4, 2, 1, 0] rfl ?_
    exact cb_Md_wrongPlace_32 ok C hr hlk a1   (mo 0 a1.toNatClampNeg) (mo 1 a1.toNatClampNeg) (mo 2 a1.toNatClampNeg) hk
  · have hk := x_okf hk z2
    refine x_iload_n 2 C d_Md_wrongPlace_27 rfl rfl ?_
    refine x_iconst (v := 3) C d_Md_wrongPlace_28 (by decide) ?_
    refine x_icmp_ne 164 C d_Md_wrongPlace_29 (by decide) (fun z76 => ?_) (fun z76 => ?_)
    · have hk := x_okt hk z76
      refine x_loc (lv' := [(0, (.ref (ad (18, 0)))), (1, (.int a1)), (2, (.int (mo 0 a1.toNatClampNeg))), (3, (.int (mo 1 a1.toNatClampNeg))), (4, (.int (mo 2 a1.toNatClampNeg)))]) [3, 4, 2, 1, 0] rfl ?_
      exact cb_Md_wrongPlace_32 ok C hr hlk a1   (mo 0 a1.toNatClampNeg) (mo 1 a1.toNatClampNeg) (mo 2 a1.toNatClampNeg) hk
    · have hk := x_okf hk z76
      refine x_loc (lv' := [(0, (.ref (ad (18, 0)))), (1, (.int a1)), (2, (.int (mo 0 a1.toNatClampNeg))), (3, (.int (mo 1 a1.toNatClampNeg))), (4, (.int (mo 2 a1.toNatClampNeg)))]) [3, 4, 2, 1, 0] rfl ?_
      exact cb_Md_wrongPlace_164 ok C hr hlk a1   (mo 0 a1.toNatClampNeg) (mo 1 a1.toNatClampNeg) (mo 2 a1.toNatClampNeg) hk
def lp_Md_wrongCells_45 (n : Nat) (mo : Nat → Nat → Int32) (mk : Nat → Int32) (mlo : Nat → Int64) (mhi : Nat → Int64) (a1 : Int32) (x2 : Int32) (x3 : Int64) : Int32 := match n with
  | 0 => (0)
  | n + 1 => (if ((mhi x2.toNatClampNeg) + (Int32.toInt64 (mo 3 a1.toNatClampNeg))) < x3 then (0) else (if (mk ((6 + (Int64.toInt32 x3)).toNatClampNeg)) = 0 then (1) else (if (mlo x2.toNatClampNeg) = (mhi x2.toNatClampNeg) then lp_Md_wrongCells_45 n mo mk mlo mhi a1 x2 (x3 + 1) else (if (mk ((6 + (Int64.toInt32 x3)).toNatClampNeg)) = 1 then lp_Md_wrongCells_45 n mo mk mlo mhi a1 x2 (x3 + 1) else (1)))))
def lp_ok_Md_wrongCells_45 (n : Nat) (mo : Nat → Nat → Int32) (mk : Nat → Int32) (mlo : Nat → Int64) (mhi : Nat → Int64) (a1 : Int32) (x2 : Int32) (x3 : Int64) : Prop := match n with
  | 0 => False
  | n + 1 => (vp_in x2 12 ∧ (vp_in a1 24 ∧ (if ((mhi x2.toNatClampNeg) + (Int32.toInt64 (mo 3 a1.toNatClampNeg))) < x3 then True else (vp_in (6 + (Int64.toInt32 x3)) 12 ∧ (if (mk ((6 + (Int64.toInt32 x3)).toNatClampNeg)) = 0 then True else (if (mlo x2.toNatClampNeg) = (mhi x2.toNatClampNeg) then lp_ok_Md_wrongCells_45 n mo mk mlo mhi a1 x2 (x3 + 1) else (if (mk ((6 + (Int64.toInt32 x3)).toNatClampNeg)) = 1 then lp_ok_Md_wrongCells_45 n mo mk mlo mhi a1 x2 (x3 + 1) else True)))))))
set_option maxHeartbeats 4000000 in
set_option maxRecDepth 100000 in
theorem cl_Md_wrongCells_45 {l : Launch} {D : va_G} {cA : Nat → ClassId} {ad : x_I → Nat} (ok : x_ok (x_k D cA ad)) {stp : Nat → Nat → Int32} {psz : Int32} {gk : Nat → Nat → Int32} {gl : Nat → Nat → Int64} {gh : Nat → Nat → Int64} {opn : Nat → Int32} {cki : Nat → Int32} {ckl : Nat → Int64} {mp : Nat → Nat → Int64} {rk : Nat → Int32} {rv : Nat → Int64} {ri : Nat → Int32} {chk : Int32} {mo : Nat → Nat → Int32} {mi : Nat → Int32} {ml : Nat → Int64} {mk : Nat → Int32} {mlo : Nat → Int64} {mhi : Nat → Int64} {pk : Nat → Int32} {ps : Nat → Int32} {pl : Nat → Int64} {ph : Nat → Int64} {mm : Nat → Int64} {out : Nat → Int64} {p : Program} {e : Env} {s : State} {m : MethodId} {args : Array Value} {below : List Frame} {meth : Method} {c : Code} (C : x_C p s m args c b_Md_wrongCells 6 R_Md (Cond.code y_Md_wrongCells b_Md_wrongCells 6 (Option.some Jvm.ClassFile.FieldType.boolean) :: x_Wd) (x_k D cA ad)) (hr : meth.sig.returnType = (Option.some Jvm.ClassFile.FieldType.boolean)) (hlk : meth.locks = false) (a1 : Int32) : ∀ (n : Nat)  (x2 : Int32) (x3 : Int64) (hk : lp_ok_Md_wrongCells_45 n mo mk mlo mhi a1 x2 x3), x_V p l e { frames := 0, cells := 0, slots := 0, locals := 0 } s m args below meth c (x_k D cA ad) 6 0 0 (x_E below (x_k D cA ad) args s 0 0 (x_F ad cA) (fun q : Int32 => ((some (.int (q)), ((stp, psz, gk, gl, gh, opn, cki, ckl, mp, rk, rv, ri, chk), (mo, mi, ml, mk, mlo, mhi, pk, ps, pl, ph, mm), out)) : Option Value × x_S)) (lp_Md_wrongCells_45 n mo mk mlo mhi a1 x2 x3)) (x_F ad cA ((stp, psz, gk, gl, gh, opn, cki, ckl, mp, rk, rv, ri, chk), (mo, mi, ml, mk, mlo, mhi, pk, ps, pl, ph, mm), out)) 45 [(0, (.ref (ad (18, 0)))), (1, (.int a1)), (2, (.int x2)), (3, (.long x3))] [] := by
  intro n
  induction n with
  | zero => intro  x2 x3 hk; exact False.elim hk
  | succ n ih =>
    intro  x2 x3 hk
    rw [lp_Md_wrongCells_45]
    rw [lp_ok_Md_wrongCells_45] at hk
    refine x_lload_n 3 C d_Md_wrongCells_45 rfl rfl ?_
    refine x_aload_n 0 C d_Md_wrongCells_46 rfl rfl ?_
    refine x_get (i := (18, 0)) (v := (.ref (ad (26, 0)))) 18 C m_18 rfl rfl i_Md (by decide) (List.mem_cons_of_mem _ q_809) rfl d_Md_wrongCells_47 ?_
    refine x_iload_n 2 C d_Md_wrongCells_50 rfl rfl ?_
    have w5 := hk.1
    have hk := hk.2
    refine x_lald (i := (26, 0)) (g := mhi) 1 C m_26 rfl rfl w5 d_Md_wrongCells_51 ?_
    refine x_aload_n 0 C d_Md_wrongCells_52 rfl rfl ?_
    refine x_get (i := (18, 0)) (v := (.ref (ad (22, 0)))) 3 C m_18 rfl rfl i_Md (by decide) (List.mem_cons_of_mem _ q_794) rfl d_Md_wrongCells_53 ?_
    refine x_iload_n 1 C d_Md_wrongCells_56 rfl rfl ?_
    have w6 := hk.1
    have hk := hk.2
    refine x_iald (i := (22, 0)) (g := mo 3) 0 C m_22 rfl rfl w6 d_Md_wrongCells_57 ?_
    refine x_i2l C d_Md_wrongCells_58 ?_
    refine x_ladd C d_Md_wrongCells_59 ?_
    refine x_lcmp_gt 112 C d_Md_wrongCells_60 d_Md_wrongCells_61 (by decide) (fun z7 => ?_) (fun z7 => ?_)
    · have hk := x_okt hk z7
      refine x_iconst (v := 0) C d_Md_wrongCells_112 (by decide) ?_
      exact x_zret C hr hlk rfl rfl d_Md_wrongCells_113
    · have hk := x_okf hk z7
      refine x_aload_n 0 C d_Md_wrongCells_64 rfl rfl ?_
      refine x_get (i := (18, 0)) (v := (.ref (ad (24, 0)))) 16 C m_18 rfl rfl i_Md (by decide) (List.mem_cons_of_mem _ q_807) rfl d_Md_wrongCells_65 ?_
      refine x_bipush (v := 6) C d_Md_wrongCells_68 (by decide) ?_
      refine x_lload_n 3 C d_Md_wrongCells_70 rfl rfl ?_
      refine x_l2i C d_Md_wrongCells_71 ?_
      refine x_iadd C d_Md_wrongCells_72 ?_
      have w8 := hk.1
      have hk := hk.2
      refine x_iald (i := (24, 0)) (g := mk) 0 C m_24 rfl rfl w8 d_Md_wrongCells_73 ?_
      refine x_istore (lv' := [(5, (.int (mk ((6 + (Int64.toInt32 x3)).toNatClampNeg)))), (0, (.ref (ad (18, 0)))), (1, (.int a1)), (2, (.int x2)), (3, (.long x3))]) C d_Md_wrongCells_74 (by decide) rfl ?_
      refine x_iload 0 C d_Md_wrongCells_76 rfl ?_
      refine x_if_eq 103 C d_Md_wrongCells_78 (by decide) (fun z9 => ?_) (fun z9 => ?_)
      · have hk := x_okt hk z9
        refine x_iconst (v := 1) C d_Md_wrongCells_103 (by decide) ?_
        exact x_zret C hr hlk rfl rfl d_Md_wrongCells_104
      · have hk := x_okf hk z9
        refine x_aload_n 1 C d_Md_wrongCells_81 rfl rfl ?_
        refine x_get (i := (18, 0)) (v := (.ref (ad (25, 0)))) 17 C m_18 rfl rfl i_Md (by decide) (List.mem_cons_of_mem _ q_808) rfl d_Md_wrongCells_82 ?_
        refine x_iload_n 3 C d_Md_wrongCells_85 rfl rfl ?_
        refine x_lald (i := (25, 0)) (g := mlo) 1 C m_25 rfl rfl w5 d_Md_wrongCells_86 ?_
        refine x_aload_n 1 C d_Md_wrongCells_87 rfl rfl ?_
        refine x_get (i := (18, 0)) (v := (.ref (ad (26, 0)))) 18 C m_18 rfl rfl i_Md (by decide) (List.mem_cons_of_mem _ q_809) rfl d_Md_wrongCells_88 ?_
        refine x_iload_n 3 C d_Md_wrongCells_91 rfl rfl ?_
        refine x_lald (i := (26, 0)) (g := mhi) 1 C m_26 rfl rfl w5 d_Md_wrongCells_92 ?_
        refine x_lcmp_eq 105 C d_Md_wrongCells_93 d_Md_wrongCells_94 (by decide) (fun z10 => ?_) (fun z10 => ?_)
        · have hk := x_okt hk z10
          refine x_lload_n 4 C d_Md_wrongCells_105 rfl rfl ?_
          refine x_lconst (v := 1) C d_Md_wrongCells_106 (by decide) ?_
          refine x_ladd C d_Md_wrongCells_107 ?_
          refine x_lstore_n (lv' := [(3, (.long (x3 + 1))), (5, (.int (mk ((6 + (Int64.toInt32 x3)).toNatClampNeg)))), (0, (.ref (ad (18, 0)))), (1, (.int a1)), (2, (.int x2))]) C d_Md_wrongCells_108 rfl (by decide) rfl ?_
          refine x_goto 45 C d_Md_wrongCells_109 (by decide) ?_
          refine x_loc (lv' := [(0, (.ref (ad (18, 0)))), (1, (.int a1)), (2, (.int x2)), (3, (.long (x3 + 1)))]) [2, 3, 4, 0] rfl ?_
          exact ih  x2 (x3 + 1) hk
        · have hk := x_okf hk z10
          refine x_iload 0 C d_Md_wrongCells_97 rfl ?_
          refine x_iconst (v := 1) C d_Md_wrongCells_99 (by decide) ?_
          refine x_icmp_eq 105 C d_Md_wrongCells_100 (by decide) (fun z11 => ?_) (fun z11 => ?_)
          · have hk := x_okt hk z11
            refine x_lload_n 4 C d_Md_wrongCells_105 rfl rfl ?_
            refine x_lconst (v := 1) C d_Md_wrongCells_106 (by decide) ?_
            refine x_ladd C d_Md_wrongCells_107 ?_
            refine x_lstore_n (lv' := [(3, (.long (x3 + 1))), (5, (.int (mk ((6 + (Int64.toInt32 x3)).toNatClampNeg)))), (0, (.ref (ad (18, 0)))), (1, (.int a1)), (2, (.int x2))]) C d_Md_wrongCells_108 rfl (by decide) rfl ?_
            refine x_goto 45 C d_Md_wrongCells_109 (by decide) ?_
            refine x_loc (lv' := [(0, (.ref (ad (18, 0)))), (1, (.int a1)), (2, (.int x2)), (3, (.long (x3 + 1)))]) [2, 3, 4, 0] rfl ?_
            exact ih  x2 (x3 + 1) hk
          · have hk := x_okf hk z11
            refine x_iconst (v := 1) C d_Md_wrongCells_103 (by decide) ?_
            exact x_zret C hr hlk rfl rfl d_Md_wrongCells_104
def s_Md_wrongCells (mo : Nat → Nat → Int32) (mk : Nat → Int32) (mlo : Nat → Int64) (mhi : Nat → Int64) (a1 : Int32) : Int32 :=
  (if (mo 0 a1.toNatClampNeg) = 14 then (if (mk ((mo 2 a1.toNatClampNeg).toNatClampNeg)) = 3 then (0) else lp_Md_wrongCells_45 8 mo mk mlo mhi a1 (mo 2 a1.toNatClampNeg) ((mlo ((mo 2 a1.toNatClampNeg).toNatClampNeg)) + (Int32.toInt64 (mo 3 a1.toNatClampNeg)))) else (0))
def k_ok_Md_wrongCells (mo : Nat → Nat → Int32) (mk : Nat → Int32) (mlo : Nat → Int64) (mhi : Nat → Int64) (a1 : Int32) : Prop :=
  (vp_in a1 24 ∧ (if (mo 0 a1.toNatClampNeg) = 14 then (vp_in (mo 2 a1.toNatClampNeg) 12 ∧ (if (mk ((mo 2 a1.toNatClampNeg).toNatClampNeg)) = 3 then True else lp_ok_Md_wrongCells_45 8 mo mk mlo mhi a1 (mo 2 a1.toNatClampNeg) ((mlo ((mo 2 a1.toNatClampNeg).toNatClampNeg)) + (Int32.toInt64 (mo 3 a1.toNatClampNeg))))) else True))
set_option maxHeartbeats 4000000 in
set_option maxRecDepth 100000 in
theorem c_Md_wrongCells {l : Launch} {D : va_G} {cA : Nat → ClassId} {ad : x_I → Nat} (ok : x_ok (x_k D cA ad)) {stp : Nat → Nat → Int32} {psz : Int32} {gk : Nat → Nat → Int32} {gl : Nat → Nat → Int64} {gh : Nat → Nat → Int64} {opn : Nat → Int32} {cki : Nat → Int32} {ckl : Nat → Int64} {mp : Nat → Nat → Int64} {rk : Nat → Int32} {rv : Nat → Int64} {ri : Nat → Int32} {chk : Int32} {mo : Nat → Nat → Int32} {mi : Nat → Int32} {ml : Nat → Int64} {mk : Nat → Int32} {mlo : Nat → Int64} {mhi : Nat → Int64} {pk : Nat → Int32} {ps : Nat → Int32} {pl : Nat → Int64} {ph : Nat → Int64} {mm : Nat → Int64} {out : Nat → Int64} (a1 : Int32) (hk : k_ok_Md_wrongCells mo mk mlo mhi a1) : x_M l y_Md_wrongCells (Cond.code y_Md_wrongCells b_Md_wrongCells 6 (Option.some Jvm.ClassFile.FieldType.boolean) :: x_Wd) { frames := 0, cells := 0, slots := 0, locals := 0 } (x_k D cA ad) (x_F ad cA) [(.ref (ad (18, 0))), (.int a1)] ((stp, psz, gk, gl, gh, opn, cki, ckl, mp, rk, rv, ri, chk), (mo, mi, ml, mk, mlo, mhi, pk, ps, pl, ph, mm), out) ((fun q : Int32 => ((some (.int (q)), ((stp, psz, gk, gl, gh, opn, cki, ckl, mp, rk, rv, ri, chk), (mo, mi, ml, mk, mlo, mhi, pk, ps, pl, ph, mm), out)) : Option Value × x_S)) (s_Md_wrongCells mo mk mlo mhi a1)) 0 0 := by
  refine x_start (κ := x_k D cA ad) (cc := b_Md_wrongCells) (F := x_F ad cA) (wr := (fun q : Int32 => ((some (.int (q)), ((stp, psz, gk, gl, gh, opn, cki, ckl, mp, rk, rv, ri, chk), (mo, mi, ml, mk, mlo, mhi, pk, ps, pl, ph, mm), out)) : Option Value × x_S))) (q := s_Md_wrongCells mo mk mlo mhi a1) (ret := (Option.some Jvm.ClassFile.FieldType.boolean)) (lv0 := [(0, (.ref (ad (18, 0)))), (1, (.int a1))]) ok (by decide) rfl (Nat.le_of_ble_eq_true rfl) rfl ?_
  intro p e s m below meth c C hr hlk
  unfold s_Md_wrongCells
  unfold k_ok_Md_wrongCells at hk
  refine x_aload_n 0 C d_Md_wrongCells_0 rfl rfl ?_
  refine x_get (i := (18, 0)) (v := (.ref (ad (21, 0)))) 2 C m_18 rfl rfl i_Md (by decide) (List.mem_cons_of_mem _ q_793) rfl d_Md_wrongCells_1 ?_
  refine x_iload_n 1 C d_Md_wrongCells_4 rfl rfl ?_
  have w1 := hk.1
  have hk := hk.2
  refine x_iald (i := (21, 0)) (g := mo 2) 0 C m_21 rfl rfl w1 d_Md_wrongCells_5 ?_
  refine x_istore_n (lv' := [(2, (.int (mo 2 a1.toNatClampNeg))), (0, (.ref (ad (18, 0)))), (1, (.int a1))]) C d_Md_wrongCells_6 rfl (by decide) rfl ?_
  refine x_aload_n 1 C d_Md_wrongCells_7 rfl rfl ?_
  refine x_get (i := (18, 0)) (v := (.ref (ad (19, 0)))) 0 C m_18 rfl rfl i_Md (by decide) (List.mem_cons_of_mem _ q_791) rfl d_Md_wrongCells_8 ?_
  refine x_iload_n 2 C d_Md_wrongCells_11 rfl rfl ?_
  refine x_iald (i := (19, 0)) (g := mo 0) 0 C m_19 rfl rfl w1 d_Md_wrongCells_12 ?_
  refine x_bipush (v := 14) C d_Md_wrongCells_13 (by decide) ?_
  refine x_icmp_ne 28 C d_Md_wrongCells_15 (by decide) (fun z2 => ?_) (fun z2 => ?_)
  · have hk := x_okt hk z2
    refine x_aload_n 1 C d_Md_wrongCells_18 rfl rfl ?_
    refine x_get (i := (18, 0)) (v := (.ref (ad (24, 0)))) 16 C m_18 rfl rfl i_Md (by decide) (List.mem_cons_of_mem _ q_807) rfl d_Md_wrongCells_19 ?_
    refine x_iload_n 0 C d_Md_wrongCells_22 rfl rfl ?_
    have w3 := hk.1
    have hk := hk.2
    refine x_iald (i := (24, 0)) (g := mk) 0 C m_24 rfl rfl w3 d_Md_wrongCells_23 ?_
    refine x_iconst (v := 3) C d_Md_wrongCells_24 (by decide) ?_
    refine x_icmp_ne 30 C d_Md_wrongCells_25 (by decide) (fun z4 => ?_) (fun z4 => ?_)
    · have hk := x_okt hk z4
      refine x_iconst (v := 0) C d_Md_wrongCells_28 (by decide) ?_
      exact x_zret C hr hlk rfl rfl d_Md_wrongCells_29
    · have hk := x_okf hk z4
      refine x_aload_n 1 C d_Md_wrongCells_30 rfl rfl ?_
      refine x_get (i := (18, 0)) (v := (.ref (ad (25, 0)))) 17 C m_18 rfl rfl i_Md (by decide) (List.mem_cons_of_mem _ q_808) rfl d_Md_wrongCells_31 ?_
      refine x_iload_n 0 C d_Md_wrongCells_34 rfl rfl ?_
      refine x_lald (i := (25, 0)) (g := mlo) 1 C m_25 rfl rfl w3 d_Md_wrongCells_35 ?_
      refine x_aload_n 1 C d_Md_wrongCells_36 rfl rfl ?_
      refine x_get (i := (18, 0)) (v := (.ref (ad (22, 0)))) 3 C m_18 rfl rfl i_Md (by decide) (List.mem_cons_of_mem _ q_794) rfl d_Md_wrongCells_37 ?_
      refine x_iload_n 2 C d_Md_wrongCells_40 rfl rfl ?_
      refine x_iald (i := (22, 0)) (g := mo 3) 0 C m_22 rfl rfl w1 d_Md_wrongCells_41 ?_
      refine x_i2l C d_Md_wrongCells_42 ?_
      refine x_ladd C d_Md_wrongCells_43 ?_
      refine x_lstore_n (lv' := [(3, (.long ((mlo ((mo 2 a1.toNatClampNeg).toNatClampNeg)) + (Int32.toInt64 (mo 3 a1.toNatClampNeg))))), (2, (.int (mo 2 a1.toNatClampNeg))), (0, (.ref (ad (18, 0)))), (1, (.int a1))]) C d_Md_wrongCells_44 rfl (by decide) rfl ?_
      refine x_loc (lv' := [(0, (.ref (ad (18, 0)))), (1, (.int a1)), (2, (.int (mo 2 a1.toNatClampNeg))), (3, (.long ((mlo ((mo 2 a1.toNatClampNeg).toNatClampNeg)) + (Int32.toInt64 (mo 3 a1.toNatClampNeg)))))]) [2, 3, 1, 0] rfl ?_
      exact cl_Md_wrongCells_45 ok C hr hlk a1 8  (mo 2 a1.toNatClampNeg) ((mlo ((mo 2 a1.toNatClampNeg).toNatClampNeg)) + (Int32.toInt64 (mo 3 a1.toNatClampNeg))) hk
  · have hk := x_okf hk z2
    refine x_iconst (v := 0) C d_Md_wrongCells_28 (by decide) ?_
    exact x_zret C hr hlk rfl rfl d_Md_wrongCells_29
def lp_Md_wrongStore_61 (n : Nat) (mo : Nat → Nat → Int32) (mk : Nat → Int32) (mhi : Nat → Int64) (a1 : Int32) (x2 : Int32) (x3 : Int64) : Int32 := match n with
  | 0 => (0)
  | n + 1 => (if ((mhi x2.toNatClampNeg) + (Int32.toInt64 (mo 3 a1.toNatClampNeg))) < x3 then (0) else (x_let (s_Md_in x3 0 5) fun r9 => (if r9 = 0 then lp_Md_wrongStore_61 n mo mk mhi a1 x2 (x3 + 1) else (if (mk ((6 + (Int64.toInt32 x3)).toNatClampNeg)) ≤ 1 then lp_Md_wrongStore_61 n mo mk mhi a1 x2 (x3 + 1) else (1)))))
def lp_ok_Md_wrongStore_61 (n : Nat) (mo : Nat → Nat → Int32) (mk : Nat → Int32) (mhi : Nat → Int64) (a1 : Int32) (x2 : Int32) (x3 : Int64) : Prop := match n with
  | 0 => False
  | n + 1 => (vp_in x2 12 ∧ (vp_in a1 24 ∧ (if ((mhi x2.toNatClampNeg) + (Int32.toInt64 (mo 3 a1.toNatClampNeg))) < x3 then True else (x_let (s_Md_in x3 0 5) fun r9 => (if r9 = 0 then lp_ok_Md_wrongStore_61 n mo mk mhi a1 x2 (x3 + 1) else (vp_in (6 + (Int64.toInt32 x3)) 12 ∧ (if (mk ((6 + (Int64.toInt32 x3)).toNatClampNeg)) ≤ 1 then lp_ok_Md_wrongStore_61 n mo mk mhi a1 x2 (x3 + 1) else True)))))))
set_option maxHeartbeats 4000000 in
set_option maxRecDepth 100000 in
theorem cl_Md_wrongStore_61 {l : Launch} {D : va_G} {cA : Nat → ClassId} {ad : x_I → Nat} (ok : x_ok (x_k D cA ad)) {stp : Nat → Nat → Int32} {psz : Int32} {gk : Nat → Nat → Int32} {gl : Nat → Nat → Int64} {gh : Nat → Nat → Int64} {opn : Nat → Int32} {cki : Nat → Int32} {ckl : Nat → Int64} {mp : Nat → Nat → Int64} {rk : Nat → Int32} {rv : Nat → Int64} {ri : Nat → Int32} {chk : Int32} {mo : Nat → Nat → Int32} {mi : Nat → Int32} {ml : Nat → Int64} {mk : Nat → Int32} {mlo : Nat → Int64} {mhi : Nat → Int64} {pk : Nat → Int32} {ps : Nat → Int32} {pl : Nat → Int64} {ph : Nat → Int64} {mm : Nat → Int64} {out : Nat → Int64} {p : Program} {e : Env} {s : State} {m : MethodId} {args : Array Value} {below : List Frame} {meth : Method} {c : Code} (C : x_C p s m args c b_Md_wrongStore 5 R_Md (Cond.code y_Md_wrongStore b_Md_wrongStore 5 (Option.some Jvm.ClassFile.FieldType.boolean) :: x_Wd) (x_k D cA ad)) (hr : meth.sig.returnType = (Option.some Jvm.ClassFile.FieldType.boolean)) (hlk : meth.locks = false) (a1 : Int32) : ∀ (n : Nat)  (x2 : Int32) (x3 : Int64) (hk : lp_ok_Md_wrongStore_61 n mo mk mhi a1 x2 x3), x_V p l e { frames := 1, cells := 0, slots := 0, locals := 25 } s m args below meth c (x_k D cA ad) 5 0 0 (x_E below (x_k D cA ad) args s 0 0 (x_F ad cA) (fun q : Int32 => ((some (.int (q)), ((stp, psz, gk, gl, gh, opn, cki, ckl, mp, rk, rv, ri, chk), (mo, mi, ml, mk, mlo, mhi, pk, ps, pl, ph, mm), out)) : Option Value × x_S)) (lp_Md_wrongStore_61 n mo mk mhi a1 x2 x3)) (x_F ad cA ((stp, psz, gk, gl, gh, opn, cki, ckl, mp, rk, rv, ri, chk), (mo, mi, ml, mk, mlo, mhi, pk, ps, pl, ph, mm), out)) 61 [(0, (.ref (ad (18, 0)))), (1, (.int a1)), (2, (.int x2)), (3, (.long x3))] [] := by
  intro n
  induction n with
  | zero => intro  x2 x3 hk; exact False.elim hk
  | succ n ih =>
    intro  x2 x3 hk
    rw [lp_Md_wrongStore_61]
    rw [lp_ok_Md_wrongStore_61] at hk
    refine x_lload_n 3 C d_Md_wrongStore_61 rfl rfl ?_
    refine x_aload_n 0 C d_Md_wrongStore_62 rfl rfl ?_
    refine x_get (i := (18, 0)) (v := (.ref (ad (26, 0)))) 18 C m_18 rfl rfl i_Md (by decide) (List.mem_cons_of_mem _ q_809) rfl d_Md_wrongStore_63 ?_
    refine x_iload_n 2 C d_Md_wrongStore_66 rfl rfl ?_
    have w6 := hk.1
    have hk := hk.2
    refine x_lald (i := (26, 0)) (g := mhi) 1 C m_26 rfl rfl w6 d_Md_wrongStore_67 ?_
    refine x_aload_n 0 C d_Md_wrongStore_68 rfl rfl ?_
    refine x_get (i := (18, 0)) (v := (.ref (ad (22, 0)))) 3 C m_18 rfl rfl i_Md (by decide) (List.mem_cons_of_mem _ q_794) rfl d_Md_wrongStore_69 ?_
    refine x_iload_n 1 C d_Md_wrongStore_72 rfl rfl ?_
    have w7 := hk.1
    have hk := hk.2
    refine x_iald (i := (22, 0)) (g := mo 3) 0 C m_22 rfl rfl w7 d_Md_wrongStore_73 ?_
    refine x_i2l C d_Md_wrongStore_74 ?_
    refine x_ladd C d_Md_wrongStore_75 ?_
    refine x_lcmp_gt 114 C d_Md_wrongStore_76 d_Md_wrongStore_77 (by decide) (fun z8 => ?_) (fun z8 => ?_)
    · have hk := x_okt hk z8
      refine x_iconst (v := 0) C d_Md_wrongStore_114 (by decide) ?_
      exact x_zret C hr hlk rfl rfl d_Md_wrongStore_115
    · have hk := x_okf hk z8
      refine x_lload_n 3 C d_Md_wrongStore_80 rfl rfl ?_
      refine x_lconst (v := 0) C d_Md_wrongStore_81 (by decide) ?_
      refine x_ldc2 (v := 5) C (List.mem_cons_of_mem _ q_886) d_Md_wrongStore_82 ?_
      refine x_cs (F := x_F ad cA) (As := [(.long x3), (.long 0), (.long 5)]) (rest := []) C k_Md_in q_883 (c_Md_in ok x3 0 5) rfl rfl rfl (Nat.le_of_ble_eq_true rfl) (Nat.le_of_ble_eq_true rfl) rfl rfl (Nat.le_of_ble_eq_true rfl) d_Md_wrongStore_85 ⟨Nat.zero_le _, Nat.zero_le _⟩ ?_
      generalize hq9 : s_Md_in x3 0 5 = r9 at hk ⊢
      refine x_lets ?_
      have hk := x_lete hk
      refine x_if_eq 107 C d_Md_wrongStore_88 (by decide) (fun z10 => ?_) (fun z10 => ?_)
      · have hk := x_okt hk z10
        refine x_lload_n 3 C d_Md_wrongStore_107 rfl rfl ?_
        refine x_lconst (v := 1) C d_Md_wrongStore_108 (by decide) ?_
        refine x_ladd C d_Md_wrongStore_109 ?_
        refine x_lstore_n (lv' := [(3, (.long (x3 + 1))), (0, (.ref (ad (18, 0)))), (1, (.int a1)), (2, (.int x2))]) C d_Md_wrongStore_110 rfl (by decide) rfl ?_
        refine x_goto 61 C d_Md_wrongStore_111 (by decide) ?_
        refine x_loc (lv' := [(0, (.ref (ad (18, 0)))), (1, (.int a1)), (2, (.int x2)), (3, (.long (x3 + 1)))]) [1, 2, 3, 0] rfl ?_
        exact ih  x2 (x3 + 1) hk
      · have hk := x_okf hk z10
        refine x_aload_n 0 C d_Md_wrongStore_91 rfl rfl ?_
        refine x_get (i := (18, 0)) (v := (.ref (ad (24, 0)))) 16 C m_18 rfl rfl i_Md (by decide) (List.mem_cons_of_mem _ q_807) rfl d_Md_wrongStore_92 ?_
        refine x_bipush (v := 6) C d_Md_wrongStore_95 (by decide) ?_
        refine x_lload_n 3 C d_Md_wrongStore_97 rfl rfl ?_
        refine x_l2i C d_Md_wrongStore_98 ?_
        refine x_iadd C d_Md_wrongStore_99 ?_
        have w11 := hk.1
        have hk := hk.2
        refine x_iald (i := (24, 0)) (g := mk) 0 C m_24 rfl rfl w11 d_Md_wrongStore_100 ?_
        refine x_iconst (v := 1) C d_Md_wrongStore_101 (by decide) ?_
        refine x_icmp_le 107 C d_Md_wrongStore_102 (by decide) (fun z12 => ?_) (fun z12 => ?_)
        · have hk := x_okt hk z12
          refine x_lload_n 3 C d_Md_wrongStore_107 rfl rfl ?_
          refine x_lconst (v := 1) C d_Md_wrongStore_108 (by decide) ?_
          refine x_ladd C d_Md_wrongStore_109 ?_
          refine x_lstore_n (lv' := [(3, (.long (x3 + 1))), (0, (.ref (ad (18, 0)))), (1, (.int a1)), (2, (.int x2))]) C d_Md_wrongStore_110 rfl (by decide) rfl ?_
          refine x_goto 61 C d_Md_wrongStore_111 (by decide) ?_
          refine x_loc (lv' := [(0, (.ref (ad (18, 0)))), (1, (.int a1)), (2, (.int x2)), (3, (.long (x3 + 1)))]) [1, 2, 3, 0] rfl ?_
          exact ih  x2 (x3 + 1) hk
        · have hk := x_okf hk z12
          refine x_iconst (v := 1) C d_Md_wrongStore_105 (by decide) ?_
          exact x_zret C hr hlk rfl rfl d_Md_wrongStore_106
def s_Md_wrongStore (mo : Nat → Nat → Int32) (mk : Nat → Int32) (mlo : Nat → Int64) (mhi : Nat → Int64) (a1 : Int32) : Int32 :=
  (if (mo 0 a1.toNatClampNeg) = 15 then (if (mk ((mo 1 a1.toNatClampNeg).toNatClampNeg)) = 3 then (0) else (if (mlo ((mo 1 a1.toNatClampNeg).toNatClampNeg)) = (mhi ((mo 1 a1.toNatClampNeg).toNatClampNeg)) then (0) else lp_Md_wrongStore_61 250 mo mk mhi a1 (mo 1 a1.toNatClampNeg) ((mlo ((mo 1 a1.toNatClampNeg).toNatClampNeg)) + (Int32.toInt64 (mo 3 a1.toNatClampNeg))))) else (0))
def k_ok_Md_wrongStore (mo : Nat → Nat → Int32) (mk : Nat → Int32) (mlo : Nat → Int64) (mhi : Nat → Int64) (a1 : Int32) : Prop :=
  (vp_in a1 24 ∧ (if (mo 0 a1.toNatClampNeg) = 15 then (vp_in (mo 1 a1.toNatClampNeg) 12 ∧ (if (mk ((mo 1 a1.toNatClampNeg).toNatClampNeg)) = 3 then True else (if (mlo ((mo 1 a1.toNatClampNeg).toNatClampNeg)) = (mhi ((mo 1 a1.toNatClampNeg).toNatClampNeg)) then True else lp_ok_Md_wrongStore_61 250 mo mk mhi a1 (mo 1 a1.toNatClampNeg) ((mlo ((mo 1 a1.toNatClampNeg).toNatClampNeg)) + (Int32.toInt64 (mo 3 a1.toNatClampNeg)))))) else True))
set_option maxHeartbeats 4000000 in
set_option maxRecDepth 100000 in
theorem c_Md_wrongStore {l : Launch} {D : va_G} {cA : Nat → ClassId} {ad : x_I → Nat} (ok : x_ok (x_k D cA ad)) {stp : Nat → Nat → Int32} {psz : Int32} {gk : Nat → Nat → Int32} {gl : Nat → Nat → Int64} {gh : Nat → Nat → Int64} {opn : Nat → Int32} {cki : Nat → Int32} {ckl : Nat → Int64} {mp : Nat → Nat → Int64} {rk : Nat → Int32} {rv : Nat → Int64} {ri : Nat → Int32} {chk : Int32} {mo : Nat → Nat → Int32} {mi : Nat → Int32} {ml : Nat → Int64} {mk : Nat → Int32} {mlo : Nat → Int64} {mhi : Nat → Int64} {pk : Nat → Int32} {ps : Nat → Int32} {pl : Nat → Int64} {ph : Nat → Int64} {mm : Nat → Int64} {out : Nat → Int64} (a1 : Int32) (hk : k_ok_Md_wrongStore mo mk mlo mhi a1) : x_M l y_Md_wrongStore (Cond.code y_Md_wrongStore b_Md_wrongStore 5 (Option.some Jvm.ClassFile.FieldType.boolean) :: x_Wd) { frames := 1, cells := 0, slots := 0, locals := 25 } (x_k D cA ad) (x_F ad cA) [(.ref (ad (18, 0))), (.int a1)] ((stp, psz, gk, gl, gh, opn, cki, ckl, mp, rk, rv, ri, chk), (mo, mi, ml, mk, mlo, mhi, pk, ps, pl, ph, mm), out) ((fun q : Int32 => ((some (.int (q)), ((stp, psz, gk, gl, gh, opn, cki, ckl, mp, rk, rv, ri, chk), (mo, mi, ml, mk, mlo, mhi, pk, ps, pl, ph, mm), out)) : Option Value × x_S)) (s_Md_wrongStore mo mk mlo mhi a1)) 0 0 := by
  refine x_start (κ := x_k D cA ad) (cc := b_Md_wrongStore) (F := x_F ad cA) (wr := (fun q : Int32 => ((some (.int (q)), ((stp, psz, gk, gl, gh, opn, cki, ckl, mp, rk, rv, ri, chk), (mo, mi, ml, mk, mlo, mhi, pk, ps, pl, ph, mm), out)) : Option Value × x_S))) (q := s_Md_wrongStore mo mk mlo mhi a1) (ret := (Option.some Jvm.ClassFile.FieldType.boolean)) (lv0 := [(0, (.ref (ad (18, 0)))), (1, (.int a1))]) ok (by decide) rfl (Nat.le_of_ble_eq_true rfl) rfl ?_
  intro p e s m below meth c C hr hlk
  unfold s_Md_wrongStore
  unfold k_ok_Md_wrongStore at hk
  refine x_aload_n 0 C d_Md_wrongStore_0 rfl rfl ?_
  refine x_get (i := (18, 0)) (v := (.ref (ad (20, 0)))) 1 C m_18 rfl rfl i_Md (by decide) (List.mem_cons_of_mem _ q_792) rfl d_Md_wrongStore_1 ?_
  refine x_iload_n 1 C d_Md_wrongStore_4 rfl rfl ?_
  have w1 := hk.1
  have hk := hk.2
  refine x_iald (i := (20, 0)) (g := mo 1) 0 C m_20 rfl rfl w1 d_Md_wrongStore_5 ?_
  refine x_istore_n (lv' := [(2, (.int (mo 1 a1.toNatClampNeg))), (0, (.ref (ad (18, 0)))), (1, (.int a1))]) C d_Md_wrongStore_6 rfl (by decide) rfl ?_
  refine x_aload_n 1 C d_Md_wrongStore_7 rfl rfl ?_
  refine x_get (i := (18, 0)) (v := (.ref (ad (19, 0)))) 0 C m_18 rfl rfl i_Md (by decide) (List.mem_cons_of_mem _ q_791) rfl d_Md_wrongStore_8 ?_
  refine x_iload_n 2 C d_Md_wrongStore_11 rfl rfl ?_
  refine x_iald (i := (19, 0)) (g := mo 0) 0 C m_19 rfl rfl w1 d_Md_wrongStore_12 ?_
  refine x_bipush (v := 15) C d_Md_wrongStore_13 (by decide) ?_
  refine x_icmp_ne 44 C d_Md_wrongStore_15 (by decide) (fun z2 => ?_) (fun z2 => ?_)
  · have hk := x_okt hk z2
    refine x_aload_n 1 C d_Md_wrongStore_18 rfl rfl ?_
    refine x_get (i := (18, 0)) (v := (.ref (ad (24, 0)))) 16 C m_18 rfl rfl i_Md (by decide) (List.mem_cons_of_mem _ q_807) rfl d_Md_wrongStore_19 ?_
    refine x_iload_n 0 C d_Md_wrongStore_22 rfl rfl ?_
    have w3 := hk.1
    have hk := hk.2
    refine x_iald (i := (24, 0)) (g := mk) 0 C m_24 rfl rfl w3 d_Md_wrongStore_23 ?_
    refine x_iconst (v := 3) C d_Md_wrongStore_24 (by decide) ?_
    refine x_icmp_eq 44 C d_Md_wrongStore_25 (by decide) (fun z4 => ?_) (fun z4 => ?_)
    · have hk := x_okt hk z4
      refine x_iconst (v := 0) C d_Md_wrongStore_44 (by decide) ?_
      exact x_zret C hr hlk rfl rfl d_Md_wrongStore_45
    · have hk := x_okf hk z4
      refine x_aload_n 1 C d_Md_wrongStore_28 rfl rfl ?_
      refine x_get (i := (18, 0)) (v := (.ref (ad (25, 0)))) 17 C m_18 rfl rfl i_Md (by decide) (List.mem_cons_of_mem _ q_808) rfl d_Md_wrongStore_29 ?_
      refine x_iload_n 0 C d_Md_wrongStore_32 rfl rfl ?_
      refine x_lald (i := (25, 0)) (g := mlo) 1 C m_25 rfl rfl w3 d_Md_wrongStore_33 ?_
      refine x_aload_n 1 C d_Md_wrongStore_34 rfl rfl ?_
      refine x_get (i := (18, 0)) (v := (.ref (ad (26, 0)))) 18 C m_18 rfl rfl i_Md (by decide) (List.mem_cons_of_mem _ q_809) rfl d_Md_wrongStore_35 ?_
      refine x_iload_n 0 C d_Md_wrongStore_38 rfl rfl ?_
      refine x_lald (i := (26, 0)) (g := mhi) 1 C m_26 rfl rfl w3 d_Md_wrongStore_39 ?_
      refine x_lcmp_ne 46 C d_Md_wrongStore_40 d_Md_wrongStore_41 (by decide) (fun z5 => ?_) (fun z5 => ?_)
      · have hk := x_okt hk z5
        refine x_iconst (v := 0) C d_Md_wrongStore_44 (by decide) ?_
        exact x_zret C hr hlk rfl rfl d_Md_wrongStore_45
      · have hk := x_okf hk z5
        refine x_aload_n 1 C d_Md_wrongStore_46 rfl rfl ?_
        refine x_get (i := (18, 0)) (v := (.ref (ad (25, 0)))) 17 C m_18 rfl rfl i_Md (by decide) (List.mem_cons_of_mem _ q_808) rfl d_Md_wrongStore_47 ?_
        refine x_iload_n 0 C d_Md_wrongStore_50 rfl rfl ?_
        refine x_lald (i := (25, 0)) (g := mlo) 1 C m_25 rfl rfl w3 d_Md_wrongStore_51 ?_
        refine x_aload_n 1 C d_Md_wrongStore_52 rfl rfl ?_
        refine x_get (i := (18, 0)) (v := (.ref (ad (22, 0)))) 3 C m_18 rfl rfl i_Md (by decide) (List.mem_cons_of_mem _ q_794) rfl d_Md_wrongStore_53 ?_
        refine x_iload_n 2 C d_Md_wrongStore_56 rfl rfl ?_
        refine x_iald (i := (22, 0)) (g := mo 3) 0 C m_22 rfl rfl w1 d_Md_wrongStore_57 ?_
        refine x_i2l C d_Md_wrongStore_58 ?_
        refine x_ladd C d_Md_wrongStore_59 ?_
        refine x_lstore_n (lv' := [(3, (.long ((mlo ((mo 1 a1.toNatClampNeg).toNatClampNeg)) + (Int32.toInt64 (mo 3 a1.toNatClampNeg))))), (2, (.int (mo 1 a1.toNatClampNeg))), (0, (.ref (ad (18, 0)))), (1, (.int a1))]) C d_Md_wrongStore_60 rfl (by decide) rfl ?_
        refine x_loc (lv' := [(0, (.ref (ad (18, 0)))), (1, (.int a1)), (2, (.int (mo 1 a1.toNatClampNeg))), (3, (.long ((mlo ((mo 1 a1.toNatClampNeg).toNatClampNeg)) + (Int32.toInt64 (mo 3 a1.toNatClampNeg)))))]) [2, 3, 1, 0] rfl ?_
        exact cl_Md_wrongStore_61 ok C hr hlk a1 250  (mo 1 a1.toNatClampNeg) ((mlo ((mo 1 a1.toNatClampNeg).toNatClampNeg)) + (Int32.toInt64 (mo 3 a1.toNatClampNeg))) hk
  · have hk := x_okf hk z2
    refine x_iconst (v := 0) C d_Md_wrongStore_44 (by decide) ?_
    exact x_zret C hr hlk rfl rfl d_Md_wrongStore_45
def bk_Md_reasonAt_52 (mo : Nat → Nat → Int32) (mk : Nat → Int32) (mlo : Nat → Int64) (mhi : Nat → Int64) (a1 : Int32)  : Int32 :=
  (x_let (s_Md_empties mo mk a1) fun r6 => (if r6 = 0 then (x_let (s_Md_wrongNumber mo a1) fun r9 => (if r9 = 0 then (x_let (s_Md_wrongKind mo mk mlo mhi a1) fun r12 => (if r12 = 0 then (x_let (s_Md_wrongStore mo mk mlo mhi a1) fun r15 => (if r15 = 0 then (x_let (s_Md_wrongPlace mo mk mlo mhi a1) fun r18 => (if r18 = 0 then (x_let (s_Md_wrongCells mo mk mlo mhi a1) fun r21 => (if r21 = 0 then (if (mo 0 a1.toNatClampNeg) = 16 then (if (mo 3 a1.toNatClampNeg) = 1 then (if (mlo (Int32.toNatClampNeg 1)) < 0 then (7) else (if (mhi (Int32.toNatClampNeg 1)) ≤ 7 then (0) else (7))) else (0)) else (0)) else (6))) else (5))) else (4))) else (4))) else (3))) else (2)))
def bk_ok_Md_reasonAt_52 (mo : Nat → Nat → Int32) (mk : Nat → Int32) (mlo : Nat → Int64) (mhi : Nat → Int64) (a1 : Int32)  : Prop :=
  (k_ok_Md_empties mo mk a1 ∧ (x_let (s_Md_empties mo mk a1) fun r6 => (if r6 = 0 then (k_ok_Md_wrongNumber mo a1 ∧ (x_let (s_Md_wrongNumber mo a1) fun r9 => (if r9 = 0 then (k_ok_Md_wrongKind mo mk mlo mhi a1 ∧ (x_let (s_Md_wrongKind mo mk mlo mhi a1) fun r12 => (if r12 = 0 then (k_ok_Md_wrongStore mo mk mlo mhi a1 ∧ (x_let (s_Md_wrongStore mo mk mlo mhi a1) fun r15 => (if r15 = 0 then (k_ok_Md_wrongPlace mo mk mlo mhi a1 ∧ (x_let (s_Md_wrongPlace mo mk mlo mhi a1) fun r18 => (if r18 = 0 then (k_ok_Md_wrongCells mo mk mlo mhi a1 ∧ (x_let (s_Md_wrongCells mo mk mlo mhi a1) fun r21 => (if r21 = 0 then (vp_in a1 24 ∧ True) else True))) else True))) else True))) else True))) else True))) else True)))
set_option maxHeartbeats 4000000 in
set_option maxRecDepth 100000 in
theorem cb_Md_reasonAt_52 {l : Launch} {D : va_G} {cA : Nat → ClassId} {ad : x_I → Nat} (ok : x_ok (x_k D cA ad)) {stp : Nat → Nat → Int32} {psz : Int32} {gk : Nat → Nat → Int32} {gl : Nat → Nat → Int64} {gh : Nat → Nat → Int64} {opn : Nat → Int32} {cki : Nat → Int32} {ckl : Nat → Int64} {mp : Nat → Nat → Int64} {rk : Nat → Int32} {rv : Nat → Int64} {ri : Nat → Int32} {chk : Int32} {mo : Nat → Nat → Int32} {mi : Nat → Int32} {ml : Nat → Int64} {mk : Nat → Int32} {mlo : Nat → Int64} {mhi : Nat → Int64} {pk : Nat → Int32} {ps : Nat → Int32} {pl : Nat → Int64} {ph : Nat → Int64} {mm : Nat → Int64} {out : Nat → Int64} {p : Program} {e : Env} {s : State} {m : MethodId} {args : Array Value} {below : List Frame} {meth : Method} {c : Code} (C : x_C p s m args c b_Md_reasonAt 2 R_Md (Cond.code y_Md_reasonAt b_Md_reasonAt 2 (Option.some Jvm.ClassFile.FieldType.int) :: x_Wd) (x_k D cA ad)) (hr : meth.sig.returnType = (Option.some Jvm.ClassFile.FieldType.int)) (hlk : meth.locks = false) (a1 : Int32)   (hk : bk_ok_Md_reasonAt_52 mo mk mlo mhi a1) : x_V p l e { frames := 2, cells := 0, slots := 0, locals := 53 } s m args below meth c (x_k D cA ad) 2 0 0 (x_E below (x_k D cA ad) args s 0 0 (x_F ad cA) (fun q : Int32 => ((some (.int (q)), ((stp, psz, gk, gl, gh, opn, cki, ckl, mp, rk, rv, ri, chk), (mo, mi, ml, mk, mlo, mhi, pk, ps, pl, ph, mm), out)) : Option Value × x_S)) (bk_Md_reasonAt_52 mo mk mlo mhi a1)) (x_F ad cA ((stp, psz, gk, gl, gh, opn, cki, ckl, mp, rk, rv, ri, chk), (mo, mi, ml, mk, mlo, mhi, pk, ps, pl, ph, mm), out)) 52 [(0, (.ref (ad (18, 0)))), (1, (.int a1))] [] := by
  unfold bk_Md_reasonAt_52
  unfold bk_ok_Md_reasonAt_52 at hk
  refine x_aload_n 0 C d_Md_reasonAt_52 rfl rfl ?_
  refine x_iload_n 1 C d_Md_reasonAt_53 rfl rfl ?_
  have w5 := hk.1
  have hk := hk.2
  refine x_cv (i := (18, 0)) (F := x_F ad cA) (As := [(.int a1)]) (rest := []) C k_Md_empties q_924 (c_Md_empties ok a1 w5) rfl rfl rfl (Nat.le_of_ble_eq_true rfl) (Nat.le_of_ble_eq_true rfl) m_18 rfl rfl rfl rfl rfl (Nat.le_of_ble_eq_true rfl) d_Md_reasonAt_54 ⟨Nat.zero_le _, Nat.zero_le _⟩ ?_
  generalize hq6 : s_Md_empties mo mk a1 = r6 at hk ⊢
  refine x_lets ?_
  have hk := x_lete hk
  refine x_if_eq 62 C d_Md_reasonAt_57 (by decide) (fun z7 => ?_) (fun z7 => ?_)
  · have hk := x_okt hk z7
    refine x_aload_n 0 C d_Md_reasonAt_62 rfl rfl ?_
    refine x_iload_n 1 C d_Md_reasonAt_63 rfl rfl ?_
    have w8 := hk.1
    have hk := hk.2
    refine x_cv (i := (18, 0)) (F := x_F ad cA) (As := [(.int a1)]) (rest := []) C k_Md_wrongNumber q_936 (c_Md_wrongNumber ok a1 w8) rfl rfl rfl (Nat.le_of_ble_eq_true rfl) (Nat.le_of_ble_eq_true rfl) m_18 rfl rfl rfl rfl rfl (Nat.le_of_ble_eq_true rfl) d_Md_reasonAt_64 ⟨Nat.zero_le _, Nat.zero_le _⟩ ?_
    generalize hq9 : s_Md_wrongNumber mo a1 = r9 at hk ⊢
    refine x_lets ?_
    have hk := x_lete hk
    refine x_if_eq 72 C d_Md_reasonAt_67 (by decide) (fun z10 => ?_) (fun z10 => ?_)
    · have hk := x_okt hk z10
      refine x_aload_n 0 C d_Md_reasonAt_72 rfl rfl ?_
      refine x_iload_n 1 C d_Md_reasonAt_73 rfl rfl ?_
      have w11 := hk.1
      have hk := hk.2
      refine x_cv (i := (18, 0)) (F := x_F ad cA) (As := [(.int a1)]) (rest := []) C k_Md_wrongKind q_942 (c_Md_wrongKind ok a1 w11) rfl rfl rfl (Nat.le_of_ble_eq_true rfl) (Nat.le_of_ble_eq_true rfl) m_18 rfl rfl rfl rfl rfl (Nat.le_of_ble_eq_true rfl) d_Md_reasonAt_74 ⟨Nat.zero_le _, Nat.zero_le _⟩ ?_
      generalize hq12 : s_Md_wrongKind mo mk mlo mhi a1 = r12 at hk ⊢
      refine x_lets ?_
      have hk := x_lete hk
      refine x_if_eq 82 C d_Md_reasonAt_77 (by decide) (fun z13 => ?_) (fun z13 => ?_)
      · have hk := x_okt hk z13
        refine x_aload_n 0 C d_Md_reasonAt_82 rfl rfl ?_
        refine x_iload_n 1 C d_Md_reasonAt_83 rfl rfl ?_
        have w14 := hk.1
        have hk := hk.2
        refine x_cv (i := (18, 0)) (F := x_F ad cA) (As := [(.int a1)]) (rest := []) C k_Md_wrongStore q_950 (c_Md_wrongStore ok a1 w14) rfl rfl rfl (Nat.le_of_ble_eq_true rfl) (Nat.le_of_ble_eq_true rfl) m_18 rfl rfl rfl rfl rfl (Nat.le_of_ble_eq_true rfl) d_Md_reasonAt_84 ⟨Nat.zero_le _, Nat.zero_le _⟩ ?_
        generalize hq15 : s_Md_wrongStore mo mk mlo mhi a1 = r15 at hk ⊢
        refine x_lets ?_
        have hk := x_lete hk
        refine x_if_eq 92 C d_Md_reasonAt_87 (by decide) (fun z16 => ?_) (fun z16 => ?_)
        · have hk := x_okt hk z16
          refine x_aload_n 0 C d_Md_reasonAt_92 rfl rfl ?_
          refine x_iload_n 1 C d_Md_reasonAt_93 rfl rfl ?_
          have w17 := hk.1
          have hk := hk.2
          refine x_cv (i := (18, 0)) (F := x_F ad cA) (As := [(.int a1)]) (rest := []) C k_Md_wrongPlace q_954 (c_Md_wrongPlace ok a1 w17) rfl rfl rfl (Nat.le_of_ble_eq_true rfl) (Nat.le_of_ble_eq_true rfl) m_18 rfl rfl rfl rfl rfl (Nat.le_of_ble_eq_true rfl) d_Md_reasonAt_94 ⟨Nat.zero_le _, Nat.zero_le _⟩ ?_
          generalize hq18 : s_Md_wrongPlace mo mk mlo mhi a1 = r18 at hk ⊢
          refine x_lets ?_
          have hk := x_lete hk
          refine x_if_eq 102 C d_Md_reasonAt_97 (by decide) (fun z19 => ?_) (fun z19 => ?_)
          · have hk := x_okt hk z19
            refine x_aload_n 0 C d_Md_reasonAt_102 rfl rfl ?_
            refine x_iload_n 1 C d_Md_reasonAt_103 rfl rfl ?_
            have w20 := hk.1
            have hk := hk.2
            refine x_cv (i := (18, 0)) (F := x_F ad cA) (As := [(.int a1)]) (rest := []) C k_Md_wrongCells q_963 (c_Md_wrongCells ok a1 w20) rfl rfl rfl (Nat.le_of_ble_eq_true rfl) (Nat.le_of_ble_eq_true rfl) m_18 rfl rfl rfl rfl rfl (Nat.le_of_ble_eq_true rfl) d_Md_reasonAt_104 ⟨Nat.zero_le _, Nat.zero_le _⟩ ?_
            generalize hq21 : s_Md_wrongCells mo mk mlo mhi a1 = r21 at hk ⊢
            refine x_lets ?_
            have hk := x_lete hk
            refine x_if_eq 113 C d_Md_reasonAt_107 (by decide) (fun z22 => ?_) (fun z22 => ?_)
            · have hk := x_okt hk z22
              refine x_aload_n 0 C d_Md_reasonAt_113 rfl rfl ?_
              refine x_get (i := (18, 0)) (v := (.ref (ad (19, 0)))) 0 C m_18 rfl rfl i_Md (by decide) (List.mem_cons_of_mem _ q_791) rfl d_Md_reasonAt_114 ?_
              refine x_iload_n 1 C d_Md_reasonAt_117 rfl rfl ?_
              have w23 := hk.1
              have hk := hk.2
              refine x_iald (i := (19, 0)) (g := mo 0) 0 C m_19 rfl rfl w23 d_Md_reasonAt_118 ?_
              refine x_bipush (v := 16) C d_Md_reasonAt_119 (by decide) ?_
              refine x_icmp_ne 163 C d_Md_reasonAt_121 (by decide) (fun z24 => ?_) (fun z24 => ?_)
              · refine x_aload_n 0 C d_Md_reasonAt_124 rfl rfl ?_
                refine x_get (i := (18, 0)) (v := (.ref (ad (22, 0)))) 3 C m_18 rfl rfl i_Md (by decide) (List.mem_cons_of_mem _ q_794) rfl d_Md_reasonAt_125 ?_
                refine x_iload_n 1 C d_Md_reasonAt_128 rfl rfl ?_
                refine x_iald (i := (22, 0)) (g := mo 3) 0 C m_22 rfl rfl w23 d_Md_reasonAt_129 ?_
                refine x_iconst (v := 1) C d_Md_reasonAt_130 (by decide) ?_
                refine x_icmp_ne 163 C d_Md_reasonAt_131 (by decide) (fun z25 => ?_) (fun z25 => ?_)
                · refine x_aload_n 0 C d_Md_reasonAt_134 rfl rfl ?_
                  refine x_get (i := (18, 0)) (v := (.ref (ad (25, 0)))) 17 C m_18 rfl rfl i_Md (by decide) (List.mem_cons_of_mem _ q_808) rfl d_Md_reasonAt_135 ?_
                  refine x_iconst (v := 1) C d_Md_reasonAt_138 (by decide) ?_
                  refine x_lald (i := (25, 0)) (g := mlo) 1 C m_25 rfl rfl (x_vin (by decide)) d_Md_reasonAt_139 ?_
                  refine x_lconst (v := 0) C d_Md_reasonAt_140 (by decide) ?_
                  refine x_lcmp_lt 158 C d_Md_reasonAt_141 d_Md_reasonAt_142 (by decide) (fun z26 => ?_) (fun z26 => ?_)
                  · refine x_bipush (v := 7) C d_Md_reasonAt_158 (by decide) ?_
                    refine x_goto 164 C d_Md_reasonAt_160 (by decide) ?_
                    exact x_iret C hr hlk rfl d_Md_reasonAt_164
                  · refine x_aload_n 0 C d_Md_reasonAt_145 rfl rfl ?_
                    refine x_get (i := (18, 0)) (v := (.ref (ad (26, 0)))) 18 C m_18 rfl rfl i_Md (by decide) (List.mem_cons_of_mem _ q_809) rfl d_Md_reasonAt_146 ?_
                    refine x_iconst (v := 1) C d_Md_reasonAt_149 (by decide) ?_
                    refine x_lald (i := (26, 0)) (g := mhi) 1 C m_26 rfl rfl (x_vin (by decide)) d_Md_reasonAt_150 ?_
                    refine x_ldc2 (v := 7) C (List.mem_cons_of_mem _ q_967) d_Md_reasonAt_151 ?_
                    refine x_lcmp_le 163 C d_Md_reasonAt_154 d_Md_reasonAt_155 (by decide) (fun z27 => ?_) (fun z27 => ?_)
                    · refine x_iconst (v := 0) C d_Md_reasonAt_163 (by decide) ?_
                      exact x_iret C hr hlk rfl d_Md_reasonAt_164
                    · refine x_bipush (v := 7) C d_Md_reasonAt_158 (by decide) ?_
                      refine x_goto 164 C d_Md_reasonAt_160 (by decide) ?_
                      exact x_iret C hr hlk rfl d_Md_reasonAt_164
                · refine x_iconst (v := 0) C d_Md_reasonAt_163 (by decide) ?_
                  exact x_iret C hr hlk rfl d_Md_reasonAt_164
              · refine x_iconst (v := 0) C d_Md_reasonAt_163 (by decide) ?_
                exact x_iret C hr hlk rfl d_Md_reasonAt_164
            · have hk := x_okf hk z22
              refine x_bipush (v := 6) C d_Md_reasonAt_110 (by decide) ?_
              exact x_iret C hr hlk rfl d_Md_reasonAt_112
          · have hk := x_okf hk z19
            refine x_iconst (v := 5) C d_Md_reasonAt_100 (by decide) ?_
            exact x_iret C hr hlk rfl d_Md_reasonAt_101
        · have hk := x_okf hk z16
          refine x_iconst (v := 4) C d_Md_reasonAt_90 (by decide) ?_
          exact x_iret C hr hlk rfl d_Md_reasonAt_91
      · have hk := x_okf hk z13
        refine x_iconst (v := 4) C d_Md_reasonAt_80 (by decide) ?_
        exact x_iret C hr hlk rfl d_Md_reasonAt_81
    · have hk := x_okf hk z10
      refine x_iconst (v := 3) C d_Md_reasonAt_70 (by decide) ?_
      exact x_iret C hr hlk rfl d_Md_reasonAt_71
  · have hk := x_okf hk z7
    refine x_iconst (v := 2) C d_Md_reasonAt_60 (by decide) ?_
    exact x_iret C hr hlk rfl d_Md_reasonAt_61
def s_Md_reasonAt (mo : Nat → Nat → Int32) (mi : Nat → Int32) (mk : Nat → Int32) (mlo : Nat → Int64) (mhi : Nat → Int64) (a1 : Int32) : Int32 :=
  (if (mi 0) ≤ a1 then (1) else (x_let (s_Md_in (Int32.toInt64 (mo 0 a1.toNatClampNeg)) 10 13) fun r3 => (if r3 = 0 then bk_Md_reasonAt_52 mo mk mlo mhi a1 else (if (mi 0) ≤ (mo 4 a1.toNatClampNeg) then (1) else (if a1 < (mo 4 a1.toNatClampNeg) then bk_Md_reasonAt_52 mo mk mlo mhi a1 else (1))))))
def k_ok_Md_reasonAt (mo : Nat → Nat → Int32) (mi : Nat → Int32) (mk : Nat → Int32) (mlo : Nat → Int64) (mhi : Nat → Int64) (a1 : Int32) : Prop :=
  (if (mi 0) ≤ a1 then True else (vp_in a1 24 ∧ (x_let (s_Md_in (Int32.toInt64 (mo 0 a1.toNatClampNeg)) 10 13) fun r3 => (if r3 = 0 then bk_ok_Md_reasonAt_52 mo mk mlo mhi a1 else (if (mi 0) ≤ (mo 4 a1.toNatClampNeg) then True else (if a1 < (mo 4 a1.toNatClampNeg) then bk_ok_Md_reasonAt_52 mo mk mlo mhi a1 else True))))))
set_option maxHeartbeats 4000000 in
set_option maxRecDepth 100000 in
theorem c_Md_reasonAt {l : Launch} {D : va_G} {cA : Nat → ClassId} {ad : x_I → Nat} (ok : x_ok (x_k D cA ad)) {stp : Nat → Nat → Int32} {psz : Int32} {gk : Nat → Nat → Int32} {gl : Nat → Nat → Int64} {gh : Nat → Nat → Int64} {opn : Nat → Int32} {cki : Nat → Int32} {ckl : Nat → Int64} {mp : Nat → Nat → Int64} {rk : Nat → Int32} {rv : Nat → Int64} {ri : Nat → Int32} {chk : Int32} {mo : Nat → Nat → Int32} {mi : Nat → Int32} {ml : Nat → Int64} {mk : Nat → Int32} {mlo : Nat → Int64} {mhi : Nat → Int64} {pk : Nat → Int32} {ps : Nat → Int32} {pl : Nat → Int64} {ph : Nat → Int64} {mm : Nat → Int64} {out : Nat → Int64} (a1 : Int32) (hk : k_ok_Md_reasonAt mo mi mk mlo mhi a1) : x_M l y_Md_reasonAt (Cond.code y_Md_reasonAt b_Md_reasonAt 2 (Option.some Jvm.ClassFile.FieldType.int) :: x_Wd) { frames := 2, cells := 0, slots := 0, locals := 53 } (x_k D cA ad) (x_F ad cA) [(.ref (ad (18, 0))), (.int a1)] ((stp, psz, gk, gl, gh, opn, cki, ckl, mp, rk, rv, ri, chk), (mo, mi, ml, mk, mlo, mhi, pk, ps, pl, ph, mm), out) ((fun q : Int32 => ((some (.int (q)), ((stp, psz, gk, gl, gh, opn, cki, ckl, mp, rk, rv, ri, chk), (mo, mi, ml, mk, mlo, mhi, pk, ps, pl, ph, mm), out)) : Option Value × x_S)) (s_Md_reasonAt mo mi mk mlo mhi a1)) 0 0 := by
  refine x_start (κ := x_k D cA ad) (cc := b_Md_reasonAt) (F := x_F ad cA) (wr := (fun q : Int32 => ((some (.int (q)), ((stp, psz, gk, gl, gh, opn, cki, ckl, mp, rk, rv, ri, chk), (mo, mi, ml, mk, mlo, mhi, pk, ps, pl, ph, mm), out)) : Option Value × x_S))) (q := s_Md_reasonAt mo mi mk mlo mhi a1) (ret := (Option.some Jvm.ClassFile.FieldType.int)) (lv0 := [(0, (.ref (ad (18, 0)))), (1, (.int a1))]) ok (by decide) rfl (Nat.le_of_ble_eq_true rfl) rfl ?_
  intro p e s m below meth c C hr hlk
  unfold s_Md_reasonAt
  unfold k_ok_Md_reasonAt at hk
  refine x_iload_n 1 C d_Md_reasonAt_0 rfl rfl ?_
  refine x_aload_n 0 C d_Md_reasonAt_1 rfl rfl ?_
  refine x_get (i := (18, 0)) (v := (.int (mi 0))) 5 C m_18 rfl rfl i_Md (by decide) (List.mem_cons_of_mem _ q_796) rfl d_Md_reasonAt_2 ?_
  refine x_icmp_ge 50 C d_Md_reasonAt_5 (by decide) (fun z1 => ?_) (fun z1 => ?_)
  · have hk := x_okt hk z1
    refine x_iconst (v := 1) C d_Md_reasonAt_50 (by decide) ?_
    exact x_iret C hr hlk rfl d_Md_reasonAt_51
  · have hk := x_okf hk z1
    refine x_aload_n 0 C d_Md_reasonAt_8 rfl rfl ?_
    refine x_get (i := (18, 0)) (v := (.ref (ad (19, 0)))) 0 C m_18 rfl rfl i_Md (by decide) (List.mem_cons_of_mem _ q_791) rfl d_Md_reasonAt_9 ?_
    refine x_iload_n 1 C d_Md_reasonAt_12 rfl rfl ?_
    have w2 := hk.1
    have hk := hk.2
    refine x_iald (i := (19, 0)) (g := mo 0) 0 C m_19 rfl rfl w2 d_Md_reasonAt_13 ?_
    refine x_i2l C d_Md_reasonAt_14 ?_
    refine x_ldc2 (v := 10) C (List.mem_cons_of_mem _ q_922) d_Md_reasonAt_15 ?_
    refine x_ldc2 (v := 13) C (List.mem_cons_of_mem _ q_923) d_Md_reasonAt_18 ?_
    refine x_cs (F := x_F ad cA) (As := [(.long (Int32.toInt64 (mo 0 a1.toNatClampNeg))), (.long 10), (.long 13)]) (rest := []) C k_Md_in q_883 (c_Md_in ok (Int32.toInt64 (mo 0 a1.toNatClampNeg)) 10 13) rfl rfl rfl (Nat.le_of_ble_eq_true rfl) (Nat.le_of_ble_eq_true rfl) rfl rfl (Nat.le_of_ble_eq_true rfl) d_Md_reasonAt_21 ⟨Nat.zero_le _, Nat.zero_le _⟩ ?_
    generalize hq3 : s_Md_in (Int32.toInt64 (mo 0 a1.toNatClampNeg)) 10 13 = r3 at hk ⊢
    refine x_lets ?_
    have hk := x_lete hk
    refine x_if_eq 52 C d_Md_reasonAt_24 (by decide) (fun z4 => ?_) (fun z4 => ?_)
    · have hk := x_okt hk z4
      refine x_loc (lv' := [(0, (.ref (ad (18, 0)))), (1, (.int a1))]) [0, 1] rfl ?_
      exact cb_Md_reasonAt_52 ok C hr hlk a1    hk
    · have hk := x_okf hk z4
      refine x_aload_n 0 C d_Md_reasonAt_27 rfl rfl ?_
      refine x_get (i := (18, 0)) (v := (.ref (ad (23, 0)))) 4 C m_18 rfl rfl i_Md (by decide) (List.mem_cons_of_mem _ q_795) rfl d_Md_reasonAt_28 ?_
      refine x_iload_n 1 C d_Md_reasonAt_31 rfl rfl ?_
      refine x_iald (i := (23, 0)) (g := mo 4) 0 C m_23 rfl rfl w2 d_Md_reasonAt_32 ?_
      refine x_aload_n 0 C d_Md_reasonAt_33 rfl rfl ?_
      refine x_get (i := (18, 0)) (v := (.int (mi 0))) 5 C m_18 rfl rfl i_Md (by decide) (List.mem_cons_of_mem _ q_796) rfl d_Md_reasonAt_34 ?_
      refine x_icmp_ge 50 C d_Md_reasonAt_37 (by decide) (fun z28 => ?_) (fun z28 => ?_)
      · have hk := x_okt hk z28
        refine x_iconst (v := 1) C d_Md_reasonAt_50 (by decide) ?_
        exact x_iret C hr hlk rfl d_Md_reasonAt_51
      · have hk := x_okf hk z28
        refine x_aload_n 0 C d_Md_reasonAt_40 rfl rfl ?_
        refine x_get (i := (18, 0)) (v := (.ref (ad (23, 0)))) 4 C m_18 rfl rfl i_Md (by decide) (List.mem_cons_of_mem _ q_795) rfl d_Md_reasonAt_41 ?_
        refine x_iload_n 1 C d_Md_reasonAt_44 rfl rfl ?_
        refine x_iald (i := (23, 0)) (g := mo 4) 0 C m_23 rfl rfl w2 d_Md_reasonAt_45 ?_
        refine x_iload_n 1 C d_Md_reasonAt_46 rfl rfl ?_
        refine x_icmp_gt 52 C d_Md_reasonAt_47 (by decide) (fun z29 => ?_) (fun z29 => ?_)
        · have hk := x_okt hk z29
          refine x_loc (lv' := [(0, (.ref (ad (18, 0)))), (1, (.int a1))]) [0, 1] rfl ?_
          exact cb_Md_reasonAt_52 ok C hr hlk a1    hk
        · have hk := x_okf hk z29
          refine x_iconst (v := 1) C d_Md_reasonAt_50 (by decide) ?_
          exact x_iret C hr hlk rfl d_Md_reasonAt_51
