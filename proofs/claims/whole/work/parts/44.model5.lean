def lp_Md_check_67 (n : Nat) (mo : Nat → Nat → Int32) (mi : Nat → Int32) (ml : Nat → Int64) (mk : Nat → Int32) (mlo : Nat → Int64) (mhi : Nat → Int64) (pk : Nat → Int32) (ps : Nat → Int32) (pl : Nat → Int64) (ph : Nat → Int64)  (x1 : Int32) : Int32 × (Nat → Int32) × (Nat → Int64) × (Nat → Int32) × (Nat → Int64) × (Nat → Int64) × (Nat → Int32) × (Nat → Int32) × (Nat → Int64) × (Nat → Int64) := match n with
  | 0 => (0, mi, ml, mk, mlo, mhi, pk, ps, pl, ph)
  | n + 1 => (if x1 = 0 then ((upd mi 7 1) 3, upd mi 7 1, ml, mk, mlo, mhi, pk, ps, pl, ph) else (if (mi 3) = 300 then (0, upd mi 6 2, ml, mk, mlo, mhi, pk, ps, pl, ph) else (x_let (s_Md_reasonAt mo (upd mi 3 ((mi 3) + 1)) mk mlo mhi ((upd mi 3 ((mi 3) + 1)) 10)) fun r9 => (if r9 ≤ 0 then (x_let (s_Md_goOn mo (upd mi 3 ((mi 3) + 1)) ml mk mlo mhi pk ps pl ph ((upd mi 3 ((mi 3) + 1)) 10)) fun (r12, mi12, ml12, mk12, mlo12, mhi12, pk12, ps12, pl12, ph12) => lp_Md_check_67 n mo mi12 ml12 mk12 mlo12 mhi12 pk12 ps12 pl12 ph12 r12) else (0, upd (upd (upd (upd mi 3 ((mi 3) + 1)) 1 r9) 2 ((upd (upd mi 3 ((mi 3) + 1)) 1 r9) 10)) 6 1, ml, mk, mlo, mhi, pk, ps, pl, ph)))))
def lp_ok_Md_check_67 (n : Nat) (mo : Nat → Nat → Int32) (mi : Nat → Int32) (ml : Nat → Int64) (mk : Nat → Int32) (mlo : Nat → Int64) (mhi : Nat → Int64) (pk : Nat → Int32) (ps : Nat → Int32) (pl : Nat → Int64) (ph : Nat → Int64)  (x1 : Int32) : Prop := match n with
  | 0 => False
  | n + 1 => (if x1 = 0 then True else (if (mi 3) = 300 then True else (k_ok_Md_reasonAt mo (upd mi 3 ((mi 3) + 1)) mk mlo mhi ((upd mi 3 ((mi 3) + 1)) 10) ∧ (x_let (s_Md_reasonAt mo (upd mi 3 ((mi 3) + 1)) mk mlo mhi ((upd mi 3 ((mi 3) + 1)) 10)) fun r9 => (if r9 ≤ 0 then (k_ok_Md_goOn mo (upd mi 3 ((mi 3) + 1)) ml mk mlo mhi pk ps pl ph ((upd mi 3 ((mi 3) + 1)) 10) ∧ (x_let (s_Md_goOn mo (upd mi 3 ((mi 3) + 1)) ml mk mlo mhi pk ps pl ph ((upd mi 3 ((mi 3) + 1)) 10)) fun (r12, mi12, ml12, mk12, mlo12, mhi12, pk12, ps12, pl12, ph12) => lp_ok_Md_check_67 n mo mi12 ml12 mk12 mlo12 mhi12 pk12 ps12 pl12 ph12 r12)) else True)))))
set_option maxHeartbeats 4000000 in
set_option maxRecDepth 100000 in
theorem cl_Md_check_67 {l : Launch} {D : va_G} {cA : Nat → ClassId} {ad : x_I → Nat} (ok : x_ok (x_k D cA ad)) {stp : Nat → Nat → Int32} {psz : Int32} {gk : Nat → Nat → Int32} {gl : Nat → Nat → Int64} {gh : Nat → Nat → Int64} {opn : Nat → Int32} {cki : Nat → Int32} {ckl : Nat → Int64} {mp : Nat → Nat → Int64} {rk : Nat → Int32} {rv : Nat → Int64} {ri : Nat → Int32} {chk : Int32} {mo : Nat → Nat → Int32} {mm : Nat → Int64} {out : Nat → Int64} {p : Program} {e : Env} {s : State} {m : MethodId} {args : Array Value} {below : List Frame} {meth : Method} {c : Code} (C : x_C p s m args c b_Md_check 3 R_Md (Cond.code y_Md_check b_Md_check 3 (Option.some Jvm.ClassFile.FieldType.int) :: x_Wd) (x_k D cA ad)) (hr : meth.sig.returnType = (Option.some Jvm.ClassFile.FieldType.int)) (hlk : meth.locks = false)  : ∀ (n : Nat) (mi : Nat → Int32) (ml : Nat → Int64) (mk : Nat → Int32) (mlo : Nat → Int64) (mhi : Nat → Int64) (pk : Nat → Int32) (ps : Nat → Int32) (pl : Nat → Int64) (ph : Nat → Int64) (x1 : Int32) (hk : lp_ok_Md_check_67 n mo mi ml mk mlo mhi pk ps pl ph x1), x_V p l e { frames := 5, cells := 0, slots := 0, locals := 121 } s m args below meth c (x_k D cA ad) 3 0 0 (x_E below (x_k D cA ad) args s 0 0 (x_F ad cA) (fun q : Int32 × (Nat → Int32) × (Nat → Int64) × (Nat → Int32) × (Nat → Int64) × (Nat → Int64) × (Nat → Int32) × (Nat → Int32) × (Nat → Int64) × (Nat → Int64) => ((some (.int (q.1)), ((stp, psz, gk, gl, gh, opn, cki, ckl, mp, rk, rv, ri, chk), (mo, q.2.1, q.2.2.1, q.2.2.2.1, q.2.2.2.2.1, q.2.2.2.2.2.1, q.2.2.2.2.2.2.1, q.2.2.2.2.2.2.2.1, q.2.2.2.2.2.2.2.2.1, q.2.2.2.2.2.2.2.2.2, mm), out)) : Option Value × x_S)) (lp_Md_check_67 n mo mi ml mk mlo mhi pk ps pl ph x1)) (x_F ad cA ((stp, psz, gk, gl, gh, opn, cki, ckl, mp, rk, rv, ri, chk), (mo, mi, ml, mk, mlo, mhi, pk, ps, pl, ph, mm), out)) 67 [(0, (.ref (ad (18, 0)))), (1, (.int x1))] [] := by
  intro n
  induction n with
  | zero => intro mi ml mk mlo mhi pk ps pl ph x1 hk; exact False.elim hk
  | succ n ih =>
    intro mi ml mk mlo mhi pk ps pl ph x1 hk
    rw [lp_Md_check_67]
    rw [lp_ok_Md_check_67] at hk
    refine x_iload_n 1 C d_Md_check_67 rfl rfl ?_
    refine x_if_eq 143 C d_Md_check_68 (by decide) (fun z6 => ?_) (fun z6 => ?_)
    · have hk := x_okt hk z6
      refine x_aload_n 0 C d_Md_check_143 rfl rfl ?_
      refine x_iconst (v := 1) C d_Md_check_144 (by decide) ?_
      refine x_put (i := (18, 0)) (f' := x_F ad cA ((stp, psz, gk, gl, gh, opn, cki, ckl, mp, rk, rv, ri, chk), (mo, upd mi 7 1, ml, mk, mlo, mhi, pk, ps, pl, ph, mm), out)) 12 C m_18 rfl rfl i_Md t_Md_ok n_Md (by decide) (List.mem_cons_of_mem _ q_803) rfl rfl rfl (Nat.le_of_ble_eq_true rfl) d_Md_check_145 e_mi7 ?_
      refine x_aload_n 0 C d_Md_check_148 rfl rfl ?_
      refine x_get (i := (18, 0)) (v := (.int ((upd mi 7 1) 3))) 8 C m_18 rfl rfl i_Md (by decide) (List.mem_cons_of_mem _ q_799) rfl d_Md_check_149 ?_
      exact x_iret C hr hlk rfl d_Md_check_152
    · have hk := x_okf hk z6
      refine x_aload_n 0 C d_Md_check_71 rfl rfl ?_
      refine x_get (i := (18, 0)) (v := (.int (mi 3))) 8 C m_18 rfl rfl i_Md (by decide) (List.mem_cons_of_mem _ q_799) rfl d_Md_check_72 ?_
      refine x_sipush (v := 300) C d_Md_check_75 (by decide) ?_
      refine x_icmp_ne 88 C d_Md_check_78 (by decide) (fun z7 => ?_) (fun z7 => ?_)
      · have hk := x_okt hk z7
        refine x_aload_n 0 C d_Md_check_81 rfl rfl ?_
        refine x_iconst (v := 2) C d_Md_check_82 (by decide) ?_
        refine x_put (i := (18, 0)) (f' := x_F ad cA ((stp, psz, gk, gl, gh, opn, cki, ckl, mp, rk, rv, ri, chk), (mo, upd mi 6 2, ml, mk, mlo, mhi, pk, ps, pl, ph, mm), out)) 11 C m_18 rfl rfl i_Md t_Md_ok n_Md (by decide) (List.mem_cons_of_mem _ q_802) rfl rfl rfl (Nat.le_of_ble_eq_true rfl) d_Md_check_83 e_mi6 ?_
        refine x_iconst (v := 0) C d_Md_check_86 (by decide) ?_
        exact x_iret C hr hlk rfl d_Md_check_87
      · have hk := x_okf hk z7
        refine x_aload_n 0 C d_Md_check_88 rfl rfl ?_
        refine x_dup C d_Md_check_89 rfl ?_
        refine x_get (i := (18, 0)) (v := (.int (mi 3))) 8 C m_18 rfl rfl i_Md (by decide) (List.mem_cons_of_mem _ q_799) rfl d_Md_check_90 ?_
        refine x_iconst (v := 1) C d_Md_check_93 (by decide) ?_
        refine x_iadd C d_Md_check_94 ?_
        refine x_put (i := (18, 0)) (f' := x_F ad cA ((stp, psz, gk, gl, gh, opn, cki, ckl, mp, rk, rv, ri, chk), (mo, upd mi 3 ((mi 3) + 1), ml, mk, mlo, mhi, pk, ps, pl, ph, mm), out)) 8 C m_18 rfl rfl i_Md t_Md_ok n_Md (by decide) (List.mem_cons_of_mem _ q_799) rfl rfl rfl (Nat.le_of_ble_eq_true rfl) d_Md_check_95 e_mi3 ?_
        refine x_aload_n 0 C d_Md_check_98 rfl rfl ?_
        refine x_aload_n 0 C d_Md_check_99 rfl rfl ?_
        refine x_get (i := (18, 0)) (v := (.int ((upd mi 3 ((mi 3) + 1)) 10))) 25 C m_18 rfl rfl i_Md (by decide) (List.mem_cons_of_mem _ q_816) rfl d_Md_check_100 ?_
        have w8 := hk.1
        have hk := hk.2
        refine x_cv (i := (18, 0)) (F := x_F ad cA) (As := [(.int ((upd mi 3 ((mi 3) + 1)) 10))]) (rest := []) C k_Md_reasonAt q_918 (c_Md_reasonAt ok ((upd mi 3 ((mi 3) + 1)) 10) w8) rfl rfl rfl (Nat.le_of_ble_eq_true rfl) (Nat.le_of_ble_eq_true rfl) m_18 rfl rfl rfl rfl rfl (Nat.le_of_ble_eq_true rfl) d_Md_check_103 ⟨Nat.zero_le _, Nat.zero_le _⟩ ?_
        generalize hq9 : s_Md_reasonAt mo (upd mi 3 ((mi 3) + 1)) mk mlo mhi ((upd mi 3 ((mi 3) + 1)) 10) = r9 at hk ⊢
        refine x_lets ?_
        have hk := x_lete hk
        refine x_istore_n (lv' := [(2, (.int r9)), (0, (.ref (ad (18, 0)))), (1, (.int x1))]) C d_Md_check_106 rfl (by decide) rfl ?_
        refine x_iload_n 0 C d_Md_check_107 rfl rfl ?_
        refine x_if_le 131 C d_Md_check_108 (by decide) (fun z10 => ?_) (fun z10 => ?_)
        · have hk := x_okt hk z10
          refine x_aload_n 1 C d_Md_check_131 rfl rfl ?_
          refine x_aload_n 1 C d_Md_check_132 rfl rfl ?_
          refine x_get (i := (18, 0)) (v := (.int ((upd mi 3 ((mi 3) + 1)) 10))) 25 C m_18 rfl rfl i_Md (by decide) (List.mem_cons_of_mem _ q_816) rfl d_Md_check_133 ?_
          have w11 := hk.1
          have hk := hk.2
          refine x_cv (i := (18, 0)) (F := x_F ad cA) (As := [(.int ((upd mi 3 ((mi 3) + 1)) 10))]) (rest := []) C k_Md_goOn q_968 (c_Md_goOn ok ((upd mi 3 ((mi 3) + 1)) 10) w11) rfl rfl rfl (Nat.le_of_ble_eq_true rfl) (Nat.le_of_ble_eq_true rfl) m_18 rfl rfl rfl rfl rfl (Nat.le_of_ble_eq_true rfl) d_Md_check_136 ⟨Nat.zero_le _, Nat.zero_le _⟩ ?_
          generalize hq12 : s_Md_goOn mo (upd mi 3 ((mi 3) + 1)) ml mk mlo mhi pk ps pl ph ((upd mi 3 ((mi 3) + 1)) 10) = q12 at hk ⊢
          obtain ⟨r12, mi12, ml12, mk12, mlo12, mhi12, pk12, ps12, pl12, ph12⟩ := q12
          refine x_lets ?_
          have hk := x_lete hk
          dsimp only at hk ⊢
          refine x_istore_n (lv' := [(1, (.int r12)), (2, (.int r9)), (0, (.ref (ad (18, 0))))]) C d_Md_check_139 rfl (by decide) rfl ?_
          refine x_goto 67 C d_Md_check_140 (by decide) ?_
          refine x_loc (lv' := [(0, (.ref (ad (18, 0)))), (1, (.int r12))]) [2, 0] rfl ?_
          exact ih mi12 ml12 mk12 mlo12 mhi12 pk12 ps12 pl12 ph12 r12 hk
        · have hk := x_okf hk z10
          refine x_aload_n 1 C d_Md_check_111 rfl rfl ?_
          refine x_iload_n 0 C d_Md_check_112 rfl rfl ?_
          refine x_put (i := (18, 0)) (f' := x_F ad cA ((stp, psz, gk, gl, gh, opn, cki, ckl, mp, rk, rv, ri, chk), (mo, upd (upd mi 3 ((mi 3) + 1)) 1 r9, ml, mk, mlo, mhi, pk, ps, pl, ph, mm), out)) 6 C m_18 rfl rfl i_Md t_Md_ok n_Md (by decide) (List.mem_cons_of_mem _ q_797) rfl rfl rfl (Nat.le_of_ble_eq_true rfl) d_Md_check_113 e_mi1 ?_
          refine x_aload_n 1 C d_Md_check_116 rfl rfl ?_
          refine x_aload_n 1 C d_Md_check_117 rfl rfl ?_
          refine x_get (i := (18, 0)) (v := (.int ((upd (upd mi 3 ((mi 3) + 1)) 1 r9) 10))) 25 C m_18 rfl rfl i_Md (by decide) (List.mem_cons_of_mem _ q_816) rfl d_Md_check_118 ?_
          refine x_put (i := (18, 0)) (f' := x_F ad cA ((stp, psz, gk, gl, gh, opn, cki, ckl, mp, rk, rv, ri, chk), (mo, upd (upd (upd mi 3 ((mi 3) + 1)) 1 r9) 2 ((upd (upd mi 3 ((mi 3) + 1)) 1 r9) 10), ml, mk, mlo, mhi, pk, ps, pl, ph, mm), out)) 7 C m_18 rfl rfl i_Md t_Md_ok n_Md (by decide) (List.mem_cons_of_mem _ q_798) rfl rfl rfl (Nat.le_of_ble_eq_true rfl) d_Md_check_121 e_mi2 ?_
          refine x_aload_n 1 C d_Md_check_124 rfl rfl ?_
          refine x_iconst (v := 1) C d_Md_check_125 (by decide) ?_
          refine x_put (i := (18, 0)) (f' := x_F ad cA ((stp, psz, gk, gl, gh, opn, cki, ckl, mp, rk, rv, ri, chk), (mo, upd (upd (upd (upd mi 3 ((mi 3) + 1)) 1 r9) 2 ((upd (upd mi 3 ((mi 3) + 1)) 1 r9) 10)) 6 1, ml, mk, mlo, mhi, pk, ps, pl, ph, mm), out)) 11 C m_18 rfl rfl i_Md t_Md_ok n_Md (by decide) (List.mem_cons_of_mem _ q_802) rfl rfl rfl (Nat.le_of_ble_eq_true rfl) d_Md_check_126 e_mi6 ?_
          refine x_iconst (v := 0) C d_Md_check_129 (by decide) ?_
          exact x_iret C hr hlk rfl d_Md_check_130
def lp_Md_check_32 (n : Nat) (mo : Nat → Nat → Int32) (mi : Nat → Int32) (ml : Nat → Int64) (mk : Nat → Int32) (mlo : Nat → Int64) (mhi : Nat → Int64) (pk : Nat → Int32) (ps : Nat → Int32) (pl : Nat → Int64) (ph : Nat → Int64)  (x1 : Int32) : Int32 × (Nat → Int32) × (Nat → Int64) × (Nat → Int32) × (Nat → Int64) × (Nat → Int64) × (Nat → Int32) × (Nat → Int32) × (Nat → Int64) × (Nat → Int64) := match n with
  | 0 => (0, mi, ml, mk, mlo, mhi, pk, ps, pl, ph)
  | n + 1 => (if 12 ≤ x1 then (x_let (s_Md_anything mk mlo mhi 1) fun (mk3, mlo3, mhi3) => (x_let (s_Md_know mk3 mlo3 mhi3 2 2 0 0) fun (mk5, mlo5, mhi5) => lp_Md_check_67 302 mo mi ml mk5 mlo5 mhi5 pk ps pl ph 1)) else (x_let (s_Md_know mk mlo mhi x1 0 0 0) fun (mk14, mlo14, mhi14) => lp_Md_check_32 n mo mi ml mk14 mlo14 mhi14 pk ps pl ph (x1 + 1)))
def lp_ok_Md_check_32 (n : Nat) (mo : Nat → Nat → Int32) (mi : Nat → Int32) (ml : Nat → Int64) (mk : Nat → Int32) (mlo : Nat → Int64) (mhi : Nat → Int64) (pk : Nat → Int32) (ps : Nat → Int32) (pl : Nat → Int64) (ph : Nat → Int64)  (x1 : Int32) : Prop := match n with
  | 0 => False
  | n + 1 => (if 12 ≤ x1 then (k_ok_Md_anything mk mlo mhi 1 ∧ (x_let (s_Md_anything mk mlo mhi 1) fun (mk3, mlo3, mhi3) => (k_ok_Md_know mk3 mlo3 mhi3 2 2 0 0 ∧ (x_let (s_Md_know mk3 mlo3 mhi3 2 2 0 0) fun (mk5, mlo5, mhi5) => lp_ok_Md_check_67 302 mo mi ml mk5 mlo5 mhi5 pk ps pl ph 1)))) else (k_ok_Md_know mk mlo mhi x1 0 0 0 ∧ (x_let (s_Md_know mk mlo mhi x1 0 0 0) fun (mk14, mlo14, mhi14) => lp_ok_Md_check_32 n mo mi ml mk14 mlo14 mhi14 pk ps pl ph (x1 + 1))))
set_option maxHeartbeats 4000000 in
set_option maxRecDepth 100000 in
theorem cl_Md_check_32 {l : Launch} {D : va_G} {cA : Nat → ClassId} {ad : x_I → Nat} (ok : x_ok (x_k D cA ad)) {stp : Nat → Nat → Int32} {psz : Int32} {gk : Nat → Nat → Int32} {gl : Nat → Nat → Int64} {gh : Nat → Nat → Int64} {opn : Nat → Int32} {cki : Nat → Int32} {ckl : Nat → Int64} {mp : Nat → Nat → Int64} {rk : Nat → Int32} {rv : Nat → Int64} {ri : Nat → Int32} {chk : Int32} {mo : Nat → Nat → Int32} {mm : Nat → Int64} {out : Nat → Int64} {p : Program} {e : Env} {s : State} {m : MethodId} {args : Array Value} {below : List Frame} {meth : Method} {c : Code} (C : x_C p s m args c b_Md_check 3 R_Md (Cond.code y_Md_check b_Md_check 3 (Option.some Jvm.ClassFile.FieldType.int) :: x_Wd) (x_k D cA ad)) (hr : meth.sig.returnType = (Option.some Jvm.ClassFile.FieldType.int)) (hlk : meth.locks = false)  : ∀ (n : Nat) (mi : Nat → Int32) (ml : Nat → Int64) (mk : Nat → Int32) (mlo : Nat → Int64) (mhi : Nat → Int64) (pk : Nat → Int32) (ps : Nat → Int32) (pl : Nat → Int64) (ph : Nat → Int64) (x1 : Int32) (hk : lp_ok_Md_check_32 n mo mi ml mk mlo mhi pk ps pl ph x1), x_V p l e { frames := 5, cells := 0, slots := 0, locals := 121 } s m args below meth c (x_k D cA ad) 3 0 0 (x_E below (x_k D cA ad) args s 0 0 (x_F ad cA) (fun q : Int32 × (Nat → Int32) × (Nat → Int64) × (Nat → Int32) × (Nat → Int64) × (Nat → Int64) × (Nat → Int32) × (Nat → Int32) × (Nat → Int64) × (Nat → Int64) => ((some (.int (q.1)), ((stp, psz, gk, gl, gh, opn, cki, ckl, mp, rk, rv, ri, chk), (mo, q.2.1, q.2.2.1, q.2.2.2.1, q.2.2.2.2.1, q.2.2.2.2.2.1, q.2.2.2.2.2.2.1, q.2.2.2.2.2.2.2.1, q.2.2.2.2.2.2.2.2.1, q.2.2.2.2.2.2.2.2.2, mm), out)) : Option Value × x_S)) (lp_Md_check_32 n mo mi ml mk mlo mhi pk ps pl ph x1)) (x_F ad cA ((stp, psz, gk, gl, gh, opn, cki, ckl, mp, rk, rv, ri, chk), (mo, mi, ml, mk, mlo, mhi, pk, ps, pl, ph, mm), out)) 32 [(0, (.ref (ad (18, 0)))), (1, (.int x1))] [] := by
  intro n
  induction n with
  | zero => intro mi ml mk mlo mhi pk ps pl ph x1 hk; exact False.elim hk
  | succ n ih =>
    intro mi ml mk mlo mhi pk ps pl ph x1 hk
    rw [lp_Md_check_32]
    rw [lp_ok_Md_check_32] at hk
    refine x_iload_n 1 C d_Md_check_32 rfl rfl ?_
    refine x_bipush (v := 12) C d_Md_check_33 (by decide) ?_
    refine x_icmp_ge 52 C d_Md_check_35 (by decide) (fun z1 => ?_) (fun z1 => ?_)
    · have hk := x_okt hk z1
      refine x_aload_n 0 C d_Md_check_52 rfl rfl ?_
      refine x_iconst (v := 1) C d_Md_check_53 (by decide) ?_
      have w2 := hk.1
      have hk := hk.2
      refine x_cv0 (i := (18, 0)) (F := x_F ad cA) (As := [(.int 1)]) (rest := []) C k_Md_anything q_912 (c_Md_anything ok 1 w2) rfl rfl rfl (Nat.le_of_ble_eq_true rfl) (Nat.le_of_ble_eq_true rfl) m_18 rfl rfl rfl rfl rfl (Nat.le_of_ble_eq_true rfl) d_Md_check_54 ⟨Nat.zero_le _, Nat.zero_le _⟩ ?_
      generalize hq3 : s_Md_anything mk mlo mhi 1 = q3 at hk ⊢
      obtain ⟨mk3, mlo3, mhi3⟩ := q3
      refine x_lets ?_
      have hk := x_lete hk
      dsimp only at hk ⊢
      refine x_aload_n 0 C d_Md_check_57 rfl rfl ?_
      refine x_iconst (v := 2) C d_Md_check_58 (by decide) ?_
      refine x_iconst (v := 2) C d_Md_check_59 (by decide) ?_
      refine x_lconst (v := 0) C d_Md_check_60 (by decide) ?_
      refine x_lconst (v := 0) C d_Md_check_61 (by decide) ?_
      have w4 := hk.1
      have hk := hk.2
      refine x_cv0 (i := (18, 0)) (F := x_F ad cA) (As := [(.int 2), (.int 2), (.long 0), (.long 0)]) (rest := []) C k_Md_know q_908 (c_Md_know ok 2 2 0 0 w4) rfl rfl rfl (Nat.le_of_ble_eq_true rfl) (Nat.le_of_ble_eq_true rfl) m_18 rfl rfl rfl rfl rfl (Nat.le_of_ble_eq_true rfl) d_Md_check_62 ⟨Nat.zero_le _, Nat.zero_le _⟩ ?_
      generalize hq5 : s_Md_know mk3 mlo3 mhi3 2 2 0 0 = q5 at hk ⊢
      obtain ⟨mk5, mlo5, mhi5⟩ := q5
      refine x_lets ?_
      have hk := x_lete hk
      dsimp only at hk ⊢
      refine x_iconst (v := 1) C d_Md_check_65 (by decide) ?_
      refine x_istore_n (lv' := [(1, (.int 1)), (0, (.ref (ad (18, 0))))]) C d_Md_check_66 rfl (by decide) rfl ?_
      refine x_loc (lv' := [(0, (.ref (ad (18, 0)))), (1, (.int 1))]) [1, 0] rfl ?_
      exact cl_Md_check_67 ok C hr hlk  302 mi ml mk5 mlo5 mhi5 pk ps pl ph 1 hk
    · have hk := x_okf hk z1
      refine x_aload_n 0 C d_Md_check_38 rfl rfl ?_
      refine x_iload_n 1 C d_Md_check_39 rfl rfl ?_
      refine x_iconst (v := 0) C d_Md_check_40 (by decide) ?_
      refine x_lconst (v := 0) C d_Md_check_41 (by decide) ?_
      refine x_lconst (v := 0) C d_Md_check_42 (by decide) ?_
      have w13 := hk.1
      have hk := hk.2
      refine x_cv0 (i := (18, 0)) (F := x_F ad cA) (As := [(.int x1), (.int 0), (.long 0), (.long 0)]) (rest := []) C k_Md_know q_908 (c_Md_know ok x1 0 0 0 w13) rfl rfl rfl (Nat.le_of_ble_eq_true rfl) (Nat.le_of_ble_eq_true rfl) m_18 rfl rfl rfl rfl rfl (Nat.le_of_ble_eq_true rfl) d_Md_check_43 ⟨Nat.zero_le _, Nat.zero_le _⟩ ?_
      generalize hq14 : s_Md_know mk mlo mhi x1 0 0 0 = q14 at hk ⊢
      obtain ⟨mk14, mlo14, mhi14⟩ := q14
      refine x_lets ?_
      have hk := x_lete hk
      dsimp only at hk ⊢
      refine x_iinc (lv' := [(1, (.int (x1 + 1))), (0, (.ref (ad (18, 0))))]) 1 C d_Md_check_46 rfl rfl (by decide) rfl ?_
      refine x_goto 32 C d_Md_check_49 (by decide) ?_
      refine x_loc (lv' := [(0, (.ref (ad (18, 0)))), (1, (.int (x1 + 1)))]) [1, 0] rfl ?_
      exact ih mi ml mk14 mlo14 mhi14 pk ps pl ph (x1 + 1) hk
def s_Md_check (mo : Nat → Nat → Int32) (mi : Nat → Int32) (ml : Nat → Int64) (mk : Nat → Int32) (mlo : Nat → Int64) (mhi : Nat → Int64) (pk : Nat → Int32) (ps : Nat → Int32) (pl : Nat → Int64) (ph : Nat → Int64)  : Int32 × (Nat → Int32) × (Nat → Int64) × (Nat → Int32) × (Nat → Int64) × (Nat → Int64) × (Nat → Int32) × (Nat → Int32) × (Nat → Int64) × (Nat → Int64) :=
  lp_Md_check_32 13 mo (upd (upd (upd (upd (upd (upd mi 6 0) 7 0) 8 0) 3 0) 9 0) 10 0) ml mk mlo mhi pk ps pl ph 0
def k_ok_Md_check (mo : Nat → Nat → Int32) (mi : Nat → Int32) (ml : Nat → Int64) (mk : Nat → Int32) (mlo : Nat → Int64) (mhi : Nat → Int64) (pk : Nat → Int32) (ps : Nat → Int32) (pl : Nat → Int64) (ph : Nat → Int64)  : Prop :=
  lp_ok_Md_check_32 13 mo (upd (upd (upd (upd (upd (upd mi 6 0) 7 0) 8 0) 3 0) 9 0) 10 0) ml mk mlo mhi pk ps pl ph 0
set_option maxHeartbeats 4000000 in
set_option maxRecDepth 100000 in
theorem c_Md_check {l : Launch} {D : va_G} {cA : Nat → ClassId} {ad : x_I → Nat} (ok : x_ok (x_k D cA ad)) {stp : Nat → Nat → Int32} {psz : Int32} {gk : Nat → Nat → Int32} {gl : Nat → Nat → Int64} {gh : Nat → Nat → Int64} {opn : Nat → Int32} {cki : Nat → Int32} {ckl : Nat → Int64} {mp : Nat → Nat → Int64} {rk : Nat → Int32} {rv : Nat → Int64} {ri : Nat → Int32} {chk : Int32} {mo : Nat → Nat → Int32} {mi : Nat → Int32} {ml : Nat → Int64} {mk : Nat → Int32} {mlo : Nat → Int64} {mhi : Nat → Int64} {pk : Nat → Int32} {ps : Nat → Int32} {pl : Nat → Int64} {ph : Nat → Int64} {mm : Nat → Int64} {out : Nat → Int64}  (hk : k_ok_Md_check mo mi ml mk mlo mhi pk ps pl ph) : x_M l y_Md_check (Cond.code y_Md_check b_Md_check 3 (Option.some Jvm.ClassFile.FieldType.int) :: x_Wd) { frames := 5, cells := 0, slots := 0, locals := 121 } (x_k D cA ad) (x_F ad cA) [(.ref (ad (18, 0)))] ((stp, psz, gk, gl, gh, opn, cki, ckl, mp, rk, rv, ri, chk), (mo, mi, ml, mk, mlo, mhi, pk, ps, pl, ph, mm), out) ((fun q : Int32 × (Nat → Int32) × (Nat → Int64) × (Nat → Int32) × (Nat → Int64) × (Nat → Int64) × (Nat → Int32) × (Nat → Int32) × (Nat → Int64) × (Nat → Int64) => ((some (.int (q.1)), ((stp, psz, gk, gl, gh, opn, cki, ckl, mp, rk, rv, ri, chk), (mo, q.2.1, q.2.2.1, q.2.2.2.1, q.2.2.2.2.1, q.2.2.2.2.2.1, q.2.2.2.2.2.2.1, q.2.2.2.2.2.2.2.1, q.2.2.2.2.2.2.2.2.1, q.2.2.2.2.2.2.2.2.2, mm), out)) : Option Value × x_S)) (s_Md_check mo mi ml mk mlo mhi pk ps pl ph)) 0 0 := by
  refine x_start (κ := x_k D cA ad) (cc := b_Md_check) (F := x_F ad cA) (wr := (fun q : Int32 × (Nat → Int32) × (Nat → Int64) × (Nat → Int32) × (Nat → Int64) × (Nat → Int64) × (Nat → Int32) × (Nat → Int32) × (Nat → Int64) × (Nat → Int64) => ((some (.int (q.1)), ((stp, psz, gk, gl, gh, opn, cki, ckl, mp, rk, rv, ri, chk), (mo, q.2.1, q.2.2.1, q.2.2.2.1, q.2.2.2.2.1, q.2.2.2.2.2.1, q.2.2.2.2.2.2.1, q.2.2.2.2.2.2.2.1, q.2.2.2.2.2.2.2.2.1, q.2.2.2.2.2.2.2.2.2, mm), out)) : Option Value × x_S))) (q := s_Md_check mo mi ml mk mlo mhi pk ps pl ph) (ret := (Option.some Jvm.ClassFile.FieldType.int)) (lv0 := [(0, (.ref (ad (18, 0))))]) ok (by decide) rfl (Nat.le_of_ble_eq_true rfl) rfl ?_
  intro p e s m below meth c C hr hlk
  unfold s_Md_check
  unfold k_ok_Md_check at hk
  refine x_aload_n 0 C d_Md_check_0 rfl rfl ?_
  refine x_iconst (v := 0) C d_Md_check_1 (by decide) ?_
  refine x_put (i := (18, 0)) (f' := x_F ad cA ((stp, psz, gk, gl, gh, opn, cki, ckl, mp, rk, rv, ri, chk), (mo, upd mi 6 0, ml, mk, mlo, mhi, pk, ps, pl, ph, mm), out)) 11 C m_18 rfl rfl i_Md t_Md_ok n_Md (by decide) (List.mem_cons_of_mem _ q_802) rfl rfl rfl (Nat.le_of_ble_eq_true rfl) d_Md_check_2 e_mi6 ?_
  refine x_aload_n 0 C d_Md_check_5 rfl rfl ?_
  refine x_iconst (v := 0) C d_Md_check_6 (by decide) ?_
  refine x_put (i := (18, 0)) (f' := x_F ad cA ((stp, psz, gk, gl, gh, opn, cki, ckl, mp, rk, rv, ri, chk), (mo, upd (upd mi 6 0) 7 0, ml, mk, mlo, mhi, pk, ps, pl, ph, mm), out)) 12 C m_18 rfl rfl i_Md t_Md_ok n_Md (by decide) (List.mem_cons_of_mem _ q_803) rfl rfl rfl (Nat.le_of_ble_eq_true rfl) d_Md_check_7 e_mi7 ?_
  refine x_aload_n 0 C d_Md_check_10 rfl rfl ?_
  refine x_iconst (v := 0) C d_Md_check_11 (by decide) ?_
  refine x_put (i := (18, 0)) (f' := x_F ad cA ((stp, psz, gk, gl, gh, opn, cki, ckl, mp, rk, rv, ri, chk), (mo, upd (upd (upd mi 6 0) 7 0) 8 0, ml, mk, mlo, mhi, pk, ps, pl, ph, mm), out)) 13 C m_18 rfl rfl i_Md t_Md_ok n_Md (by decide) (List.mem_cons_of_mem _ q_804) rfl rfl rfl (Nat.le_of_ble_eq_true rfl) d_Md_check_12 e_mi8 ?_
  refine x_aload_n 0 C d_Md_check_15 rfl rfl ?_
  refine x_iconst (v := 0) C d_Md_check_16 (by decide) ?_
  refine x_put (i := (18, 0)) (f' := x_F ad cA ((stp, psz, gk, gl, gh, opn, cki, ckl, mp, rk, rv, ri, chk), (mo, upd (upd (upd (upd mi 6 0) 7 0) 8 0) 3 0, ml, mk, mlo, mhi, pk, ps, pl, ph, mm), out)) 8 C m_18 rfl rfl i_Md t_Md_ok n_Md (by decide) (List.mem_cons_of_mem _ q_799) rfl rfl rfl (Nat.le_of_ble_eq_true rfl) d_Md_check_17 e_mi3 ?_
  refine x_aload_n 0 C d_Md_check_20 rfl rfl ?_
  refine x_iconst (v := 0) C d_Md_check_21 (by decide) ?_
  refine x_put (i := (18, 0)) (f' := x_F ad cA ((stp, psz, gk, gl, gh, opn, cki, ckl, mp, rk, rv, ri, chk), (mo, upd (upd (upd (upd (upd mi 6 0) 7 0) 8 0) 3 0) 9 0, ml, mk, mlo, mhi, pk, ps, pl, ph, mm), out)) 24 C m_18 rfl rfl i_Md t_Md_ok n_Md (by decide) (List.mem_cons_of_mem _ q_815) rfl rfl rfl (Nat.le_of_ble_eq_true rfl) d_Md_check_22 e_mi9 ?_
  refine x_aload_n 0 C d_Md_check_25 rfl rfl ?_
  refine x_iconst (v := 0) C d_Md_check_26 (by decide) ?_
  refine x_put (i := (18, 0)) (f' := x_F ad cA ((stp, psz, gk, gl, gh, opn, cki, ckl, mp, rk, rv, ri, chk), (mo, upd (upd (upd (upd (upd (upd mi 6 0) 7 0) 8 0) 3 0) 9 0) 10 0, ml, mk, mlo, mhi, pk, ps, pl, ph, mm), out)) 25 C m_18 rfl rfl i_Md t_Md_ok n_Md (by decide) (List.mem_cons_of_mem _ q_816) rfl rfl rfl (Nat.le_of_ble_eq_true rfl) d_Md_check_27 e_mi10 ?_
  refine x_iconst (v := 0) C d_Md_check_30 (by decide) ?_
  refine x_istore_n (lv' := [(1, (.int 0)), (0, (.ref (ad (18, 0))))]) C d_Md_check_31 rfl (by decide) rfl ?_
  refine x_loc (lv' := [(0, (.ref (ad (18, 0)))), (1, (.int 0))]) [1, 0] rfl ?_
  exact cl_Md_check_32 ok C hr hlk  13 (upd (upd (upd (upd (upd (upd mi 6 0) 7 0) 8 0) 3 0) 9 0) 10 0) ml mk mlo mhi pk ps pl ph 0 hk
def s_Md_above (mo : Nat → Nat → Int32) (mk : Nat → Int32) (mlo : Nat → Int64) (a1 : Int32) : Int32 :=
  (if (mo 0 a1.toNatClampNeg) = 10 then (if (mk ((mo 1 a1.toNatClampNeg).toNatClampNeg)) = 1 then (if (mlo ((mo 1 a1.toNatClampNeg).toNatClampNeg)) = (Int32.toInt64 (mo 3 a1.toNatClampNeg)) then (1) else (0)) else (0)) else (if (mo 0 a1.toNatClampNeg) = 11 then (if (mlo ((mo 1 a1.toNatClampNeg).toNatClampNeg)) ≤ (Int32.toInt64 (mo 3 a1.toNatClampNeg)) then (0) else (1)) else (if (mlo ((mo 2 a1.toNatClampNeg).toNatClampNeg)) ≤ (mlo ((mo 1 a1.toNatClampNeg).toNatClampNeg)) then (0) else (1))))
def k_ok_Md_above (mo : Nat → Nat → Int32) (mk : Nat → Int32) (mlo : Nat → Int64) (a1 : Int32) : Prop :=
  (vp_in a1 24 ∧ (vp_in (mo 1 a1.toNatClampNeg) 12 ∧ (if (mo 0 a1.toNatClampNeg) = 10 then True else (if (mo 0 a1.toNatClampNeg) = 11 then True else (vp_in (mo 2 a1.toNatClampNeg) 12 ∧ True)))))
set_option maxHeartbeats 4000000 in
set_option maxRecDepth 100000 in
theorem c_Md_above {l : Launch} {D : va_G} {cA : Nat → ClassId} {ad : x_I → Nat} (ok : x_ok (x_k D cA ad)) {stp : Nat → Nat → Int32} {psz : Int32} {gk : Nat → Nat → Int32} {gl : Nat → Nat → Int64} {gh : Nat → Nat → Int64} {opn : Nat → Int32} {cki : Nat → Int32} {ckl : Nat → Int64} {mp : Nat → Nat → Int64} {rk : Nat → Int32} {rv : Nat → Int64} {ri : Nat → Int32} {chk : Int32} {mo : Nat → Nat → Int32} {mi : Nat → Int32} {ml : Nat → Int64} {mk : Nat → Int32} {mlo : Nat → Int64} {mhi : Nat → Int64} {pk : Nat → Int32} {ps : Nat → Int32} {pl : Nat → Int64} {ph : Nat → Int64} {mm : Nat → Int64} {out : Nat → Int64} (a1 : Int32) (hk : k_ok_Md_above mo mk mlo a1) : x_M l y_Md_above (Cond.code y_Md_above b_Md_above 5 (Option.some Jvm.ClassFile.FieldType.boolean) :: x_Wd) { frames := 0, cells := 0, slots := 0, locals := 0 } (x_k D cA ad) (x_F ad cA) [(.ref (ad (18, 0))), (.int a1)] ((stp, psz, gk, gl, gh, opn, cki, ckl, mp, rk, rv, ri, chk), (mo, mi, ml, mk, mlo, mhi, pk, ps, pl, ph, mm), out) ((fun q : Int32 => ((some (.int (q)), ((stp, psz, gk, gl, gh, opn, cki, ckl, mp, rk, rv, ri, chk), (mo, mi, ml, mk, mlo, mhi, pk, ps, pl, ph, mm), out)) : Option Value × x_S)) (s_Md_above mo mk mlo a1)) 0 0 := by
  refine x_start (κ := x_k D cA ad) (cc := b_Md_above) (F := x_F ad cA) (wr := (fun q : Int32 => ((some (.int (q)), ((stp, psz, gk, gl, gh, opn, cki, ckl, mp, rk, rv, ri, chk), (mo, mi, ml, mk, mlo, mhi, pk, ps, pl, ph, mm), out)) : Option Value × x_S))) (q := s_Md_above mo mk mlo a1) (ret := (Option.some Jvm.ClassFile.FieldType.boolean)) (lv0 := [(0, (.ref (ad (18, 0)))), (1, (.int a1))]) ok (by decide) rfl (Nat.le_of_ble_eq_true rfl) rfl ?_
  intro p e s m below meth c C hr hlk
  unfold s_Md_above
  unfold k_ok_Md_above at hk
  refine x_aload_n 0 C d_Md_above_0 rfl rfl ?_
  refine x_get (i := (18, 0)) (v := (.ref (ad (19, 0)))) 0 C m_18 rfl rfl i_Md (by decide) (List.mem_cons_of_mem _ q_791) rfl d_Md_above_1 ?_
  refine x_iload_n 1 C d_Md_above_4 rfl rfl ?_
  have w1 := hk.1
  have hk := hk.2
  refine x_iald (i := (19, 0)) (g := mo 0) 0 C m_19 rfl rfl w1 d_Md_above_5 ?_
  refine x_istore_n (lv' := [(2, (.int (mo 0 a1.toNatClampNeg))), (0, (.ref (ad (18, 0)))), (1, (.int a1))]) C d_Md_above_6 rfl (by decide) rfl ?_
  refine x_aload_n 1 C d_Md_above_7 rfl rfl ?_
  refine x_get (i := (18, 0)) (v := (.ref (ad (25, 0)))) 17 C m_18 rfl rfl i_Md (by decide) (List.mem_cons_of_mem _ q_808) rfl d_Md_above_8 ?_
  refine x_aload_n 1 C d_Md_above_11 rfl rfl ?_
  refine x_get (i := (18, 0)) (v := (.ref (ad (20, 0)))) 1 C m_18 rfl rfl i_Md (by decide) (List.mem_cons_of_mem _ q_792) rfl d_Md_above_12 ?_
  refine x_iload_n 2 C d_Md_above_15 rfl rfl ?_
  refine x_iald (i := (20, 0)) (g := mo 1) 0 C m_20 rfl rfl w1 d_Md_above_16 ?_
  have w2 := hk.1
  have hk := hk.2
  refine x_lald (i := (25, 0)) (g := mlo) 1 C m_25 rfl rfl w2 d_Md_above_17 ?_
  refine x_lstore_n (lv' := [(3, (.long (mlo ((mo 1 a1.toNatClampNeg).toNatClampNeg)))), (2, (.int (mo 0 a1.toNatClampNeg))), (0, (.ref (ad (18, 0)))), (1, (.int a1))]) C d_Md_above_18 rfl (by decide) rfl ?_
  refine x_iload_n 1 C d_Md_above_19 rfl rfl ?_
  refine x_bipush (v := 10) C d_Md_above_20 (by decide) ?_
  refine x_icmp_ne 58 C d_Md_above_22 (by decide) (fun z3 => ?_) (fun z3 => ?_)
  · have hk := x_okt hk z3
    refine x_aload_n 2 C d_Md_above_25 rfl rfl ?_
    refine x_get (i := (18, 0)) (v := (.ref (ad (24, 0)))) 16 C m_18 rfl rfl i_Md (by decide) (List.mem_cons_of_mem _ q_807) rfl d_Md_above_26 ?_
    refine x_aload_n 2 C d_Md_above_29 rfl rfl ?_
    refine x_get (i := (18, 0)) (v := (.ref (ad (20, 0)))) 1 C m_18 rfl rfl i_Md (by decide) (List.mem_cons_of_mem _ q_792) rfl d_Md_above_30 ?_
    refine x_iload_n 3 C d_Md_above_33 rfl rfl ?_
    refine x_iald (i := (20, 0)) (g := mo 1) 0 C m_20 rfl rfl w1 d_Md_above_34 ?_
    refine x_iald (i := (24, 0)) (g := mk) 0 C m_24 rfl rfl w2 d_Md_above_35 ?_
    refine x_iconst (v := 1) C d_Md_above_36 (by decide) ?_
    refine x_icmp_ne 56 C d_Md_above_37 (by decide) (fun z4 => ?_) (fun z4 => ?_)
    · refine x_lload_n 0 C d_Md_above_40 rfl rfl ?_
      refine x_aload_n 2 C d_Md_above_41 rfl rfl ?_
      refine x_get (i := (18, 0)) (v := (.ref (ad (22, 0)))) 3 C m_18 rfl rfl i_Md (by decide) (List.mem_cons_of_mem _ q_794) rfl d_Md_above_42 ?_
      refine x_iload_n 3 C d_Md_above_45 rfl rfl ?_
      refine x_iald (i := (22, 0)) (g := mo 3) 0 C m_22 rfl rfl w1 d_Md_above_46 ?_
      refine x_i2l C d_Md_above_47 ?_
      refine x_lcmp_ne 56 C d_Md_above_48 d_Md_above_49 (by decide) (fun z5 => ?_) (fun z5 => ?_)
      · refine x_iconst (v := 1) C d_Md_above_52 (by decide) ?_
        refine x_goto 57 C d_Md_above_53 (by decide) ?_
        exact x_zret C hr hlk rfl rfl d_Md_above_57
      · refine x_iconst (v := 0) C d_Md_above_56 (by decide) ?_
        exact x_zret C hr hlk rfl rfl d_Md_above_57
    · refine x_iconst (v := 0) C d_Md_above_56 (by decide) ?_
      exact x_zret C hr hlk rfl rfl d_Md_above_57
  · have hk := x_okf hk z3
    refine x_iload_n 1 C d_Md_above_58 rfl rfl ?_
    refine x_bipush (v := 11) C d_Md_above_59 (by decide) ?_
    refine x_icmp_ne 84 C d_Md_above_61 (by decide) (fun z6 => ?_) (fun z6 => ?_)
    · have hk := x_okt hk z6
      refine x_lload_n 0 C d_Md_above_64 rfl rfl ?_
      refine x_aload_n 2 C d_Md_above_65 rfl rfl ?_
      refine x_get (i := (18, 0)) (v := (.ref (ad (22, 0)))) 3 C m_18 rfl rfl i_Md (by decide) (List.mem_cons_of_mem _ q_794) rfl d_Md_above_66 ?_
      refine x_iload_n 3 C d_Md_above_69 rfl rfl ?_
      refine x_iald (i := (22, 0)) (g := mo 3) 0 C m_22 rfl rfl w1 d_Md_above_70 ?_
      refine x_i2l C d_Md_above_71 ?_
      refine x_lcmp_le 80 C d_Md_above_72 d_Md_above_73 (by decide) (fun z7 => ?_) (fun z7 => ?_)
      · refine x_iconst (v := 0) C d_Md_above_80 (by decide) ?_
        refine x_goto 105 C d_Md_above_81 (by decide) ?_
        exact x_zret C hr hlk rfl rfl d_Md_above_105
      · refine x_iconst (v := 1) C d_Md_above_76 (by decide) ?_
        refine x_goto 105 C d_Md_above_77 (by decide) ?_
        exact x_zret C hr hlk rfl rfl d_Md_above_105
    · have hk := x_okf hk z6
      refine x_lload_n 0 C d_Md_above_84 rfl rfl ?_
      refine x_aload_n 2 C d_Md_above_85 rfl rfl ?_
      refine x_get (i := (18, 0)) (v := (.ref (ad (25, 0)))) 17 C m_18 rfl rfl i_Md (by decide) (List.mem_cons_of_mem _ q_808) rfl d_Md_above_86 ?_
      refine x_aload_n 2 C d_Md_above_89 rfl rfl ?_
      refine x_get (i := (18, 0)) (v := (.ref (ad (21, 0)))) 2 C m_18 rfl rfl i_Md (by decide) (List.mem_cons_of_mem _ q_793) rfl d_Md_above_90 ?_
      refine x_iload_n 3 C d_Md_above_93 rfl rfl ?_
      refine x_iald (i := (21, 0)) (g := mo 2) 0 C m_21 rfl rfl w1 d_Md_above_94 ?_
      have w8 := hk.1
      have hk := hk.2
      refine x_lald (i := (25, 0)) (g := mlo) 1 C m_25 rfl rfl w8 d_Md_above_95 ?_
      refine x_lcmp_ge 104 C d_Md_above_96 d_Md_above_97 (by decide) (fun z9 => ?_) (fun z9 => ?_)
      · refine x_iconst (v := 0) C d_Md_above_104 (by decide) ?_
        exact x_zret C hr hlk rfl rfl d_Md_above_105
      · refine x_iconst (v := 1) C d_Md_above_100 (by decide) ?_
        refine x_goto 105 C d_Md_above_101 (by decide) ?_
        exact x_zret C hr hlk rfl rfl d_Md_above_105
def bk_Md_compute_169 (mlo : Nat → Int64) (a1 : Int32) (x2 : Int32) (x3 : Int32) : (Nat → Int64) :=
  (if x2 = 9 then (vp_updL mlo x3.toNatClampNeg (-(mlo x3.toNatClampNeg))) else (mlo))
def bk_ok_Md_compute_169 (mlo : Nat → Int64) (a1 : Int32) (x2 : Int32) (x3 : Int32) : Prop :=
  (if x2 = 9 then (vp_in x3 12 ∧ True) else True)
set_option maxHeartbeats 4000000 in
set_option maxRecDepth 100000 in
theorem cb_Md_compute_169 {l : Launch} {D : va_G} {cA : Nat → ClassId} {ad : x_I → Nat} (ok : x_ok (x_k D cA ad)) {stp : Nat → Nat → Int32} {psz : Int32} {gk : Nat → Nat → Int32} {gl : Nat → Nat → Int64} {gh : Nat → Nat → Int64} {opn : Nat → Int32} {cki : Nat → Int32} {ckl : Nat → Int64} {mp : Nat → Nat → Int64} {rk : Nat → Int32} {rv : Nat → Int64} {ri : Nat → Int32} {chk : Int32} {mo : Nat → Nat → Int32} {mi : Nat → Int32} {ml : Nat → Int64} {mk : Nat → Int32} {mhi : Nat → Int64} {pk : Nat → Int32} {ps : Nat → Int32} {pl : Nat → Int64} {ph : Nat → Int64} {mm : Nat → Int64} {out : Nat → Int64} {p : Program} {e : Env} {s : State} {m : MethodId} {args : Array Value} {below : List Frame} {meth : Method} {c : Code} (C : x_C p s m args c b_Md_compute 6 R_Md (Cond.code y_Md_compute b_Md_compute 6 (Option.none : Option Jvm.ClassFile.FieldType) :: x_Wd) (x_k D cA ad)) (hr : meth.sig.returnType = (Option.none : Option Jvm.ClassFile.FieldType)) (hlk : meth.locks = false) (a1 : Int32) (mlo : Nat → Int64) (x2 : Int32) (x3 : Int32) (hk : bk_ok_Md_compute_169 mlo a1 x2 x3) : x_V p l e { frames := 0, cells := 0, slots := 0, locals := 0 } s m args below meth c (x_k D cA ad) 6 0 0 (x_E below (x_k D cA ad) args s 0 0 (x_F ad cA) (fun q : (Nat → Int64) => ((none, ((stp, psz, gk, gl, gh, opn, cki, ckl, mp, rk, rv, ri, chk), (mo, mi, ml, mk, q, mhi, pk, ps, pl, ph, mm), out)) : Option Value × x_S)) (bk_Md_compute_169 mlo a1 x2 x3)) (x_F ad cA ((stp, psz, gk, gl, gh, opn, cki, ckl, mp, rk, rv, ri, chk), (mo, mi, ml, mk, mlo, mhi, pk, ps, pl, ph, mm), out)) 169 [(0, (.ref (ad (18, 0)))), (2, (.int x2)), (3, (.int x3))] [] := by
  unfold bk_Md_compute_169
  unfold bk_ok_Md_compute_169 at hk
  refine x_iload_n 1 C d_Md_compute_169 rfl rfl ?_
  refine x_bipush (v := 9) C d_Md_compute_170 (by decide) ?_
  refine x_icmp_ne 188 C d_Md_compute_172 (by decide) (fun z21 => ?_) (fun z21 => ?_)
  · have hk := x_okt hk z21
    refine x_aload_n 0 C d_Md_compute_175 rfl rfl ?_
    refine x_get (i := (18, 0)) (v := (.ref (ad (25, 0)))) 17 C m_18 rfl rfl i_Md (by decide) (List.mem_cons_of_mem _ q_808) rfl d_Md_compute_176 ?_
    refine x_iload_n 2 C d_Md_compute_179 rfl rfl ?_
    refine x_aload_n 0 C d_Md_compute_180 rfl rfl ?_
    refine x_get (i := (18, 0)) (v := (.ref (ad (25, 0)))) 17 C m_18 rfl rfl i_Md (by decide) (List.mem_cons_of_mem _ q_808) rfl d_Md_compute_181 ?_
    refine x_iload_n 2 C d_Md_compute_184 rfl rfl ?_
    have w22 := hk.1
    have hk := hk.2
    refine x_lald (i := (25, 0)) (g := mlo) 1 C m_25 rfl rfl w22 d_Md_compute_185 ?_
    refine x_lneg C d_Md_compute_186 ?_
    refine x_last (i := (25, 0)) (g := mlo) (f' := x_F ad cA ((stp, psz, gk, gl, gh, opn, cki, ckl, mp, rk, rv, ri, chk), (mo, mi, ml, mk, vp_updL mlo x3.toNatClampNeg (-(mlo x3.toNatClampNeg)), mhi, pk, ps, pl, ph, mm), out)) 1 C m_25 rfl rfl w22 d_Md_compute_187 e_mlo ?_
    exact x_vret C hr hlk rfl d_Md_compute_188
  · have hk := x_okf hk z21
    exact x_vret C hr hlk rfl d_Md_compute_188
def bk_Md_compute_148 (mlo : Nat → Int64) (a1 : Int32) (x2 : Int32) (x3 : Int32) (x4 : Int64) : (Nat → Int64) :=
  (if x2 = 8 then bk_Md_compute_169 (vp_updL mlo x3.toNatClampNeg ((mlo x3.toNatClampNeg) / x4)) a1 x2 x3 else bk_Md_compute_169 mlo a1 x2 x3)
def bk_ok_Md_compute_148 (mlo : Nat → Int64) (a1 : Int32) (x2 : Int32) (x3 : Int32) (x4 : Int64) : Prop :=
  (if x2 = 8 then (vp_in x3 12 ∧ (¬ x4 = 0 ∧ bk_ok_Md_compute_169 (vp_updL mlo x3.toNatClampNeg ((mlo x3.toNatClampNeg) / x4)) a1 x2 x3)) else bk_ok_Md_compute_169 mlo a1 x2 x3)
set_option maxHeartbeats 4000000 in
set_option maxRecDepth 100000 in
theorem cb_Md_compute_148 {l : Launch} {D : va_G} {cA : Nat → ClassId} {ad : x_I → Nat} (ok : x_ok (x_k D cA ad)) {stp : Nat → Nat → Int32} {psz : Int32} {gk : Nat → Nat → Int32} {gl : Nat → Nat → Int64} {gh : Nat → Nat → Int64} {opn : Nat → Int32} {cki : Nat → Int32} {ckl : Nat → Int64} {mp : Nat → Nat → Int64} {rk : Nat → Int32} {rv : Nat → Int64} {ri : Nat → Int32} {chk : Int32} {mo : Nat → Nat → Int32} {mi : Nat → Int32} {ml : Nat → Int64} {mk : Nat → Int32} {mhi : Nat → Int64} {pk : Nat → Int32} {ps : Nat → Int32} {pl : Nat → Int64} {ph : Nat → Int64} {mm : Nat → Int64} {out : Nat → Int64} {p : Program} {e : Env} {s : State} {m : MethodId} {args : Array Value} {below : List Frame} {meth : Method} {c : Code} (C : x_C p s m args c b_Md_compute 6 R_Md (Cond.code y_Md_compute b_Md_compute 6 (Option.none : Option Jvm.ClassFile.FieldType) :: x_Wd) (x_k D cA ad)) (hr : meth.sig.returnType = (Option.none : Option Jvm.ClassFile.FieldType)) (hlk : meth.locks = false) (a1 : Int32) (mlo : Nat → Int64) (x2 : Int32) (x3 : Int32) (x4 : Int64) (hk : bk_ok_Md_compute_148 mlo a1 x2 x3 x4) : x_V p l e { frames := 0, cells := 0, slots := 0, locals := 0 } s m args below meth c (x_k D cA ad) 6 0 0 (x_E below (x_k D cA ad) args s 0 0 (x_F ad cA) (fun q : (Nat → Int64) => ((none, ((stp, psz, gk, gl, gh, opn, cki, ckl, mp, rk, rv, ri, chk), (mo, mi, ml, mk, q, mhi, pk, ps, pl, ph, mm), out)) : Option Value × x_S)) (bk_Md_compute_148 mlo a1 x2 x3 x4)) (x_F ad cA ((stp, psz, gk, gl, gh, opn, cki, ckl, mp, rk, rv, ri, chk), (mo, mi, ml, mk, mlo, mhi, pk, ps, pl, ph, mm), out)) 148 [(0, (.ref (ad (18, 0)))), (2, (.int x2)), (3, (.int x3)), (4, (.long x4))] [] := by
  unfold bk_Md_compute_148
  unfold bk_ok_Md_compute_148 at hk
  refine x_iload_n 1 C d_Md_compute_148 rfl rfl ?_
  refine x_bipush (v := 8) C d_Md_compute_149 (by decide) ?_
  refine x_icmp_ne 169 C d_Md_compute_151 (by decide) (fun z18 => ?_) (fun z18 => ?_)
  · have hk := x_okt hk z18
    refine x_aload_n 0 C d_Md_compute_154 rfl rfl ?_
    refine x_get (i := (18, 0)) (v := (.ref (ad (25, 0)))) 17 C m_18 rfl rfl i_Md (by decide) (List.mem_cons_of_mem _ q_808) rfl d_Md_compute_155 ?_
    refine x_iload_n 2 C d_Md_compute_158 rfl rfl ?_
    refine x_aload_n 0 C d_Md_compute_159 rfl rfl ?_
    refine x_get (i := (18, 0)) (v := (.ref (ad (25, 0)))) 17 C m_18 rfl rfl i_Md (by decide) (List.mem_cons_of_mem _ q_808) rfl d_Md_compute_160 ?_
    refine x_iload_n 2 C d_Md_compute_163 rfl rfl ?_
    have w19 := hk.1
    have hk := hk.2
    refine x_lald (i := (25, 0)) (g := mlo) 1 C m_25 rfl rfl w19 d_Md_compute_164 ?_
    refine x_lload 3 C d_Md_compute_165 rfl ?_
    have w20 := hk.1
    have hk := hk.2
    refine x_ldiv C w20 d_Md_compute_167 ?_
    refine x_last (i := (25, 0)) (g := mlo) (f' := x_F ad cA ((stp, psz, gk, gl, gh, opn, cki, ckl, mp, rk, rv, ri, chk), (mo, mi, ml, mk, vp_updL mlo x3.toNatClampNeg ((mlo x3.toNatClampNeg) / x4), mhi, pk, ps, pl, ph, mm), out)) 1 C m_25 rfl rfl w19 d_Md_compute_168 e_mlo ?_
    refine x_loc (lv' := [(0, (.ref (ad (18, 0)))), (2, (.int x2)), (3, (.int x3))]) [0, 1, 2] rfl ?_
    exact cb_Md_compute_169 ok C hr hlk a1  (vp_updL mlo x3.toNatClampNeg ((mlo x3.toNatClampNeg) / x4)) x2 x3 hk
  · have hk := x_okf hk z18
    refine x_loc (lv' := [(0, (.ref (ad (18, 0)))), (2, (.int x2)), (3, (.int x3))]) [0, 1, 2] rfl ?_
    exact cb_Md_compute_169 ok C hr hlk a1  mlo x2 x3 hk
def bk_Md_compute_126 (mlo : Nat → Int64) (a1 : Int32) (x2 : Int32) (x3 : Int32) (x4 : Int64) : (Nat → Int64) :=
  (if x2 = 7 then bk_Md_compute_148 (vp_updL mlo x3.toNatClampNeg ((mlo x3.toNatClampNeg) >>> (Int32.toInt64 (Int64.toInt32 x4) &&& 63))) a1 x2 x3 x4 else bk_Md_compute_148 mlo a1 x2 x3 x4)
def bk_ok_Md_compute_126 (mlo : Nat → Int64) (a1 : Int32) (x2 : Int32) (x3 : Int32) (x4 : Int64) : Prop :=
  (if x2 = 7 then (vp_in x3 12 ∧ bk_ok_Md_compute_148 (vp_updL mlo x3.toNatClampNeg ((mlo x3.toNatClampNeg) >>> (Int32.toInt64 (Int64.toInt32 x4) &&& 63))) a1 x2 x3 x4) else bk_ok_Md_compute_148 mlo a1 x2 x3 x4)
set_option maxHeartbeats 4000000 in
set_option maxRecDepth 100000 in
theorem cb_Md_compute_126 {l : Launch} {D : va_G} {cA : Nat → ClassId} {ad : x_I → Nat} (ok : x_ok (x_k D cA ad)) {stp : Nat → Nat → Int32} {psz : Int32} {gk : Nat → Nat → Int32} {gl : Nat → Nat → Int64} {gh : Nat → Nat → Int64} {opn : Nat → Int32} {cki : Nat → Int32} {ckl : Nat → Int64} {mp : Nat → Nat → Int64} {rk : Nat → Int32} {rv : Nat → Int64} {ri : Nat → Int32} {chk : Int32} {mo : Nat → Nat → Int32} {mi : Nat → Int32} {ml : Nat → Int64} {mk : Nat → Int32} {mhi : Nat → Int64} {pk : Nat → Int32} {ps : Nat → Int32} {pl : Nat → Int64} {ph : Nat → Int64} {mm : Nat → Int64} {out : Nat → Int64} {p : Program} {e : Env} {s : State} {m : MethodId} {args : Array Value} {below : List Frame} {meth : Method} {c : Code} (C : x_C p s m args c b_Md_compute 6 R_Md (Cond.code y_Md_compute b_Md_compute 6 (Option.none : Option Jvm.ClassFile.FieldType) :: x_Wd) (x_k D cA ad)) (hr : meth.sig.returnType = (Option.none : Option Jvm.ClassFile.FieldType)) (hlk : meth.locks = false) (a1 : Int32) (mlo : Nat → Int64) (x2 : Int32) (x3 : Int32) (x4 : Int64) (hk : bk_ok_Md_compute_126 mlo a1 x2 x3 x4) : x_V p l e { frames := 0, cells := 0, slots := 0, locals := 0 } s m args below meth c (x_k D cA ad) 6 0 0 (x_E below (x_k D cA ad) args s 0 0 (x_F ad cA) (fun q : (Nat → Int64) => ((none, ((stp, psz, gk, gl, gh, opn, cki, ckl, mp, rk, rv, ri, chk), (mo, mi, ml, mk, q, mhi, pk, ps, pl, ph, mm), out)) : Option Value × x_S)) (bk_Md_compute_126 mlo a1 x2 x3 x4)) (x_F ad cA ((stp, psz, gk, gl, gh, opn, cki, ckl, mp, rk, rv, ri, chk), (mo, mi, ml, mk, mlo, mhi, pk, ps, pl, ph, mm), out)) 126 [(0, (.ref (ad (18, 0)))), (2, (.int x2)), (3, (.int x3)), (4, (.long x4))] [] := by
  unfold bk_Md_compute_126
  unfold bk_ok_Md_compute_126 at hk
  refine x_iload_n 1 C d_Md_compute_126 rfl rfl ?_
  refine x_bipush (v := 7) C d_Md_compute_127 (by decide) ?_
  refine x_icmp_ne 148 C d_Md_compute_129 (by decide) (fun z16 => ?_) (fun z16 => ?_)
  · have hk := x_okt hk z16
    refine x_aload_n 0 C d_Md_compute_132 rfl rfl ?_
    refine x_get (i := (18, 0)) (v := (.ref (ad (25, 0)))) 17 C m_18 rfl rfl i_Md (by decide) (List.mem_cons_of_mem _ q_808) rfl d_Md_compute_133 ?_
    refine x_iload_n 2 C d_Md_compute_136 rfl rfl ?_
    refine x_aload_n 0 C d_Md_compute_137 rfl rfl ?_
    refine x_get (i := (18, 0)) (v := (.ref (ad (25, 0)))) 17 C m_18 rfl rfl i_Md (by decide) (List.mem_cons_of_mem _ q_808) rfl d_Md_compute_138 ?_
    refine x_iload_n 2 C d_Md_compute_141 rfl rfl ?_
    have w17 := hk.1
    have hk := hk.2
    refine x_lald (i := (25, 0)) (g := mlo) 1 C m_25 rfl rfl w17 d_Md_compute_142 ?_
    refine x_lload 3 C d_Md_compute_143 rfl ?_
    refine x_l2i C d_Md_compute_145 ?_
    refine x_lshr C d_Md_compute_146 ?_
    refine x_last (i := (25, 0)) (g := mlo) (f' := x_F ad cA ((stp, psz, gk, gl, gh, opn, cki, ckl, mp, rk, rv, ri, chk), (mo, mi, ml, mk, vp_updL mlo x3.toNatClampNeg ((mlo x3.toNatClampNeg) >>> (Int32.toInt64 (Int64.toInt32 x4) &&& 63)), mhi, pk, ps, pl, ph, mm), out)) 1 C m_25 rfl rfl w17 d_Md_compute_147 e_mlo ?_
    refine x_loc (lv' := [(0, (.ref (ad (18, 0)))), (2, (.int x2)), (3, (.int x3)), (4, (.long x4))]) [0, 1, 2, 3] rfl ?_
    exact cb_Md_compute_148 ok C hr hlk a1  (vp_updL mlo x3.toNatClampNeg ((mlo x3.toNatClampNeg) >>> (Int32.toInt64 (Int64.toInt32 x4) &&& 63))) x2 x3 x4 hk
  · have hk := x_okf hk z16
    refine x_loc (lv' := [(0, (.ref (ad (18, 0)))), (2, (.int x2)), (3, (.int x3)), (4, (.long x4))]) [0, 1, 2, 3] rfl ?_
    exact cb_Md_compute_148 ok C hr hlk a1  mlo x2 x3 x4 hk
def bk_Md_compute_105 (mlo : Nat → Int64) (a1 : Int32) (x2 : Int32) (x3 : Int32) (x4 : Int64) : (Nat → Int64) :=
  (if x2 = 6 then bk_Md_compute_126 (vp_updL mlo x3.toNatClampNeg ((mlo x3.toNatClampNeg) &&& x4)) a1 x2 x3 x4 else bk_Md_compute_126 mlo a1 x2 x3 x4)
def bk_ok_Md_compute_105 (mlo : Nat → Int64) (a1 : Int32) (x2 : Int32) (x3 : Int32) (x4 : Int64) : Prop :=
  (if x2 = 6 then (vp_in x3 12 ∧ bk_ok_Md_compute_126 (vp_updL mlo x3.toNatClampNeg ((mlo x3.toNatClampNeg) &&& x4)) a1 x2 x3 x4) else bk_ok_Md_compute_126 mlo a1 x2 x3 x4)
set_option maxHeartbeats 4000000 in
set_option maxRecDepth 100000 in
theorem cb_Md_compute_105 {l : Launch} {D : va_G} {cA : Nat → ClassId} {ad : x_I → Nat} (ok : x_ok (x_k D cA ad)) {stp : Nat → Nat → Int32} {psz : Int32} {gk : Nat → Nat → Int32} {gl : Nat → Nat → Int64} {gh : Nat → Nat → Int64} {opn : Nat → Int32} {cki : Nat → Int32} {ckl : Nat → Int64} {mp : Nat → Nat → Int64} {rk : Nat → Int32} {rv : Nat → Int64} {ri : Nat → Int32} {chk : Int32} {mo : Nat → Nat → Int32} {mi : Nat → Int32} {ml : Nat → Int64} {mk : Nat → Int32} {mhi : Nat → Int64} {pk : Nat → Int32} {ps : Nat → Int32} {pl : Nat → Int64} {ph : Nat → Int64} {mm : Nat → Int64} {out : Nat → Int64} {p : Program} {e : Env} {s : State} {m : MethodId} {args : Array Value} {below : List Frame} {meth : Method} {c : Code} (C : x_C p s m args c b_Md_compute 6 R_Md (Cond.code y_Md_compute b_Md_compute 6 (Option.none : Option Jvm.ClassFile.FieldType) :: x_Wd) (x_k D cA ad)) (hr : meth.sig.returnType = (Option.none : Option Jvm.ClassFile.FieldType)) (hlk : meth.locks = false) (a1 : Int32) (mlo : Nat → Int64) (x2 : Int32) (x3 : Int32) (x4 : Int64) (hk : bk_ok_Md_compute_105 mlo a1 x2 x3 x4) : x_V p l e { frames := 0, cells := 0, slots := 0, locals := 0 } s m args below meth c (x_k D cA ad) 6 0 0 (x_E below (x_k D cA ad) args s 0 0 (x_F ad cA) (fun q : (Nat → Int64) => ((none, ((stp, psz, gk, gl, gh, opn, cki, ckl, mp, rk, rv, ri, chk), (mo, mi, ml, mk, q, mhi, pk, ps, pl, ph, mm), out)) : Option Value × x_S)) (bk_Md_compute_105 mlo a1 x2 x3 x4)) (x_F ad cA ((stp, psz, gk, gl, gh, opn, cki, ckl, mp, rk, rv, ri, chk), (mo, mi, ml, mk, mlo, mhi, pk, ps, pl, ph, mm), out)) 105 [(0, (.ref (ad (18, 0)))), (2, (.int x2)), (3, (.int x3)), (4, (.long x4))] [] := by
  unfold bk_Md_compute_105
  unfold bk_ok_Md_compute_105 at hk
  refine x_iload_n 1 C d_Md_compute_105 rfl rfl ?_
  refine x_bipush (v := 6) C d_Md_compute_106 (by decide) ?_
  refine x_icmp_ne 126 C d_Md_compute_108 (by decide) (fun z14 => ?_) (fun z14 => ?_)
  · have hk := x_okt hk z14
    refine x_aload_n 0 C d_Md_compute_111 rfl rfl ?_
    refine x_get (i := (18, 0)) (v := (.ref (ad (25, 0)))) 17 C m_18 rfl rfl i_Md (by decide) (List.mem_cons_of_mem _ q_808) rfl d_Md_compute_112 ?_
    refine x_iload_n 2 C d_Md_compute_115 rfl rfl ?_
    refine x_aload_n 0 C d_Md_compute_116 rfl rfl ?_
    refine x_get (i := (18, 0)) (v := (.ref (ad (25, 0)))) 17 C m_18 rfl rfl i_Md (by decide) (List.mem_cons_of_mem _ q_808) rfl d_Md_compute_117 ?_
    refine x_iload_n 2 C d_Md_compute_120 rfl rfl ?_
    have w15 := hk.1
    have hk := hk.2
    refine x_lald (i := (25, 0)) (g := mlo) 1 C m_25 rfl rfl w15 d_Md_compute_121 ?_
    refine x_lload 3 C d_Md_compute_122 rfl ?_
    refine x_land C d_Md_compute_124 ?_
    refine x_last (i := (25, 0)) (g := mlo) (f' := x_F ad cA ((stp, psz, gk, gl, gh, opn, cki, ckl, mp, rk, rv, ri, chk), (mo, mi, ml, mk, vp_updL mlo x3.toNatClampNeg ((mlo x3.toNatClampNeg) &&& x4), mhi, pk, ps, pl, ph, mm), out)) 1 C m_25 rfl rfl w15 d_Md_compute_125 e_mlo ?_
    refine x_loc (lv' := [(0, (.ref (ad (18, 0)))), (2, (.int x2)), (3, (.int x3)), (4, (.long x4))]) [0, 1, 2, 3] rfl ?_
    exact cb_Md_compute_126 ok C hr hlk a1  (vp_updL mlo x3.toNatClampNeg ((mlo x3.toNatClampNeg) &&& x4)) x2 x3 x4 hk
  · have hk := x_okf hk z14
    refine x_loc (lv' := [(0, (.ref (ad (18, 0)))), (2, (.int x2)), (3, (.int x3)), (4, (.long x4))]) [0, 1, 2, 3] rfl ?_
    exact cb_Md_compute_126 ok C hr hlk a1  mlo x2 x3 x4 hk
def bk_Md_compute_89 (mlo : Nat → Int64) (a1 : Int32) (x2 : Int32) (x3 : Int32) (x4 : Int64) : (Nat → Int64) :=
  (if x2 = 5 then bk_Md_compute_105 (vp_updL mlo x3.toNatClampNeg ((mlo x3.toNatClampNeg) * x4)) a1 x2 x3 x4 else bk_Md_compute_105 mlo a1 x2 x3 x4)
def bk_ok_Md_compute_89 (mlo : Nat → Int64) (a1 : Int32) (x2 : Int32) (x3 : Int32) (x4 : Int64) : Prop :=
  (if x2 = 5 then (vp_in x3 12 ∧ bk_ok_Md_compute_105 (vp_updL mlo x3.toNatClampNeg ((mlo x3.toNatClampNeg) * x4)) a1 x2 x3 x4) else bk_ok_Md_compute_105 mlo a1 x2 x3 x4)
set_option maxHeartbeats 4000000 in
set_option maxRecDepth 100000 in
theorem cb_Md_compute_89 {l : Launch} {D : va_G} {cA : Nat → ClassId} {ad : x_I → Nat} (ok : x_ok (x_k D cA ad)) {stp : Nat → Nat → Int32} {psz : Int32} {gk : Nat → Nat → Int32} {gl : Nat → Nat → Int64} {gh : Nat → Nat → Int64} {opn : Nat → Int32} {cki : Nat → Int32} {ckl : Nat → Int64} {mp : Nat → Nat → Int64} {rk : Nat → Int32} {rv : Nat → Int64} {ri : Nat → Int32} {chk : Int32} {mo : Nat → Nat → Int32} {mi : Nat → Int32} {ml : Nat → Int64} {mk : Nat → Int32} {mhi : Nat → Int64} {pk : Nat → Int32} {ps : Nat → Int32} {pl : Nat → Int64} {ph : Nat → Int64} {mm : Nat → Int64} {out : Nat → Int64} {p : Program} {e : Env} {s : State} {m : MethodId} {args : Array Value} {below : List Frame} {meth : Method} {c : Code} (C : x_C p s m args c b_Md_compute 6 R_Md (Cond.code y_Md_compute b_Md_compute 6 (Option.none : Option Jvm.ClassFile.FieldType) :: x_Wd) (x_k D cA ad)) (hr : meth.sig.returnType = (Option.none : Option Jvm.ClassFile.FieldType)) (hlk : meth.locks = false) (a1 : Int32) (mlo : Nat → Int64) (x2 : Int32) (x3 : Int32) (x4 : Int64) (hk : bk_ok_Md_compute_89 mlo a1 x2 x3 x4) : x_V p l e { frames := 0, cells := 0, slots := 0, locals := 0 } s m args below meth c (x_k D cA ad) 6 0 0 (x_E below (x_k D cA ad) args s 0 0 (x_F ad cA) (fun q : (Nat → Int64) => ((none, ((stp, psz, gk, gl, gh, opn, cki, ckl, mp, rk, rv, ri, chk), (mo, mi, ml, mk, q, mhi, pk, ps, pl, ph, mm), out)) : Option Value × x_S)) (bk_Md_compute_89 mlo a1 x2 x3 x4)) (x_F ad cA ((stp, psz, gk, gl, gh, opn, cki, ckl, mp, rk, rv, ri, chk), (mo, mi, ml, mk, mlo, mhi, pk, ps, pl, ph, mm), out)) 89 [(0, (.ref (ad (18, 0)))), (2, (.int x2)), (3, (.int x3)), (4, (.long x4))] [] := by
  unfold bk_Md_compute_89
  unfold bk_ok_Md_compute_89 at hk
  refine x_iload_n 1 C d_Md_compute_89 rfl rfl ?_
  refine x_iconst (v := 5) C d_Md_compute_90 (by decide) ?_
  refine x_icmp_ne 105 C d_Md_compute_91 (by decide) (fun z12 => ?_) (fun z12 => ?_)
  · have hk := x_okt hk z12
    refine x_aload_n 0 C d_Md_compute_94 rfl rfl ?_
    refine x_get (i := (18, 0)) (v := (.ref (ad (25, 0)))) 17 C m_18 rfl rfl i_Md (by decide) (List.mem_cons_of_mem _ q_808) rfl d_Md_compute_95 ?_
    refine x_iload_n 2 C d_Md_compute_98 rfl rfl ?_
    refine x_dup2_11 C d_Md_compute_99 rfl rfl ?_
    have w13 := hk.1
    have hk := hk.2
    refine x_lald (i := (25, 0)) (g := mlo) 1 C m_25 rfl rfl w13 d_Md_compute_100 ?_
    refine x_lload 3 C d_Md_compute_101 rfl ?_
    refine x_lmul C d_Md_compute_103 ?_
    refine x_last (i := (25, 0)) (g := mlo) (f' := x_F ad cA ((stp, psz, gk, gl, gh, opn, cki, ckl, mp, rk, rv, ri, chk), (mo, mi, ml, mk, vp_updL mlo x3.toNatClampNeg ((mlo x3.toNatClampNeg) * x4), mhi, pk, ps, pl, ph, mm), out)) 1 C m_25 rfl rfl w13 d_Md_compute_104 e_mlo ?_
    refine x_loc (lv' := [(0, (.ref (ad (18, 0)))), (2, (.int x2)), (3, (.int x3)), (4, (.long x4))]) [0, 1, 2, 3] rfl ?_
    exact cb_Md_compute_105 ok C hr hlk a1  (vp_updL mlo x3.toNatClampNeg ((mlo x3.toNatClampNeg) * x4)) x2 x3 x4 hk
  · have hk := x_okf hk z12
    refine x_loc (lv' := [(0, (.ref (ad (18, 0)))), (2, (.int x2)), (3, (.int x3)), (4, (.long x4))]) [0, 1, 2, 3] rfl ?_
    exact cb_Md_compute_105 ok C hr hlk a1  mlo x2 x3 x4 hk
def bk_Md_compute_64 (mo : Nat → Nat → Int32) (mlo : Nat → Int64) (a1 : Int32) (x2 : Int32) (x3 : Int32) (x4 : Int64) : (Nat → Int64) :=
  (if x2 = 4 then bk_Md_compute_89 (vp_updL mlo x3.toNatClampNeg ((mlo x3.toNatClampNeg) - (mlo ((mo 2 a1.toNatClampNeg).toNatClampNeg)))) a1 x2 x3 x4 else bk_Md_compute_89 mlo a1 x2 x3 x4)
def bk_ok_Md_compute_64 (mo : Nat → Nat → Int32) (mlo : Nat → Int64) (a1 : Int32) (x2 : Int32) (x3 : Int32) (x4 : Int64) : Prop :=
  (if x2 = 4 then (vp_in x3 12 ∧ (vp_in a1 24 ∧ (vp_in (mo 2 a1.toNatClampNeg) 12 ∧ bk_ok_Md_compute_89 (vp_updL mlo x3.toNatClampNeg ((mlo x3.toNatClampNeg) - (mlo ((mo 2 a1.toNatClampNeg).toNatClampNeg)))) a1 x2 x3 x4))) else bk_ok_Md_compute_89 mlo a1 x2 x3 x4)
set_option maxHeartbeats 4000000 in
set_option maxRecDepth 100000 in
theorem cb_Md_compute_64 {l : Launch} {D : va_G} {cA : Nat → ClassId} {ad : x_I → Nat} (ok : x_ok (x_k D cA ad)) {stp : Nat → Nat → Int32} {psz : Int32} {gk : Nat → Nat → Int32} {gl : Nat → Nat → Int64} {gh : Nat → Nat → Int64} {opn : Nat → Int32} {cki : Nat → Int32} {ckl : Nat → Int64} {mp : Nat → Nat → Int64} {rk : Nat → Int32} {rv : Nat → Int64} {ri : Nat → Int32} {chk : Int32} {mo : Nat → Nat → Int32} {mi : Nat → Int32} {ml : Nat → Int64} {mk : Nat → Int32} {mhi : Nat → Int64} {pk : Nat → Int32} {ps : Nat → Int32} {pl : Nat → Int64} {ph : Nat → Int64} {mm : Nat → Int64} {out : Nat → Int64} {p : Program} {e : Env} {s : State} {m : MethodId} {args : Array Value} {below : List Frame} {meth : Method} {c : Code} (C : x_C p s m args c b_Md_compute 6 R_Md (Cond.code y_Md_compute b_Md_compute 6 (Option.none : Option Jvm.ClassFile.FieldType) :: x_Wd) (x_k D cA ad)) (hr : meth.sig.returnType = (Option.none : Option Jvm.ClassFile.FieldType)) (hlk : meth.locks = false) (a1 : Int32) (mlo : Nat → Int64) (x2 : Int32) (x3 : Int32) (x4 : Int64) (hk : bk_ok_Md_compute_64 mo mlo a1 x2 x3 x4) : x_V p l e { frames := 0, cells := 0, slots := 0, locals := 0 } s m args below meth c (x_k D cA ad) 6 0 0 (x_E below (x_k D cA ad) args s 0 0 (x_F ad cA) (fun q : (Nat → Int64) => ((none, ((stp, psz, gk, gl, gh, opn, cki, ckl, mp, rk, rv, ri, chk), (mo, mi, ml, mk, q, mhi, pk, ps, pl, ph, mm), out)) : Option Value × x_S)) (bk_Md_compute_64 mo mlo a1 x2 x3 x4)) (x_F ad cA ((stp, psz, gk, gl, gh, opn, cki, ckl, mp, rk, rv, ri, chk), (mo, mi, ml, mk, mlo, mhi, pk, ps, pl, ph, mm), out)) 64 [(0, (.ref (ad (18, 0)))), (1, (.int a1)), (2, (.int x2)), (3, (.int x3)), (4, (.long x4))] [] := by
  unfold bk_Md_compute_64
  unfold bk_ok_Md_compute_64 at hk
  refine x_iload_n 2 C d_Md_compute_64 rfl rfl ?_
  refine x_iconst (v := 4) C d_Md_compute_65 (by decide) ?_
  refine x_icmp_ne 89 C d_Md_compute_66 (by decide) (fun z8 => ?_) (fun z8 => ?_)
  · have hk := x_okt hk z8
    refine x_aload_n 0 C d_Md_compute_69 rfl rfl ?_
    refine x_get (i := (18, 0)) (v := (.ref (ad (25, 0)))) 17 C m_18 rfl rfl i_Md (by decide) (List.mem_cons_of_mem _ q_808) rfl d_Md_compute_70 ?_
    refine x_iload_n 3 C d_Md_compute_73 rfl rfl ?_
    refine x_dup2_11 C d_Md_compute_74 rfl rfl ?_
    have w9 := hk.1
    have hk := hk.2
    refine x_lald (i := (25, 0)) (g := mlo) 1 C m_25 rfl rfl w9 d_Md_compute_75 ?_
    refine x_aload_n 0 C d_Md_compute_76 rfl rfl ?_
    refine x_get (i := (18, 0)) (v := (.ref (ad (25, 0)))) 17 C m_18 rfl rfl i_Md (by decide) (List.mem_cons_of_mem _ q_808) rfl d_Md_compute_77 ?_
    refine x_aload_n 0 C d_Md_compute_80 rfl rfl ?_
    refine x_get (i := (18, 0)) (v := (.ref (ad (21, 0)))) 2 C m_18 rfl rfl i_Md (by decide) (List.mem_cons_of_mem _ q_793) rfl d_Md_compute_81 ?_
    refine x_iload_n 1 C d_Md_compute_84 rfl rfl ?_
    have w10 := hk.1
    have hk := hk.2
    refine x_iald (i := (21, 0)) (g := mo 2) 0 C m_21 rfl rfl w10 d_Md_compute_85 ?_
    have w11 := hk.1
    have hk := hk.2
    refine x_lald (i := (25, 0)) (g := mlo) 1 C m_25 rfl rfl w11 d_Md_compute_86 ?_
    refine x_lsub C d_Md_compute_87 ?_
    refine x_last (i := (25, 0)) (g := mlo) (f' := x_F ad cA ((stp, psz, gk, gl, gh, opn, cki, ckl, mp, rk, rv, ri, chk), (mo, mi, ml, mk, vp_updL mlo x3.toNatClampNeg ((mlo x3.toNatClampNeg) - (mlo ((mo 2 a1.toNatClampNeg).toNatClampNeg))), mhi, pk, ps, pl, ph, mm), out)) 1 C m_25 rfl rfl w9 d_Md_compute_88 e_mlo ?_
    refine x_loc (lv' := [(0, (.ref (ad (18, 0)))), (2, (.int x2)), (3, (.int x3)), (4, (.long x4))]) [0, 2, 3, 4] rfl ?_
    exact cb_Md_compute_89 ok C hr hlk a1  (vp_updL mlo x3.toNatClampNeg ((mlo x3.toNatClampNeg) - (mlo ((mo 2 a1.toNatClampNeg).toNatClampNeg)))) x2 x3 x4 hk
  · have hk := x_okf hk z8
    refine x_loc (lv' := [(0, (.ref (ad (18, 0)))), (2, (.int x2)), (3, (.int x3)), (4, (.long x4))]) [0, 2, 3, 4] rfl ?_
    exact cb_Md_compute_89 ok C hr hlk a1  mlo x2 x3 x4 hk
def bk_Md_compute_39 (mo : Nat → Nat → Int32) (mlo : Nat → Int64) (a1 : Int32) (x2 : Int32) (x3 : Int32) (x4 : Int64) : (Nat → Int64) :=
  (if x2 = 3 then bk_Md_compute_64 mo (vp_updL mlo x3.toNatClampNeg ((mlo x3.toNatClampNeg) + (mlo ((mo 2 a1.toNatClampNeg).toNatClampNeg)))) a1 x2 x3 x4 else bk_Md_compute_64 mo mlo a1 x2 x3 x4)
def bk_ok_Md_compute_39 (mo : Nat → Nat → Int32) (mlo : Nat → Int64) (a1 : Int32) (x2 : Int32) (x3 : Int32) (x4 : Int64) : Prop :=
  (if x2 = 3 then (vp_in x3 12 ∧ (vp_in a1 24 ∧ (vp_in (mo 2 a1.toNatClampNeg) 12 ∧ bk_ok_Md_compute_64 mo (vp_updL mlo x3.toNatClampNeg ((mlo x3.toNatClampNeg) + (mlo ((mo 2 a1.toNatClampNeg).toNatClampNeg)))) a1 x2 x3 x4))) else bk_ok_Md_compute_64 mo mlo a1 x2 x3 x4)
set_option maxHeartbeats 4000000 in
set_option maxRecDepth 100000 in
theorem cb_Md_compute_39 {l : Launch} {D : va_G} {cA : Nat → ClassId} {ad : x_I → Nat} (ok : x_ok (x_k D cA ad)) {stp : Nat → Nat → Int32} {psz : Int32} {gk : Nat → Nat → Int32} {gl : Nat → Nat → Int64} {gh : Nat → Nat → Int64} {opn : Nat → Int32} {cki : Nat → Int32} {ckl : Nat → Int64} {mp : Nat → Nat → Int64} {rk : Nat → Int32} {rv : Nat → Int64} {ri : Nat → Int32} {chk : Int32} {mo : Nat → Nat → Int32} {mi : Nat → Int32} {ml : Nat → Int64} {mk : Nat → Int32} {mhi : Nat → Int64} {pk : Nat → Int32} {ps : Nat → Int32} {pl : Nat → Int64} {ph : Nat → Int64} {mm : Nat → Int64} {out : Nat → Int64} {p : Program} {e : Env} {s : State} {m : MethodId} {args : Array Value} {below : List Frame} {meth : Method} {c : Code} (C : x_C p s m args c b_Md_compute 6 R_Md (Cond.code y_Md_compute b_Md_compute 6 (Option.none : Option Jvm.ClassFile.FieldType) :: x_Wd) (x_k D cA ad)) (hr : meth.sig.returnType = (Option.none : Option Jvm.ClassFile.FieldType)) (hlk : meth.locks = false) (a1 : Int32) (mlo : Nat → Int64) (x2 : Int32) (x3 : Int32) (x4 : Int64) (hk : bk_ok_Md_compute_39 mo mlo a1 x2 x3 x4) : x_V p l e { frames := 0, cells := 0, slots := 0, locals := 0 } s m args below meth c (x_k D cA ad) 6 0 0 (x_E below (x_k D cA ad) args s 0 0 (x_F ad cA) (fun q : (Nat → Int64) => ((none, ((stp, psz, gk, gl, gh, opn, cki, ckl, mp, rk, rv, ri, chk), (mo, mi, ml, mk, q, mhi, pk, ps, pl, ph, mm), out)) : Option Value × x_S)) (bk_Md_compute_39 mo mlo a1 x2 x3 x4)) (x_F ad cA ((stp, psz, gk, gl, gh, opn, cki, ckl, mp, rk, rv, ri, chk), (mo, mi, ml, mk, mlo, mhi, pk, ps, pl, ph, mm), out)) 39 [(0, (.ref (ad (18, 0)))), (1, (.int a1)), (2, (.int x2)), (3, (.int x3)), (4, (.long x4))] [] := by
  unfold bk_Md_compute_39
  unfold bk_ok_Md_compute_39 at hk
  refine x_iload_n 2 C d_Md_compute_39 rfl rfl ?_
  refine x_iconst (v := 3) C d_Md_compute_40 (by decide) ?_
  refine x_icmp_ne 64 C d_Md_compute_41 (by decide) (fun z4 => ?_) (fun z4 => ?_)
  · have hk := x_okt hk z4
    refine x_aload_n 0 C d_Md_compute_44 rfl rfl ?_
    refine x_get (i := (18, 0)) (v := (.ref (ad (25, 0)))) 17 C m_18 rfl rfl i_Md (by decide) (List.mem_cons_of_mem _ q_808) rfl d_Md_compute_45 ?_
    refine x_iload_n 3 C d_Md_compute_48 rfl rfl ?_
    refine x_dup2_11 C d_Md_compute_49 rfl rfl ?_
    have w5 := hk.1
    have hk := hk.2
    refine x_lald (i := (25, 0)) (g := mlo) 1 C m_25 rfl rfl w5 d_Md_compute_50 ?_
    refine x_aload_n 0 C d_Md_compute_51 rfl rfl ?_
    refine x_get (i := (18, 0)) (v := (.ref (ad (25, 0)))) 17 C m_18 rfl rfl i_Md (by decide) (List.mem_cons_of_mem _ q_808) rfl d_Md_compute_52 ?_
    refine x_aload_n 0 C d_Md_compute_55 rfl rfl ?_
    refine x_get (i := (18, 0)) (v := (.ref (ad (21, 0)))) 2 C m_18 rfl rfl i_Md (by decide) (List.mem_cons_of_mem _ q_793) rfl d_Md_compute_56 ?_
    refine x_iload_n 1 C d_Md_compute_59 rfl rfl ?_
    have w6 := hk.1
    have hk := hk.2
    refine x_iald (i := (21, 0)) (g := mo 2) 0 C m_21 rfl rfl w6 d_Md_compute_60 ?_
    have w7 := hk.1
    have hk := hk.2
    refine x_lald (i := (25, 0)) (g := mlo) 1 C m_25 rfl rfl w7 d_Md_compute_61 ?_
    refine x_ladd C d_Md_compute_62 ?_
    refine x_last (i := (25, 0)) (g := mlo) (f' := x_F ad cA ((stp, psz, gk, gl, gh, opn, cki, ckl, mp, rk, rv, ri, chk), (mo, mi, ml, mk, vp_updL mlo x3.toNatClampNeg ((mlo x3.toNatClampNeg) + (mlo ((mo 2 a1.toNatClampNeg).toNatClampNeg))), mhi, pk, ps, pl, ph, mm), out)) 1 C m_25 rfl rfl w5 d_Md_compute_63 e_mlo ?_
    refine x_loc (lv' := [(0, (.ref (ad (18, 0)))), (1, (.int a1)), (2, (.int x2)), (3, (.int x3)), (4, (.long x4))]) [0, 1, 2, 3, 4] rfl ?_
    exact cb_Md_compute_64 ok C hr hlk a1  (vp_updL mlo x3.toNatClampNeg ((mlo x3.toNatClampNeg) + (mlo ((mo 2 a1.toNatClampNeg).toNatClampNeg)))) x2 x3 x4 hk
  · have hk := x_okf hk z4
    refine x_loc (lv' := [(0, (.ref (ad (18, 0)))), (1, (.int a1)), (2, (.int x2)), (3, (.int x3)), (4, (.long x4))]) [0, 1, 2, 3, 4] rfl ?_
    exact cb_Md_compute_64 ok C hr hlk a1  mlo x2 x3 x4 hk
def s_Md_compute (mo : Nat → Nat → Int32) (mlo : Nat → Int64) (a1 : Int32) : (Nat → Int64) :=
  (if (mo 0 a1.toNatClampNeg) = 2 then bk_Md_compute_39 mo (vp_updL mlo ((mo 1 a1.toNatClampNeg).toNatClampNeg) ((mlo ((mo 1 a1.toNatClampNeg).toNatClampNeg)) + (Int32.toInt64 (mo 3 a1.toNatClampNeg)))) a1 (mo 0 a1.toNatClampNeg) (mo 1 a1.toNatClampNeg) (Int32.toInt64 (mo 3 a1.toNatClampNeg)) else bk_Md_compute_39 mo mlo a1 (mo 0 a1.toNatClampNeg) (mo 1 a1.toNatClampNeg) (Int32.toInt64 (mo 3 a1.toNatClampNeg)))
def k_ok_Md_compute (mo : Nat → Nat → Int32) (mlo : Nat → Int64) (a1 : Int32) : Prop :=
  (vp_in a1 24 ∧ (if (mo 0 a1.toNatClampNeg) = 2 then (vp_in (mo 1 a1.toNatClampNeg) 12 ∧ bk_ok_Md_compute_39 mo (vp_updL mlo ((mo 1 a1.toNatClampNeg).toNatClampNeg) ((mlo ((mo 1 a1.toNatClampNeg).toNatClampNeg)) + (Int32.toInt64 (mo 3 a1.toNatClampNeg)))) a1 (mo 0 a1.toNatClampNeg) (mo 1 a1.toNatClampNeg) (Int32.toInt64 (mo 3 a1.toNatClampNeg))) else bk_ok_Md_compute_39 mo mlo a1 (mo 0 a1.toNatClampNeg) (mo 1 a1.toNatClampNeg) (Int32.toInt64 (mo 3 a1.toNatClampNeg))))
set_option maxHeartbeats 4000000 in
set_option maxRecDepth 100000 in
theorem c_Md_compute {l : Launch} {D : va_G} {cA : Nat → ClassId} {ad : x_I → Nat} (ok : x_ok (x_k D cA ad)) {stp : Nat → Nat → Int32} {psz : Int32} {gk : Nat → Nat → Int32} {gl : Nat → Nat → Int64} {gh : Nat → Nat → Int64} {opn : Nat → Int32} {cki : Nat → Int32} {ckl : Nat → Int64} {mp : Nat → Nat → Int64} {rk : Nat → Int32} {rv : Nat → Int64} {ri : Nat → Int32} {chk : Int32} {mo : Nat → Nat → Int32} {mi : Nat → Int32} {ml : Nat → Int64} {mk : Nat → Int32} {mlo : Nat → Int64} {mhi : Nat → Int64} {pk : Nat → Int32} {ps : Nat → Int32} {pl : Nat → Int64} {ph : Nat → Int64} {mm : Nat → Int64} {out : Nat → Int64} (a1 : Int32) (hk : k_ok_Md_compute mo mlo a1) : x_M l y_Md_compute (Cond.code y_Md_compute b_Md_compute 6 (Option.none : Option Jvm.ClassFile.FieldType) :: x_Wd) { frames := 0, cells := 0, slots := 0, locals := 0 } (x_k D cA ad) (x_F ad cA) [(.ref (ad (18, 0))), (.int a1)] ((stp, psz, gk, gl, gh, opn, cki, ckl, mp, rk, rv, ri, chk), (mo, mi, ml, mk, mlo, mhi, pk, ps, pl, ph, mm), out) ((fun q : (Nat → Int64) => ((none, ((stp, psz, gk, gl, gh, opn, cki, ckl, mp, rk, rv, ri, chk), (mo, mi, ml, mk, q, mhi, pk, ps, pl, ph, mm), out)) : Option Value × x_S)) (s_Md_compute mo mlo a1)) 0 0 := by
  refine x_start (κ := x_k D cA ad) (cc := b_Md_compute) (F := x_F ad cA) (wr := (fun q : (Nat → Int64) => ((none, ((stp, psz, gk, gl, gh, opn, cki, ckl, mp, rk, rv, ri, chk), (mo, mi, ml, mk, q, mhi, pk, ps, pl, ph, mm), out)) : Option Value × x_S))) (q := s_Md_compute mo mlo a1) (ret := (Option.none : Option Jvm.ClassFile.FieldType)) (lv0 := [(0, (.ref (ad (18, 0)))), (1, (.int a1))]) ok (by decide) rfl (Nat.le_of_ble_eq_true rfl) rfl ?_
  intro p e s m below meth c C hr hlk
  unfold s_Md_compute
  unfold k_ok_Md_compute at hk
  refine x_aload_n 0 C d_Md_compute_0 rfl rfl ?_
  refine x_get (i := (18, 0)) (v := (.ref (ad (19, 0)))) 0 C m_18 rfl rfl i_Md (by decide) (List.mem_cons_of_mem _ q_791) rfl d_Md_compute_1 ?_
  refine x_iload_n 1 C d_Md_compute_4 rfl rfl ?_
  have w1 := hk.1
  have hk := hk.2
  refine x_iald (i := (19, 0)) (g := mo 0) 0 C m_19 rfl rfl w1 d_Md_compute_5 ?_
  refine x_istore_n (lv' := [(2, (.int (mo 0 a1.toNatClampNeg))), (0, (.ref (ad (18, 0)))), (1, (.int a1))]) C d_Md_compute_6 rfl (by decide) rfl ?_
  refine x_aload_n 1 C d_Md_compute_7 rfl rfl ?_
  refine x_get (i := (18, 0)) (v := (.ref (ad (20, 0)))) 1 C m_18 rfl rfl i_Md (by decide) (List.mem_cons_of_mem _ q_792) rfl d_Md_compute_8 ?_
  refine x_iload_n 2 C d_Md_compute_11 rfl rfl ?_
  refine x_iald (i := (20, 0)) (g := mo 1) 0 C m_20 rfl rfl w1 d_Md_compute_12 ?_
  refine x_istore_n (lv' := [(3, (.int (mo 1 a1.toNatClampNeg))), (2, (.int (mo 0 a1.toNatClampNeg))), (0, (.ref (ad (18, 0)))), (1, (.int a1))]) C d_Md_compute_13 rfl (by decide) rfl ?_
  refine x_aload_n 2 C d_Md_compute_14 rfl rfl ?_
  refine x_get (i := (18, 0)) (v := (.ref (ad (22, 0)))) 3 C m_18 rfl rfl i_Md (by decide) (List.mem_cons_of_mem _ q_794) rfl d_Md_compute_15 ?_
  refine x_iload_n 3 C d_Md_compute_18 rfl rfl ?_
  refine x_iald (i := (22, 0)) (g := mo 3) 0 C m_22 rfl rfl w1 d_Md_compute_19 ?_
  refine x_i2l C d_Md_compute_20 ?_
  refine x_lstore (lv' := [(4, (.long (Int32.toInt64 (mo 3 a1.toNatClampNeg)))), (3, (.int (mo 1 a1.toNatClampNeg))), (2, (.int (mo 0 a1.toNatClampNeg))), (0, (.ref (ad (18, 0)))), (1, (.int a1))]) C d_Md_compute_21 (by decide) rfl ?_
  refine x_iload_n 2 C d_Md_compute_23 rfl rfl ?_
  refine x_iconst (v := 2) C d_Md_compute_24 (by decide) ?_
  refine x_icmp_ne 39 C d_Md_compute_25 (by decide) (fun z2 => ?_) (fun z2 => ?_)
  · have hk := x_okt hk z2
    refine x_aload_n 3 C d_Md_compute_28 rfl rfl ?_
    refine x_get (i := (18, 0)) (v := (.ref (ad (25, 0)))) 17 C m_18 rfl rfl i_Md (by decide) (List.mem_cons_of_mem _ q_808) rfl d_Md_compute_29 ?_
    refine x_iload_n 1 C d_Md_compute_32 rfl rfl ?_
    refine x_dup2_11 C d_Md_compute_33 rfl rfl ?_
    have w3 := hk.1
    have hk := hk.2
    refine x_lald (i := (25, 0)) (g := mlo) 1 C m_25 rfl rfl w3 d_Md_compute_34 ?_
    refine x_lload 0 C d_Md_compute_35 rfl ?_
    refine x_ladd C d_Md_compute_37 ?_
    refine x_last (i := (25, 0)) (g := mlo) (f' := x_F ad cA ((stp, psz, gk, gl, gh, opn, cki, ckl, mp, rk, rv, ri, chk), (mo, mi, ml, mk, vp_updL mlo ((mo 1 a1.toNatClampNeg).toNatClampNeg) ((mlo ((mo 1 a1.toNatClampNeg).toNatClampNeg)) + (Int32.toInt64 (mo 3 a1.toNatClampNeg))), mhi, pk, ps, pl, ph, mm), out)) 1 C m_25 rfl rfl w3 d_Md_compute_38 e_mlo ?_
    refine x_loc (lv' := [(0, (.ref (ad (18, 0)))), (1, (.int a1)), (2, (.int (mo 0 a1.toNatClampNeg))), (3, (.int (mo 1 a1.toNatClampNeg))), (4, (.long (Int32.toInt64 (mo 3 a1.toNatClampNeg))))]) [3, 4, 2, 1, 0] rfl ?_
    exact cb_Md_compute_39 ok C hr hlk a1  (vp_updL mlo ((mo 1 a1.toNatClampNeg).toNatClampNeg) ((mlo ((mo 1 a1.toNatClampNeg).toNatClampNeg)) + (Int32.toInt64 (mo 3 a1.toNatClampNeg)))) (mo 0 a1.toNatClampNeg) (mo 1 a1.toNatClampNeg) (Int32.toInt64 (mo 3 a1.toNatClampNeg)) hk
  · have hk := x_okf hk z2
    refine x_loc (lv' := [(0, (.ref (ad (18, 0)))), (1, (.int a1)), (2, (.int (mo 0 a1.toNatClampNeg))), (3, (.int (mo 1 a1.toNatClampNeg))), (4, (.long (Int32.toInt64 (mo 3 a1.toNatClampNeg))))]) [3, 4, 2, 1, 0] rfl ?_
    exact cb_Md_compute_39 ok C hr hlk a1  mlo (mo 0 a1.toNatClampNeg) (mo 1 a1.toNatClampNeg) (Int32.toInt64 (mo 3 a1.toNatClampNeg)) hk
def bk_Md_transfer_99 (mk : Nat → Int32) (mlo : Nat → Int64) (mhi : Nat → Int64) (mm : Nat → Int64) (a1 : Int32) (a2 : Int32) (x3 : Int32) (x4 : Int32) (x5 : Int32) : (Nat → Int32) × (Nat → Int64) × (Nat → Int64) × (Nat → Int64) :=
  (if (mk x3.toNatClampNeg) = 3 then (mk, mlo, mhi, vp_updL mm ((((Int64.toInt32 (mhi x3.toNatClampNeg)) * 2) + x5).toNatClampNeg) (mlo x4.toNatClampNeg)) else (if a2 = 0 then (x_let (s_Md_copy mk mlo mhi x4 (6 + x5)) fun (mk13, mlo13, mhi13) => (mk13, mlo13, mhi13, mm)) else (x_let (s_Md_copy mk mlo mhi (6 + x5) x4) fun (mk15, mlo15, mhi15) => (mk15, mlo15, mhi15, mm))))
def bk_ok_Md_transfer_99 (mk : Nat → Int32) (mlo : Nat → Int64) (mhi : Nat → Int64) (mm : Nat → Int64) (a1 : Int32) (a2 : Int32) (x3 : Int32) (x4 : Int32) (x5 : Int32) : Prop :=
  (vp_in x3 12 ∧ (if (mk x3.toNatClampNeg) = 3 then (vp_in x4 12 ∧ (vp_in (((Int64.toInt32 (mhi x3.toNatClampNeg)) * 2) + x5) 12 ∧ True)) else (if a2 = 0 then (k_ok_Md_copy mk mlo mhi x4 (6 + x5) ∧ True) else (k_ok_Md_copy mk mlo mhi (6 + x5) x4 ∧ True))))
set_option maxHeartbeats 4000000 in
set_option maxRecDepth 100000 in
theorem cb_Md_transfer_99 {l : Launch} {D : va_G} {cA : Nat → ClassId} {ad : x_I → Nat} (ok : x_ok (x_k D cA ad)) {stp : Nat → Nat → Int32} {psz : Int32} {gk : Nat → Nat → Int32} {gl : Nat → Nat → Int64} {gh : Nat → Nat → Int64} {opn : Nat → Int32} {cki : Nat → Int32} {ckl : Nat → Int64} {mp : Nat → Nat → Int64} {rk : Nat → Int32} {rv : Nat → Int64} {ri : Nat → Int32} {chk : Int32} {mo : Nat → Nat → Int32} {mi : Nat → Int32} {ml : Nat → Int64} {pk : Nat → Int32} {ps : Nat → Int32} {pl : Nat → Int64} {ph : Nat → Int64} {out : Nat → Int64} {p : Program} {e : Env} {s : State} {m : MethodId} {args : Array Value} {below : List Frame} {meth : Method} {c : Code} (C : x_C p s m args c b_Md_transfer 6 R_Md (Cond.code y_Md_transfer b_Md_transfer 6 (Option.none : Option Jvm.ClassFile.FieldType) :: x_Wd) (x_k D cA ad)) (hr : meth.sig.returnType = (Option.none : Option Jvm.ClassFile.FieldType)) (hlk : meth.locks = false) (a1 : Int32) (a2 : Int32) (mk : Nat → Int32) (mlo : Nat → Int64) (mhi : Nat → Int64) (mm : Nat → Int64) (x3 : Int32) (x4 : Int32) (x5 : Int32) (hk : bk_ok_Md_transfer_99 mk mlo mhi mm a1 a2 x3 x4 x5) : x_V p l e { frames := 2, cells := 0, slots := 0, locals := 48 } s m args below meth c (x_k D cA ad) 6 0 0 (x_E below (x_k D cA ad) args s 0 0 (x_F ad cA) (fun q : (Nat → Int32) × (Nat → Int64) × (Nat → Int64) × (Nat → Int64) => ((none, ((stp, psz, gk, gl, gh, opn, cki, ckl, mp, rk, rv, ri, chk), (mo, mi, ml, q.1, q.2.1, q.2.2.1, pk, ps, pl, ph, q.2.2.2), out)) : Option Value × x_S)) (bk_Md_transfer_99 mk mlo mhi mm a1 a2 x3 x4 x5)) (x_F ad cA ((stp, psz, gk, gl, gh, opn, cki, ckl, mp, rk, rv, ri, chk), (mo, mi, ml, mk, mlo, mhi, pk, ps, pl, ph, mm), out)) 99 [(0, (.ref (ad (18, 0)))), (2, (.int a2)), (3, (.int x3)), (4, (.int x4)), (5, (.int x5))] [] := by
  unfold bk_Md_transfer_99
  unfold bk_ok_Md_transfer_99 at hk
  refine x_aload_n 0 C d_Md_transfer_99 rfl rfl ?_
  refine x_get (i := (18, 0)) (v := (.ref (ad (24, 0)))) 16 C m_18 rfl rfl i_Md (by decide) (List.mem_cons_of_mem _ q_807) rfl d_Md_transfer_100 ?_
  refine x_iload_n 2 C d_Md_transfer_103 rfl rfl ?_
  have w7 := hk.1
  have hk := hk.2
  refine x_iald (i := (24, 0)) (g := mk) 0 C m_24 rfl rfl w7 d_Md_transfer_104 ?_
  refine x_iconst (v := 3) C d_Md_transfer_105 (by decide) ?_
  refine x_icmp_ne 136 C d_Md_transfer_106 (by decide) (fun z8 => ?_) (fun z8 => ?_)
  · have hk := x_okt hk z8
    refine x_aload_n 0 C d_Md_transfer_109 rfl rfl ?_
    refine x_get (i := (18, 0)) (v := (.ref (ad (31, 0)))) 23 C m_18 rfl rfl i_Md (by decide) (List.mem_cons_of_mem _ q_814) rfl d_Md_transfer_110 ?_
    refine x_aload_n 0 C d_Md_transfer_113 rfl rfl ?_
    refine x_get (i := (18, 0)) (v := (.ref (ad (26, 0)))) 18 C m_18 rfl rfl i_Md (by decide) (List.mem_cons_of_mem _ q_809) rfl d_Md_transfer_114 ?_
    refine x_iload_n 2 C d_Md_transfer_117 rfl rfl ?_
    refine x_lald (i := (26, 0)) (g := mhi) 1 C m_26 rfl rfl w7 d_Md_transfer_118 ?_
    refine x_l2i C d_Md_transfer_119 ?_
    refine x_iconst (v := 2) C d_Md_transfer_120 (by decide) ?_
    refine x_imul C d_Md_transfer_121 ?_
    refine x_iload 4 C d_Md_transfer_122 rfl ?_
    refine x_iadd C d_Md_transfer_124 ?_
    refine x_aload_n 0 C d_Md_transfer_125 rfl rfl ?_
    refine x_get (i := (18, 0)) (v := (.ref (ad (25, 0)))) 17 C m_18 rfl rfl i_Md (by decide) (List.mem_cons_of_mem _ q_808) rfl d_Md_transfer_126 ?_
    refine x_iload 3 C d_Md_transfer_129 rfl ?_
    have w9 := hk.1
    have hk := hk.2
    refine x_lald (i := (25, 0)) (g := mlo) 1 C m_25 rfl rfl w9 d_Md_transfer_131 ?_
    have w10 := hk.1
    have hk := hk.2
    refine x_last (i := (31, 0)) (g := mm) (f' := x_F ad cA ((stp, psz, gk, gl, gh, opn, cki, ckl, mp, rk, rv, ri, chk), (mo, mi, ml, mk, mlo, mhi, pk, ps, pl, ph, vp_updL mm ((((Int64.toInt32 (mhi x3.toNatClampNeg)) * 2) + x5).toNatClampNeg) (mlo x4.toNatClampNeg)), out)) 1 C m_31 rfl rfl w10 d_Md_transfer_132 e_mm ?_
    refine x_goto 165 C d_Md_transfer_133 (by decide) ?_
    exact x_vret C hr hlk rfl d_Md_transfer_165
  · have hk := x_okf hk z8
    refine x_iload_n 1 C d_Md_transfer_136 rfl rfl ?_
    refine x_if_eq 154 C d_Md_transfer_137 (by decide) (fun z11 => ?_) (fun z11 => ?_)
    · have hk := x_okt hk z11
      refine x_aload_n 0 C d_Md_transfer_154 rfl rfl ?_
      refine x_iload 3 C d_Md_transfer_155 rfl ?_
      refine x_bipush (v := 6) C d_Md_transfer_157 (by decide) ?_
      refine x_iload 4 C d_Md_transfer_159 rfl ?_
      refine x_iadd C d_Md_transfer_161 ?_
      have w12 := hk.1
      have hk := hk.2
      refine x_cv0 (i := (18, 0)) (F := x_F ad cA) (As := [(.int x4), (.int (6 + x5))]) (rest := []) C k_Md_copy q_972 (c_Md_copy ok x4 (6 + x5) w12) rfl rfl rfl (Nat.le_of_ble_eq_true rfl) (Nat.le_of_ble_eq_true rfl) m_18 rfl rfl rfl rfl rfl (Nat.le_of_ble_eq_true rfl) d_Md_transfer_162 ⟨Nat.zero_le _, Nat.zero_le _⟩ ?_
      generalize hq13 : s_Md_copy mk mlo mhi x4 (6 + x5) = q13
      obtain ⟨mk13, mlo13, mhi13⟩ := q13
      refine x_lets ?_
      dsimp only
      exact x_vret C hr hlk rfl d_Md_transfer_165
    · have hk := x_okf hk z11
      refine x_aload_n 0 C d_Md_transfer_140 rfl rfl ?_
      refine x_bipush (v := 6) C d_Md_transfer_141 (by decide) ?_
      refine x_iload 4 C d_Md_transfer_143 rfl ?_
      refine x_iadd C d_Md_transfer_145 ?_
      refine x_iload 3 C d_Md_transfer_146 rfl ?_
      have w14 := hk.1
      have hk := hk.2
      refine x_cv0 (i := (18, 0)) (F := x_F ad cA) (As := [(.int (6 + x5)), (.int x4)]) (rest := []) C k_Md_copy q_972 (c_Md_copy ok (6 + x5) x4 w14) rfl rfl rfl (Nat.le_of_ble_eq_true rfl) (Nat.le_of_ble_eq_true rfl) m_18 rfl rfl rfl rfl rfl (Nat.le_of_ble_eq_true rfl) d_Md_transfer_148 ⟨Nat.zero_le _, Nat.zero_le _⟩ ?_
      generalize hq15 : s_Md_copy mk mlo mhi (6 + x5) x4 = q15
      obtain ⟨mk15, mlo15, mhi15⟩ := q15
      refine x_lets ?_
      dsimp only
      refine x_goto 165 C d_Md_transfer_151 (by decide) ?_
      exact x_vret C hr hlk rfl d_Md_transfer_165
def s_Md_transfer (mo : Nat → Nat → Int32) (mk : Nat → Int32) (mlo : Nat → Int64) (mhi : Nat → Int64) (mm : Nat → Int64) (a1 : Int32) (a2 : Int32) : (Nat → Int32) × (Nat → Int64) × (Nat → Int64) × (Nat → Int64) :=
  (if a2 = 0 then (if a2 = 0 then (if (mk ((mo 1 a1.toNatClampNeg).toNatClampNeg)) = 3 then (if a2 = 0 then bk_Md_transfer_99 mk mlo mhi mm a1 a2 (mo 1 a1.toNatClampNeg) (mo 2 a1.toNatClampNeg) ((Int64.toInt32 (mlo ((mo 1 a1.toNatClampNeg).toNatClampNeg))) + (mo 3 a1.toNatClampNeg)) else (x_let (s_Md_know mk mlo mhi (mo 2 a1.toNatClampNeg) 1 (mm ((((Int64.toInt32 (mhi ((mo 1 a1.toNatClampNeg).toNatClampNeg))) * 2) + ((Int64.toInt32 (mlo ((mo 1 a1.toNatClampNeg).toNatClampNeg))) + (mo 3 a1.toNatClampNeg))).toNatClampNeg)) 0) fun (mk18, mlo18, mhi18) => (mk18, mlo18, mhi18, mm))) else bk_Md_transfer_99 mk mlo mhi mm a1 a2 (mo 1 a1.toNatClampNeg) (mo 2 a1.toNatClampNeg) ((Int64.toInt32 (mlo ((mo 1 a1.toNatClampNeg).toNatClampNeg))) + (mo 3 a1.toNatClampNeg))) else (if (mk ((mo 1 a1.toNatClampNeg).toNatClampNeg)) = 3 then (if a2 = 0 then bk_Md_transfer_99 mk mlo mhi mm a1 a2 (mo 1 a1.toNatClampNeg) (mo 1 a1.toNatClampNeg) ((Int64.toInt32 (mlo ((mo 1 a1.toNatClampNeg).toNatClampNeg))) + (mo 3 a1.toNatClampNeg)) else (x_let (s_Md_know mk mlo mhi (mo 1 a1.toNatClampNeg) 1 (mm ((((Int64.toInt32 (mhi ((mo 1 a1.toNatClampNeg).toNatClampNeg))) * 2) + ((Int64.toInt32 (mlo ((mo 1 a1.toNatClampNeg).toNatClampNeg))) + (mo 3 a1.toNatClampNeg))).toNatClampNeg)) 0) fun (mk24, mlo24, mhi24) => (mk24, mlo24, mhi24, mm))) else bk_Md_transfer_99 mk mlo mhi mm a1 a2 (mo 1 a1.toNatClampNeg) (mo 1 a1.toNatClampNeg) ((Int64.toInt32 (mlo ((mo 1 a1.toNatClampNeg).toNatClampNeg))) + (mo 3 a1.toNatClampNeg)))) else (if a2 = 0 then (if (mk ((mo 2 a1.toNatClampNeg).toNatClampNeg)) = 3 then (if a2 = 0 then bk_Md_transfer_99 mk mlo mhi mm a1 a2 (mo 2 a1.toNatClampNeg) (mo 2 a1.toNatClampNeg) ((Int64.toInt32 (mlo ((mo 2 a1.toNatClampNeg).toNatClampNeg))) + (mo 3 a1.toNatClampNeg)) else (x_let (s_Md_know mk mlo mhi (mo 2 a1.toNatClampNeg) 1 (mm ((((Int64.toInt32 (mhi ((mo 2 a1.toNatClampNeg).toNatClampNeg))) * 2) + ((Int64.toInt32 (mlo ((mo 2 a1.toNatClampNeg).toNatClampNeg))) + (mo 3 a1.toNatClampNeg))).toNatClampNeg)) 0) fun (mk32, mlo32, mhi32) => (mk32, mlo32, mhi32, mm))) else bk_Md_transfer_99 mk mlo mhi mm a1 a2 (mo 2 a1.toNatClampNeg) (mo 2 a1.toNatClampNeg) ((Int64.toInt32 (mlo ((mo 2 a1.toNatClampNeg).toNatClampNeg))) + (mo 3 a1.toNatClampNeg))) else (if (mk ((mo 2 a1.toNatClampNeg).toNatClampNeg)) = 3 then (if a2 = 0 then bk_Md_transfer_99 mk mlo mhi mm a1 a2 (mo 2 a1.toNatClampNeg) (mo 1 a1.toNatClampNeg) ((Int64.toInt32 (mlo ((mo 2 a1.toNatClampNeg).toNatClampNeg))) + (mo 3 a1.toNatClampNeg)) else (x_let (s_Md_know mk mlo mhi (mo 1 a1.toNatClampNeg) 1 (mm ((((Int64.toInt32 (mhi ((mo 2 a1.toNatClampNeg).toNatClampNeg))) * 2) + ((Int64.toInt32 (mlo ((mo 2 a1.toNatClampNeg).toNatClampNeg))) + (mo 3 a1.toNatClampNeg))).toNatClampNeg)) 0) fun (mk38, mlo38, mhi38) => (mk38, mlo38, mhi38, mm))) else bk_Md_transfer_99 mk mlo mhi mm a1 a2 (mo 2 a1.toNatClampNeg) (mo 1 a1.toNatClampNeg) ((Int64.toInt32 (mlo ((mo 2 a1.toNatClampNeg).toNatClampNeg))) + (mo 3 a1.toNatClampNeg)))))
def k_ok_Md_transfer (mo : Nat → Nat → Int32) (mk : Nat → Int32) (mlo : Nat → Int64) (mhi : Nat → Int64) (mm : Nat → Int64) (a1 : Int32) (a2 : Int32) : Prop :=
  (if a2 = 0 then (vp_in a1 24 ∧ (if a2 = 0 then (vp_in (mo 1 a1.toNatClampNeg) 12 ∧ (if (mk ((mo 1 a1.toNatClampNeg).toNatClampNeg)) = 3 then (if a2 = 0 then bk_ok_Md_transfer_99 mk mlo mhi mm a1 a2 (mo 1 a1.toNatClampNeg) (mo 2 a1.toNatClampNeg) ((Int64.toInt32 (mlo ((mo 1 a1.toNatClampNeg).toNatClampNeg))) + (mo 3 a1.toNatClampNeg)) else (vp_in (((Int64.toInt32 (mhi ((mo 1 a1.toNatClampNeg).toNatClampNeg))) * 2) + ((Int64.toInt32 (mlo ((mo 1 a1.toNatClampNeg).toNatClampNeg))) + (mo 3 a1.toNatClampNeg))) 12 ∧ (k_ok_Md_know mk mlo mhi (mo 2 a1.toNatClampNeg) 1 (mm ((((Int64.toInt32 (mhi ((mo 1 a1.toNatClampNeg).toNatClampNeg))) * 2) + ((Int64.toInt32 (mlo ((mo 1 a1.toNatClampNeg).toNatClampNeg))) + (mo 3 a1.toNatClampNeg))).toNatClampNeg)) 0 ∧ True))) else bk_ok_Md_transfer_99 mk mlo mhi mm a1 a2 (mo 1 a1.toNatClampNeg) (mo 2 a1.toNatClampNeg) ((Int64.toInt32 (mlo ((mo 1 a1.toNatClampNeg).toNatClampNeg))) + (mo 3 a1.toNatClampNeg)))) else (vp_in (mo 1 a1.toNatClampNeg) 12 ∧ (if (mk ((mo 1 a1.toNatClampNeg).toNatClampNeg)) = 3 then (if a2 = 0 then bk_ok_Md_transfer_99 mk mlo mhi mm a1 a2 (mo 1 a1.toNatClampNeg) (mo 1 a1.toNatClampNeg) ((Int64.toInt32 (mlo ((mo 1 a1.toNatClampNeg).toNatClampNeg))) + (mo 3 a1.toNatClampNeg)) else (vp_in (((Int64.toInt32 (mhi ((mo 1 a1.toNatClampNeg).toNatClampNeg))) * 2) + ((Int64.toInt32 (mlo ((mo 1 a1.toNatClampNeg).toNatClampNeg))) + (mo 3 a1.toNatClampNeg))) 12 ∧ (k_ok_Md_know mk mlo mhi (mo 1 a1.toNatClampNeg) 1 (mm ((((Int64.toInt32 (mhi ((mo 1 a1.toNatClampNeg).toNatClampNeg))) * 2) + ((Int64.toInt32 (mlo ((mo 1 a1.toNatClampNeg).toNatClampNeg))) + (mo 3 a1.toNatClampNeg))).toNatClampNeg)) 0 ∧ True))) else bk_ok_Md_transfer_99 mk mlo mhi mm a1 a2 (mo 1 a1.toNatClampNeg) (mo 1 a1.toNatClampNeg) ((Int64.toInt32 (mlo ((mo 1 a1.toNatClampNeg).toNatClampNeg))) + (mo 3 a1.toNatClampNeg)))))) else (vp_in a1 24 ∧ (if a2 = 0 then (vp_in (mo 2 a1.toNatClampNeg) 12 ∧ (if (mk ((mo 2 a1.toNatClampNeg).toNatClampNeg)) = 3 then (if a2 = 0 then bk_ok_Md_transfer_99 mk mlo mhi mm a1 a2 (mo 2 a1.toNatClampNeg) (mo 2 a1.toNatClampNeg) ((Int64.toInt32 (mlo ((mo 2 a1.toNatClampNeg).toNatClampNeg))) + (mo 3 a1.toNatClampNeg)) else (vp_in (((Int64.toInt32 (mhi ((mo 2 a1.toNatClampNeg).toNatClampNeg))) * 2) + ((Int64.toInt32 (mlo ((mo 2 a1.toNatClampNeg).toNatClampNeg))) + (mo 3 a1.toNatClampNeg))) 12 ∧ (k_ok_Md_know mk mlo mhi (mo 2 a1.toNatClampNeg) 1 (mm ((((Int64.toInt32 (mhi ((mo 2 a1.toNatClampNeg).toNatClampNeg))) * 2) + ((Int64.toInt32 (mlo ((mo 2 a1.toNatClampNeg).toNatClampNeg))) + (mo 3 a1.toNatClampNeg))).toNatClampNeg)) 0 ∧ True))) else bk_ok_Md_transfer_99 mk mlo mhi mm a1 a2 (mo 2 a1.toNatClampNeg) (mo 2 a1.toNatClampNeg) ((Int64.toInt32 (mlo ((mo 2 a1.toNatClampNeg).toNatClampNeg))) + (mo 3 a1.toNatClampNeg)))) else (vp_in (mo 2 a1.toNatClampNeg) 12 ∧ (if (mk ((mo 2 a1.toNatClampNeg).toNatClampNeg)) = 3 then (if a2 = 0 then bk_ok_Md_transfer_99 mk mlo mhi mm a1 a2 (mo 2 a1.toNatClampNeg) (mo 1 a1.toNatClampNeg) ((Int64.toInt32 (mlo ((mo 2 a1.toNatClampNeg).toNatClampNeg))) + (mo 3 a1.toNatClampNeg)) else (vp_in (((Int64.toInt32 (mhi ((mo 2 a1.toNatClampNeg).toNatClampNeg))) * 2) + ((Int64.toInt32 (mlo ((mo 2 a1.toNatClampNeg).toNatClampNeg))) + (mo 3 a1.toNatClampNeg))) 12 ∧ (k_ok_Md_know mk mlo mhi (mo 1 a1.toNatClampNeg) 1 (mm ((((Int64.toInt32 (mhi ((mo 2 a1.toNatClampNeg).toNatClampNeg))) * 2) + ((Int64.toInt32 (mlo ((mo 2 a1.toNatClampNeg).toNatClampNeg))) + (mo 3 a1.toNatClampNeg))).toNatClampNeg)) 0 ∧ True))) else bk_ok_Md_transfer_99 mk mlo mhi mm a1 a2 (mo 2 a1.toNatClampNeg) (mo 1 a1.toNatClampNeg) ((Int64.toInt32 (mlo ((mo 2 a1.toNatClampNeg).toNatClampNeg))) + (mo 3 a1.toNatClampNeg)))))))
set_option maxHeartbeats 4000000 in
set_option maxRecDepth 100000 in
theorem c_Md_transfer {l : Launch} {D : va_G} {cA : Nat → ClassId} {ad : x_I → Nat} (ok : x_ok (x_k D cA ad)) {stp : Nat → Nat → Int32} {psz : Int32} {gk : Nat → Nat → Int32} {gl : Nat → Nat → Int64} {gh : Nat → Nat → Int64} {opn : Nat → Int32} {cki : Nat → Int32} {ckl : Nat → Int64} {mp : Nat → Nat → Int64} {rk : Nat → Int32} {rv : Nat → Int64} {ri : Nat → Int32} {chk : Int32} {mo : Nat → Nat → Int32} {mi : Nat → Int32} {ml : Nat → Int64} {mk : Nat → Int32} {mlo : Nat → Int64} {mhi : Nat → Int64} {pk : Nat → Int32} {ps : Nat → Int32} {pl : Nat → Int64} {ph : Nat → Int64} {mm : Nat → Int64} {out : Nat → Int64} (a1 : Int32) (a2 : Int32) (hk : k_ok_Md_transfer mo mk mlo mhi mm a1 a2) : x_M l y_Md_transfer (Cond.code y_Md_transfer b_Md_transfer 6 (Option.none : Option Jvm.ClassFile.FieldType) :: x_Wd) { frames := 2, cells := 0, slots := 0, locals := 48 } (x_k D cA ad) (x_F ad cA) [(.ref (ad (18, 0))), (.int a1), (.int a2)] ((stp, psz, gk, gl, gh, opn, cki, ckl, mp, rk, rv, ri, chk), (mo, mi, ml, mk, mlo, mhi, pk, ps, pl, ph, mm), out) ((fun q : (Nat → Int32) × (Nat → Int64) × (Nat → Int64) × (Nat → Int64) => ((none, ((stp, psz, gk, gl, gh, opn, cki, ckl, mp, rk, rv, ri, chk), (mo, mi, ml, q.1, q.2.1, q.2.2.1, pk, ps, pl, ph, q.2.2.2), out)) : Option Value × x_S)) (s_Md_transfer mo mk mlo mhi mm a1 a2)) 0 0 := by
  refine x_start (κ := x_k D cA ad) (cc := b_Md_transfer) (F := x_F ad cA) (wr := (fun q : (Nat → Int32) × (Nat → Int64) × (Nat → Int64) × (Nat → Int64) => ((none, ((stp, psz, gk, gl, gh, opn, cki, ckl, mp, rk, rv, ri, chk), (mo, mi, ml, q.1, q.2.1, q.2.2.1, pk, ps, pl, ph, q.2.2.2), out)) : Option Value × x_S))) (q := s_Md_transfer mo mk mlo mhi mm a1 a2) (ret := (Option.none : Option Jvm.ClassFile.FieldType)) (lv0 := [(0, (.ref (ad (18, 0)))), (1, (.int a1)), (2, (.int a2))]) ok (by decide) rfl (Nat.le_of_ble_eq_true rfl) rfl ?_
  intro p e s m below meth c C hr hlk
  unfold s_Md_transfer
  unfold k_ok_Md_transfer at hk
  refine x_iload_n 2 C d_Md_transfer_0 rfl rfl ?_
  refine x_if_eq 13 C d_Md_transfer_1 (by decide) (fun z1 => ?_) (fun z1 => ?_)
  · have hk := x_okt hk z1
    refine x_aload_n 0 C d_Md_transfer_13 rfl rfl ?_
    refine x_get (i := (18, 0)) (v := (.ref (ad (20, 0)))) 1 C m_18 rfl rfl i_Md (by decide) (List.mem_cons_of_mem _ q_792) rfl d_Md_transfer_14 ?_
    refine x_iload_n 1 C d_Md_transfer_17 rfl rfl ?_
    have w2 := hk.1
    have hk := hk.2
    refine x_iald (i := (20, 0)) (g := mo 1) 0 C m_20 rfl rfl w2 d_Md_transfer_18 ?_
    refine x_istore_n (lv' := [(3, (.int (mo 1 a1.toNatClampNeg))), (0, (.ref (ad (18, 0)))), (1, (.int a1)), (2, (.int a2))]) C d_Md_transfer_19 rfl (by decide) rfl ?_
    refine x_iload_n 3 C d_Md_transfer_20 rfl rfl ?_
    refine x_if_eq 33 C d_Md_transfer_21 (by decide) (fun z3 => ?_) (fun z3 => ?_)
    · have hk := x_okt hk z3
      refine x_aload_n 1 C d_Md_transfer_33 rfl rfl ?_
      refine x_get (i := (18, 0)) (v := (.ref (ad (21, 0)))) 2 C m_18 rfl rfl i_Md (by decide) (List.mem_cons_of_mem _ q_793) rfl d_Md_transfer_34 ?_
      refine x_iload_n 2 C d_Md_transfer_37 rfl rfl ?_
      refine x_iald (i := (21, 0)) (g := mo 2) 0 C m_21 rfl rfl w2 d_Md_transfer_38 ?_
      refine x_istore (lv' := [(4, (.int (mo 2 a1.toNatClampNeg))), (3, (.int (mo 1 a1.toNatClampNeg))), (0, (.ref (ad (18, 0)))), (1, (.int a1)), (2, (.int a2))]) C d_Md_transfer_39 (by decide) rfl ?_
      refine x_aload_n 2 C d_Md_transfer_41 rfl rfl ?_
      refine x_get (i := (18, 0)) (v := (.ref (ad (25, 0)))) 17 C m_18 rfl rfl i_Md (by decide) (List.mem_cons_of_mem _ q_808) rfl d_Md_transfer_42 ?_
      refine x_iload_n 1 C d_Md_transfer_45 rfl rfl ?_
      have w4 := hk.1
      have hk := hk.2
      refine x_lald (i := (25, 0)) (g := mlo) 1 C m_25 rfl rfl w4 d_Md_transfer_46 ?_
      refine x_l2i C d_Md_transfer_47 ?_
      refine x_aload_n 2 C d_Md_transfer_48 rfl rfl ?_
      refine x_get (i := (18, 0)) (v := (.ref (ad (22, 0)))) 3 C m_18 rfl rfl i_Md (by decide) (List.mem_cons_of_mem _ q_794) rfl d_Md_transfer_49 ?_
      refine x_iload_n 3 C d_Md_transfer_52 rfl rfl ?_
      refine x_iald (i := (22, 0)) (g := mo 3) 0 C m_22 rfl rfl w2 d_Md_transfer_53 ?_
      refine x_iadd C d_Md_transfer_54 ?_
      refine x_istore (lv' := [(5, (.int ((Int64.toInt32 (mlo ((mo 1 a1.toNatClampNeg).toNatClampNeg))) + (mo 3 a1.toNatClampNeg)))), (4, (.int (mo 2 a1.toNatClampNeg))), (3, (.int (mo 1 a1.toNatClampNeg))), (0, (.ref (ad (18, 0)))), (1, (.int a1)), (2, (.int a2))]) C d_Md_transfer_55 (by decide) rfl ?_
      refine x_aload_n 3 C d_Md_transfer_57 rfl rfl ?_
      refine x_get (i := (18, 0)) (v := (.ref (ad (24, 0)))) 16 C m_18 rfl rfl i_Md (by decide) (List.mem_cons_of_mem _ q_807) rfl d_Md_transfer_58 ?_
      refine x_iload_n 2 C d_Md_transfer_61 rfl rfl ?_
      refine x_iald (i := (24, 0)) (g := mk) 0 C m_24 rfl rfl w4 d_Md_transfer_62 ?_
      refine x_iconst (v := 3) C d_Md_transfer_63 (by decide) ?_
      refine x_icmp_ne 99 C d_Md_transfer_64 (by decide) (fun z5 => ?_) (fun z5 => ?_)
      · have hk := x_okt hk z5
        refine x_iload_n 5 C d_Md_transfer_67 rfl rfl ?_
        refine x_if_eq 99 C d_Md_transfer_68 (by decide) (fun z6 => ?_) (fun z6 => ?_)
        · have hk := x_okt hk z6
          refine x_loc (lv' := [(0, (.ref (ad (18, 0)))), (2, (.int a2)), (3, (.int (mo 1 a1.toNatClampNeg))), (4, (.int (mo 2 a1.toNatClampNeg))), (5, (.int ((Int64.toInt32 (mlo ((mo 1 a1.toNatClampNeg).toNatClampNeg))) + (mo 3 a1.toNatClampNeg))))]) [3, 5, 2, 1, 0] rfl ?_
          exact cb_Md_transfer_99 ok C hr hlk a1 a2  mk mlo mhi mm (mo 1 a1.toNatClampNeg) (mo 2 a1.toNatClampNeg) ((Int64.toInt32 (mlo ((mo 1 a1.toNatClampNeg).toNatClampNeg))) + (mo 3 a1.toNatClampNeg)) hk
        · have hk := x_okf hk z6
          refine x_aload_n 3 C d_Md_transfer_71 rfl rfl ?_
          refine x_iload 1 C d_Md_transfer_72 rfl ?_
          refine x_iconst (v := 1) C d_Md_transfer_74 (by decide) ?_
          refine x_aload_n 3 C d_Md_transfer_75 rfl rfl ?_
          refine x_get (i := (18, 0)) (v := (.ref (ad (31, 0)))) 23 C m_18 rfl rfl i_Md (by decide) (List.mem_cons_of_mem _ q_814) rfl d_Md_transfer_76 ?_
          refine x_aload_n 3 C d_Md_transfer_79 rfl rfl ?_
          refine x_get (i := (18, 0)) (v := (.ref (ad (26, 0)))) 18 C m_18 rfl rfl i_Md (by decide) (List.mem_cons_of_mem _ q_809) rfl d_Md_transfer_80 ?_
          refine x_iload_n 2 C d_Md_transfer_83 rfl rfl ?_
          refine x_lald (i := (26, 0)) (g := mhi) 1 C m_26 rfl rfl w4 d_Md_transfer_84 ?_
          refine x_l2i C d_Md_transfer_85 ?_
          refine x_iconst (v := 2) C d_Md_transfer_86 (by decide) ?_
          refine x_imul C d_Md_transfer_87 ?_
          refine x_iload 0 C d_Md_transfer_88 rfl ?_
          refine x_iadd C d_Md_transfer_90 ?_
          have w16 := hk.1
          have hk := hk.2
          refine x_lald (i := (31, 0)) (g := mm) 1 C m_31 rfl rfl w16 d_Md_transfer_91 ?_
          refine x_lconst (v := 0) C d_Md_transfer_92 (by decide) ?_
          have w17 := hk.1
          have hk := hk.2
          refine x_cv0 (i := (18, 0)) (F := x_F ad cA) (As := [(.int (mo 2 a1.toNatClampNeg)), (.int 1), (.long (mm ((((Int64.toInt32 (mhi ((mo 1 a1.toNatClampNeg).toNatClampNeg))) * 2) + ((Int64.toInt32 (mlo ((mo 1 a1.toNatClampNeg).toNatClampNeg))) + (mo 3 a1.toNatClampNeg))).toNatClampNeg))), (.long 0)]) (rest := []) C k_Md_know q_908 (c_Md_know ok (mo 2 a1.toNatClampNeg) 1 (mm ((((Int64.toInt32 (mhi ((mo 1 a1.toNatClampNeg).toNatClampNeg))) * 2) + ((Int64.toInt32 (mlo ((mo 1 a1.toNatClampNeg).toNatClampNeg))) + (mo 3 a1.toNatClampNeg))).toNatClampNeg)) 0 w17) rfl rfl rfl (Nat.le_of_ble_eq_true rfl) (Nat.le_of_ble_eq_true rfl) m_18 rfl rfl rfl rfl rfl (Nat.le_of_ble_eq_true rfl) d_Md_transfer_93 ⟨Nat.zero_le _, Nat.zero_le _⟩ ?_
          generalize hq18 : s_Md_know mk mlo mhi (mo 2 a1.toNatClampNeg) 1 (mm ((((Int64.toInt32 (mhi ((mo 1 a1.toNatClampNeg).toNatClampNeg))) * 2) + ((Int64.toInt32 (mlo ((mo 1 a1.toNatClampNeg).toNatClampNeg))) + (mo 3 a1.toNatClampNeg))).toNatClampNeg)) 0 = q18
          obtain ⟨mk18, mlo18, mhi18⟩ := q18
          refine x_lets ?_
          dsimp only
          refine x_goto 165 C d_Md_transfer_96 (by decide) ?_
          exact x_vret C hr hlk rfl d_Md_transfer_165
      · have hk := x_okf hk z5
        refine x_loc (lv' := [(0, (.ref (ad (18, 0)))), (2, (.int a2)), (3, (.int (mo 1 a1.toNatClampNeg))), (4, (.int (mo 2 a1.toNatClampNeg))), (5, (.int ((Int64.toInt32 (mlo ((mo 1 a1.toNatClampNeg).toNatClampNeg))) + (mo 3 a1.toNatClampNeg))))]) [3, 5, 2, 1, 0] rfl ?_
        exact cb_Md_transfer_99 ok C hr hlk a1 a2  mk mlo mhi mm (mo 1 a1.toNatClampNeg) (mo 2 a1.toNatClampNeg) ((Int64.toInt32 (mlo ((mo 1 a1.toNatClampNeg).toNatClampNeg))) + (mo 3 a1.toNatClampNeg)) hk
    · have hk := x_okf hk z3
      refine x_aload_n 1 C d_Md_transfer_24 rfl rfl ?_
      refine x_get (i := (18, 0)) (v := (.ref (ad (20, 0)))) 1 C m_18 rfl rfl i_Md (by decide) (List.mem_cons_of_mem _ q_792) rfl d_Md_transfer_25 ?_
      refine x_iload_n 2 C d_Md_transfer_28 rfl rfl ?_
      refine x_iald (i := (20, 0)) (g := mo 1) 0 C m_20 rfl rfl w2 d_Md_transfer_29 ?_
      refine x_goto 39 C d_Md_transfer_30 (by decide) ?_
      refine x_istore (lv' := [(4, (.int (mo 1 a1.toNatClampNeg))), (3, (.int (mo 1 a1.toNatClampNeg))), (0, (.ref (ad (18, 0)))), (1, (.int a1)), (2, (.int a2))]) C d_Md_transfer_39 (by decide) rfl ?_
      refine x_aload_n 2 C d_Md_transfer_41 rfl rfl ?_
      refine x_get (i := (18, 0)) (v := (.ref (ad (25, 0)))) 17 C m_18 rfl rfl i_Md (by decide) (List.mem_cons_of_mem _ q_808) rfl d_Md_transfer_42 ?_
      refine x_iload_n 1 C d_Md_transfer_45 rfl rfl ?_
      have w19 := hk.1
      have hk := hk.2
      refine x_lald (i := (25, 0)) (g := mlo) 1 C m_25 rfl rfl w19 d_Md_transfer_46 ?_
      refine x_l2i C d_Md_transfer_47 ?_
      refine x_aload_n 2 C d_Md_transfer_48 rfl rfl ?_
      refine x_get (i := (18, 0)) (v := (.ref (ad (22, 0)))) 3 C m_18 rfl rfl i_Md (by decide) (List.mem_cons_of_mem _ q_794) rfl d_Md_transfer_49 ?_
      refine x_iload_n 3 C d_Md_transfer_52 rfl rfl ?_
      refine x_iald (i := (22, 0)) (g := mo 3) 0 C m_22 rfl rfl w2 d_Md_transfer_53 ?_
      refine x_iadd C d_Md_transfer_54 ?_
      refine x_istore (lv' := [(5, (.int ((Int64.toInt32 (mlo ((mo 1 a1.toNatClampNeg).toNatClampNeg))) + (mo 3 a1.toNatClampNeg)))), (4, (.int (mo 1 a1.toNatClampNeg))), (3, (.int (mo 1 a1.toNatClampNeg))), (0, (.ref (ad (18, 0)))), (1, (.int a1)), (2, (.int a2))]) C d_Md_transfer_55 (by decide) rfl ?_
      refine x_aload_n 3 C d_Md_transfer_57 rfl rfl ?_
      refine x_get (i := (18, 0)) (v := (.ref (ad (24, 0)))) 16 C m_18 rfl rfl i_Md (by decide) (List.mem_cons_of_mem _ q_807) rfl d_Md_transfer_58 ?_
      refine x_iload_n 2 C d_Md_transfer_61 rfl rfl ?_
      refine x_iald (i := (24, 0)) (g := mk) 0 C m_24 rfl rfl w19 d_Md_transfer_62 ?_
      refine x_iconst (v := 3) C d_Md_transfer_63 (by decide) ?_
      refine x_icmp_ne 99 C d_Md_transfer_64 (by decide) (fun z20 => ?_) (fun z20 => ?_)
      · have hk := x_okt hk z20
        refine x_iload_n 5 C d_Md_transfer_67 rfl rfl ?_
        refine x_if_eq 99 C d_Md_transfer_68 (by decide) (fun z21 => ?_) (fun z21 => ?_)
        · have hk := x_okt hk z21
          refine x_loc (lv' := [(0, (.ref (ad (18, 0)))), (2, (.int a2)), (3, (.int (mo 1 a1.toNatClampNeg))), (4, (.int (mo 1 a1.toNatClampNeg))), (5, (.int ((Int64.toInt32 (mlo ((mo 1 a1.toNatClampNeg).toNatClampNeg))) + (mo 3 a1.toNatClampNeg))))]) [3, 5, 2, 1, 0] rfl ?_
          exact cb_Md_transfer_99 ok C hr hlk a1 a2  mk mlo mhi mm (mo 1 a1.toNatClampNeg) (mo 1 a1.toNatClampNeg) ((Int64.toInt32 (mlo ((mo 1 a1.toNatClampNeg).toNatClampNeg))) + (mo 3 a1.toNatClampNeg)) hk
        · have hk := x_okf hk z21
          refine x_aload_n 3 C d_Md_transfer_71 rfl rfl ?_
          refine x_iload 1 C d_Md_transfer_72 rfl ?_
          refine x_iconst (v := 1) C d_Md_transfer_74 (by decide) ?_
          refine x_aload_n 3 C d_Md_transfer_75 rfl rfl ?_
          refine x_get (i := (18, 0)) (v := (.ref (ad (31, 0)))) 23 C m_18 rfl rfl i_Md (by decide) (List.mem_cons_of_mem _ q_814) rfl d_Md_transfer_76 ?_
          refine x_aload_n 3 C d_Md_transfer_79 rfl rfl ?_
          refine x_get (i := (18, 0)) (v := (.ref (ad (26, 0)))) 18 C m_18 rfl rfl i_Md (by decide) (List.mem_cons_of_mem _ q_809) rfl d_Md_transfer_80 ?_
          refine x_iload_n 2 C d_Md_transfer_83 rfl rfl ?_
          refine x_lald (i := (26, 0)) (g := mhi) 1 C m_26 rfl rfl w19 d_Md_transfer_84 ?_
          refine x_l2i C d_Md_transfer_85 ?_
          refine x_iconst (v := 2) C d_Md_transfer_86 (by decide) ?_
          refine x_imul C d_Md_transfer_87 ?_
          refine x_iload 0 C d_Md_transfer_88 rfl ?_
          refine x_iadd C d_Md_transfer_90 ?_
          have w22 := hk.1
          have hk := hk.2
          refine x_lald (i := (31, 0)) (g := mm) 1 C m_31 rfl rfl w22 d_Md_transfer_91 ?_
          refine x_lconst (v := 0) C d_Md_transfer_92 (by decide) ?_
          have w23 := hk.1
          have hk := hk.2
          refine x_cv0 (i := (18, 0)) (F := x_F ad cA) (As := [(.int (mo 1 a1.toNatClampNeg)), (.int 1), (.long (mm ((((Int64.toInt32 (mhi ((mo 1 a1.toNatClampNeg).toNatClampNeg))) * 2) + ((Int64.toInt32 (mlo ((mo 1 a1.toNatClampNeg).toNatClampNeg))) + (mo 3 a1.toNatClampNeg))).toNatClampNeg))), (.long 0)]) (rest := []) C k_Md_know q_908 (c_Md_know ok (mo 1 a1.toNatClampNeg) 1 (mm ((((Int64.toInt32 (mhi ((mo 1 a1.toNatClampNeg).toNatClampNeg))) * 2) + ((Int64.toInt32 (mlo ((mo 1 a1.toNatClampNeg).toNatClampNeg))) + (mo 3 a1.toNatClampNeg))).toNatClampNeg)) 0 w23) rfl rfl rfl (Nat.le_of_ble_eq_true rfl) (Nat.le_of_ble_eq_true rfl) m_18 rfl rfl rfl rfl rfl (Nat.le_of_ble_eq_true rfl) d_Md_transfer_93 ⟨Nat.zero_le _, Nat.zero_le _⟩ ?_
          generalize hq24 : s_Md_know mk mlo mhi (mo 1 a1.toNatClampNeg) 1 (mm ((((Int64.toInt32 (mhi ((mo 1 a1.toNatClampNeg).toNatClampNeg))) * 2) + ((Int64.toInt32 (mlo ((mo 1 a1.toNatClampNeg).toNatClampNeg))) + (mo 3 a1.toNatClampNeg))).toNatClampNeg)) 0 = q24
          obtain ⟨mk24, mlo24, mhi24⟩ := q24
          refine x_lets ?_
          dsimp only
          refine x_goto 165 C d_Md_transfer_96 (by decide) ?_
          exact x_vret C hr hlk rfl d_Md_transfer_165
      · have hk := x_okf hk z20
        refine x_loc (lv' := [(0, (.ref (ad (18, 0)))), (2, (.int a2)), (3, (.int (mo 1 a1.toNatClampNeg))), (4, (.int (mo 1 a1.toNatClampNeg))), (5, (.int ((Int64.toInt32 (mlo ((mo 1 a1.toNatClampNeg).toNatClampNeg))) + (mo 3 a1.toNatClampNeg))))]) [3, 5, 2, 1, 0] rfl ?_
        exact cb_Md_transfer_99 ok C hr hlk a1 a2  mk mlo mhi mm (mo 1 a1.toNatClampNeg) (mo 1 a1.toNatClampNeg) ((Int64.toInt32 (mlo ((mo 1 a1.toNatClampNeg).toNatClampNeg))) + (mo 3 a1.toNatClampNeg)) hk
  · have hk := x_okf hk z1
    refine x_aload_n 0 C d_Md_transfer_4 rfl rfl ?_
    refine x_get (i := (18, 0)) (v := (.ref (ad (21, 0)))) 2 C m_18 rfl rfl i_Md (by decide) (List.mem_cons_of_mem _ q_793) rfl d_Md_transfer_5 ?_
    refine x_iload_n 1 C d_Md_transfer_8 rfl rfl ?_
    have w25 := hk.1
    have hk := hk.2
    refine x_iald (i := (21, 0)) (g := mo 2) 0 C m_21 rfl rfl w25 d_Md_transfer_9 ?_
    refine x_goto 19 C d_Md_transfer_10 (by decide) ?_
    refine x_istore_n (lv' := [(3, (.int (mo 2 a1.toNatClampNeg))), (0, (.ref (ad (18, 0)))), (1, (.int a1)), (2, (.int a2))]) C d_Md_transfer_19 rfl (by decide) rfl ?_
    refine x_iload_n 3 C d_Md_transfer_20 rfl rfl ?_
    refine x_if_eq 33 C d_Md_transfer_21 (by decide) (fun z26 => ?_) (fun z26 => ?_)
    · have hk := x_okt hk z26
      refine x_aload_n 1 C d_Md_transfer_33 rfl rfl ?_
      refine x_get (i := (18, 0)) (v := (.ref (ad (21, 0)))) 2 C m_18 rfl rfl i_Md (by decide) (List.mem_cons_of_mem _ q_793) rfl d_Md_transfer_34 ?_
      refine x_iload_n 2 C d_Md_transfer_37 rfl rfl ?_
      refine x_iald (i := (21, 0)) (g := mo 2) 0 C m_21 rfl rfl w25 d_Md_transfer_38 ?_
      refine x_istore (lv' := [(4, (.int (mo 2 a1.toNatClampNeg))), (3, (.int (mo 2 a1.toNatClampNeg))), (0, (.ref (ad (18, 0)))), (1, (.int a1)), (2, (.int a2))]) C d_Md_transfer_39 (by decide) rfl ?_
      refine x_aload_n 2 C d_Md_transfer_41 rfl rfl ?_
      refine x_get (i := (18, 0)) (v := (.ref (ad (25, 0)))) 17 C m_18 rfl rfl i_Md (by decide) (List.mem_cons_of_mem _ q_808) rfl d_Md_transfer_42 ?_
      refine x_iload_n 1 C d_Md_transfer_45 rfl rfl ?_
      have w27 := hk.1
      have hk := hk.2
      refine x_lald (i := (25, 0)) (g := mlo) 1 C m_25 rfl rfl w27 d_Md_transfer_46 ?_
      refine x_l2i C d_Md_transfer_47 ?_
      refine x_aload_n 2 C d_Md_transfer_48 rfl rfl ?_
      refine x_get (i := (18, 0)) (v := (.ref (ad (22, 0)))) 3 C m_18 rfl rfl i_Md (by decide) (List.mem_cons_of_mem _ q_794) rfl d_Md_transfer_49 ?_
      refine x_iload_n 3 C d_Md_transfer_52 rfl rfl ?_
      refine x_iald (i := (22, 0)) (g := mo 3) 0 C m_22 rfl rfl w25 d_Md_transfer_53 ?_
      refine x_iadd C d_Md_transfer_54 ?_
      refine x_istore (lv' := [(5, (.int ((Int64.toInt32 (mlo ((mo 2 a1.toNatClampNeg).toNatClampNeg))) + (mo 3 a1.toNatClampNeg)))), (4, (.int (mo 2 a1.toNatClampNeg))), (3, (.int (mo 2 a1.toNatClampNeg))), (0, (.ref (ad (18, 0)))), (1, (.int a1)), (2, (.int a2))]) C d_Md_transfer_55 (by decide) rfl ?_
      refine x_aload_n 3 C d_Md_transfer_57 rfl rfl ?_
      refine x_get (i := (18, 0)) (v := (.ref (ad (24, 0)))) 16 C m_18 rfl rfl i_Md (by decide) (List.mem_cons_of_mem _ q_807) rfl d_Md_transfer_58 ?_
      refine x_iload_n 2 C d_Md_transfer_61 rfl rfl ?_
      refine x_iald (i := (24, 0)) (g := mk) 0 C m_24 rfl rfl w27 d_Md_transfer_62 ?_
      refine x_iconst (v := 3) C d_Md_transfer_63 (by decide) ?_
      refine x_icmp_ne 99 C d_Md_transfer_64 (by decide) (fun z28 => ?_) (fun z28 => ?_)
      · have hk := x_okt hk z28
        refine x_iload_n 5 C d_Md_transfer_67 rfl rfl ?_
        refine x_if_eq 99 C d_Md_transfer_68 (by decide) (fun z29 => ?_) (fun z29 => ?_)
        · have hk := x_okt hk z29
          refine x_loc (lv' := [(0, (.ref (ad (18, 0)))), (2, (.int a2)), (3, (.int (mo 2 a1.toNatClampNeg))), (4, (.int (mo 2 a1.toNatClampNeg))), (5, (.int ((Int64.toInt32 (mlo ((mo 2 a1.toNatClampNeg).toNatClampNeg))) + (mo 3 a1.toNatClampNeg))))]) [3, 5, 2, 1, 0] rfl ?_
          exact cb_Md_transfer_99 ok C hr hlk a1 a2  mk mlo mhi mm (mo 2 a1.toNatClampNeg) (mo 2 a1.toNatClampNeg) ((Int64.toInt32 (mlo ((mo 2 a1.toNatClampNeg).toNatClampNeg))) + (mo 3 a1.toNatClampNeg)) hk
        · have hk := x_okf hk z29
          refine x_aload_n 3 C d_Md_transfer_71 rfl rfl ?_
          refine x_iload 1 C d_Md_transfer_72 rfl ?_
          refine x_iconst (v := 1) C d_Md_transfer_74 (by decide) ?_
          refine x_aload_n 3 C d_Md_transfer_75 rfl rfl ?_
          refine x_get (i := (18, 0)) (v := (.ref (ad (31, 0)))) 23 C m_18 rfl rfl i_Md (by decide) (List.mem_cons_of_mem _ q_814) rfl d_Md_transfer_76 ?_
          refine x_aload_n 3 C d_Md_transfer_79 rfl rfl ?_
          refine x_get (i := (18, 0)) (v := (.ref (ad (26, 0)))) 18 C m_18 rfl rfl i_Md (by decide) (List.mem_cons_of_mem _ q_809) rfl d_Md_transfer_80 ?_
          refine x_iload_n 2 C d_Md_transfer_83 rfl rfl ?_
          refine x_lald (i := (26, 0)) (g := mhi) 1 C m_26 rfl rfl w27 d_Md_transfer_84 ?_
          refine x_l2i C d_Md_transfer_85 ?_
          refine x_iconst (v := 2) C d_Md_transfer_86 (by decide) ?_
          refine x_imul C d_Md_transfer_87 ?_
          refine x_iload 0 C d_Md_transfer_88 rfl ?_
          refine x_iadd C d_Md_transfer_90 ?_
          have w30 := hk.1
          have hk := hk.2
          refine x_lald (i := (31, 0)) (g := mm) 1 C m_31 rfl rfl w30 d_Md_transfer_91 ?_
          refine x_lconst (v := 0) C d_Md_transfer_92 (by decide) ?_
          have w31 := hk.1
          have hk := hk.2
          refine x_cv0 (i := (18, 0)) (F := x_F ad cA) (As := [(.int (mo 2 a1.toNatClampNeg)), (.int 1), (.long (mm ((((Int64.toInt32 (mhi ((mo 2 a1.toNatClampNeg).toNatClampNeg))) * 2) + ((Int64.toInt32 (mlo ((mo 2 a1.toNatClampNeg).toNatClampNeg))) + (mo 3 a1.toNatClampNeg))).toNatClampNeg))), (.long 0)]) (rest := []) C k_Md_know q_908 (c_Md_know ok (mo 2 a1.toNatClampNeg) 1 (mm ((((Int64.toInt32 (mhi ((mo 2 a1.toNatClampNeg).toNatClampNeg))) * 2) + ((Int64.toInt32 (mlo ((mo 2 a1.toNatClampNeg).toNatClampNeg))) + (mo 3 a1.toNatClampNeg))).toNatClampNeg)) 0 w31) rfl rfl rfl (Nat.le_of_ble_eq_true rfl) (Nat.le_of_ble_eq_true rfl) m_18 rfl rfl rfl rfl rfl (Nat.le_of_ble_eq_true rfl) d_Md_transfer_93 ⟨Nat.zero_le _, Nat.zero_le _⟩ ?_
          generalize hq32 : s_Md_know mk mlo mhi (mo 2 a1.toNatClampNeg) 1 (mm ((((Int64.toInt32 (mhi ((mo 2 a1.toNatClampNeg).toNatClampNeg))) * 2) + ((Int64.toInt32 (mlo ((mo 2 a1.toNatClampNeg).toNatClampNeg))) + (mo 3 a1.toNatClampNeg))).toNatClampNeg)) 0 = q32
          obtain ⟨mk32, mlo32, mhi32⟩ := q32
          refine x_lets ?_
          dsimp only
          refine x_goto 165 C d_Md_transfer_96 (by decide) ?_
          exact x_vret C hr hlk rfl d_Md_transfer_165
      · have hk := x_okf hk z28
        refine x_loc (lv' := [(0, (.ref (ad (18, 0)))), (2, (.int a2)), (3, (.int (mo 2 a1.toNatClampNeg))), (4, (.int (mo 2 a1.toNatClampNeg))), (5, (.int ((Int64.toInt32 (mlo ((mo 2 a1.toNatClampNeg).toNatClampNeg))) + (mo 3 a1.toNatClampNeg))))]) [3, 5, 2, 1, 0] rfl ?_
        exact cb_Md_transfer_99 ok C hr hlk a1 a2  mk mlo mhi mm (mo 2 a1.toNatClampNeg) (mo 2 a1.toNatClampNeg) ((Int64.toInt32 (mlo ((mo 2 a1.toNatClampNeg).toNatClampNeg))) + (mo 3 a1.toNatClampNeg)) hk
    · have hk := x_okf hk z26
      refine x_aload_n 1 C d_Md_transfer_24 rfl rfl ?_
      refine x_get (i := (18, 0)) (v := (.ref (ad (20, 0)))) 1 C m_18 rfl rfl i_Md (by decide) (List.mem_cons_of_mem _ q_792) rfl d_Md_transfer_25 ?_
      refine x_iload_n 2 C d_Md_transfer_28 rfl rfl ?_
      refine x_iald (i := (20, 0)) (g := mo 1) 0 C m_20 rfl rfl w25 d_Md_transfer_29 ?_
      refine x_goto 39 C d_Md_transfer_30 (by decide) ?_
      refine x_istore (lv' := [(4, (.int (mo 1 a1.toNatClampNeg))), (3, (.int (mo 2 a1.toNatClampNeg))), (0, (.ref (ad (18, 0)))), (1, (.int a1)), (2, (.int a2))]) C d_Md_transfer_39 (by decide) rfl ?_
      refine x_aload_n 2 C d_Md_transfer_41 rfl rfl ?_
      refine x_get (i := (18, 0)) (v := (.ref (ad (25, 0)))) 17 C m_18 rfl rfl i_Md (by decide) (List.mem_cons_of_mem _ q_808) rfl d_Md_transfer_42 ?_
      refine x_iload_n 1 C d_Md_transfer_45 rfl rfl ?_
      have w33 := hk.1
      have hk := hk.2
      refine x_lald (i := (25, 0)) (g := mlo) 1 C m_25 rfl rfl w33 d_Md_transfer_46 ?_
      refine x_l2i C d_Md_transfer_47 ?_
      refine x_aload_n 2 C d_Md_transfer_48 rfl rfl ?_
      refine x_get (i := (18, 0)) (v := (.ref (ad (22, 0)))) 3 C m_18 rfl rfl i_Md (by decide) (List.mem_cons_of_mem _ q_794) rfl d_Md_transfer_49 ?_
      refine x_iload_n 3 C d_Md_transfer_52 rfl rfl ?_
      refine x_iald (i := (22, 0)) (g := mo 3) 0 C m_22 rfl rfl w25 d_Md_transfer_53 ?_
      refine x_iadd C d_Md_transfer_54 ?_
      refine x_istore (lv' := [(5, (.int ((Int64.toInt32 (mlo ((mo 2 a1.toNatClampNeg).toNatClampNeg))) + (mo 3 a1.toNatClampNeg)))), (4, (.int (mo 1 a1.toNatClampNeg))), (3, (.int (mo 2 a1.toNatClampNeg))), (0, (.ref (ad (18, 0)))), (1, (.int a1)), (2, (.int a2))]) C d_Md_transfer_55 (by decide) rfl ?_
      refine x_aload_n 3 C d_Md_transfer_57 rfl rfl ?_
      refine x_get (i := (18, 0)) (v := (.ref (ad (24, 0)))) 16 C m_18 rfl rfl i_Md (by decide) (List.mem_cons_of_mem _ q_807) rfl d_Md_transfer_58 ?_
      refine x_iload_n 2 C d_Md_transfer_61 rfl rfl ?_
      refine x_iald (i := (24, 0)) (g := mk) 0 C m_24 rfl rfl w33 d_Md_transfer_62 ?_
      refine x_iconst (v := 3) C d_Md_transfer_63 (by decide) ?_
      refine x_icmp_ne 99 C d_Md_transfer_64 (by decide) (fun z34 => ?_) (fun z34 => ?_)
      · have hk := x_okt hk z34
        refine x_iload_n 5 C d_Md_transfer_67 rfl rfl ?_
        refine x_if_eq 99 C d_Md_transfer_68 (by decide) (fun z35 => ?_) (fun z35 => ?_)
        · have hk := x_okt hk z35
          refine x_loc (lv' := [(0, (.ref (ad (18, 0)))), (2, (.int a2)), (3, (.int (mo 2 a1.toNatClampNeg))), (4, (.int (mo 1 a1.toNatClampNeg))), (5, (.int ((Int64.toInt32 (mlo ((mo 2 a1.toNatClampNeg).toNatClampNeg))) + (mo 3 a1.toNatClampNeg))))]) [3, 5, 2, 1, 0] rfl ?_
          exact cb_Md_transfer_99 ok C hr hlk a1 a2  mk mlo mhi mm (mo 2 a1.toNatClampNeg) (mo 1 a1.toNatClampNeg) ((Int64.toInt32 (mlo ((mo 2 a1.toNatClampNeg).toNatClampNeg))) + (mo 3 a1.toNatClampNeg)) hk
        · have hk := x_okf hk z35
          refine x_aload_n 3 C d_Md_transfer_71 rfl rfl ?_
          refine x_iload 1 C d_Md_transfer_72 rfl ?_
          refine x_iconst (v := 1) C d_Md_transfer_74 (by decide) ?_
          refine x_aload_n 3 C d_Md_transfer_75 rfl rfl ?_
          refine x_get (i := (18, 0)) (v := (.ref (ad (31, 0)))) 23 C m_18 rfl rfl i_Md (by decide) (List.mem_cons_of_mem _ q_814) rfl d_Md_transfer_76 ?_
          refine x_aload_n 3 C d_Md_transfer_79 rfl rfl ?_
          refine x_get (i := (18, 0)) (v := (.ref (ad (26, 0)))) 18 C m_18 rfl rfl i_Md (by decide) (List.mem_cons_of_mem _ q_809) rfl d_Md_transfer_80 ?_
          refine x_iload_n 2 C d_Md_transfer_83 rfl rfl ?_
          refine x_lald (i := (26, 0)) (g := mhi) 1 C m_26 rfl rfl w33 d_Md_transfer_84 ?_
          refine x_l2i C d_Md_transfer_85 ?_
          refine x_iconst (v := 2) C d_Md_transfer_86 (by decide) ?_
          refine x_imul C d_Md_transfer_87 ?_
          refine x_iload 0 C d_Md_transfer_88 rfl ?_
          refine x_iadd C d_Md_transfer_90 ?_
          have w36 := hk.1
          have hk := hk.2
          refine x_lald (i := (31, 0)) (g := mm) 1 C m_31 rfl rfl w36 d_Md_transfer_91 ?_
          refine x_lconst (v := 0) C d_Md_transfer_92 (by decide) ?_
          have w37 := hk.1
          have hk := hk.2
          refine x_cv0 (i := (18, 0)) (F := x_F ad cA) (As := [(.int (mo 1 a1.toNatClampNeg)), (.int 1), (.long (mm ((((Int64.toInt32 (mhi ((mo 2 a1.toNatClampNeg).toNatClampNeg))) * 2) + ((Int64.toInt32 (mlo ((mo 2 a1.toNatClampNeg).toNatClampNeg))) + (mo 3 a1.toNatClampNeg))).toNatClampNeg))), (.long 0)]) (rest := []) C k_Md_know q_908 (c_Md_know ok (mo 1 a1.toNatClampNeg) 1 (mm ((((Int64.toInt32 (mhi ((mo 2 a1.toNatClampNeg).toNatClampNeg))) * 2) + ((Int64.toInt32 (mlo ((mo 2 a1.toNatClampNeg).toNatClampNeg))) + (mo 3 a1.toNatClampNeg))).toNatClampNeg)) 0 w37) rfl rfl rfl (Nat.le_of_ble_eq_true rfl) (Nat.le_of_ble_eq_true rfl) m_18 rfl rfl rfl rfl rfl (Nat.le_of_ble_eq_true rfl) d_Md_transfer_93 ⟨Nat.zero_le _, Nat.zero_le _⟩ ?_
          generalize hq38 : s_Md_know mk mlo mhi (mo 1 a1.toNatClampNeg) 1 (mm ((((Int64.toInt32 (mhi ((mo 2 a1.toNatClampNeg).toNatClampNeg))) * 2) + ((Int64.toInt32 (mlo ((mo 2 a1.toNatClampNeg).toNatClampNeg))) + (mo 3 a1.toNatClampNeg))).toNatClampNeg)) 0 = q38
          obtain ⟨mk38, mlo38, mhi38⟩ := q38
          refine x_lets ?_
          dsimp only
          refine x_goto 165 C d_Md_transfer_96 (by decide) ?_
          exact x_vret C hr hlk rfl d_Md_transfer_165
      · have hk := x_okf hk z34
        refine x_loc (lv' := [(0, (.ref (ad (18, 0)))), (2, (.int a2)), (3, (.int (mo 2 a1.toNatClampNeg))), (4, (.int (mo 1 a1.toNatClampNeg))), (5, (.int ((Int64.toInt32 (mlo ((mo 2 a1.toNatClampNeg).toNatClampNeg))) + (mo 3 a1.toNatClampNeg))))]) [3, 5, 2, 1, 0] rfl ?_
        exact cb_Md_transfer_99 ok C hr hlk a1 a2  mk mlo mhi mm (mo 2 a1.toNatClampNeg) (mo 1 a1.toNatClampNeg) ((Int64.toInt32 (mlo ((mo 2 a1.toNatClampNeg).toNatClampNeg))) + (mo 3 a1.toNatClampNeg)) hk
def lp_Md_callNow_109 (n : Nat) (mi : Nat → Int32) (mk : Nat → Int32) (mlo : Nat → Int64) (mhi : Nat → Int64) (a1 : Int32) (x6 : Int32) : (Nat → Int32) × (Nat → Int32) × (Nat → Int64) × (Nat → Int64) := match n with
  | 0 => (mi, mk, mlo, mhi)
  | n + 1 => (if 4 ≤ x6 then (mi, mk, mlo, mhi) else (x_let (s_Md_know mk mlo mhi x6 0 0 0) fun (mk15, mlo15, mhi15) => lp_Md_callNow_109 n mi mk15 mlo15 mhi15 a1 (x6 + 1)))
def lp_ok_Md_callNow_109 (n : Nat) (mi : Nat → Int32) (mk : Nat → Int32) (mlo : Nat → Int64) (mhi : Nat → Int64) (a1 : Int32) (x6 : Int32) : Prop := match n with
  | 0 => False
  | n + 1 => (if 4 ≤ x6 then True else (k_ok_Md_know mk mlo mhi x6 0 0 0 ∧ (x_let (s_Md_know mk mlo mhi x6 0 0 0) fun (mk15, mlo15, mhi15) => lp_ok_Md_callNow_109 n mi mk15 mlo15 mhi15 a1 (x6 + 1))))
set_option maxHeartbeats 4000000 in
set_option maxRecDepth 100000 in
theorem cl_Md_callNow_109 {l : Launch} {D : va_G} {cA : Nat → ClassId} {ad : x_I → Nat} (ok : x_ok (x_k D cA ad)) {stp : Nat → Nat → Int32} {psz : Int32} {gk : Nat → Nat → Int32} {gl : Nat → Nat → Int64} {gh : Nat → Nat → Int64} {opn : Nat → Int32} {cki : Nat → Int32} {ckl : Nat → Int64} {mp : Nat → Nat → Int64} {rk : Nat → Int32} {rv : Nat → Int64} {ri : Nat → Int32} {chk : Int32} {mo : Nat → Nat → Int32} {ml : Nat → Int64} {pk : Nat → Int32} {ps : Nat → Int32} {pl : Nat → Int64} {ph : Nat → Int64} {mm : Nat → Int64} {out : Nat → Int64} {p : Program} {e : Env} {s : State} {m : MethodId} {args : Array Value} {below : List Frame} {meth : Method} {c : Code} (C : x_C p s m args c b_Md_callNow 7 R_Md (Cond.code y_Md_callNow b_Md_callNow 7 (Option.none : Option Jvm.ClassFile.FieldType) :: x_Wd) (x_k D cA ad)) (hr : meth.sig.returnType = (Option.none : Option Jvm.ClassFile.FieldType)) (hlk : meth.locks = false) (a1 : Int32) : ∀ (n : Nat) (mi : Nat → Int32) (mk : Nat → Int32) (mlo : Nat → Int64) (mhi : Nat → Int64) (x6 : Int32) (hk : lp_ok_Md_callNow_109 n mi mk mlo mhi a1 x6), x_V p l e { frames := 1, cells := 0, slots := 0, locals := 26 } s m args below meth c (x_k D cA ad) 7 0 0 (x_E below (x_k D cA ad) args s 0 0 (x_F ad cA) (fun q : (Nat → Int32) × (Nat → Int32) × (Nat → Int64) × (Nat → Int64) => ((none, ((stp, psz, gk, gl, gh, opn, cki, ckl, mp, rk, rv, ri, chk), (mo, q.1, ml, q.2.1, q.2.2.1, q.2.2.2, pk, ps, pl, ph, mm), out)) : Option Value × x_S)) (lp_Md_callNow_109 n mi mk mlo mhi a1 x6)) (x_F ad cA ((stp, psz, gk, gl, gh, opn, cki, ckl, mp, rk, rv, ri, chk), (mo, mi, ml, mk, mlo, mhi, pk, ps, pl, ph, mm), out)) 109 [(0, (.ref (ad (18, 0)))), (6, (.int x6))] [] := by
  intro n
  induction n with
  | zero => intro mi mk mlo mhi x6 hk; exact False.elim hk
  | succ n ih =>
    intro mi mk mlo mhi x6 hk
    rw [lp_Md_callNow_109]
    rw [lp_ok_Md_callNow_109] at hk
    refine x_iload 1 C d_Md_callNow_109 rfl ?_
    refine x_iconst (v := 4) C d_Md_callNow_111 (by decide) ?_
    refine x_icmp_ge 130 C d_Md_callNow_112 (by decide) (fun z13 => ?_) (fun z13 => ?_)
    · have hk := x_okt hk z13
      exact x_vret C hr hlk rfl d_Md_callNow_130
    · have hk := x_okf hk z13
      refine x_aload_n 0 C d_Md_callNow_115 rfl rfl ?_
      refine x_iload 1 C d_Md_callNow_116 rfl ?_
      refine x_iconst (v := 0) C d_Md_callNow_118 (by decide) ?_
      refine x_lconst (v := 0) C d_Md_callNow_119 (by decide) ?_
      refine x_lconst (v := 0) C d_Md_callNow_120 (by decide) ?_
      have w14 := hk.1
      have hk := hk.2
      refine x_cv0 (i := (18, 0)) (F := x_F ad cA) (As := [(.int x6), (.int 0), (.long 0), (.long 0)]) (rest := []) C k_Md_know q_908 (c_Md_know ok x6 0 0 0 w14) rfl rfl rfl (Nat.le_of_ble_eq_true rfl) (Nat.le_of_ble_eq_true rfl) m_18 rfl rfl rfl rfl rfl (Nat.le_of_ble_eq_true rfl) d_Md_callNow_121 ⟨Nat.zero_le _, Nat.zero_le _⟩ ?_
      generalize hq15 : s_Md_know mk mlo mhi x6 0 0 0 = q15 at hk ⊢
      obtain ⟨mk15, mlo15, mhi15⟩ := q15
      refine x_lets ?_
      have hk := x_lete hk
      dsimp only at hk ⊢
      refine x_iinc (lv' := [(6, (.int (x6 + 1))), (0, (.ref (ad (18, 0))))]) 1 C d_Md_callNow_124 rfl rfl (by decide) rfl ?_
      refine x_goto 109 C d_Md_callNow_127 (by decide) ?_
      refine x_loc (lv' := [(0, (.ref (ad (18, 0)))), (6, (.int (x6 + 1)))]) [1, 0] rfl ?_
      exact ih mi mk15 mlo15 mhi15 (x6 + 1) hk
def bk_Md_callNow_106 (mi : Nat → Int32) (mk : Nat → Int32) (mlo : Nat → Int64) (mhi : Nat → Int64) (a1 : Int32)  : (Nat → Int32) × (Nat → Int32) × (Nat → Int64) × (Nat → Int64) :=
  lp_Md_callNow_109 4 mi mk mlo mhi a1 1
def bk_ok_Md_callNow_106 (mi : Nat → Int32) (mk : Nat → Int32) (mlo : Nat → Int64) (mhi : Nat → Int64) (a1 : Int32)  : Prop :=
  lp_ok_Md_callNow_109 4 mi mk mlo mhi a1 1
set_option maxHeartbeats 4000000 in
set_option maxRecDepth 100000 in
theorem cb_Md_callNow_106 {l : Launch} {D : va_G} {cA : Nat → ClassId} {ad : x_I → Nat} (ok : x_ok (x_k D cA ad)) {stp : Nat → Nat → Int32} {psz : Int32} {gk : Nat → Nat → Int32} {gl : Nat → Nat → Int64} {gh : Nat → Nat → Int64} {opn : Nat → Int32} {cki : Nat → Int32} {ckl : Nat → Int64} {mp : Nat → Nat → Int64} {rk : Nat → Int32} {rv : Nat → Int64} {ri : Nat → Int32} {chk : Int32} {mo : Nat → Nat → Int32} {ml : Nat → Int64} {pk : Nat → Int32} {ps : Nat → Int32} {pl : Nat → Int64} {ph : Nat → Int64} {mm : Nat → Int64} {out : Nat → Int64} {p : Program} {e : Env} {s : State} {m : MethodId} {args : Array Value} {below : List Frame} {meth : Method} {c : Code} (C : x_C p s m args c b_Md_callNow 7 R_Md (Cond.code y_Md_callNow b_Md_callNow 7 (Option.none : Option Jvm.ClassFile.FieldType) :: x_Wd) (x_k D cA ad)) (hr : meth.sig.returnType = (Option.none : Option Jvm.ClassFile.FieldType)) (hlk : meth.locks = false) (a1 : Int32) (mi : Nat → Int32) (mk : Nat → Int32) (mlo : Nat → Int64) (mhi : Nat → Int64)  (hk : bk_ok_Md_callNow_106 mi mk mlo mhi a1) : x_V p l e { frames := 1, cells := 0, slots := 0, locals := 26 } s m args below meth c (x_k D cA ad) 7 0 0 (x_E below (x_k D cA ad) args s 0 0 (x_F ad cA) (fun q : (Nat → Int32) × (Nat → Int32) × (Nat → Int64) × (Nat → Int64) => ((none, ((stp, psz, gk, gl, gh, opn, cki, ckl, mp, rk, rv, ri, chk), (mo, q.1, ml, q.2.1, q.2.2.1, q.2.2.2, pk, ps, pl, ph, mm), out)) : Option Value × x_S)) (bk_Md_callNow_106 mi mk mlo mhi a1)) (x_F ad cA ((stp, psz, gk, gl, gh, opn, cki, ckl, mp, rk, rv, ri, chk), (mo, mi, ml, mk, mlo, mhi, pk, ps, pl, ph, mm), out)) 106 [(0, (.ref (ad (18, 0))))] [] := by
  unfold bk_Md_callNow_106
  unfold bk_ok_Md_callNow_106 at hk
  refine x_iconst (v := 1) C d_Md_callNow_106 (by decide) ?_
  refine x_istore (lv' := [(6, (.int 1)), (0, (.ref (ad (18, 0))))]) C d_Md_callNow_107 (by decide) rfl ?_
  refine x_loc (lv' := [(0, (.ref (ad (18, 0)))), (6, (.int 1))]) [1, 0] rfl ?_
  exact cl_Md_callNow_109 ok C hr hlk a1 4 mi mk mlo mhi 1 hk
def bk_Md_callNow_81 (mi : Nat → Int32) (mk : Nat → Int32) (mlo : Nat → Int64) (mhi : Nat → Int64) (a1 : Int32) (x2 : Int64) (x4 : Int64) : (Nat → Int32) × (Nat → Int32) × (Nat → Int64) × (Nat → Int64) :=
  (if a1 = 2 then (if x2 ≤ x4 then (x_let (s_Md_know mk mlo mhi 0 1 x4 0) fun (mk12, mlo12, mhi12) => bk_Md_callNow_106 mi mk12 mlo12 mhi12 a1) else (x_let (s_Md_know mk mlo mhi 0 1 x2 0) fun (mk17, mlo17, mhi17) => bk_Md_callNow_106 mi mk17 mlo17 mhi17 a1)) else bk_Md_callNow_106 mi mk mlo mhi a1)
def bk_ok_Md_callNow_81 (mi : Nat → Int32) (mk : Nat → Int32) (mlo : Nat → Int64) (mhi : Nat → Int64) (a1 : Int32) (x2 : Int64) (x4 : Int64) : Prop :=
  (if a1 = 2 then (if x2 ≤ x4 then (k_ok_Md_know mk mlo mhi 0 1 x4 0 ∧ (x_let (s_Md_know mk mlo mhi 0 1 x4 0) fun (mk12, mlo12, mhi12) => bk_ok_Md_callNow_106 mi mk12 mlo12 mhi12 a1)) else (k_ok_Md_know mk mlo mhi 0 1 x2 0 ∧ (x_let (s_Md_know mk mlo mhi 0 1 x2 0) fun (mk17, mlo17, mhi17) => bk_ok_Md_callNow_106 mi mk17 mlo17 mhi17 a1))) else bk_ok_Md_callNow_106 mi mk mlo mhi a1)
set_option maxHeartbeats 4000000 in
set_option maxRecDepth 100000 in
theorem cb_Md_callNow_81 {l : Launch} {D : va_G} {cA : Nat → ClassId} {ad : x_I → Nat} (ok : x_ok (x_k D cA ad)) {stp : Nat → Nat → Int32} {psz : Int32} {gk : Nat → Nat → Int32} {gl : Nat → Nat → Int64} {gh : Nat → Nat → Int64} {opn : Nat → Int32} {cki : Nat → Int32} {ckl : Nat → Int64} {mp : Nat → Nat → Int64} {rk : Nat → Int32} {rv : Nat → Int64} {ri : Nat → Int32} {chk : Int32} {mo : Nat → Nat → Int32} {ml : Nat → Int64} {pk : Nat → Int32} {ps : Nat → Int32} {pl : Nat → Int64} {ph : Nat → Int64} {mm : Nat → Int64} {out : Nat → Int64} {p : Program} {e : Env} {s : State} {m : MethodId} {args : Array Value} {below : List Frame} {meth : Method} {c : Code} (C : x_C p s m args c b_Md_callNow 7 R_Md (Cond.code y_Md_callNow b_Md_callNow 7 (Option.none : Option Jvm.ClassFile.FieldType) :: x_Wd) (x_k D cA ad)) (hr : meth.sig.returnType = (Option.none : Option Jvm.ClassFile.FieldType)) (hlk : meth.locks = false) (a1 : Int32) (mi : Nat → Int32) (mk : Nat → Int32) (mlo : Nat → Int64) (mhi : Nat → Int64) (x2 : Int64) (x4 : Int64) (hk : bk_ok_Md_callNow_81 mi mk mlo mhi a1 x2 x4) : x_V p l e { frames := 1, cells := 0, slots := 0, locals := 26 } s m args below meth c (x_k D cA ad) 7 0 0 (x_E below (x_k D cA ad) args s 0 0 (x_F ad cA) (fun q : (Nat → Int32) × (Nat → Int32) × (Nat → Int64) × (Nat → Int64) => ((none, ((stp, psz, gk, gl, gh, opn, cki, ckl, mp, rk, rv, ri, chk), (mo, q.1, ml, q.2.1, q.2.2.1, q.2.2.2, pk, ps, pl, ph, mm), out)) : Option Value × x_S)) (bk_Md_callNow_81 mi mk mlo mhi a1 x2 x4)) (x_F ad cA ((stp, psz, gk, gl, gh, opn, cki, ckl, mp, rk, rv, ri, chk), (mo, mi, ml, mk, mlo, mhi, pk, ps, pl, ph, mm), out)) 81 [(0, (.ref (ad (18, 0)))), (1, (.int a1)), (2, (.long x2)), (4, (.long x4))] [] := by
  unfold bk_Md_callNow_81
  unfold bk_ok_Md_callNow_81 at hk
  refine x_iload_n 1 C d_Md_callNow_81 rfl rfl ?_
  refine x_iconst (v := 2) C d_Md_callNow_82 (by decide) ?_
  refine x_icmp_ne 106 C d_Md_callNow_83 (by decide) (fun z9 => ?_) (fun z9 => ?_)
  · have hk := x_okt hk z9
    refine x_aload_n 0 C d_Md_callNow_86 rfl rfl ?_
    refine x_iconst (v := 0) C d_Md_callNow_87 (by decide) ?_
    refine x_iconst (v := 1) C d_Md_callNow_88 (by decide) ?_
    refine x_lload_n 2 C d_Md_callNow_89 rfl rfl ?_
    refine x_lload 3 C d_Md_callNow_90 rfl ?_
    refine x_lcmp_le 100 C d_Md_callNow_92 d_Md_callNow_93 (by decide) (fun z10 => ?_) (fun z10 => ?_)
    · have hk := x_okt hk z10
      refine x_lload 3 C d_Md_callNow_100 rfl ?_
      refine x_lconst (v := 0) C d_Md_callNow_102 (by decide) ?_
      have w11 := hk.1
      have hk := hk.2
      refine x_cv0 (i := (18, 0)) (F := x_F ad cA) (As := [(.int 0), (.int 1), (.long x4), (.long 0)]) (rest := []) C k_Md_know q_908 (c_Md_know ok 0 1 x4 0 w11) rfl rfl rfl (Nat.le_of_ble_eq_true rfl) (Nat.le_of_ble_eq_true rfl) m_18 rfl rfl rfl rfl rfl (Nat.le_of_ble_eq_true rfl) d_Md_callNow_103 ⟨Nat.zero_le _, Nat.zero_le _⟩ ?_
      generalize hq12 : s_Md_know mk mlo mhi 0 1 x4 0 = q12 at hk ⊢
      obtain ⟨mk12, mlo12, mhi12⟩ := q12
      refine x_lets ?_
      have hk := x_lete hk
      dsimp only at hk ⊢
      refine x_loc (lv' := [(0, (.ref (ad (18, 0))))]) [0] rfl ?_
      exact cb_Md_callNow_106 ok C hr hlk a1  mi mk12 mlo12 mhi12  hk
    · have hk := x_okf hk z10
      refine x_lload_n 2 C d_Md_callNow_96 rfl rfl ?_
      refine x_goto 102 C d_Md_callNow_97 (by decide) ?_
      refine x_lconst (v := 0) C d_Md_callNow_102 (by decide) ?_
      have w16 := hk.1
      have hk := hk.2
      refine x_cv0 (i := (18, 0)) (F := x_F ad cA) (As := [(.int 0), (.int 1), (.long x2), (.long 0)]) (rest := []) C k_Md_know q_908 (c_Md_know ok 0 1 x2 0 w16) rfl rfl rfl (Nat.le_of_ble_eq_true rfl) (Nat.le_of_ble_eq_true rfl) m_18 rfl rfl rfl rfl rfl (Nat.le_of_ble_eq_true rfl) d_Md_callNow_103 ⟨Nat.zero_le _, Nat.zero_le _⟩ ?_
      generalize hq17 : s_Md_know mk mlo mhi 0 1 x2 0 = q17 at hk ⊢
      obtain ⟨mk17, mlo17, mhi17⟩ := q17
      refine x_lets ?_
      have hk := x_lete hk
      dsimp only at hk ⊢
      refine x_loc (lv' := [(0, (.ref (ad (18, 0))))]) [0] rfl ?_
      exact cb_Md_callNow_106 ok C hr hlk a1  mi mk17 mlo17 mhi17  hk
  · have hk := x_okf hk z9
    refine x_loc (lv' := [(0, (.ref (ad (18, 0))))]) [0] rfl ?_
    exact cb_Md_callNow_106 ok C hr hlk a1  mi mk mlo mhi  hk
def bk_Md_callNow_44 (mi : Nat → Int32) (mk : Nat → Int32) (mlo : Nat → Int64) (mhi : Nat → Int64) (a1 : Int32) (x2 : Int64) (x4 : Int64) : (Nat → Int32) × (Nat → Int32) × (Nat → Int64) × (Nat → Int64) :=
  (if a1 = 1 then (if 6 ≤ x2 then (if 6 ≤ x2 then (x_let (s_Md_know mk mlo mhi 0 1 0 0) fun (mk8, mlo8, mhi8) => bk_Md_callNow_81 mi mk8 mlo8 mhi8 a1 x2 x4) else (x_let (s_Md_know mk mlo mhi 0 1 0 x2) fun (mk19, mlo19, mhi19) => bk_Md_callNow_81 mi mk19 mlo19 mhi19 a1 x2 x4)) else (if 6 ≤ x2 then (x_let (s_Md_know mk mlo mhi 0 3 0 0) fun (mk22, mlo22, mhi22) => bk_Md_callNow_81 mi mk22 mlo22 mhi22 a1 x2 x4) else (x_let (s_Md_know mk mlo mhi 0 3 0 x2) fun (mk24, mlo24, mhi24) => bk_Md_callNow_81 mi mk24 mlo24 mhi24 a1 x2 x4))) else bk_Md_callNow_81 mi mk mlo mhi a1 x2 x4)
def bk_ok_Md_callNow_44 (mi : Nat → Int32) (mk : Nat → Int32) (mlo : Nat → Int64) (mhi : Nat → Int64) (a1 : Int32) (x2 : Int64) (x4 : Int64) : Prop :=
  (if a1 = 1 then (if 6 ≤ x2 then (if 6 ≤ x2 then (k_ok_Md_know mk mlo mhi 0 1 0 0 ∧ (x_let (s_Md_know mk mlo mhi 0 1 0 0) fun (mk8, mlo8, mhi8) => bk_ok_Md_callNow_81 mi mk8 mlo8 mhi8 a1 x2 x4)) else (k_ok_Md_know mk mlo mhi 0 1 0 x2 ∧ (x_let (s_Md_know mk mlo mhi 0 1 0 x2) fun (mk19, mlo19, mhi19) => bk_ok_Md_callNow_81 mi mk19 mlo19 mhi19 a1 x2 x4))) else (if 6 ≤ x2 then (k_ok_Md_know mk mlo mhi 0 3 0 0 ∧ (x_let (s_Md_know mk mlo mhi 0 3 0 0) fun (mk22, mlo22, mhi22) => bk_ok_Md_callNow_81 mi mk22 mlo22 mhi22 a1 x2 x4)) else (k_ok_Md_know mk mlo mhi 0 3 0 x2 ∧ (x_let (s_Md_know mk mlo mhi 0 3 0 x2) fun (mk24, mlo24, mhi24) => bk_ok_Md_callNow_81 mi mk24 mlo24 mhi24 a1 x2 x4)))) else bk_ok_Md_callNow_81 mi mk mlo mhi a1 x2 x4)
set_option maxHeartbeats 4000000 in
set_option maxRecDepth 100000 in
theorem cb_Md_callNow_44 {l : Launch} {D : va_G} {cA : Nat → ClassId} {ad : x_I → Nat} (ok : x_ok (x_k D cA ad)) {stp : Nat → Nat → Int32} {psz : Int32} {gk : Nat → Nat → Int32} {gl : Nat → Nat → Int64} {gh : Nat → Nat → Int64} {opn : Nat → Int32} {cki : Nat → Int32} {ckl : Nat → Int64} {mp : Nat → Nat → Int64} {rk : Nat → Int32} {rv : Nat → Int64} {ri : Nat → Int32} {chk : Int32} {mo : Nat → Nat → Int32} {ml : Nat → Int64} {pk : Nat → Int32} {ps : Nat → Int32} {pl : Nat → Int64} {ph : Nat → Int64} {mm : Nat → Int64} {out : Nat → Int64} {p : Program} {e : Env} {s : State} {m : MethodId} {args : Array Value} {below : List Frame} {meth : Method} {c : Code} (C : x_C p s m args c b_Md_callNow 7 R_Md (Cond.code y_Md_callNow b_Md_callNow 7 (Option.none : Option Jvm.ClassFile.FieldType) :: x_Wd) (x_k D cA ad)) (hr : meth.sig.returnType = (Option.none : Option Jvm.ClassFile.FieldType)) (hlk : meth.locks = false) (a1 : Int32) (mi : Nat → Int32) (mk : Nat → Int32) (mlo : Nat → Int64) (mhi : Nat → Int64) (x2 : Int64) (x4 : Int64) (hk : bk_ok_Md_callNow_44 mi mk mlo mhi a1 x2 x4) : x_V p l e { frames := 1, cells := 0, slots := 0, locals := 26 } s m args below meth c (x_k D cA ad) 7 0 0 (x_E below (x_k D cA ad) args s 0 0 (x_F ad cA) (fun q : (Nat → Int32) × (Nat → Int32) × (Nat → Int64) × (Nat → Int64) => ((none, ((stp, psz, gk, gl, gh, opn, cki, ckl, mp, rk, rv, ri, chk), (mo, q.1, ml, q.2.1, q.2.2.1, q.2.2.2, pk, ps, pl, ph, mm), out)) : Option Value × x_S)) (bk_Md_callNow_44 mi mk mlo mhi a1 x2 x4)) (x_F ad cA ((stp, psz, gk, gl, gh, opn, cki, ckl, mp, rk, rv, ri, chk), (mo, mi, ml, mk, mlo, mhi, pk, ps, pl, ph, mm), out)) 44 [(0, (.ref (ad (18, 0)))), (1, (.int a1)), (2, (.long x2)), (4, (.long x4))] [] := by
  unfold bk_Md_callNow_44
  unfold bk_ok_Md_callNow_44 at hk
  refine x_iload_n 1 C d_Md_callNow_44 rfl rfl ?_
  refine x_iconst (v := 1) C d_Md_callNow_45 (by decide) ?_
  refine x_icmp_ne 81 C d_Md_callNow_46 (by decide) (fun z4 => ?_) (fun z4 => ?_)
  · have hk := x_okt hk z4
    refine x_aload_n 0 C d_Md_callNow_49 rfl rfl ?_
    refine x_iconst (v := 0) C d_Md_callNow_50 (by decide) ?_
    refine x_lload_n 2 C d_Md_callNow_51 rfl rfl ?_
    refine x_ldc2 (v := 6) C (List.mem_cons_of_mem _ q_1048) d_Md_callNow_52 ?_
    refine x_lcmp_ge 63 C d_Md_callNow_55 d_Md_callNow_56 (by decide) (fun z5 => ?_) (fun z5 => ?_)
    · have hk := x_okt hk z5
      refine x_iconst (v := 1) C d_Md_callNow_63 (by decide) ?_
      refine x_lconst (v := 0) C d_Md_callNow_64 (by decide) ?_
      refine x_lload_n 2 C d_Md_callNow_65 rfl rfl ?_
      refine x_ldc2 (v := 6) C (List.mem_cons_of_mem _ q_1048) d_Md_callNow_66 ?_
      refine x_lcmp_ge 77 C d_Md_callNow_69 d_Md_callNow_70 (by decide) (fun z6 => ?_) (fun z6 => ?_)
      · have hk := x_okt hk z6
        refine x_lconst (v := 0) C d_Md_callNow_77 (by decide) ?_
        have w7 := hk.1
        have hk := hk.2
        refine x_cv0 (i := (18, 0)) (F := x_F ad cA) (As := [(.int 0), (.int 1), (.long 0), (.long 0)]) (rest := []) C k_Md_know q_908 (c_Md_know ok 0 1 0 0 w7) rfl rfl rfl (Nat.le_of_ble_eq_true rfl) (Nat.le_of_ble_eq_true rfl) m_18 rfl rfl rfl rfl rfl (Nat.le_of_ble_eq_true rfl) d_Md_callNow_78 ⟨Nat.zero_le _, Nat.zero_le _⟩ ?_
        generalize hq8 : s_Md_know mk mlo mhi 0 1 0 0 = q8 at hk ⊢
        obtain ⟨mk8, mlo8, mhi8⟩ := q8
        refine x_lets ?_
        have hk := x_lete hk
        dsimp only at hk ⊢
        refine x_loc (lv' := [(0, (.ref (ad (18, 0)))), (1, (.int a1)), (2, (.long x2)), (4, (.long x4))]) [0, 1, 2, 3] rfl ?_
        exact cb_Md_callNow_81 ok C hr hlk a1  mi mk8 mlo8 mhi8 x2 x4 hk
      · have hk := x_okf hk z6
        refine x_lload_n 2 C d_Md_callNow_73 rfl rfl ?_
        refine x_goto 78 C d_Md_callNow_74 (by decide) ?_
        have w18 := hk.1
        have hk := hk.2
        refine x_cv0 (i := (18, 0)) (F := x_F ad cA) (As := [(.int 0), (.int 1), (.long 0), (.long x2)]) (rest := []) C k_Md_know q_908 (c_Md_know ok 0 1 0 x2 w18) rfl rfl rfl (Nat.le_of_ble_eq_true rfl) (Nat.le_of_ble_eq_true rfl) m_18 rfl rfl rfl rfl rfl (Nat.le_of_ble_eq_true rfl) d_Md_callNow_78 ⟨Nat.zero_le _, Nat.zero_le _⟩ ?_
        generalize hq19 : s_Md_know mk mlo mhi 0 1 0 x2 = q19 at hk ⊢
        obtain ⟨mk19, mlo19, mhi19⟩ := q19
        refine x_lets ?_
        have hk := x_lete hk
        dsimp only at hk ⊢
        refine x_loc (lv' := [(0, (.ref (ad (18, 0)))), (1, (.int a1)), (2, (.long x2)), (4, (.long x4))]) [0, 1, 2, 3] rfl ?_
        exact cb_Md_callNow_81 ok C hr hlk a1  mi mk19 mlo19 mhi19 x2 x4 hk
    · have hk := x_okf hk z5
      refine x_iconst (v := 3) C d_Md_callNow_59 (by decide) ?_
      refine x_goto 64 C d_Md_callNow_60 (by decide) ?_
      refine x_lconst (v := 0) C d_Md_callNow_64 (by decide) ?_
      refine x_lload_n 2 C d_Md_callNow_65 rfl rfl ?_
      refine x_ldc2 (v := 6) C (List.mem_cons_of_mem _ q_1048) d_Md_callNow_66 ?_
      refine x_lcmp_ge 77 C d_Md_callNow_69 d_Md_callNow_70 (by decide) (fun z20 => ?_) (fun z20 => ?_)
      · have hk := x_okt hk z20
        refine x_lconst (v := 0) C d_Md_callNow_77 (by decide) ?_
        have w21 := hk.1
        have hk := hk.2
        refine x_cv0 (i := (18, 0)) (F := x_F ad cA) (As := [(.int 0), (.int 3), (.long 0), (.long 0)]) (rest := []) C k_Md_know q_908 (c_Md_know ok 0 3 0 0 w21) rfl rfl rfl (Nat.le_of_ble_eq_true rfl) (Nat.le_of_ble_eq_true rfl) m_18 rfl rfl rfl rfl rfl (Nat.le_of_ble_eq_true rfl) d_Md_callNow_78 ⟨Nat.zero_le _, Nat.zero_le _⟩ ?_
        generalize hq22 : s_Md_know mk mlo mhi 0 3 0 0 = q22 at hk ⊢
        obtain ⟨mk22, mlo22, mhi22⟩ := q22
        refine x_lets ?_
        have hk := x_lete hk
        dsimp only at hk ⊢
        refine x_loc (lv' := [(0, (.ref (ad (18, 0)))), (1, (.int a1)), (2, (.long x2)), (4, (.long x4))]) [0, 1, 2, 3] rfl ?_
        exact cb_Md_callNow_81 ok C hr hlk a1  mi mk22 mlo22 mhi22 x2 x4 hk
      · have hk := x_okf hk z20
        refine x_lload_n 2 C d_Md_callNow_73 rfl rfl ?_
        refine x_goto 78 C d_Md_callNow_74 (by decide) ?_
        have w23 := hk.1
        have hk := hk.2
        refine x_cv0 (i := (18, 0)) (F := x_F ad cA) (As := [(.int 0), (.int 3), (.long 0), (.long x2)]) (rest := []) C k_Md_know q_908 (c_Md_know ok 0 3 0 x2 w23) rfl rfl rfl (Nat.le_of_ble_eq_true rfl) (Nat.le_of_ble_eq_true rfl) m_18 rfl rfl rfl rfl rfl (Nat.le_of_ble_eq_true rfl) d_Md_callNow_78 ⟨Nat.zero_le _, Nat.zero_le _⟩ ?_
        generalize hq24 : s_Md_know mk mlo mhi 0 3 0 x2 = q24 at hk ⊢
        obtain ⟨mk24, mlo24, mhi24⟩ := q24
        refine x_lets ?_
        have hk := x_lete hk
        dsimp only at hk ⊢
        refine x_loc (lv' := [(0, (.ref (ad (18, 0)))), (1, (.int a1)), (2, (.long x2)), (4, (.long x4))]) [0, 1, 2, 3] rfl ?_
        exact cb_Md_callNow_81 ok C hr hlk a1  mi mk24 mlo24 mhi24 x2 x4 hk
  · have hk := x_okf hk z4
    refine x_loc (lv' := [(0, (.ref (ad (18, 0)))), (1, (.int a1)), (2, (.long x2)), (4, (.long x4))]) [0, 1, 2, 3] rfl ?_
    exact cb_Md_callNow_81 ok C hr hlk a1  mi mk mlo mhi x2 x4 hk
def s_Md_callNow (mi : Nat → Int32) (mk : Nat → Int32) (mlo : Nat → Int64) (mhi : Nat → Int64) (a1 : Int32) : (Nat → Int32) × (Nat → Int32) × (Nat → Int64) × (Nat → Int64) :=
  (if a1 = 0 then (x_let (s_Md_know mk mlo mhi 0 1 (Int32.toInt64 ((mi 5) - (mi 5) / 100 * 100)) 0) fun (mk3, mlo3, mhi3) => bk_Md_callNow_44 (upd mi 5 ((mi 5) + 1)) mk3 mlo3 mhi3 a1 (mlo (Int32.toNatClampNeg 1)) (mlo (Int32.toNatClampNeg 2))) else bk_Md_callNow_44 mi mk mlo mhi a1 (mlo (Int32.toNatClampNeg 1)) (mlo (Int32.toNatClampNeg 2)))
def k_ok_Md_callNow (mi : Nat → Int32) (mk : Nat → Int32) (mlo : Nat → Int64) (mhi : Nat → Int64) (a1 : Int32) : Prop :=
  (if a1 = 0 then (k_ok_Md_know mk mlo mhi 0 1 (Int32.toInt64 ((mi 5) - (mi 5) / 100 * 100)) 0 ∧ (x_let (s_Md_know mk mlo mhi 0 1 (Int32.toInt64 ((mi 5) - (mi 5) / 100 * 100)) 0) fun (mk3, mlo3, mhi3) => bk_ok_Md_callNow_44 (upd mi 5 ((mi 5) + 1)) mk3 mlo3 mhi3 a1 (mlo (Int32.toNatClampNeg 1)) (mlo (Int32.toNatClampNeg 2)))) else bk_ok_Md_callNow_44 mi mk mlo mhi a1 (mlo (Int32.toNatClampNeg 1)) (mlo (Int32.toNatClampNeg 2)))
set_option maxHeartbeats 4000000 in
set_option maxRecDepth 100000 in
theorem c_Md_callNow {l : Launch} {D : va_G} {cA : Nat → ClassId} {ad : x_I → Nat} (ok : x_ok (x_k D cA ad)) {stp : Nat → Nat → Int32} {psz : Int32} {gk : Nat → Nat → Int32} {gl : Nat → Nat → Int64} {gh : Nat → Nat → Int64} {opn : Nat → Int32} {cki : Nat → Int32} {ckl : Nat → Int64} {mp : Nat → Nat → Int64} {rk : Nat → Int32} {rv : Nat → Int64} {ri : Nat → Int32} {chk : Int32} {mo : Nat → Nat → Int32} {mi : Nat → Int32} {ml : Nat → Int64} {mk : Nat → Int32} {mlo : Nat → Int64} {mhi : Nat → Int64} {pk : Nat → Int32} {ps : Nat → Int32} {pl : Nat → Int64} {ph : Nat → Int64} {mm : Nat → Int64} {out : Nat → Int64} (a1 : Int32) (hk : k_ok_Md_callNow mi mk mlo mhi a1) : x_M l y_Md_callNow (Cond.code y_Md_callNow b_Md_callNow 7 (Option.none : Option Jvm.ClassFile.FieldType) :: x_Wd) { frames := 1, cells := 0, slots := 0, locals := 26 } (x_k D cA ad) (x_F ad cA) [(.ref (ad (18, 0))), (.int a1)] ((stp, psz, gk, gl, gh, opn, cki, ckl, mp, rk, rv, ri, chk), (mo, mi, ml, mk, mlo, mhi, pk, ps, pl, ph, mm), out) ((fun q : (Nat → Int32) × (Nat → Int32) × (Nat → Int64) × (Nat → Int64) => ((none, ((stp, psz, gk, gl, gh, opn, cki, ckl, mp, rk, rv, ri, chk), (mo, q.1, ml, q.2.1, q.2.2.1, q.2.2.2, pk, ps, pl, ph, mm), out)) : Option Value × x_S)) (s_Md_callNow mi mk mlo mhi a1)) 0 0 := by
  refine x_start (κ := x_k D cA ad) (cc := b_Md_callNow) (F := x_F ad cA) (wr := (fun q : (Nat → Int32) × (Nat → Int32) × (Nat → Int64) × (Nat → Int64) => ((none, ((stp, psz, gk, gl, gh, opn, cki, ckl, mp, rk, rv, ri, chk), (mo, q.1, ml, q.2.1, q.2.2.1, q.2.2.2, pk, ps, pl, ph, mm), out)) : Option Value × x_S))) (q := s_Md_callNow mi mk mlo mhi a1) (ret := (Option.none : Option Jvm.ClassFile.FieldType)) (lv0 := [(0, (.ref (ad (18, 0)))), (1, (.int a1))]) ok (by decide) rfl (Nat.le_of_ble_eq_true rfl) rfl ?_
  intro p e s m below meth c C hr hlk
  unfold s_Md_callNow
  unfold k_ok_Md_callNow at hk
  refine x_aload_n 0 C d_Md_callNow_0 rfl rfl ?_
  refine x_get (i := (18, 0)) (v := (.ref (ad (25, 0)))) 17 C m_18 rfl rfl i_Md (by decide) (List.mem_cons_of_mem _ q_808) rfl d_Md_callNow_1 ?_
  refine x_iconst (v := 1) C d_Md_callNow_4 (by decide) ?_
  refine x_lald (i := (25, 0)) (g := mlo) 1 C m_25 rfl rfl (x_vin (by decide)) d_Md_callNow_5 ?_
  refine x_lstore_n (lv' := [(2, (.long (mlo (Int32.toNatClampNeg 1)))), (0, (.ref (ad (18, 0)))), (1, (.int a1))]) C d_Md_callNow_6 rfl (by decide) rfl ?_
  refine x_aload_n 1 C d_Md_callNow_7 rfl rfl ?_
  refine x_get (i := (18, 0)) (v := (.ref (ad (25, 0)))) 17 C m_18 rfl rfl i_Md (by decide) (List.mem_cons_of_mem _ q_808) rfl d_Md_callNow_8 ?_
  refine x_iconst (v := 2) C d_Md_callNow_11 (by decide) ?_
  refine x_lald (i := (25, 0)) (g := mlo) 1 C m_25 rfl rfl (x_vin (by decide)) d_Md_callNow_12 ?_
  refine x_lstore (lv' := [(4, (.long (mlo (Int32.toNatClampNeg 2)))), (2, (.long (mlo (Int32.toNatClampNeg 1)))), (0, (.ref (ad (18, 0)))), (1, (.int a1))]) C d_Md_callNow_13 (by decide) rfl ?_
  refine x_iload_n 3 C d_Md_callNow_15 rfl rfl ?_
  refine x_if_ne 44 C d_Md_callNow_16 (by decide) (fun z1 => ?_) (fun z1 => ?_)
  · have hk := x_okt hk z1
    refine x_aload_n 2 C d_Md_callNow_19 rfl rfl ?_
    refine x_iconst (v := 0) C d_Md_callNow_20 (by decide) ?_
    refine x_iconst (v := 1) C d_Md_callNow_21 (by decide) ?_
    refine x_aload_n 2 C d_Md_callNow_22 rfl rfl ?_
    refine x_get (i := (18, 0)) (v := (.int (mi 5))) 10 C m_18 rfl rfl i_Md (by decide) (List.mem_cons_of_mem _ q_801) rfl d_Md_callNow_23 ?_
    refine x_bipush (v := 100) C d_Md_callNow_26 (by decide) ?_
    refine x_irem C (by decide) d_Md_callNow_28 ?_
    refine x_i2l C d_Md_callNow_29 ?_
    refine x_lconst (v := 0) C d_Md_callNow_30 (by decide) ?_
    have w2 := hk.1
    have hk := hk.2
    refine x_cv0 (i := (18, 0)) (F := x_F ad cA) (As := [(.int 0), (.int 1), (.long (Int32.toInt64 ((mi 5) - (mi 5) / 100 * 100))), (.long 0)]) (rest := []) C k_Md_know q_908 (c_Md_know ok 0 1 (Int32.toInt64 ((mi 5) - (mi 5) / 100 * 100)) 0 w2) rfl rfl rfl (Nat.le_of_ble_eq_true rfl) (Nat.le_of_ble_eq_true rfl) m_18 rfl rfl rfl rfl rfl (Nat.le_of_ble_eq_true rfl) d_Md_callNow_31 ⟨Nat.zero_le _, Nat.zero_le _⟩ ?_
    generalize hq3 : s_Md_know mk mlo mhi 0 1 (Int32.toInt64 ((mi 5) - (mi 5) / 100 * 100)) 0 = q3 at hk ⊢
    obtain ⟨mk3, mlo3, mhi3⟩ := q3
    refine x_lets ?_
    have hk := x_lete hk
    dsimp only at hk ⊢
    refine x_aload_n 2 C d_Md_callNow_34 rfl rfl ?_
    refine x_dup C d_Md_callNow_35 rfl ?_
    refine x_get (i := (18, 0)) (v := (.int (mi 5))) 10 C m_18 rfl rfl i_Md (by decide) (List.mem_cons_of_mem _ q_801) rfl d_Md_callNow_36 ?_
    refine x_iconst (v := 1) C d_Md_callNow_39 (by decide) ?_
    refine x_iadd C d_Md_callNow_40 ?_
    refine x_put (i := (18, 0)) (f' := x_F ad cA ((stp, psz, gk, gl, gh, opn, cki, ckl, mp, rk, rv, ri, chk), (mo, upd mi 5 ((mi 5) + 1), ml, mk3, mlo3, mhi3, pk, ps, pl, ph, mm), out)) 10 C m_18 rfl rfl i_Md t_Md_ok n_Md (by decide) (List.mem_cons_of_mem _ q_801) rfl rfl rfl (Nat.le_of_ble_eq_true rfl) d_Md_callNow_41 e_mi5 ?_
    refine x_loc (lv' := [(0, (.ref (ad (18, 0)))), (1, (.int a1)), (2, (.long (mlo (Int32.toNatClampNeg 1)))), (4, (.long (mlo (Int32.toNatClampNeg 2))))]) [2, 3, 1, 0] rfl ?_
    exact cb_Md_callNow_44 ok C hr hlk a1  (upd mi 5 ((mi 5) + 1)) mk3 mlo3 mhi3 (mlo (Int32.toNatClampNeg 1)) (mlo (Int32.toNatClampNeg 2)) hk
  · have hk := x_okf hk z1
    refine x_loc (lv' := [(0, (.ref (ad (18, 0)))), (1, (.int a1)), (2, (.long (mlo (Int32.toNatClampNeg 1)))), (4, (.long (mlo (Int32.toNatClampNeg 2))))]) [2, 3, 1, 0] rfl ?_
    exact cb_Md_callNow_44 ok C hr hlk a1  mi mk mlo mhi (mlo (Int32.toNatClampNeg 1)) (mlo (Int32.toNatClampNeg 2)) hk
def bk_Md_run_243 (K : (Nat → Int32) → (Nat → Int32) → (Nat → Int64) → (Nat → Int64) → (Nat → Int64) → Int32 → Int64 × (Nat → Int32) × (Nat → Int32) × (Nat → Int64) × (Nat → Int64) × (Nat → Int64)) (mo : Nat → Nat → Int32) (mi : Nat → Int32) (mk : Nat → Int32) (mlo : Nat → Int64) (mhi : Nat → Int64) (mm : Nat → Int64) (a1 : Int64) (x5 : Int32) : Int64 × (Nat → Int32) × (Nat → Int32) × (Nat → Int64) × (Nat → Int64) × (Nat → Int64) :=
  K (upd mi 4 ((mi 4) + 1)) mk mlo mhi mm x5
def bk_ok_Md_run_243 (KO : (Nat → Int32) → (Nat → Int32) → (Nat → Int64) → (Nat → Int64) → (Nat → Int64) → Int32 → Prop) (mo : Nat → Nat → Int32) (mi : Nat → Int32) (mk : Nat → Int32) (mlo : Nat → Int64) (mhi : Nat → Int64) (mm : Nat → Int64) (a1 : Int64) (x5 : Int32) : Prop :=
  KO (upd mi 4 ((mi 4) + 1)) mk mlo mhi mm x5
set_option maxHeartbeats 4000000 in
set_option maxRecDepth 100000 in
theorem cb_Md_run_243 {l : Launch} {D : va_G} {cA : Nat → ClassId} {ad : x_I → Nat} (ok : x_ok (x_k D cA ad)) {stp : Nat → Nat → Int32} {psz : Int32} {gk : Nat → Nat → Int32} {gl : Nat → Nat → Int64} {gh : Nat → Nat → Int64} {opn : Nat → Int32} {cki : Nat → Int32} {ckl : Nat → Int64} {mp : Nat → Nat → Int64} {rk : Nat → Int32} {rv : Nat → Int64} {ri : Nat → Int32} {chk : Int32} {mo : Nat → Nat → Int32} {ml : Nat → Int64} {pk : Nat → Int32} {ps : Nat → Int32} {pl : Nat → Int64} {ph : Nat → Int64} {out : Nat → Int64} {p : Program} {e : Env} {s : State} {m : MethodId} {args : Array Value} {below : List Frame} {meth : Method} {c : Code} (C : x_C p s m args c b_Md_run 6 R_Md (Cond.code y_Md_run b_Md_run 6 (Option.some Jvm.ClassFile.FieldType.long) :: x_Wd) (x_k D cA ad)) (hr : meth.sig.returnType = (Option.some Jvm.ClassFile.FieldType.long)) (hlk : meth.locks = false) (a1 : Int64) (K : (Nat → Int32) → (Nat → Int32) → (Nat → Int64) → (Nat → Int64) → (Nat → Int64) → Int32 → Int64 × (Nat → Int32) × (Nat → Int32) × (Nat → Int64) × (Nat → Int64) × (Nat → Int64)) (KO : (Nat → Int32) → (Nat → Int32) → (Nat → Int64) → (Nat → Int64) → (Nat → Int64) → Int32 → Prop) (ih : ∀ (mi : Nat → Int32) (mk : Nat → Int32) (mlo : Nat → Int64) (mhi : Nat → Int64) (mm : Nat → Int64) (x3 : Int32), KO mi mk mlo mhi mm x3 → x_V p l e { frames := 3, cells := 0, slots := 0, locals := 73 } s m args below meth c (x_k D cA ad) 6 0 0 (x_E below (x_k D cA ad) args s 0 0 (x_F ad cA) (fun q : Int64 × (Nat → Int32) × (Nat → Int32) × (Nat → Int64) × (Nat → Int64) × (Nat → Int64) => ((some (.long (q.1)), ((stp, psz, gk, gl, gh, opn, cki, ckl, mp, rk, rv, ri, chk), (mo, q.2.1, ml, q.2.2.1, q.2.2.2.1, q.2.2.2.2.1, pk, ps, pl, ph, q.2.2.2.2.2), out)) : Option Value × x_S)) (K mi mk mlo mhi mm x3)) (x_F ad cA ((stp, psz, gk, gl, gh, opn, cki, ckl, mp, rk, rv, ri, chk), (mo, mi, ml, mk, mlo, mhi, pk, ps, pl, ph, mm), out)) 70 [(0, (.ref (ad (18, 0)))), (3, (.int x3))] []) (mi : Nat → Int32) (mk : Nat → Int32) (mlo : Nat → Int64) (mhi : Nat → Int64) (mm : Nat → Int64) (x5 : Int32) (hk : bk_ok_Md_run_243 KO mo mi mk mlo mhi mm a1 x5) : x_V p l e { frames := 3, cells := 0, slots := 0, locals := 73 } s m args below meth c (x_k D cA ad) 6 0 0 (x_E below (x_k D cA ad) args s 0 0 (x_F ad cA) (fun q : Int64 × (Nat → Int32) × (Nat → Int32) × (Nat → Int64) × (Nat → Int64) × (Nat → Int64) => ((some (.long (q.1)), ((stp, psz, gk, gl, gh, opn, cki, ckl, mp, rk, rv, ri, chk), (mo, q.2.1, ml, q.2.2.1, q.2.2.2.1, q.2.2.2.2.1, pk, ps, pl, ph, q.2.2.2.2.2), out)) : Option Value × x_S)) (bk_Md_run_243 K mo mi mk mlo mhi mm a1 x5)) (x_F ad cA ((stp, psz, gk, gl, gh, opn, cki, ckl, mp, rk, rv, ri, chk), (mo, mi, ml, mk, mlo, mhi, pk, ps, pl, ph, mm), out)) 243 [(0, (.ref (ad (18, 0)))), (5, (.int x5))] [] := by
  unfold bk_Md_run_243
  unfold bk_ok_Md_run_243 at hk
  refine x_iload 1 C d_Md_run_243 rfl ?_
  refine x_istore_n (lv' := [(3, (.int x5)), (0, (.ref (ad (18, 0)))), (5, (.int x5))]) C d_Md_run_245 rfl (by decide) rfl ?_
  refine x_aload_n 1 C d_Md_run_246 rfl rfl ?_
  refine x_dup C d_Md_run_247 rfl ?_
  refine x_get (i := (18, 0)) (v := (.int (mi 4))) 9 C m_18 rfl rfl i_Md (by decide) (List.mem_cons_of_mem _ q_800) rfl d_Md_run_248 ?_
  refine x_iconst (v := 1) C d_Md_run_251 (by decide) ?_
  refine x_iadd C d_Md_run_252 ?_
  refine x_put (i := (18, 0)) (f' := x_F ad cA ((stp, psz, gk, gl, gh, opn, cki, ckl, mp, rk, rv, ri, chk), (mo, upd mi 4 ((mi 4) + 1), ml, mk, mlo, mhi, pk, ps, pl, ph, mm), out)) 9 C m_18 rfl rfl i_Md t_Md_ok n_Md (by decide) (List.mem_cons_of_mem _ q_800) rfl rfl rfl (Nat.le_of_ble_eq_true rfl) d_Md_run_253 e_mi4 ?_
  refine x_goto 70 C d_Md_run_256 (by decide) ?_
  refine x_loc (lv' := [(0, (.ref (ad (18, 0)))), (3, (.int x5))]) [1, 0] rfl ?_
  exact ih (upd mi 4 ((mi 4) + 1)) mk mlo mhi mm x5 hk
def bk_Md_run_226 (K : (Nat → Int32) → (Nat → Int32) → (Nat → Int64) → (Nat → Int64) → (Nat → Int64) → Int32 → Int64 × (Nat → Int32) × (Nat → Int32) × (Nat → Int64) × (Nat → Int64) × (Nat → Int64)) (mo : Nat → Nat → Int32) (mi : Nat → Int32) (mk : Nat → Int32) (mlo : Nat → Int64) (mhi : Nat → Int64) (mm : Nat → Int64) (a1 : Int64) (x3 : Int32) (x4 : Int32) (x5 : Int32) : Int64 × (Nat → Int32) × (Nat → Int32) × (Nat → Int64) × (Nat → Int64) × (Nat → Int64) :=
  (if x4 = 16 then (x_let (s_Md_callNow mi mk mlo mhi (mo 3 x3.toNatClampNeg)) fun (mi27, mk27, mlo27, mhi27) => bk_Md_run_243 K mo mi27 mk27 mlo27 mhi27 mm a1 x5) else bk_Md_run_243 K mo mi mk mlo mhi mm a1 x5)
def bk_ok_Md_run_226 (KO : (Nat → Int32) → (Nat → Int32) → (Nat → Int64) → (Nat → Int64) → (Nat → Int64) → Int32 → Prop) (mo : Nat → Nat → Int32) (mi : Nat → Int32) (mk : Nat → Int32) (mlo : Nat → Int64) (mhi : Nat → Int64) (mm : Nat → Int64) (a1 : Int64) (x3 : Int32) (x4 : Int32) (x5 : Int32) : Prop :=
  (if x4 = 16 then (vp_in x3 24 ∧ (k_ok_Md_callNow mi mk mlo mhi (mo 3 x3.toNatClampNeg) ∧ (x_let (s_Md_callNow mi mk mlo mhi (mo 3 x3.toNatClampNeg)) fun (mi27, mk27, mlo27, mhi27) => bk_ok_Md_run_243 KO mo mi27 mk27 mlo27 mhi27 mm a1 x5))) else bk_ok_Md_run_243 KO mo mi mk mlo mhi mm a1 x5)
set_option maxHeartbeats 4000000 in
set_option maxRecDepth 100000 in
theorem cb_Md_run_226 {l : Launch} {D : va_G} {cA : Nat → ClassId} {ad : x_I → Nat} (ok : x_ok (x_k D cA ad)) {stp : Nat → Nat → Int32} {psz : Int32} {gk : Nat → Nat → Int32} {gl : Nat → Nat → Int64} {gh : Nat → Nat → Int64} {opn : Nat → Int32} {cki : Nat → Int32} {ckl : Nat → Int64} {mp : Nat → Nat → Int64} {rk : Nat → Int32} {rv : Nat → Int64} {ri : Nat → Int32} {chk : Int32} {mo : Nat → Nat → Int32} {ml : Nat → Int64} {pk : Nat → Int32} {ps : Nat → Int32} {pl : Nat → Int64} {ph : Nat → Int64} {out : Nat → Int64} {p : Program} {e : Env} {s : State} {m : MethodId} {args : Array Value} {below : List Frame} {meth : Method} {c : Code} (C : x_C p s m args c b_Md_run 6 R_Md (Cond.code y_Md_run b_Md_run 6 (Option.some Jvm.ClassFile.FieldType.long) :: x_Wd) (x_k D cA ad)) (hr : meth.sig.returnType = (Option.some Jvm.ClassFile.FieldType.long)) (hlk : meth.locks = false) (a1 : Int64) (K : (Nat → Int32) → (Nat → Int32) → (Nat → Int64) → (Nat → Int64) → (Nat → Int64) → Int32 → Int64 × (Nat → Int32) × (Nat → Int32) × (Nat → Int64) × (Nat → Int64) × (Nat → Int64)) (KO : (Nat → Int32) → (Nat → Int32) → (Nat → Int64) → (Nat → Int64) → (Nat → Int64) → Int32 → Prop) (ih : ∀ (mi : Nat → Int32) (mk : Nat → Int32) (mlo : Nat → Int64) (mhi : Nat → Int64) (mm : Nat → Int64) (x3 : Int32), KO mi mk mlo mhi mm x3 → x_V p l e { frames := 3, cells := 0, slots := 0, locals := 73 } s m args below meth c (x_k D cA ad) 6 0 0 (x_E below (x_k D cA ad) args s 0 0 (x_F ad cA) (fun q : Int64 × (Nat → Int32) × (Nat → Int32) × (Nat → Int64) × (Nat → Int64) × (Nat → Int64) => ((some (.long (q.1)), ((stp, psz, gk, gl, gh, opn, cki, ckl, mp, rk, rv, ri, chk), (mo, q.2.1, ml, q.2.2.1, q.2.2.2.1, q.2.2.2.2.1, pk, ps, pl, ph, q.2.2.2.2.2), out)) : Option Value × x_S)) (K mi mk mlo mhi mm x3)) (x_F ad cA ((stp, psz, gk, gl, gh, opn, cki, ckl, mp, rk, rv, ri, chk), (mo, mi, ml, mk, mlo, mhi, pk, ps, pl, ph, mm), out)) 70 [(0, (.ref (ad (18, 0)))), (3, (.int x3))] []) (mi : Nat → Int32) (mk : Nat → Int32) (mlo : Nat → Int64) (mhi : Nat → Int64) (mm : Nat → Int64) (x3 : Int32) (x4 : Int32) (x5 : Int32) (hk : bk_ok_Md_run_226 KO mo mi mk mlo mhi mm a1 x3 x4 x5) : x_V p l e { frames := 3, cells := 0, slots := 0, locals := 73 } s m args below meth c (x_k D cA ad) 6 0 0 (x_E below (x_k D cA ad) args s 0 0 (x_F ad cA) (fun q : Int64 × (Nat → Int32) × (Nat → Int32) × (Nat → Int64) × (Nat → Int64) × (Nat → Int64) => ((some (.long (q.1)), ((stp, psz, gk, gl, gh, opn, cki, ckl, mp, rk, rv, ri, chk), (mo, q.2.1, ml, q.2.2.1, q.2.2.2.1, q.2.2.2.2.1, pk, ps, pl, ph, q.2.2.2.2.2), out)) : Option Value × x_S)) (bk_Md_run_226 K mo mi mk mlo mhi mm a1 x3 x4 x5)) (x_F ad cA ((stp, psz, gk, gl, gh, opn, cki, ckl, mp, rk, rv, ri, chk), (mo, mi, ml, mk, mlo, mhi, pk, ps, pl, ph, mm), out)) 226 [(0, (.ref (ad (18, 0)))), (3, (.int x3)), (4, (.int x4)), (5, (.int x5))] [] := by
  unfold bk_Md_run_226
  unfold bk_ok_Md_run_226 at hk
  refine x_iload 2 C d_Md_run_226 rfl ?_
  refine x_bipush (v := 16) C d_Md_run_228 (by decide) ?_
  refine x_icmp_ne 243 C d_Md_run_230 (by decide) (fun z24 => ?_) (fun z24 => ?_)
  · have hk := x_okt hk z24
    refine x_aload_n 0 C d_Md_run_233 rfl rfl ?_
    refine x_aload_n 0 C d_Md_run_234 rfl rfl ?_
    refine x_get (i := (18, 0)) (v := (.ref (ad (22, 0)))) 3 C m_18 rfl rfl i_Md (by decide) (List.mem_cons_of_mem _ q_794) rfl d_Md_run_235 ?_
    refine x_iload_n 1 C d_Md_run_238 rfl rfl ?_
    have w25 := hk.1
    have hk := hk.2
    refine x_iald (i := (22, 0)) (g := mo 3) 0 C m_22 rfl rfl w25 d_Md_run_239 ?_
    have w26 := hk.1
    have hk := hk.2
    refine x_cv0 (i := (18, 0)) (F := x_F ad cA) (As := [(.int (mo 3 x3.toNatClampNeg))]) (rest := []) C k_Md_callNow q_1044 (c_Md_callNow ok (mo 3 x3.toNatClampNeg) w26) rfl rfl rfl (Nat.le_of_ble_eq_true rfl) (Nat.le_of_ble_eq_true rfl) m_18 rfl rfl rfl rfl rfl (Nat.le_of_ble_eq_true rfl) d_Md_run_240 ⟨Nat.zero_le _, Nat.zero_le _⟩ ?_
    generalize hq27 : s_Md_callNow mi mk mlo mhi (mo 3 x3.toNatClampNeg) = q27 at hk ⊢
    obtain ⟨mi27, mk27, mlo27, mhi27⟩ := q27
    refine x_lets ?_
    have hk := x_lete hk
    dsimp only at hk ⊢
    refine x_loc (lv' := [(0, (.ref (ad (18, 0)))), (5, (.int x5))]) [0, 3] rfl ?_
    exact cb_Md_run_243 ok C hr hlk a1 K KO ih  mi27 mk27 mlo27 mhi27 mm x5 hk
  · have hk := x_okf hk z24
    refine x_loc (lv' := [(0, (.ref (ad (18, 0)))), (5, (.int x5))]) [0, 3] rfl ?_
    exact cb_Md_run_243 ok C hr hlk a1 K KO ih  mi mk mlo mhi mm x5 hk
def bk_Md_run_209 (K : (Nat → Int32) → (Nat → Int32) → (Nat → Int64) → (Nat → Int64) → (Nat → Int64) → Int32 → Int64 × (Nat → Int32) × (Nat → Int32) × (Nat → Int64) × (Nat → Int64) × (Nat → Int64)) (mo : Nat → Nat → Int32) (mi : Nat → Int32) (mk : Nat → Int32) (mlo : Nat → Int64) (mhi : Nat → Int64) (mm : Nat → Int64) (a1 : Int64) (x3 : Int32) (x4 : Int32) (x5 : Int32) : Int64 × (Nat → Int32) × (Nat → Int32) × (Nat → Int64) × (Nat → Int64) × (Nat → Int64) :=
  (if x4 = 14 then (x_let (s_Md_transfer mo mk mlo mhi mm x3 1) fun (mk23, mlo23, mhi23, mm23) => bk_Md_run_226 K mo mi mk23 mlo23 mhi23 mm23 a1 x3 x4 x5) else (x_let (s_Md_transfer mo mk mlo mhi mm x3 0) fun (mk29, mlo29, mhi29, mm29) => bk_Md_run_226 K mo mi mk29 mlo29 mhi29 mm29 a1 x3 x4 x5))
def bk_ok_Md_run_209 (KO : (Nat → Int32) → (Nat → Int32) → (Nat → Int64) → (Nat → Int64) → (Nat → Int64) → Int32 → Prop) (mo : Nat → Nat → Int32) (mi : Nat → Int32) (mk : Nat → Int32) (mlo : Nat → Int64) (mhi : Nat → Int64) (mm : Nat → Int64) (a1 : Int64) (x3 : Int32) (x4 : Int32) (x5 : Int32) : Prop :=
  (if x4 = 14 then (k_ok_Md_transfer mo mk mlo mhi mm x3 1 ∧ (x_let (s_Md_transfer mo mk mlo mhi mm x3 1) fun (mk23, mlo23, mhi23, mm23) => bk_ok_Md_run_226 KO mo mi mk23 mlo23 mhi23 mm23 a1 x3 x4 x5)) else (k_ok_Md_transfer mo mk mlo mhi mm x3 0 ∧ (x_let (s_Md_transfer mo mk mlo mhi mm x3 0) fun (mk29, mlo29, mhi29, mm29) => bk_ok_Md_run_226 KO mo mi mk29 mlo29 mhi29 mm29 a1 x3 x4 x5)))
set_option maxHeartbeats 4000000 in
set_option maxRecDepth 100000 in
theorem cb_Md_run_209 {l : Launch} {D : va_G} {cA : Nat → ClassId} {ad : x_I → Nat} (ok : x_ok (x_k D cA ad)) {stp : Nat → Nat → Int32} {psz : Int32} {gk : Nat → Nat → Int32} {gl : Nat → Nat → Int64} {gh : Nat → Nat → Int64} {opn : Nat → Int32} {cki : Nat → Int32} {ckl : Nat → Int64} {mp : Nat → Nat → Int64} {rk : Nat → Int32} {rv : Nat → Int64} {ri : Nat → Int32} {chk : Int32} {mo : Nat → Nat → Int32} {ml : Nat → Int64} {pk : Nat → Int32} {ps : Nat → Int32} {pl : Nat → Int64} {ph : Nat → Int64} {out : Nat → Int64} {p : Program} {e : Env} {s : State} {m : MethodId} {args : Array Value} {below : List Frame} {meth : Method} {c : Code} (C : x_C p s m args c b_Md_run 6 R_Md (Cond.code y_Md_run b_Md_run 6 (Option.some Jvm.ClassFile.FieldType.long) :: x_Wd) (x_k D cA ad)) (hr : meth.sig.returnType = (Option.some Jvm.ClassFile.FieldType.long)) (hlk : meth.locks = false) (a1 : Int64) (K : (Nat → Int32) → (Nat → Int32) → (Nat → Int64) → (Nat → Int64) → (Nat → Int64) → Int32 → Int64 × (Nat → Int32) × (Nat → Int32) × (Nat → Int64) × (Nat → Int64) × (Nat → Int64)) (KO : (Nat → Int32) → (Nat → Int32) → (Nat → Int64) → (Nat → Int64) → (Nat → Int64) → Int32 → Prop) (ih : ∀ (mi : Nat → Int32) (mk : Nat → Int32) (mlo : Nat → Int64) (mhi : Nat → Int64) (mm : Nat → Int64) (x3 : Int32), KO mi mk mlo mhi mm x3 → x_V p l e { frames := 3, cells := 0, slots := 0, locals := 73 } s m args below meth c (x_k D cA ad) 6 0 0 (x_E below (x_k D cA ad) args s 0 0 (x_F ad cA) (fun q : Int64 × (Nat → Int32) × (Nat → Int32) × (Nat → Int64) × (Nat → Int64) × (Nat → Int64) => ((some (.long (q.1)), ((stp, psz, gk, gl, gh, opn, cki, ckl, mp, rk, rv, ri, chk), (mo, q.2.1, ml, q.2.2.1, q.2.2.2.1, q.2.2.2.2.1, pk, ps, pl, ph, q.2.2.2.2.2), out)) : Option Value × x_S)) (K mi mk mlo mhi mm x3)) (x_F ad cA ((stp, psz, gk, gl, gh, opn, cki, ckl, mp, rk, rv, ri, chk), (mo, mi, ml, mk, mlo, mhi, pk, ps, pl, ph, mm), out)) 70 [(0, (.ref (ad (18, 0)))), (3, (.int x3))] []) (mi : Nat → Int32) (mk : Nat → Int32) (mlo : Nat → Int64) (mhi : Nat → Int64) (mm : Nat → Int64) (x3 : Int32) (x4 : Int32) (x5 : Int32) (hk : bk_ok_Md_run_209 KO mo mi mk mlo mhi mm a1 x3 x4 x5) : x_V p l e { frames := 3, cells := 0, slots := 0, locals := 73 } s m args below meth c (x_k D cA ad) 6 0 0 (x_E below (x_k D cA ad) args s 0 0 (x_F ad cA) (fun q : Int64 × (Nat → Int32) × (Nat → Int32) × (Nat → Int64) × (Nat → Int64) × (Nat → Int64) => ((some (.long (q.1)), ((stp, psz, gk, gl, gh, opn, cki, ckl, mp, rk, rv, ri, chk), (mo, q.2.1, ml, q.2.2.1, q.2.2.2.1, q.2.2.2.2.1, pk, ps, pl, ph, q.2.2.2.2.2), out)) : Option Value × x_S)) (bk_Md_run_209 K mo mi mk mlo mhi mm a1 x3 x4 x5)) (x_F ad cA ((stp, psz, gk, gl, gh, opn, cki, ckl, mp, rk, rv, ri, chk), (mo, mi, ml, mk, mlo, mhi, pk, ps, pl, ph, mm), out)) 209 [(0, (.ref (ad (18, 0)))), (3, (.int x3)), (4, (.int x4)), (5, (.int x5))] [] := by
  unfold bk_Md_run_209
  unfold bk_ok_Md_run_209 at hk
  refine x_aload_n 0 C d_Md_run_209 rfl rfl ?_
  refine x_iload_n 1 C d_Md_run_210 rfl rfl ?_
  refine x_iload 2 C d_Md_run_211 rfl ?_
  refine x_bipush (v := 14) C d_Md_run_213 (by decide) ?_
  refine x_icmp_ne 222 C d_Md_run_215 (by decide) (fun z21 => ?_) (fun z21 => ?_)
  · have hk := x_okt hk z21
    refine x_iconst (v := 1) C d_Md_run_218 (by decide) ?_
    refine x_goto 223 C d_Md_run_219 (by decide) ?_
    have w22 := hk.1
    have hk := hk.2
    refine x_cv0 (i := (18, 0)) (F := x_F ad cA) (As := [(.int x3), (.int 1)]) (rest := []) C k_Md_transfer q_1040 (c_Md_transfer ok x3 1 w22) rfl rfl rfl (Nat.le_of_ble_eq_true rfl) (Nat.le_of_ble_eq_true rfl) m_18 rfl rfl rfl rfl rfl (Nat.le_of_ble_eq_true rfl) d_Md_run_223 ⟨Nat.zero_le _, Nat.zero_le _⟩ ?_
    generalize hq23 : s_Md_transfer mo mk mlo mhi mm x3 1 = q23 at hk ⊢
    obtain ⟨mk23, mlo23, mhi23, mm23⟩ := q23
    refine x_lets ?_
    have hk := x_lete hk
    dsimp only at hk ⊢
    refine x_loc (lv' := [(0, (.ref (ad (18, 0)))), (3, (.int x3)), (4, (.int x4)), (5, (.int x5))]) [0, 1, 2, 3] rfl ?_
    exact cb_Md_run_226 ok C hr hlk a1 K KO ih  mi mk23 mlo23 mhi23 mm23 x3 x4 x5 hk
  · have hk := x_okf hk z21
    refine x_iconst (v := 0) C d_Md_run_222 (by decide) ?_
    have w28 := hk.1
    have hk := hk.2
    refine x_cv0 (i := (18, 0)) (F := x_F ad cA) (As := [(.int x3), (.int 0)]) (rest := []) C k_Md_transfer q_1040 (c_Md_transfer ok x3 0 w28) rfl rfl rfl (Nat.le_of_ble_eq_true rfl) (Nat.le_of_ble_eq_true rfl) m_18 rfl rfl rfl rfl rfl (Nat.le_of_ble_eq_true rfl) d_Md_run_223 ⟨Nat.zero_le _, Nat.zero_le _⟩ ?_
    generalize hq29 : s_Md_transfer mo mk mlo mhi mm x3 0 = q29 at hk ⊢
    obtain ⟨mk29, mlo29, mhi29, mm29⟩ := q29
    refine x_lets ?_
    have hk := x_lete hk
    dsimp only at hk ⊢
    refine x_loc (lv' := [(0, (.ref (ad (18, 0)))), (3, (.int x3)), (4, (.int x4)), (5, (.int x5))]) [0, 1, 2, 3] rfl ?_
    exact cb_Md_run_226 ok C hr hlk a1 K KO ih  mi mk29 mlo29 mhi29 mm29 x3 x4 x5 hk
def bk_Md_run_195 (K : (Nat → Int32) → (Nat → Int32) → (Nat → Int64) → (Nat → Int64) → (Nat → Int64) → Int32 → Int64 × (Nat → Int32) × (Nat → Int32) × (Nat → Int64) × (Nat → Int64) × (Nat → Int64)) (mo : Nat → Nat → Int32) (mi : Nat → Int32) (mk : Nat → Int32) (mlo : Nat → Int64) (mhi : Nat → Int64) (mm : Nat → Int64) (a1 : Int64) (x3 : Int32) (x4 : Int32) (x5 : Int32) : Int64 × (Nat → Int32) × (Nat → Int32) × (Nat → Int64) × (Nat → Int64) × (Nat → Int64) :=
  (if x4 = 14 then bk_Md_run_209 K mo mi mk mlo mhi mm a1 x3 x4 x5 else (if x4 = 15 then bk_Md_run_209 K mo mi mk mlo mhi mm a1 x3 x4 x5 else bk_Md_run_226 K mo mi mk mlo mhi mm a1 x3 x4 x5))
def bk_ok_Md_run_195 (KO : (Nat → Int32) → (Nat → Int32) → (Nat → Int64) → (Nat → Int64) → (Nat → Int64) → Int32 → Prop) (mo : Nat → Nat → Int32) (mi : Nat → Int32) (mk : Nat → Int32) (mlo : Nat → Int64) (mhi : Nat → Int64) (mm : Nat → Int64) (a1 : Int64) (x3 : Int32) (x4 : Int32) (x5 : Int32) : Prop :=
  (if x4 = 14 then bk_ok_Md_run_209 KO mo mi mk mlo mhi mm a1 x3 x4 x5 else (if x4 = 15 then bk_ok_Md_run_209 KO mo mi mk mlo mhi mm a1 x3 x4 x5 else bk_ok_Md_run_226 KO mo mi mk mlo mhi mm a1 x3 x4 x5))
set_option maxHeartbeats 4000000 in
set_option maxRecDepth 100000 in
theorem cb_Md_run_195 {l : Launch} {D : va_G} {cA : Nat → ClassId} {ad : x_I → Nat} (ok : x_ok (x_k D cA ad)) {stp : Nat → Nat → Int32} {psz : Int32} {gk : Nat → Nat → Int32} {gl : Nat → Nat → Int64} {gh : Nat → Nat → Int64} {opn : Nat → Int32} {cki : Nat → Int32} {ckl : Nat → Int64} {mp : Nat → Nat → Int64} {rk : Nat → Int32} {rv : Nat → Int64} {ri : Nat → Int32} {chk : Int32} {mo : Nat → Nat → Int32} {ml : Nat → Int64} {pk : Nat → Int32} {ps : Nat → Int32} {pl : Nat → Int64} {ph : Nat → Int64} {out : Nat → Int64} {p : Program} {e : Env} {s : State} {m : MethodId} {args : Array Value} {below : List Frame} {meth : Method} {c : Code} (C : x_C p s m args c b_Md_run 6 R_Md (Cond.code y_Md_run b_Md_run 6 (Option.some Jvm.ClassFile.FieldType.long) :: x_Wd) (x_k D cA ad)) (hr : meth.sig.returnType = (Option.some Jvm.ClassFile.FieldType.long)) (hlk : meth.locks = false) (a1 : Int64) (K : (Nat → Int32) → (Nat → Int32) → (Nat → Int64) → (Nat → Int64) → (Nat → Int64) → Int32 → Int64 × (Nat → Int32) × (Nat → Int32) × (Nat → Int64) × (Nat → Int64) × (Nat → Int64)) (KO : (Nat → Int32) → (Nat → Int32) → (Nat → Int64) → (Nat → Int64) → (Nat → Int64) → Int32 → Prop) (ih : ∀ (mi : Nat → Int32) (mk : Nat → Int32) (mlo : Nat → Int64) (mhi : Nat → Int64) (mm : Nat → Int64) (x3 : Int32), KO mi mk mlo mhi mm x3 → x_V p l e { frames := 3, cells := 0, slots := 0, locals := 73 } s m args below meth c (x_k D cA ad) 6 0 0 (x_E below (x_k D cA ad) args s 0 0 (x_F ad cA) (fun q : Int64 × (Nat → Int32) × (Nat → Int32) × (Nat → Int64) × (Nat → Int64) × (Nat → Int64) => ((some (.long (q.1)), ((stp, psz, gk, gl, gh, opn, cki, ckl, mp, rk, rv, ri, chk), (mo, q.2.1, ml, q.2.2.1, q.2.2.2.1, q.2.2.2.2.1, pk, ps, pl, ph, q.2.2.2.2.2), out)) : Option Value × x_S)) (K mi mk mlo mhi mm x3)) (x_F ad cA ((stp, psz, gk, gl, gh, opn, cki, ckl, mp, rk, rv, ri, chk), (mo, mi, ml, mk, mlo, mhi, pk, ps, pl, ph, mm), out)) 70 [(0, (.ref (ad (18, 0)))), (3, (.int x3))] []) (mi : Nat → Int32) (mk : Nat → Int32) (mlo : Nat → Int64) (mhi : Nat → Int64) (mm : Nat → Int64) (x3 : Int32) (x4 : Int32) (x5 : Int32) (hk : bk_ok_Md_run_195 KO mo mi mk mlo mhi mm a1 x3 x4 x5) : x_V p l e { frames := 3, cells := 0, slots := 0, locals := 73 } s m args below meth c (x_k D cA ad) 6 0 0 (x_E below (x_k D cA ad) args s 0 0 (x_F ad cA) (fun q : Int64 × (Nat → Int32) × (Nat → Int32) × (Nat → Int64) × (Nat → Int64) × (Nat → Int64) => ((some (.long (q.1)), ((stp, psz, gk, gl, gh, opn, cki, ckl, mp, rk, rv, ri, chk), (mo, q.2.1, ml, q.2.2.1, q.2.2.2.1, q.2.2.2.2.1, pk, ps, pl, ph, q.2.2.2.2.2), out)) : Option Value × x_S)) (bk_Md_run_195 K mo mi mk mlo mhi mm a1 x3 x4 x5)) (x_F ad cA ((stp, psz, gk, gl, gh, opn, cki, ckl, mp, rk, rv, ri, chk), (mo, mi, ml, mk, mlo, mhi, pk, ps, pl, ph, mm), out)) 195 [(0, (.ref (ad (18, 0)))), (3, (.int x3)), (4, (.int x4)), (5, (.int x5))] [] := by
  unfold bk_Md_run_195
  unfold bk_ok_Md_run_195 at hk
  refine x_iload 2 C d_Md_run_195 rfl ?_
  refine x_bipush (v := 14) C d_Md_run_197 (by decide) ?_
  refine x_icmp_eq 209 C d_Md_run_199 (by decide) (fun z20 => ?_) (fun z20 => ?_)
  · have hk := x_okt hk z20
    refine x_loc (lv' := [(0, (.ref (ad (18, 0)))), (3, (.int x3)), (4, (.int x4)), (5, (.int x5))]) [0, 1, 2, 3] rfl ?_
    exact cb_Md_run_209 ok C hr hlk a1 K KO ih  mi mk mlo mhi mm x3 x4 x5 hk
  · have hk := x_okf hk z20
    refine x_iload 2 C d_Md_run_202 rfl ?_
    refine x_bipush (v := 15) C d_Md_run_204 (by decide) ?_
    refine x_icmp_ne 226 C d_Md_run_206 (by decide) (fun z30 => ?_) (fun z30 => ?_)
    · have hk := x_okt hk z30
      refine x_loc (lv' := [(0, (.ref (ad (18, 0)))), (3, (.int x3)), (4, (.int x4)), (5, (.int x5))]) [0, 1, 2, 3] rfl ?_
      exact cb_Md_run_209 ok C hr hlk a1 K KO ih  mi mk mlo mhi mm x3 x4 x5 hk
    · have hk := x_okf hk z30
      refine x_loc (lv' := [(0, (.ref (ad (18, 0)))), (3, (.int x3)), (4, (.int x4)), (5, (.int x5))]) [0, 1, 2, 3] rfl ?_
      exact cb_Md_run_226 ok C hr hlk a1 K KO ih  mi mk mlo mhi mm x3 x4 x5 hk
def bk_Md_run_187 (K : (Nat → Int32) → (Nat → Int32) → (Nat → Int64) → (Nat → Int64) → (Nat → Int64) → Int32 → Int64 × (Nat → Int32) × (Nat → Int32) × (Nat → Int64) × (Nat → Int64) × (Nat → Int64)) (mo : Nat → Nat → Int32) (mi : Nat → Int32) (mk : Nat → Int32) (mlo : Nat → Int64) (mhi : Nat → Int64) (mm : Nat → Int64) (a1 : Int64) (x3 : Int32) (x4 : Int32) : Int64 × (Nat → Int32) × (Nat → Int32) × (Nat → Int64) × (Nat → Int64) × (Nat → Int64) :=
  bk_Md_run_195 K mo mi mk mlo mhi mm a1 x3 x4 (mo 4 x3.toNatClampNeg)
def bk_ok_Md_run_187 (KO : (Nat → Int32) → (Nat → Int32) → (Nat → Int64) → (Nat → Int64) → (Nat → Int64) → Int32 → Prop) (mo : Nat → Nat → Int32) (mi : Nat → Int32) (mk : Nat → Int32) (mlo : Nat → Int64) (mhi : Nat → Int64) (mm : Nat → Int64) (a1 : Int64) (x3 : Int32) (x4 : Int32) : Prop :=
  (vp_in x3 24 ∧ bk_ok_Md_run_195 KO mo mi mk mlo mhi mm a1 x3 x4 (mo 4 x3.toNatClampNeg))
set_option maxHeartbeats 4000000 in
set_option maxRecDepth 100000 in
theorem cb_Md_run_187 {l : Launch} {D : va_G} {cA : Nat → ClassId} {ad : x_I → Nat} (ok : x_ok (x_k D cA ad)) {stp : Nat → Nat → Int32} {psz : Int32} {gk : Nat → Nat → Int32} {gl : Nat → Nat → Int64} {gh : Nat → Nat → Int64} {opn : Nat → Int32} {cki : Nat → Int32} {ckl : Nat → Int64} {mp : Nat → Nat → Int64} {rk : Nat → Int32} {rv : Nat → Int64} {ri : Nat → Int32} {chk : Int32} {mo : Nat → Nat → Int32} {ml : Nat → Int64} {pk : Nat → Int32} {ps : Nat → Int32} {pl : Nat → Int64} {ph : Nat → Int64} {out : Nat → Int64} {p : Program} {e : Env} {s : State} {m : MethodId} {args : Array Value} {below : List Frame} {meth : Method} {c : Code} (C : x_C p s m args c b_Md_run 6 R_Md (Cond.code y_Md_run b_Md_run 6 (Option.some Jvm.ClassFile.FieldType.long) :: x_Wd) (x_k D cA ad)) (hr : meth.sig.returnType = (Option.some Jvm.ClassFile.FieldType.long)) (hlk : meth.locks = false) (a1 : Int64) (K : (Nat → Int32) → (Nat → Int32) → (Nat → Int64) → (Nat → Int64) → (Nat → Int64) → Int32 → Int64 × (Nat → Int32) × (Nat → Int32) × (Nat → Int64) × (Nat → Int64) × (Nat → Int64)) (KO : (Nat → Int32) → (Nat → Int32) → (Nat → Int64) → (Nat → Int64) → (Nat → Int64) → Int32 → Prop) (ih : ∀ (mi : Nat → Int32) (mk : Nat → Int32) (mlo : Nat → Int64) (mhi : Nat → Int64) (mm : Nat → Int64) (x3 : Int32), KO mi mk mlo mhi mm x3 → x_V p l e { frames := 3, cells := 0, slots := 0, locals := 73 } s m args below meth c (x_k D cA ad) 6 0 0 (x_E below (x_k D cA ad) args s 0 0 (x_F ad cA) (fun q : Int64 × (Nat → Int32) × (Nat → Int32) × (Nat → Int64) × (Nat → Int64) × (Nat → Int64) => ((some (.long (q.1)), ((stp, psz, gk, gl, gh, opn, cki, ckl, mp, rk, rv, ri, chk), (mo, q.2.1, ml, q.2.2.1, q.2.2.2.1, q.2.2.2.2.1, pk, ps, pl, ph, q.2.2.2.2.2), out)) : Option Value × x_S)) (K mi mk mlo mhi mm x3)) (x_F ad cA ((stp, psz, gk, gl, gh, opn, cki, ckl, mp, rk, rv, ri, chk), (mo, mi, ml, mk, mlo, mhi, pk, ps, pl, ph, mm), out)) 70 [(0, (.ref (ad (18, 0)))), (3, (.int x3))] []) (mi : Nat → Int32) (mk : Nat → Int32) (mlo : Nat → Int64) (mhi : Nat → Int64) (mm : Nat → Int64) (x3 : Int32) (x4 : Int32) (hk : bk_ok_Md_run_187 KO mo mi mk mlo mhi mm a1 x3 x4) : x_V p l e { frames := 3, cells := 0, slots := 0, locals := 73 } s m args below meth c (x_k D cA ad) 6 0 0 (x_E below (x_k D cA ad) args s 0 0 (x_F ad cA) (fun q : Int64 × (Nat → Int32) × (Nat → Int32) × (Nat → Int64) × (Nat → Int64) × (Nat → Int64) => ((some (.long (q.1)), ((stp, psz, gk, gl, gh, opn, cki, ckl, mp, rk, rv, ri, chk), (mo, q.2.1, ml, q.2.2.1, q.2.2.2.1, q.2.2.2.2.1, pk, ps, pl, ph, q.2.2.2.2.2), out)) : Option Value × x_S)) (bk_Md_run_187 K mo mi mk mlo mhi mm a1 x3 x4)) (x_F ad cA ((stp, psz, gk, gl, gh, opn, cki, ckl, mp, rk, rv, ri, chk), (mo, mi, ml, mk, mlo, mhi, pk, ps, pl, ph, mm), out)) 187 [(0, (.ref (ad (18, 0)))), (3, (.int x3)), (4, (.int x4))] [] := by
  unfold bk_Md_run_187
  unfold bk_ok_Md_run_187 at hk
  refine x_aload_n 0 C d_Md_run_187 rfl rfl ?_
  refine x_get (i := (18, 0)) (v := (.ref (ad (23, 0)))) 4 C m_18 rfl rfl i_Md (by decide) (List.mem_cons_of_mem _ q_795) rfl d_Md_run_188 ?_
  refine x_iload_n 1 C d_Md_run_191 rfl rfl ?_
  have w19 := hk.1
  have hk := hk.2
  refine x_iald (i := (23, 0)) (g := mo 4) 0 C m_23 rfl rfl w19 d_Md_run_192 ?_
  refine x_istore (lv' := [(5, (.int (mo 4 x3.toNatClampNeg))), (0, (.ref (ad (18, 0)))), (3, (.int x3)), (4, (.int x4))]) C d_Md_run_193 (by decide) rfl ?_
  refine x_loc (lv' := [(0, (.ref (ad (18, 0)))), (3, (.int x3)), (4, (.int x4)), (5, (.int (mo 4 x3.toNatClampNeg)))]) [1, 2, 3, 0] rfl ?_
  exact cb_Md_run_195 ok C hr hlk a1 K KO ih  mi mk mlo mhi mm x3 x4 (mo 4 x3.toNatClampNeg) hk
def bk_Md_run_158 (K : (Nat → Int32) → (Nat → Int32) → (Nat → Int64) → (Nat → Int64) → (Nat → Int64) → Int32 → Int64 × (Nat → Int32) × (Nat → Int32) × (Nat → Int64) × (Nat → Int64) × (Nat → Int64)) (mo : Nat → Nat → Int32) (mi : Nat → Int32) (mk : Nat → Int32) (mlo : Nat → Int64) (mhi : Nat → Int64) (mm : Nat → Int64) (a1 : Int64) (x3 : Int32) (x4 : Int32) (x5 : Int32) : Int64 × (Nat → Int32) × (Nat → Int32) × (Nat → Int64) × (Nat → Int64) × (Nat → Int64) :=
  (if x4 = 13 then bk_Md_run_187 K mo mi mk mlo mhi mm a1 x3 x4 else (if x4 ≤ 9 then bk_Md_run_195 K mo mi mk mlo mhi mm a1 x3 x4 x5 else (if 13 ≤ x4 then bk_Md_run_195 K mo mi mk mlo mhi mm a1 x3 x4 x5 else (x_let (s_Md_above mo mk mlo x3) fun r34 => (if r34 = 0 then bk_Md_run_195 K mo mi mk mlo mhi mm a1 x3 x4 x5 else bk_Md_run_187 K mo mi mk mlo mhi mm a1 x3 x4)))))
def bk_ok_Md_run_158 (KO : (Nat → Int32) → (Nat → Int32) → (Nat → Int64) → (Nat → Int64) → (Nat → Int64) → Int32 → Prop) (mo : Nat → Nat → Int32) (mi : Nat → Int32) (mk : Nat → Int32) (mlo : Nat → Int64) (mhi : Nat → Int64) (mm : Nat → Int64) (a1 : Int64) (x3 : Int32) (x4 : Int32) (x5 : Int32) : Prop :=
  (if x4 = 13 then bk_ok_Md_run_187 KO mo mi mk mlo mhi mm a1 x3 x4 else (if x4 ≤ 9 then bk_ok_Md_run_195 KO mo mi mk mlo mhi mm a1 x3 x4 x5 else (if 13 ≤ x4 then bk_ok_Md_run_195 KO mo mi mk mlo mhi mm a1 x3 x4 x5 else (k_ok_Md_above mo mk mlo x3 ∧ (x_let (s_Md_above mo mk mlo x3) fun r34 => (if r34 = 0 then bk_ok_Md_run_195 KO mo mi mk mlo mhi mm a1 x3 x4 x5 else bk_ok_Md_run_187 KO mo mi mk mlo mhi mm a1 x3 x4))))))
set_option maxHeartbeats 4000000 in
set_option maxRecDepth 100000 in
theorem cb_Md_run_158 {l : Launch} {D : va_G} {cA : Nat → ClassId} {ad : x_I → Nat} (ok : x_ok (x_k D cA ad)) {stp : Nat → Nat → Int32} {psz : Int32} {gk : Nat → Nat → Int32} {gl : Nat → Nat → Int64} {gh : Nat → Nat → Int64} {opn : Nat → Int32} {cki : Nat → Int32} {ckl : Nat → Int64} {mp : Nat → Nat → Int64} {rk : Nat → Int32} {rv : Nat → Int64} {ri : Nat → Int32} {chk : Int32} {mo : Nat → Nat → Int32} {ml : Nat → Int64} {pk : Nat → Int32} {ps : Nat → Int32} {pl : Nat → Int64} {ph : Nat → Int64} {out : Nat → Int64} {p : Program} {e : Env} {s : State} {m : MethodId} {args : Array Value} {below : List Frame} {meth : Method} {c : Code} (C : x_C p s m args c b_Md_run 6 R_Md (Cond.code y_Md_run b_Md_run 6 (Option.some Jvm.ClassFile.FieldType.long) :: x_Wd) (x_k D cA ad)) (hr : meth.sig.returnType = (Option.some Jvm.ClassFile.FieldType.long)) (hlk : meth.locks = false) (a1 : Int64) (K : (Nat → Int32) → (Nat → Int32) → (Nat → Int64) → (Nat → Int64) → (Nat → Int64) → Int32 → Int64 × (Nat → Int32) × (Nat → Int32) × (Nat → Int64) × (Nat → Int64) × (Nat → Int64)) (KO : (Nat → Int32) → (Nat → Int32) → (Nat → Int64) → (Nat → Int64) → (Nat → Int64) → Int32 → Prop) (ih : ∀ (mi : Nat → Int32) (mk : Nat → Int32) (mlo : Nat → Int64) (mhi : Nat → Int64) (mm : Nat → Int64) (x3 : Int32), KO mi mk mlo mhi mm x3 → x_V p l e { frames := 3, cells := 0, slots := 0, locals := 73 } s m args below meth c (x_k D cA ad) 6 0 0 (x_E below (x_k D cA ad) args s 0 0 (x_F ad cA) (fun q : Int64 × (Nat → Int32) × (Nat → Int32) × (Nat → Int64) × (Nat → Int64) × (Nat → Int64) => ((some (.long (q.1)), ((stp, psz, gk, gl, gh, opn, cki, ckl, mp, rk, rv, ri, chk), (mo, q.2.1, ml, q.2.2.1, q.2.2.2.1, q.2.2.2.2.1, pk, ps, pl, ph, q.2.2.2.2.2), out)) : Option Value × x_S)) (K mi mk mlo mhi mm x3)) (x_F ad cA ((stp, psz, gk, gl, gh, opn, cki, ckl, mp, rk, rv, ri, chk), (mo, mi, ml, mk, mlo, mhi, pk, ps, pl, ph, mm), out)) 70 [(0, (.ref (ad (18, 0)))), (3, (.int x3))] []) (mi : Nat → Int32) (mk : Nat → Int32) (mlo : Nat → Int64) (mhi : Nat → Int64) (mm : Nat → Int64) (x3 : Int32) (x4 : Int32) (x5 : Int32) (hk : bk_ok_Md_run_158 KO mo mi mk mlo mhi mm a1 x3 x4 x5) : x_V p l e { frames := 3, cells := 0, slots := 0, locals := 73 } s m args below meth c (x_k D cA ad) 6 0 0 (x_E below (x_k D cA ad) args s 0 0 (x_F ad cA) (fun q : Int64 × (Nat → Int32) × (Nat → Int32) × (Nat → Int64) × (Nat → Int64) × (Nat → Int64) => ((some (.long (q.1)), ((stp, psz, gk, gl, gh, opn, cki, ckl, mp, rk, rv, ri, chk), (mo, q.2.1, ml, q.2.2.1, q.2.2.2.1, q.2.2.2.2.1, pk, ps, pl, ph, q.2.2.2.2.2), out)) : Option Value × x_S)) (bk_Md_run_158 K mo mi mk mlo mhi mm a1 x3 x4 x5)) (x_F ad cA ((stp, psz, gk, gl, gh, opn, cki, ckl, mp, rk, rv, ri, chk), (mo, mi, ml, mk, mlo, mhi, pk, ps, pl, ph, mm), out)) 158 [(0, (.ref (ad (18, 0)))), (3, (.int x3)), (4, (.int x4)), (5, (.int x5))] [] := by
  unfold bk_Md_run_158
  unfold bk_ok_Md_run_158 at hk
  refine x_iload 2 C d_Md_run_158 rfl ?_
  refine x_bipush (v := 13) C d_Md_run_160 (by decide) ?_
  refine x_icmp_eq 187 C d_Md_run_162 (by decide) (fun z18 => ?_) (fun z18 => ?_)
  · have hk := x_okt hk z18
    refine x_loc (lv' := [(0, (.ref (ad (18, 0)))), (3, (.int x3)), (4, (.int x4))]) [0, 1, 2] rfl ?_
    exact cb_Md_run_187 ok C hr hlk a1 K KO ih  mi mk mlo mhi mm x3 x4 hk
  · have hk := x_okf hk z18
    refine x_iload 2 C d_Md_run_165 rfl ?_
    refine x_bipush (v := 9) C d_Md_run_167 (by decide) ?_
    refine x_icmp_le 195 C d_Md_run_169 (by decide) (fun z31 => ?_) (fun z31 => ?_)
    · have hk := x_okt hk z31
      refine x_loc (lv' := [(0, (.ref (ad (18, 0)))), (3, (.int x3)), (4, (.int x4)), (5, (.int x5))]) [0, 1, 2, 3] rfl ?_
      exact cb_Md_run_195 ok C hr hlk a1 K KO ih  mi mk mlo mhi mm x3 x4 x5 hk
    · have hk := x_okf hk z31
      refine x_iload 2 C d_Md_run_172 rfl ?_
      refine x_bipush (v := 13) C d_Md_run_174 (by decide) ?_
      refine x_icmp_ge 195 C d_Md_run_176 (by decide) (fun z32 => ?_) (fun z32 => ?_)
      · have hk := x_okt hk z32
        refine x_loc (lv' := [(0, (.ref (ad (18, 0)))), (3, (.int x3)), (4, (.int x4)), (5, (.int x5))]) [0, 1, 2, 3] rfl ?_
        exact cb_Md_run_195 ok C hr hlk a1 K KO ih  mi mk mlo mhi mm x3 x4 x5 hk
      · have hk := x_okf hk z32
        refine x_aload_n 0 C d_Md_run_179 rfl rfl ?_
        refine x_iload_n 1 C d_Md_run_180 rfl rfl ?_
        have w33 := hk.1
        have hk := hk.2
        refine x_cv (i := (18, 0)) (F := x_F ad cA) (As := [(.int x3)]) (rest := []) C k_Md_above q_1036 (c_Md_above ok x3 w33) rfl rfl rfl (Nat.le_of_ble_eq_true rfl) (Nat.le_of_ble_eq_true rfl) m_18 rfl rfl rfl rfl rfl (Nat.le_of_ble_eq_true rfl) d_Md_run_181 ⟨Nat.zero_le _, Nat.zero_le _⟩ ?_
        generalize hq34 : s_Md_above mo mk mlo x3 = r34 at hk ⊢
        refine x_lets ?_
        have hk := x_lete hk
        refine x_if_eq 195 C d_Md_run_184 (by decide) (fun z35 => ?_) (fun z35 => ?_)
        · have hk := x_okt hk z35
          refine x_loc (lv' := [(0, (.ref (ad (18, 0)))), (3, (.int x3)), (4, (.int x4)), (5, (.int x5))]) [0, 1, 2, 3] rfl ?_
          exact cb_Md_run_195 ok C hr hlk a1 K KO ih  mi mk mlo mhi mm x3 x4 x5 hk
        · have hk := x_okf hk z35
          refine x_loc (lv' := [(0, (.ref (ad (18, 0)))), (3, (.int x3)), (4, (.int x4))]) [0, 1, 2] rfl ?_
          exact cb_Md_run_187 ok C hr hlk a1 K KO ih  mi mk mlo mhi mm x3 x4 hk
def bk_Md_run_140 (K : (Nat → Int32) → (Nat → Int32) → (Nat → Int64) → (Nat → Int64) → (Nat → Int64) → Int32 → Int64 × (Nat → Int32) × (Nat → Int32) × (Nat → Int64) × (Nat → Int64) × (Nat → Int64)) (mo : Nat → Nat → Int32) (mi : Nat → Int32) (mk : Nat → Int32) (mlo : Nat → Int64) (mhi : Nat → Int64) (mm : Nat → Int64) (a1 : Int64) (x3 : Int32) (x4 : Int32) (x5 : Int32) : Int64 × (Nat → Int32) × (Nat → Int32) × (Nat → Int64) × (Nat → Int64) × (Nat → Int64) :=
  (if x4 ≤ 1 then bk_Md_run_158 K mo mi mk mlo mhi mm a1 x3 x4 x5 else (if 10 ≤ x4 then bk_Md_run_158 K mo mi mk mlo mhi mm a1 x3 x4 x5 else (x_let (s_Md_compute mo mlo x3) fun mlo38 => bk_Md_run_158 K mo mi mk mlo38 mhi mm a1 x3 x4 x5)))
def bk_ok_Md_run_140 (KO : (Nat → Int32) → (Nat → Int32) → (Nat → Int64) → (Nat → Int64) → (Nat → Int64) → Int32 → Prop) (mo : Nat → Nat → Int32) (mi : Nat → Int32) (mk : Nat → Int32) (mlo : Nat → Int64) (mhi : Nat → Int64) (mm : Nat → Int64) (a1 : Int64) (x3 : Int32) (x4 : Int32) (x5 : Int32) : Prop :=
  (if x4 ≤ 1 then bk_ok_Md_run_158 KO mo mi mk mlo mhi mm a1 x3 x4 x5 else (if 10 ≤ x4 then bk_ok_Md_run_158 KO mo mi mk mlo mhi mm a1 x3 x4 x5 else (k_ok_Md_compute mo mlo x3 ∧ (x_let (s_Md_compute mo mlo x3) fun mlo38 => bk_ok_Md_run_158 KO mo mi mk mlo38 mhi mm a1 x3 x4 x5))))
set_option maxHeartbeats 4000000 in
set_option maxRecDepth 100000 in
theorem cb_Md_run_140 {l : Launch} {D : va_G} {cA : Nat → ClassId} {ad : x_I → Nat} (ok : x_ok (x_k D cA ad)) {stp : Nat → Nat → Int32} {psz : Int32} {gk : Nat → Nat → Int32} {gl : Nat → Nat → Int64} {gh : Nat → Nat → Int64} {opn : Nat → Int32} {cki : Nat → Int32} {ckl : Nat → Int64} {mp : Nat → Nat → Int64} {rk : Nat → Int32} {rv : Nat → Int64} {ri : Nat → Int32} {chk : Int32} {mo : Nat → Nat → Int32} {ml : Nat → Int64} {pk : Nat → Int32} {ps : Nat → Int32} {pl : Nat → Int64} {ph : Nat → Int64} {out : Nat → Int64} {p : Program} {e : Env} {s : State} {m : MethodId} {args : Array Value} {below : List Frame} {meth : Method} {c : Code} (C : x_C p s m args c b_Md_run 6 R_Md (Cond.code y_Md_run b_Md_run 6 (Option.some Jvm.ClassFile.FieldType.long) :: x_Wd) (x_k D cA ad)) (hr : meth.sig.returnType = (Option.some Jvm.ClassFile.FieldType.long)) (hlk : meth.locks = false) (a1 : Int64) (K : (Nat → Int32) → (Nat → Int32) → (Nat → Int64) → (Nat → Int64) → (Nat → Int64) → Int32 → Int64 × (Nat → Int32) × (Nat → Int32) × (Nat → Int64) × (Nat → Int64) × (Nat → Int64)) (KO : (Nat → Int32) → (Nat → Int32) → (Nat → Int64) → (Nat → Int64) → (Nat → Int64) → Int32 → Prop) (ih : ∀ (mi : Nat → Int32) (mk : Nat → Int32) (mlo : Nat → Int64) (mhi : Nat → Int64) (mm : Nat → Int64) (x3 : Int32), KO mi mk mlo mhi mm x3 → x_V p l e { frames := 3, cells := 0, slots := 0, locals := 73 } s m args below meth c (x_k D cA ad) 6 0 0 (x_E below (x_k D cA ad) args s 0 0 (x_F ad cA) (fun q : Int64 × (Nat → Int32) × (Nat → Int32) × (Nat → Int64) × (Nat → Int64) × (Nat → Int64) => ((some (.long (q.1)), ((stp, psz, gk, gl, gh, opn, cki, ckl, mp, rk, rv, ri, chk), (mo, q.2.1, ml, q.2.2.1, q.2.2.2.1, q.2.2.2.2.1, pk, ps, pl, ph, q.2.2.2.2.2), out)) : Option Value × x_S)) (K mi mk mlo mhi mm x3)) (x_F ad cA ((stp, psz, gk, gl, gh, opn, cki, ckl, mp, rk, rv, ri, chk), (mo, mi, ml, mk, mlo, mhi, pk, ps, pl, ph, mm), out)) 70 [(0, (.ref (ad (18, 0)))), (3, (.int x3))] []) (mi : Nat → Int32) (mk : Nat → Int32) (mlo : Nat → Int64) (mhi : Nat → Int64) (mm : Nat → Int64) (x3 : Int32) (x4 : Int32) (x5 : Int32) (hk : bk_ok_Md_run_140 KO mo mi mk mlo mhi mm a1 x3 x4 x5) : x_V p l e { frames := 3, cells := 0, slots := 0, locals := 73 } s m args below meth c (x_k D cA ad) 6 0 0 (x_E below (x_k D cA ad) args s 0 0 (x_F ad cA) (fun q : Int64 × (Nat → Int32) × (Nat → Int32) × (Nat → Int64) × (Nat → Int64) × (Nat → Int64) => ((some (.long (q.1)), ((stp, psz, gk, gl, gh, opn, cki, ckl, mp, rk, rv, ri, chk), (mo, q.2.1, ml, q.2.2.1, q.2.2.2.1, q.2.2.2.2.1, pk, ps, pl, ph, q.2.2.2.2.2), out)) : Option Value × x_S)) (bk_Md_run_140 K mo mi mk mlo mhi mm a1 x3 x4 x5)) (x_F ad cA ((stp, psz, gk, gl, gh, opn, cki, ckl, mp, rk, rv, ri, chk), (mo, mi, ml, mk, mlo, mhi, pk, ps, pl, ph, mm), out)) 140 [(0, (.ref (ad (18, 0)))), (3, (.int x3)), (4, (.int x4)), (5, (.int x5))] [] := by
  unfold bk_Md_run_140
  unfold bk_ok_Md_run_140 at hk
  refine x_iload 2 C d_Md_run_140 rfl ?_
  refine x_iconst (v := 1) C d_Md_run_142 (by decide) ?_
  refine x_icmp_le 158 C d_Md_run_143 (by decide) (fun z17 => ?_) (fun z17 => ?_)
  · have hk := x_okt hk z17
    refine x_loc (lv' := [(0, (.ref (ad (18, 0)))), (3, (.int x3)), (4, (.int x4)), (5, (.int x5))]) [0, 1, 2, 3] rfl ?_
    exact cb_Md_run_158 ok C hr hlk a1 K KO ih  mi mk mlo mhi mm x3 x4 x5 hk
  · have hk := x_okf hk z17
    refine x_iload 2 C d_Md_run_146 rfl ?_
    refine x_bipush (v := 10) C d_Md_run_148 (by decide) ?_
    refine x_icmp_ge 158 C d_Md_run_150 (by decide) (fun z36 => ?_) (fun z36 => ?_)
    · have hk := x_okt hk z36
      refine x_loc (lv' := [(0, (.ref (ad (18, 0)))), (3, (.int x3)), (4, (.int x4)), (5, (.int x5))]) [0, 1, 2, 3] rfl ?_
      exact cb_Md_run_158 ok C hr hlk a1 K KO ih  mi mk mlo mhi mm x3 x4 x5 hk
    · have hk := x_okf hk z36
      refine x_aload_n 0 C d_Md_run_153 rfl rfl ?_
      refine x_iload_n 1 C d_Md_run_154 rfl rfl ?_
      have w37 := hk.1
      have hk := hk.2
      refine x_cv0 (i := (18, 0)) (F := x_F ad cA) (As := [(.int x3)]) (rest := []) C k_Md_compute q_1032 (c_Md_compute ok x3 w37) rfl rfl rfl (Nat.le_of_ble_eq_true rfl) (Nat.le_of_ble_eq_true rfl) m_18 rfl rfl rfl rfl rfl (Nat.le_of_ble_eq_true rfl) d_Md_run_155 ⟨Nat.zero_le _, Nat.zero_le _⟩ ?_
      generalize hq38 : s_Md_compute mo mlo x3 = mlo38 at hk ⊢
      refine x_lets ?_
      have hk := x_lete hk
      refine x_loc (lv' := [(0, (.ref (ad (18, 0)))), (3, (.int x3)), (4, (.int x4)), (5, (.int x5))]) [0, 1, 2, 3] rfl ?_
      exact cb_Md_run_158 ok C hr hlk a1 K KO ih  mi mk mlo38 mhi mm x3 x4 x5 hk
def bk_Md_run_118 (K : (Nat → Int32) → (Nat → Int32) → (Nat → Int64) → (Nat → Int64) → (Nat → Int64) → Int32 → Int64 × (Nat → Int32) × (Nat → Int32) × (Nat → Int64) × (Nat → Int64) × (Nat → Int64)) (mo : Nat → Nat → Int32) (mi : Nat → Int32) (mk : Nat → Int32) (mlo : Nat → Int64) (mhi : Nat → Int64) (mm : Nat → Int64) (a1 : Int64) (x3 : Int32) (x4 : Int32) (x5 : Int32) : Int64 × (Nat → Int32) × (Nat → Int32) × (Nat → Int64) × (Nat → Int64) × (Nat → Int64) :=
  (if x4 = 1 then (x_let (s_Md_copy mk mlo mhi (mo 2 x3.toNatClampNeg) (mo 1 x3.toNatClampNeg)) fun (mk16, mlo16, mhi16) => bk_Md_run_140 K mo mi mk16 mlo16 mhi16 mm a1 x3 x4 x5) else bk_Md_run_140 K mo mi mk mlo mhi mm a1 x3 x4 x5)
def bk_ok_Md_run_118 (KO : (Nat → Int32) → (Nat → Int32) → (Nat → Int64) → (Nat → Int64) → (Nat → Int64) → Int32 → Prop) (mo : Nat → Nat → Int32) (mi : Nat → Int32) (mk : Nat → Int32) (mlo : Nat → Int64) (mhi : Nat → Int64) (mm : Nat → Int64) (a1 : Int64) (x3 : Int32) (x4 : Int32) (x5 : Int32) : Prop :=
  (if x4 = 1 then (vp_in x3 24 ∧ (k_ok_Md_copy mk mlo mhi (mo 2 x3.toNatClampNeg) (mo 1 x3.toNatClampNeg) ∧ (x_let (s_Md_copy mk mlo mhi (mo 2 x3.toNatClampNeg) (mo 1 x3.toNatClampNeg)) fun (mk16, mlo16, mhi16) => bk_ok_Md_run_140 KO mo mi mk16 mlo16 mhi16 mm a1 x3 x4 x5))) else bk_ok_Md_run_140 KO mo mi mk mlo mhi mm a1 x3 x4 x5)
set_option maxHeartbeats 4000000 in
set_option maxRecDepth 100000 in
theorem cb_Md_run_118 {l : Launch} {D : va_G} {cA : Nat → ClassId} {ad : x_I → Nat} (ok : x_ok (x_k D cA ad)) {stp : Nat → Nat → Int32} {psz : Int32} {gk : Nat → Nat → Int32} {gl : Nat → Nat → Int64} {gh : Nat → Nat → Int64} {opn : Nat → Int32} {cki : Nat → Int32} {ckl : Nat → Int64} {mp : Nat → Nat → Int64} {rk : Nat → Int32} {rv : Nat → Int64} {ri : Nat → Int32} {chk : Int32} {mo : Nat → Nat → Int32} {ml : Nat → Int64} {pk : Nat → Int32} {ps : Nat → Int32} {pl : Nat → Int64} {ph : Nat → Int64} {out : Nat → Int64} {p : Program} {e : Env} {s : State} {m : MethodId} {args : Array Value} {below : List Frame} {meth : Method} {c : Code} (C : x_C p s m args c b_Md_run 6 R_Md (Cond.code y_Md_run b_Md_run 6 (Option.some Jvm.ClassFile.FieldType.long) :: x_Wd) (x_k D cA ad)) (hr : meth.sig.returnType = (Option.some Jvm.ClassFile.FieldType.long)) (hlk : meth.locks = false) (a1 : Int64) (K : (Nat → Int32) → (Nat → Int32) → (Nat → Int64) → (Nat → Int64) → (Nat → Int64) → Int32 → Int64 × (Nat → Int32) × (Nat → Int32) × (Nat → Int64) × (Nat → Int64) × (Nat → Int64)) (KO : (Nat → Int32) → (Nat → Int32) → (Nat → Int64) → (Nat → Int64) → (Nat → Int64) → Int32 → Prop) (ih : ∀ (mi : Nat → Int32) (mk : Nat → Int32) (mlo : Nat → Int64) (mhi : Nat → Int64) (mm : Nat → Int64) (x3 : Int32), KO mi mk mlo mhi mm x3 → x_V p l e { frames := 3, cells := 0, slots := 0, locals := 73 } s m args below meth c (x_k D cA ad) 6 0 0 (x_E below (x_k D cA ad) args s 0 0 (x_F ad cA) (fun q : Int64 × (Nat → Int32) × (Nat → Int32) × (Nat → Int64) × (Nat → Int64) × (Nat → Int64) => ((some (.long (q.1)), ((stp, psz, gk, gl, gh, opn, cki, ckl, mp, rk, rv, ri, chk), (mo, q.2.1, ml, q.2.2.1, q.2.2.2.1, q.2.2.2.2.1, pk, ps, pl, ph, q.2.2.2.2.2), out)) : Option Value × x_S)) (K mi mk mlo mhi mm x3)) (x_F ad cA ((stp, psz, gk, gl, gh, opn, cki, ckl, mp, rk, rv, ri, chk), (mo, mi, ml, mk, mlo, mhi, pk, ps, pl, ph, mm), out)) 70 [(0, (.ref (ad (18, 0)))), (3, (.int x3))] []) (mi : Nat → Int32) (mk : Nat → Int32) (mlo : Nat → Int64) (mhi : Nat → Int64) (mm : Nat → Int64) (x3 : Int32) (x4 : Int32) (x5 : Int32) (hk : bk_ok_Md_run_118 KO mo mi mk mlo mhi mm a1 x3 x4 x5) : x_V p l e { frames := 3, cells := 0, slots := 0, locals := 73 } s m args below meth c (x_k D cA ad) 6 0 0 (x_E below (x_k D cA ad) args s 0 0 (x_F ad cA) (fun q : Int64 × (Nat → Int32) × (Nat → Int32) × (Nat → Int64) × (Nat → Int64) × (Nat → Int64) => ((some (.long (q.1)), ((stp, psz, gk, gl, gh, opn, cki, ckl, mp, rk, rv, ri, chk), (mo, q.2.1, ml, q.2.2.1, q.2.2.2.1, q.2.2.2.2.1, pk, ps, pl, ph, q.2.2.2.2.2), out)) : Option Value × x_S)) (bk_Md_run_118 K mo mi mk mlo mhi mm a1 x3 x4 x5)) (x_F ad cA ((stp, psz, gk, gl, gh, opn, cki, ckl, mp, rk, rv, ri, chk), (mo, mi, ml, mk, mlo, mhi, pk, ps, pl, ph, mm), out)) 118 [(0, (.ref (ad (18, 0)))), (3, (.int x3)), (4, (.int x4)), (5, (.int x5))] [] := by
  unfold bk_Md_run_118
  unfold bk_ok_Md_run_118 at hk
  refine x_iload 2 C d_Md_run_118 rfl ?_
  refine x_iconst (v := 1) C d_Md_run_120 (by decide) ?_
  refine x_icmp_ne 140 C d_Md_run_121 (by decide) (fun z13 => ?_) (fun z13 => ?_)
  · have hk := x_okt hk z13
    refine x_aload_n 0 C d_Md_run_124 rfl rfl ?_
    refine x_aload_n 0 C d_Md_run_125 rfl rfl ?_
    refine x_get (i := (18, 0)) (v := (.ref (ad (21, 0)))) 2 C m_18 rfl rfl i_Md (by decide) (List.mem_cons_of_mem _ q_793) rfl d_Md_run_126 ?_
    refine x_iload_n 1 C d_Md_run_129 rfl rfl ?_
    have w14 := hk.1
    have hk := hk.2
    refine x_iald (i := (21, 0)) (g := mo 2) 0 C m_21 rfl rfl w14 d_Md_run_130 ?_
    refine x_aload_n 0 C d_Md_run_131 rfl rfl ?_
    refine x_get (i := (18, 0)) (v := (.ref (ad (20, 0)))) 1 C m_18 rfl rfl i_Md (by decide) (List.mem_cons_of_mem _ q_792) rfl d_Md_run_132 ?_
    refine x_iload_n 1 C d_Md_run_135 rfl rfl ?_
    refine x_iald (i := (20, 0)) (g := mo 1) 0 C m_20 rfl rfl w14 d_Md_run_136 ?_
    have w15 := hk.1
    have hk := hk.2
    refine x_cv0 (i := (18, 0)) (F := x_F ad cA) (As := [(.int (mo 2 x3.toNatClampNeg)), (.int (mo 1 x3.toNatClampNeg))]) (rest := []) C k_Md_copy q_972 (c_Md_copy ok (mo 2 x3.toNatClampNeg) (mo 1 x3.toNatClampNeg) w15) rfl rfl rfl (Nat.le_of_ble_eq_true rfl) (Nat.le_of_ble_eq_true rfl) m_18 rfl rfl rfl rfl rfl (Nat.le_of_ble_eq_true rfl) d_Md_run_137 ⟨Nat.zero_le _, Nat.zero_le _⟩ ?_
    generalize hq16 : s_Md_copy mk mlo mhi (mo 2 x3.toNatClampNeg) (mo 1 x3.toNatClampNeg) = q16 at hk ⊢
    obtain ⟨mk16, mlo16, mhi16⟩ := q16
    refine x_lets ?_
    have hk := x_lete hk
    dsimp only at hk ⊢
    refine x_loc (lv' := [(0, (.ref (ad (18, 0)))), (3, (.int x3)), (4, (.int x4)), (5, (.int x5))]) [0, 1, 2, 3] rfl ?_
    exact cb_Md_run_140 ok C hr hlk a1 K KO ih  mi mk16 mlo16 mhi16 mm x3 x4 x5 hk
  · have hk := x_okf hk z13
    refine x_loc (lv' := [(0, (.ref (ad (18, 0)))), (3, (.int x3)), (4, (.int x4)), (5, (.int x5))]) [0, 1, 2, 3] rfl ?_
    exact cb_Md_run_140 ok C hr hlk a1 K KO ih  mi mk mlo mhi mm x3 x4 x5 hk
def lp_Md_run_70 (n : Nat) (mo : Nat → Nat → Int32) (mi : Nat → Int32) (mk : Nat → Int32) (mlo : Nat → Int64) (mhi : Nat → Int64) (mm : Nat → Int64) (a1 : Int64) (x3 : Int32) : Int64 × (Nat → Int32) × (Nat → Int32) × (Nat → Int64) × (Nat → Int64) × (Nat → Int64) := match n with
  | 0 => (0, mi, mk, mlo, mhi, mm)
  | n + 1 => (if (mo 0 x3.toNatClampNeg) = 17 then (mlo (Int32.toNatClampNeg 0), mi, mk, mlo, mhi, mm) else (if (mo 0 x3.toNatClampNeg) = 0 then (x_let (s_Md_know mk mlo mhi (mo 1 x3.toNatClampNeg) 1 (Int32.toInt64 (mo 3 x3.toNatClampNeg)) 0) fun (mk12, mlo12, mhi12) => bk_Md_run_118 (fun mi mk mlo mhi mm x3 => lp_Md_run_70 n mo mi mk mlo mhi mm a1 x3) mo mi mk12 mlo12 mhi12 mm a1 x3 (mo 0 x3.toNatClampNeg) (x3 + 1)) else bk_Md_run_118 (fun mi mk mlo mhi mm x3 => lp_Md_run_70 n mo mi mk mlo mhi mm a1 x3) mo mi mk mlo mhi mm a1 x3 (mo 0 x3.toNatClampNeg) (x3 + 1)))
def lp_ok_Md_run_70 (n : Nat) (mo : Nat → Nat → Int32) (mi : Nat → Int32) (mk : Nat → Int32) (mlo : Nat → Int64) (mhi : Nat → Int64) (mm : Nat → Int64) (a1 : Int64) (x3 : Int32) : Prop := match n with
  | 0 => False
  | n + 1 => (vp_in x3 24 ∧ (if (mo 0 x3.toNatClampNeg) = 17 then True else (if (mo 0 x3.toNatClampNeg) = 0 then (k_ok_Md_know mk mlo mhi (mo 1 x3.toNatClampNeg) 1 (Int32.toInt64 (mo 3 x3.toNatClampNeg)) 0 ∧ (x_let (s_Md_know mk mlo mhi (mo 1 x3.toNatClampNeg) 1 (Int32.toInt64 (mo 3 x3.toNatClampNeg)) 0) fun (mk12, mlo12, mhi12) => bk_ok_Md_run_118 (fun mi mk mlo mhi mm x3 => lp_ok_Md_run_70 n mo mi mk mlo mhi mm a1 x3) mo mi mk12 mlo12 mhi12 mm a1 x3 (mo 0 x3.toNatClampNeg) (x3 + 1))) else bk_ok_Md_run_118 (fun mi mk mlo mhi mm x3 => lp_ok_Md_run_70 n mo mi mk mlo mhi mm a1 x3) mo mi mk mlo mhi mm a1 x3 (mo 0 x3.toNatClampNeg) (x3 + 1))))
set_option maxHeartbeats 4000000 in
set_option maxRecDepth 100000 in
theorem cl_Md_run_70 {l : Launch} {D : va_G} {cA : Nat → ClassId} {ad : x_I → Nat} (ok : x_ok (x_k D cA ad)) {stp : Nat → Nat → Int32} {psz : Int32} {gk : Nat → Nat → Int32} {gl : Nat → Nat → Int64} {gh : Nat → Nat → Int64} {opn : Nat → Int32} {cki : Nat → Int32} {ckl : Nat → Int64} {mp : Nat → Nat → Int64} {rk : Nat → Int32} {rv : Nat → Int64} {ri : Nat → Int32} {chk : Int32} {mo : Nat → Nat → Int32} {ml : Nat → Int64} {pk : Nat → Int32} {ps : Nat → Int32} {pl : Nat → Int64} {ph : Nat → Int64} {out : Nat → Int64} {p : Program} {e : Env} {s : State} {m : MethodId} {args : Array Value} {below : List Frame} {meth : Method} {c : Code} (C : x_C p s m args c b_Md_run 6 R_Md (Cond.code y_Md_run b_Md_run 6 (Option.some Jvm.ClassFile.FieldType.long) :: x_Wd) (x_k D cA ad)) (hr : meth.sig.returnType = (Option.some Jvm.ClassFile.FieldType.long)) (hlk : meth.locks = false) (a1 : Int64) : ∀ (n : Nat) (mi : Nat → Int32) (mk : Nat → Int32) (mlo : Nat → Int64) (mhi : Nat → Int64) (mm : Nat → Int64) (x3 : Int32) (hk : lp_ok_Md_run_70 n mo mi mk mlo mhi mm a1 x3), x_V p l e { frames := 3, cells := 0, slots := 0, locals := 73 } s m args below meth c (x_k D cA ad) 6 0 0 (x_E below (x_k D cA ad) args s 0 0 (x_F ad cA) (fun q : Int64 × (Nat → Int32) × (Nat → Int32) × (Nat → Int64) × (Nat → Int64) × (Nat → Int64) => ((some (.long (q.1)), ((stp, psz, gk, gl, gh, opn, cki, ckl, mp, rk, rv, ri, chk), (mo, q.2.1, ml, q.2.2.1, q.2.2.2.1, q.2.2.2.2.1, pk, ps, pl, ph, q.2.2.2.2.2), out)) : Option Value × x_S)) (lp_Md_run_70 n mo mi mk mlo mhi mm a1 x3)) (x_F ad cA ((stp, psz, gk, gl, gh, opn, cki, ckl, mp, rk, rv, ri, chk), (mo, mi, ml, mk, mlo, mhi, pk, ps, pl, ph, mm), out)) 70 [(0, (.ref (ad (18, 0)))), (3, (.int x3))] [] := by
  intro n
  induction n with
  | zero => intro mi mk mlo mhi mm x3 hk; exact False.elim hk
  | succ n ih =>
    intro mi mk mlo mhi mm x3 hk
    rw [lp_Md_run_70]
    rw [lp_ok_Md_run_70] at hk
    refine x_aload_n 0 C d_Md_run_70 rfl rfl ?_
    refine x_get (i := (18, 0)) (v := (.ref (ad (19, 0)))) 0 C m_18 rfl rfl i_Md (by decide) (List.mem_cons_of_mem _ q_791) rfl d_Md_run_71 ?_
    refine x_iload_n 1 C d_Md_run_74 rfl rfl ?_
    have w8 := hk.1
    have hk := hk.2
    refine x_iald (i := (19, 0)) (g := mo 0) 0 C m_19 rfl rfl w8 d_Md_run_75 ?_
    refine x_bipush (v := 17) C d_Md_run_76 (by decide) ?_
    refine x_icmp_eq 259 C d_Md_run_78 (by decide) (fun z9 => ?_) (fun z9 => ?_)
    · have hk := x_okt hk z9
      refine x_aload_n 0 C d_Md_run_259 rfl rfl ?_
      refine x_get (i := (18, 0)) (v := (.ref (ad (25, 0)))) 17 C m_18 rfl rfl i_Md (by decide) (List.mem_cons_of_mem _ q_808) rfl d_Md_run_260 ?_
      refine x_iconst (v := 0) C d_Md_run_263 (by decide) ?_
      refine x_lald (i := (25, 0)) (g := mlo) 1 C m_25 rfl rfl (x_vin (by decide)) d_Md_run_264 ?_
      exact x_lret C hr hlk rfl d_Md_run_265
    · have hk := x_okf hk z9
      refine x_aload_n 0 C d_Md_run_81 rfl rfl ?_
      refine x_get (i := (18, 0)) (v := (.ref (ad (19, 0)))) 0 C m_18 rfl rfl i_Md (by decide) (List.mem_cons_of_mem _ q_791) rfl d_Md_run_82 ?_
      refine x_iload_n 1 C d_Md_run_85 rfl rfl ?_
      refine x_iald (i := (19, 0)) (g := mo 0) 0 C m_19 rfl rfl w8 d_Md_run_86 ?_
      refine x_istore (lv' := [(4, (.int (mo 0 x3.toNatClampNeg))), (0, (.ref (ad (18, 0)))), (3, (.int x3))]) C d_Md_run_87 (by decide) rfl ?_
      refine x_iload_n 2 C d_Md_run_89 rfl rfl ?_
      refine x_iconst (v := 1) C d_Md_run_90 (by decide) ?_
      refine x_iadd C d_Md_run_91 ?_
      refine x_istore (lv' := [(5, (.int (x3 + 1))), (4, (.int (mo 0 x3.toNatClampNeg))), (0, (.ref (ad (18, 0)))), (3, (.int x3))]) C d_Md_run_92 (by decide) rfl ?_
      refine x_iload 1 C d_Md_run_94 rfl ?_
      refine x_if_ne 118 C d_Md_run_96 (by decide) (fun z10 => ?_) (fun z10 => ?_)
      · have hk := x_okt hk z10
        refine x_aload_n 2 C d_Md_run_99 rfl rfl ?_
        refine x_aload_n 2 C d_Md_run_100 rfl rfl ?_
        refine x_get (i := (18, 0)) (v := (.ref (ad (20, 0)))) 1 C m_18 rfl rfl i_Md (by decide) (List.mem_cons_of_mem _ q_792) rfl d_Md_run_101 ?_
        refine x_iload_n 3 C d_Md_run_104 rfl rfl ?_
        refine x_iald (i := (20, 0)) (g := mo 1) 0 C m_20 rfl rfl w8 d_Md_run_105 ?_
        refine x_iconst (v := 1) C d_Md_run_106 (by decide) ?_
        refine x_aload_n 2 C d_Md_run_107 rfl rfl ?_
        refine x_get (i := (18, 0)) (v := (.ref (ad (22, 0)))) 3 C m_18 rfl rfl i_Md (by decide) (List.mem_cons_of_mem _ q_794) rfl d_Md_run_108 ?_
        refine x_iload_n 3 C d_Md_run_111 rfl rfl ?_
        refine x_iald (i := (22, 0)) (g := mo 3) 0 C m_22 rfl rfl w8 d_Md_run_112 ?_
        refine x_i2l C d_Md_run_113 ?_
        refine x_lconst (v := 0) C d_Md_run_114 (by decide) ?_
        have w11 := hk.1
        have hk := hk.2
        refine x_cv0 (i := (18, 0)) (F := x_F ad cA) (As := [(.int (mo 1 x3.toNatClampNeg)), (.int 1), (.long (Int32.toInt64 (mo 3 x3.toNatClampNeg))), (.long 0)]) (rest := []) C k_Md_know q_908 (c_Md_know ok (mo 1 x3.toNatClampNeg) 1 (Int32.toInt64 (mo 3 x3.toNatClampNeg)) 0 w11) rfl rfl rfl (Nat.le_of_ble_eq_true rfl) (Nat.le_of_ble_eq_true rfl) m_18 rfl rfl rfl rfl rfl (Nat.le_of_ble_eq_true rfl) d_Md_run_115 ⟨Nat.zero_le _, Nat.zero_le _⟩ ?_
        generalize hq12 : s_Md_know mk mlo mhi (mo 1 x3.toNatClampNeg) 1 (Int32.toInt64 (mo 3 x3.toNatClampNeg)) 0 = q12 at hk ⊢
        obtain ⟨mk12, mlo12, mhi12⟩ := q12
        refine x_lets ?_
        have hk := x_lete hk
        dsimp only at hk ⊢
        refine x_loc (lv' := [(0, (.ref (ad (18, 0)))), (3, (.int x3)), (4, (.int (mo 0 x3.toNatClampNeg))), (5, (.int (x3 + 1)))]) [2, 3, 1, 0] rfl ?_
        exact cb_Md_run_118 ok C hr hlk a1 (fun mi mk mlo mhi mm x3 => lp_Md_run_70 n mo mi mk mlo mhi mm a1 x3) (fun mi mk mlo mhi mm x3 => lp_ok_Md_run_70 n mo mi mk mlo mhi mm a1 x3) ih  mi mk12 mlo12 mhi12 mm x3 (mo 0 x3.toNatClampNeg) (x3 + 1) hk
      · have hk := x_okf hk z10
        refine x_loc (lv' := [(0, (.ref (ad (18, 0)))), (3, (.int x3)), (4, (.int (mo 0 x3.toNatClampNeg))), (5, (.int (x3 + 1)))]) [2, 3, 1, 0] rfl ?_
        exact cb_Md_run_118 ok C hr hlk a1 (fun mi mk mlo mhi mm x3 => lp_Md_run_70 n mo mi mk mlo mhi mm a1 x3) (fun mi mk mlo mhi mm x3 => lp_ok_Md_run_70 n mo mi mk mlo mhi mm a1 x3) ih  mi mk mlo mhi mm x3 (mo 0 x3.toNatClampNeg) (x3 + 1) hk
def lp_Md_run_27 (n : Nat) (mo : Nat → Nat → Int32) (mi : Nat → Int32) (mk : Nat → Int32) (mlo : Nat → Int64) (mhi : Nat → Int64) (mm : Nat → Int64) (a1 : Int64) (x3 : Int32) : Int64 × (Nat → Int32) × (Nat → Int32) × (Nat → Int64) × (Nat → Int64) × (Nat → Int64) := match n with
  | 0 => (0, mi, mk, mlo, mhi, mm)
  | n + 1 => (if 12 ≤ x3 then (x_let (s_Md_know mk mlo mhi 1 1 a1 0) fun (mk5, mlo5, mhi5) => (x_let (s_Md_know mk5 mlo5 mhi5 2 2 0 0) fun (mk7, mlo7, mhi7) => lp_Md_run_70 25 mo (upd mi 4 1) mk7 mlo7 mhi7 mm a1 0)) else (x_let (s_Md_know mk mlo mhi x3 0 0 0) fun (mk40, mlo40, mhi40) => lp_Md_run_27 n mo mi mk40 mlo40 mhi40 mm a1 (x3 + 1)))
def lp_ok_Md_run_27 (n : Nat) (mo : Nat → Nat → Int32) (mi : Nat → Int32) (mk : Nat → Int32) (mlo : Nat → Int64) (mhi : Nat → Int64) (mm : Nat → Int64) (a1 : Int64) (x3 : Int32) : Prop := match n with
  | 0 => False
  | n + 1 => (if 12 ≤ x3 then (k_ok_Md_know mk mlo mhi 1 1 a1 0 ∧ (x_let (s_Md_know mk mlo mhi 1 1 a1 0) fun (mk5, mlo5, mhi5) => (k_ok_Md_know mk5 mlo5 mhi5 2 2 0 0 ∧ (x_let (s_Md_know mk5 mlo5 mhi5 2 2 0 0) fun (mk7, mlo7, mhi7) => lp_ok_Md_run_70 25 mo (upd mi 4 1) mk7 mlo7 mhi7 mm a1 0)))) else (k_ok_Md_know mk mlo mhi x3 0 0 0 ∧ (x_let (s_Md_know mk mlo mhi x3 0 0 0) fun (mk40, mlo40, mhi40) => lp_ok_Md_run_27 n mo mi mk40 mlo40 mhi40 mm a1 (x3 + 1))))
set_option maxHeartbeats 4000000 in
set_option maxRecDepth 100000 in
theorem cl_Md_run_27 {l : Launch} {D : va_G} {cA : Nat → ClassId} {ad : x_I → Nat} (ok : x_ok (x_k D cA ad)) {stp : Nat → Nat → Int32} {psz : Int32} {gk : Nat → Nat → Int32} {gl : Nat → Nat → Int64} {gh : Nat → Nat → Int64} {opn : Nat → Int32} {cki : Nat → Int32} {ckl : Nat → Int64} {mp : Nat → Nat → Int64} {rk : Nat → Int32} {rv : Nat → Int64} {ri : Nat → Int32} {chk : Int32} {mo : Nat → Nat → Int32} {ml : Nat → Int64} {pk : Nat → Int32} {ps : Nat → Int32} {pl : Nat → Int64} {ph : Nat → Int64} {out : Nat → Int64} {p : Program} {e : Env} {s : State} {m : MethodId} {args : Array Value} {below : List Frame} {meth : Method} {c : Code} (C : x_C p s m args c b_Md_run 6 R_Md (Cond.code y_Md_run b_Md_run 6 (Option.some Jvm.ClassFile.FieldType.long) :: x_Wd) (x_k D cA ad)) (hr : meth.sig.returnType = (Option.some Jvm.ClassFile.FieldType.long)) (hlk : meth.locks = false) (a1 : Int64) : ∀ (n : Nat) (mi : Nat → Int32) (mk : Nat → Int32) (mlo : Nat → Int64) (mhi : Nat → Int64) (mm : Nat → Int64) (x3 : Int32) (hk : lp_ok_Md_run_27 n mo mi mk mlo mhi mm a1 x3), x_V p l e { frames := 3, cells := 0, slots := 0, locals := 73 } s m args below meth c (x_k D cA ad) 6 0 0 (x_E below (x_k D cA ad) args s 0 0 (x_F ad cA) (fun q : Int64 × (Nat → Int32) × (Nat → Int32) × (Nat → Int64) × (Nat → Int64) × (Nat → Int64) => ((some (.long (q.1)), ((stp, psz, gk, gl, gh, opn, cki, ckl, mp, rk, rv, ri, chk), (mo, q.2.1, ml, q.2.2.1, q.2.2.2.1, q.2.2.2.2.1, pk, ps, pl, ph, q.2.2.2.2.2), out)) : Option Value × x_S)) (lp_Md_run_27 n mo mi mk mlo mhi mm a1 x3)) (x_F ad cA ((stp, psz, gk, gl, gh, opn, cki, ckl, mp, rk, rv, ri, chk), (mo, mi, ml, mk, mlo, mhi, pk, ps, pl, ph, mm), out)) 27 [(0, (.ref (ad (18, 0)))), (1, (.long a1)), (3, (.int x3))] [] := by
  intro n
  induction n with
  | zero => intro mi mk mlo mhi mm x3 hk; exact False.elim hk
  | succ n ih =>
    intro mi mk mlo mhi mm x3 hk
    rw [lp_Md_run_27]
    rw [lp_ok_Md_run_27] at hk
    refine x_iload_n 2 C d_Md_run_27 rfl rfl ?_
    refine x_bipush (v := 12) C d_Md_run_28 (by decide) ?_
    refine x_icmp_ge 47 C d_Md_run_30 (by decide) (fun z3 => ?_) (fun z3 => ?_)
    · have hk := x_okt hk z3
      refine x_aload_n 0 C d_Md_run_47 rfl rfl ?_
      refine x_iconst (v := 1) C d_Md_run_48 (by decide) ?_
      refine x_iconst (v := 1) C d_Md_run_49 (by decide) ?_
      refine x_lload_n 1 C d_Md_run_50 rfl rfl ?_
      refine x_lconst (v := 0) C d_Md_run_51 (by decide) ?_
      have w4 := hk.1
      have hk := hk.2
      refine x_cv0 (i := (18, 0)) (F := x_F ad cA) (As := [(.int 1), (.int 1), (.long a1), (.long 0)]) (rest := []) C k_Md_know q_908 (c_Md_know ok 1 1 a1 0 w4) rfl rfl rfl (Nat.le_of_ble_eq_true rfl) (Nat.le_of_ble_eq_true rfl) m_18 rfl rfl rfl rfl rfl (Nat.le_of_ble_eq_true rfl) d_Md_run_52 ⟨Nat.zero_le _, Nat.zero_le _⟩ ?_
      generalize hq5 : s_Md_know mk mlo mhi 1 1 a1 0 = q5 at hk ⊢
      obtain ⟨mk5, mlo5, mhi5⟩ := q5
      refine x_lets ?_
      have hk := x_lete hk
      dsimp only at hk ⊢
      refine x_aload_n 0 C d_Md_run_55 rfl rfl ?_
      refine x_iconst (v := 2) C d_Md_run_56 (by decide) ?_
      refine x_iconst (v := 2) C d_Md_run_57 (by decide) ?_
      refine x_lconst (v := 0) C d_Md_run_58 (by decide) ?_
      refine x_lconst (v := 0) C d_Md_run_59 (by decide) ?_
      have w6 := hk.1
      have hk := hk.2
      refine x_cv0 (i := (18, 0)) (F := x_F ad cA) (As := [(.int 2), (.int 2), (.long 0), (.long 0)]) (rest := []) C k_Md_know q_908 (c_Md_know ok 2 2 0 0 w6) rfl rfl rfl (Nat.le_of_ble_eq_true rfl) (Nat.le_of_ble_eq_true rfl) m_18 rfl rfl rfl rfl rfl (Nat.le_of_ble_eq_true rfl) d_Md_run_60 ⟨Nat.zero_le _, Nat.zero_le _⟩ ?_
      generalize hq7 : s_Md_know mk5 mlo5 mhi5 2 2 0 0 = q7 at hk ⊢
      obtain ⟨mk7, mlo7, mhi7⟩ := q7
      refine x_lets ?_
      have hk := x_lete hk
      dsimp only at hk ⊢
      refine x_iconst (v := 0) C d_Md_run_63 (by decide) ?_
      refine x_istore_n (lv' := [(3, (.int 0)), (0, (.ref (ad (18, 0)))), (1, (.long a1))]) C d_Md_run_64 rfl (by decide) rfl ?_
      refine x_aload_n 1 C d_Md_run_65 rfl rfl ?_
      refine x_iconst (v := 1) C d_Md_run_66 (by decide) ?_
      refine x_put (i := (18, 0)) (f' := x_F ad cA ((stp, psz, gk, gl, gh, opn, cki, ckl, mp, rk, rv, ri, chk), (mo, upd mi 4 1, ml, mk7, mlo7, mhi7, pk, ps, pl, ph, mm), out)) 9 C m_18 rfl rfl i_Md t_Md_ok n_Md (by decide) (List.mem_cons_of_mem _ q_800) rfl rfl rfl (Nat.le_of_ble_eq_true rfl) d_Md_run_67 e_mi4 ?_
      refine x_loc (lv' := [(0, (.ref (ad (18, 0)))), (3, (.int 0))]) [1, 0] rfl ?_
      exact cl_Md_run_70 ok C hr hlk a1 25 (upd mi 4 1) mk7 mlo7 mhi7 mm 0 hk
    · have hk := x_okf hk z3
      refine x_aload_n 0 C d_Md_run_33 rfl rfl ?_
      refine x_iload_n 2 C d_Md_run_34 rfl rfl ?_
      refine x_iconst (v := 0) C d_Md_run_35 (by decide) ?_
      refine x_lconst (v := 0) C d_Md_run_36 (by decide) ?_
      refine x_lconst (v := 0) C d_Md_run_37 (by decide) ?_
      have w39 := hk.1
      have hk := hk.2
      refine x_cv0 (i := (18, 0)) (F := x_F ad cA) (As := [(.int x3), (.int 0), (.long 0), (.long 0)]) (rest := []) C k_Md_know q_908 (c_Md_know ok x3 0 0 0 w39) rfl rfl rfl (Nat.le_of_ble_eq_true rfl) (Nat.le_of_ble_eq_true rfl) m_18 rfl rfl rfl rfl rfl (Nat.le_of_ble_eq_true rfl) d_Md_run_38 ⟨Nat.zero_le _, Nat.zero_le _⟩ ?_
      generalize hq40 : s_Md_know mk mlo mhi x3 0 0 0 = q40 at hk ⊢
      obtain ⟨mk40, mlo40, mhi40⟩ := q40
      refine x_lets ?_
      have hk := x_lete hk
      dsimp only at hk ⊢
      refine x_iinc (lv' := [(3, (.int (x3 + 1))), (0, (.ref (ad (18, 0)))), (1, (.long a1))]) 2 C d_Md_run_41 rfl rfl (by decide) rfl ?_
      refine x_goto 27 C d_Md_run_44 (by decide) ?_
      refine x_loc (lv' := [(0, (.ref (ad (18, 0)))), (1, (.long a1)), (3, (.int (x3 + 1)))]) [1, 2, 0] rfl ?_
      exact ih mi mk40 mlo40 mhi40 mm (x3 + 1) hk
def s_Md_run (mo : Nat → Nat → Int32) (mi : Nat → Int32) (mk : Nat → Int32) (mlo : Nat → Int64) (mhi : Nat → Int64) (mm : Nat → Int64) (a1 : Int64) : Int64 × (Nat → Int32) × (Nat → Int32) × (Nat → Int64) × (Nat → Int64) × (Nat → Int64) :=
  (if (mi 7) = 0 then (if ((upd mi 6 1) 7) = 0 then (0, upd mi 6 1, mk, mlo, mhi, mm) else lp_Md_run_27 13 mo (upd mi 6 1) mk mlo mhi mm a1 0) else (if ((upd mi 6 0) 7) = 0 then (0, upd mi 6 0, mk, mlo, mhi, mm) else lp_Md_run_27 13 mo (upd mi 6 0) mk mlo mhi mm a1 0))
def k_ok_Md_run (mo : Nat → Nat → Int32) (mi : Nat → Int32) (mk : Nat → Int32) (mlo : Nat → Int64) (mhi : Nat → Int64) (mm : Nat → Int64) (a1 : Int64) : Prop :=
  (if (mi 7) = 0 then (if ((upd mi 6 1) 7) = 0 then True else lp_ok_Md_run_27 13 mo (upd mi 6 1) mk mlo mhi mm a1 0) else (if ((upd mi 6 0) 7) = 0 then True else lp_ok_Md_run_27 13 mo (upd mi 6 0) mk mlo mhi mm a1 0))
set_option maxHeartbeats 4000000 in
set_option maxRecDepth 100000 in
theorem c_Md_run {l : Launch} {D : va_G} {cA : Nat → ClassId} {ad : x_I → Nat} (ok : x_ok (x_k D cA ad)) {stp : Nat → Nat → Int32} {psz : Int32} {gk : Nat → Nat → Int32} {gl : Nat → Nat → Int64} {gh : Nat → Nat → Int64} {opn : Nat → Int32} {cki : Nat → Int32} {ckl : Nat → Int64} {mp : Nat → Nat → Int64} {rk : Nat → Int32} {rv : Nat → Int64} {ri : Nat → Int32} {chk : Int32} {mo : Nat → Nat → Int32} {mi : Nat → Int32} {ml : Nat → Int64} {mk : Nat → Int32} {mlo : Nat → Int64} {mhi : Nat → Int64} {pk : Nat → Int32} {ps : Nat → Int32} {pl : Nat → Int64} {ph : Nat → Int64} {mm : Nat → Int64} {out : Nat → Int64} (a1 : Int64) (hk : k_ok_Md_run mo mi mk mlo mhi mm a1) : x_M l y_Md_run (Cond.code y_Md_run b_Md_run 6 (Option.some Jvm.ClassFile.FieldType.long) :: x_Wd) { frames := 3, cells := 0, slots := 0, locals := 73 } (x_k D cA ad) (x_F ad cA) [(.ref (ad (18, 0))), (.long a1)] ((stp, psz, gk, gl, gh, opn, cki, ckl, mp, rk, rv, ri, chk), (mo, mi, ml, mk, mlo, mhi, pk, ps, pl, ph, mm), out) ((fun q : Int64 × (Nat → Int32) × (Nat → Int32) × (Nat → Int64) × (Nat → Int64) × (Nat → Int64) => ((some (.long (q.1)), ((stp, psz, gk, gl, gh, opn, cki, ckl, mp, rk, rv, ri, chk), (mo, q.2.1, ml, q.2.2.1, q.2.2.2.1, q.2.2.2.2.1, pk, ps, pl, ph, q.2.2.2.2.2), out)) : Option Value × x_S)) (s_Md_run mo mi mk mlo mhi mm a1)) 0 0 := by
  refine x_start (κ := x_k D cA ad) (cc := b_Md_run) (F := x_F ad cA) (wr := (fun q : Int64 × (Nat → Int32) × (Nat → Int32) × (Nat → Int64) × (Nat → Int64) × (Nat → Int64) => ((some (.long (q.1)), ((stp, psz, gk, gl, gh, opn, cki, ckl, mp, rk, rv, ri, chk), (mo, q.2.1, ml, q.2.2.1, q.2.2.2.1, q.2.2.2.2.1, pk, ps, pl, ph, q.2.2.2.2.2), out)) : Option Value × x_S))) (q := s_Md_run mo mi mk mlo mhi mm a1) (ret := (Option.some Jvm.ClassFile.FieldType.long)) (lv0 := [(0, (.ref (ad (18, 0)))), (1, (.long a1))]) ok (by decide) rfl (Nat.le_of_ble_eq_true rfl) rfl ?_
  intro p e s m below meth c C hr hlk
  unfold s_Md_run
  unfold k_ok_Md_run at hk
  refine x_aload_n 0 C d_Md_run_0 rfl rfl ?_
  refine x_aload_n 0 C d_Md_run_1 rfl rfl ?_
  refine x_get (i := (18, 0)) (v := (.int (mi 7))) 12 C m_18 rfl rfl i_Md (by decide) (List.mem_cons_of_mem _ q_803) rfl d_Md_run_2 ?_
  refine x_if_eq 12 C d_Md_run_5 (by decide) (fun z1 => ?_) (fun z1 => ?_)
  · have hk := x_okt hk z1
    refine x_iconst (v := 1) C d_Md_run_12 (by decide) ?_
    refine x_put (i := (18, 0)) (f' := x_F ad cA ((stp, psz, gk, gl, gh, opn, cki, ckl, mp, rk, rv, ri, chk), (mo, upd mi 6 1, ml, mk, mlo, mhi, pk, ps, pl, ph, mm), out)) 11 C m_18 rfl rfl i_Md t_Md_ok n_Md (by decide) (List.mem_cons_of_mem _ q_802) rfl rfl rfl (Nat.le_of_ble_eq_true rfl) d_Md_run_13 e_mi6 ?_
    refine x_aload_n 0 C d_Md_run_16 rfl rfl ?_
    refine x_get (i := (18, 0)) (v := (.int ((upd mi 6 1) 7))) 12 C m_18 rfl rfl i_Md (by decide) (List.mem_cons_of_mem _ q_803) rfl d_Md_run_17 ?_
    refine x_if_ne 25 C d_Md_run_20 (by decide) (fun z2 => ?_) (fun z2 => ?_)
    · have hk := x_okt hk z2
      refine x_lconst (v := 0) C d_Md_run_23 (by decide) ?_
      exact x_lret C hr hlk rfl d_Md_run_24
    · have hk := x_okf hk z2
      refine x_iconst (v := 0) C d_Md_run_25 (by decide) ?_
      refine x_istore_n (lv' := [(3, (.int 0)), (0, (.ref (ad (18, 0)))), (1, (.long a1))]) C d_Md_run_26 rfl (by decide) rfl ?_
      refine x_loc (lv' := [(0, (.ref (ad (18, 0)))), (1, (.long a1)), (3, (.int 0))]) [1, 2, 0] rfl ?_
      exact cl_Md_run_27 ok C hr hlk a1 13 (upd mi 6 1) mk mlo mhi mm 0 hk
  · have hk := x_okf hk z1
    refine x_iconst (v := 0) C d_Md_run_8 (by decide) ?_
    refine x_goto 13 C d_Md_run_9 (by decide) ?_
    refine x_put (i := (18, 0)) (f' := x_F ad cA ((stp, psz, gk, gl, gh, opn, cki, ckl, mp, rk, rv, ri, chk), (mo, upd mi 6 0, ml, mk, mlo, mhi, pk, ps, pl, ph, mm), out)) 11 C m_18 rfl rfl i_Md t_Md_ok n_Md (by decide) (List.mem_cons_of_mem _ q_802) rfl rfl rfl (Nat.le_of_ble_eq_true rfl) d_Md_run_13 e_mi6 ?_
    refine x_aload_n 0 C d_Md_run_16 rfl rfl ?_
    refine x_get (i := (18, 0)) (v := (.int ((upd mi 6 0) 7))) 12 C m_18 rfl rfl i_Md (by decide) (List.mem_cons_of_mem _ q_803) rfl d_Md_run_17 ?_
    refine x_if_ne 25 C d_Md_run_20 (by decide) (fun z41 => ?_) (fun z41 => ?_)
    · have hk := x_okt hk z41
      refine x_lconst (v := 0) C d_Md_run_23 (by decide) ?_
      exact x_lret C hr hlk rfl d_Md_run_24
    · have hk := x_okf hk z41
      refine x_iconst (v := 0) C d_Md_run_25 (by decide) ?_
      refine x_istore_n (lv' := [(3, (.int 0)), (0, (.ref (ad (18, 0)))), (1, (.long a1))]) C d_Md_run_26 rfl (by decide) rfl ?_
      refine x_loc (lv' := [(0, (.ref (ad (18, 0)))), (1, (.long a1)), (3, (.int 0))]) [1, 2, 0] rfl ?_
      exact cl_Md_run_27 ok C hr hlk a1 13 (upd mi 6 0) mk mlo mhi mm 0 hk
