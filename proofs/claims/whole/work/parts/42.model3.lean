def lp_Md_push_2 (n : Nat) (mi : Nat → Int32) (mk : Nat → Int32) (mlo : Nat → Int64) (mhi : Nat → Int64) (pk : Nat → Int32) (ps : Nat → Int32) (pl : Nat → Int64) (ph : Nat → Int64) (a1 : Int32) (x2 : Int32) : (Nat → Int32) × (Nat → Int32) × (Nat → Int32) × (Nat → Int64) × (Nat → Int64) := match n with
  | 0 => (mi, pk, ps, pl, ph)
  | n + 1 => (if 12 ≤ x2 then (upd mi 9 ((mi 9) + 1), pk, upd ps ((mi 9).toNatClampNeg) a1, pl, ph) else lp_Md_push_2 n mi mk mlo mhi (upd pk ((((mi 9) * 12) + x2).toNatClampNeg) (mk x2.toNatClampNeg)) ps (vp_updL pl ((((mi 9) * 12) + x2).toNatClampNeg) (mlo x2.toNatClampNeg)) (vp_updL ph ((((mi 9) * 12) + x2).toNatClampNeg) (mhi x2.toNatClampNeg)) a1 (x2 + 1))
def lp_ok_Md_push_2 (n : Nat) (mi : Nat → Int32) (mk : Nat → Int32) (mlo : Nat → Int64) (mhi : Nat → Int64) (pk : Nat → Int32) (ps : Nat → Int32) (pl : Nat → Int64) (ph : Nat → Int64) (a1 : Int32) (x2 : Int32) : Prop := match n with
  | 0 => False
  | n + 1 => (if 12 ≤ x2 then (vp_in (mi 9) 30 ∧ True) else (vp_in x2 12 ∧ (vp_in (((mi 9) * 12) + x2) 360 ∧ lp_ok_Md_push_2 n mi mk mlo mhi (upd pk ((((mi 9) * 12) + x2).toNatClampNeg) (mk x2.toNatClampNeg)) ps (vp_updL pl ((((mi 9) * 12) + x2).toNatClampNeg) (mlo x2.toNatClampNeg)) (vp_updL ph ((((mi 9) * 12) + x2).toNatClampNeg) (mhi x2.toNatClampNeg)) a1 (x2 + 1))))
set_option maxHeartbeats 4000000 in
set_option maxRecDepth 100000 in
theorem cl_Md_push_2 {l : Launch} {D : va_G} {cA : Nat → ClassId} {ad : x_I → Nat} (ok : x_ok (x_k D cA ad)) {stp : Nat → Nat → Int32} {psz : Int32} {gk : Nat → Nat → Int32} {gl : Nat → Nat → Int64} {gh : Nat → Nat → Int64} {opn : Nat → Int32} {cki : Nat → Int32} {ckl : Nat → Int64} {mp : Nat → Nat → Int64} {rk : Nat → Int32} {rv : Nat → Int64} {ri : Nat → Int32} {chk : Int32} {mo : Nat → Nat → Int32} {ml : Nat → Int64} {mk : Nat → Int32} {mlo : Nat → Int64} {mhi : Nat → Int64} {mm : Nat → Int64} {out : Nat → Int64} {p : Program} {e : Env} {s : State} {m : MethodId} {args : Array Value} {below : List Frame} {meth : Method} {c : Code} (C : x_C p s m args c b_Md_push 3 R_Md (Cond.code y_Md_push b_Md_push 3 (Option.none : Option Jvm.ClassFile.FieldType) :: x_Wd) (x_k D cA ad)) (hr : meth.sig.returnType = (Option.none : Option Jvm.ClassFile.FieldType)) (hlk : meth.locks = false) (a1 : Int32) : ∀ (n : Nat) (mi : Nat → Int32) (pk : Nat → Int32) (ps : Nat → Int32) (pl : Nat → Int64) (ph : Nat → Int64) (x2 : Int32) (hk : lp_ok_Md_push_2 n mi mk mlo mhi pk ps pl ph a1 x2), x_V p l e { frames := 0, cells := 0, slots := 0, locals := 0 } s m args below meth c (x_k D cA ad) 3 0 0 (x_E below (x_k D cA ad) args s 0 0 (x_F ad cA) (fun q : (Nat → Int32) × (Nat → Int32) × (Nat → Int32) × (Nat → Int64) × (Nat → Int64) => ((none, ((stp, psz, gk, gl, gh, opn, cki, ckl, mp, rk, rv, ri, chk), (mo, q.1, ml, mk, mlo, mhi, q.2.1, q.2.2.1, q.2.2.2.1, q.2.2.2.2, mm), out)) : Option Value × x_S)) (lp_Md_push_2 n mi mk mlo mhi pk ps pl ph a1 x2)) (x_F ad cA ((stp, psz, gk, gl, gh, opn, cki, ckl, mp, rk, rv, ri, chk), (mo, mi, ml, mk, mlo, mhi, pk, ps, pl, ph, mm), out)) 2 [(0, (.ref (ad (18, 0)))), (1, (.int a1)), (2, (.int x2))] [] := by
  intro n
  induction n with
  | zero => intro mi pk ps pl ph x2 hk; exact False.elim hk
  | succ n ih =>
    intro mi pk ps pl ph x2 hk
    rw [lp_Md_push_2]
    rw [lp_ok_Md_push_2] at hk
    refine x_iload_n 2 C d_Md_push_2 rfl rfl ?_
    refine x_bipush (v := 12) C d_Md_push_3 (by decide) ?_
    refine x_icmp_ge 74 C d_Md_push_5 (by decide) (fun z1 => ?_) (fun z1 => ?_)
    · have hk := x_okt hk z1
      refine x_aload_n 0 C d_Md_push_74 rfl rfl ?_
      refine x_get (i := (18, 0)) (v := (.ref (ad (28, 0)))) 20 C m_18 rfl rfl i_Md (by decide) (List.mem_cons_of_mem _ q_811) rfl d_Md_push_75 ?_
      refine x_aload_n 0 C d_Md_push_78 rfl rfl ?_
      refine x_get (i := (18, 0)) (v := (.int (mi 9))) 24 C m_18 rfl rfl i_Md (by decide) (List.mem_cons_of_mem _ q_815) rfl d_Md_push_79 ?_
      refine x_iload_n 1 C d_Md_push_82 rfl rfl ?_
      have w2 := hk.1
      have hk := hk.2
      refine x_iast (i := (28, 0)) (g := ps) (f' := x_F ad cA ((stp, psz, gk, gl, gh, opn, cki, ckl, mp, rk, rv, ri, chk), (mo, mi, ml, mk, mlo, mhi, pk, upd ps ((mi 9).toNatClampNeg) a1, pl, ph, mm), out)) 0 C m_28 rfl rfl w2 d_Md_push_83 e_ps ?_
      refine x_aload_n 0 C d_Md_push_84 rfl rfl ?_
      refine x_dup C d_Md_push_85 rfl ?_
      refine x_get (i := (18, 0)) (v := (.int (mi 9))) 24 C m_18 rfl rfl i_Md (by decide) (List.mem_cons_of_mem _ q_815) rfl d_Md_push_86 ?_
      refine x_iconst (v := 1) C d_Md_push_89 (by decide) ?_
      refine x_iadd C d_Md_push_90 ?_
      refine x_put (i := (18, 0)) (f' := x_F ad cA ((stp, psz, gk, gl, gh, opn, cki, ckl, mp, rk, rv, ri, chk), (mo, upd mi 9 ((mi 9) + 1), ml, mk, mlo, mhi, pk, upd ps ((mi 9).toNatClampNeg) a1, pl, ph, mm), out)) 24 C m_18 rfl rfl i_Md t_Md_ok n_Md (by decide) (List.mem_cons_of_mem _ q_815) rfl rfl rfl (Nat.le_of_ble_eq_true rfl) d_Md_push_91 e_mi9 ?_
      exact x_vret C hr hlk rfl d_Md_push_94
    · have hk := x_okf hk z1
      refine x_aload_n 0 C d_Md_push_8 rfl rfl ?_
      refine x_get (i := (18, 0)) (v := (.ref (ad (27, 0)))) 19 C m_18 rfl rfl i_Md (by decide) (List.mem_cons_of_mem _ q_810) rfl d_Md_push_9 ?_
      refine x_aload_n 0 C d_Md_push_12 rfl rfl ?_
      refine x_get (i := (18, 0)) (v := (.int (mi 9))) 24 C m_18 rfl rfl i_Md (by decide) (List.mem_cons_of_mem _ q_815) rfl d_Md_push_13 ?_
      refine x_bipush (v := 12) C d_Md_push_16 (by decide) ?_
      refine x_imul C d_Md_push_18 ?_
      refine x_iload_n 2 C d_Md_push_19 rfl rfl ?_
      refine x_iadd C d_Md_push_20 ?_
      refine x_aload_n 0 C d_Md_push_21 rfl rfl ?_
      refine x_get (i := (18, 0)) (v := (.ref (ad (24, 0)))) 16 C m_18 rfl rfl i_Md (by decide) (List.mem_cons_of_mem _ q_807) rfl d_Md_push_22 ?_
      refine x_iload_n 2 C d_Md_push_25 rfl rfl ?_
      have w3 := hk.1
      have hk := hk.2
      refine x_iald (i := (24, 0)) (g := mk) 0 C m_24 rfl rfl w3 d_Md_push_26 ?_
      have w4 := hk.1
      have hk := hk.2
      refine x_iast (i := (27, 0)) (g := pk) (f' := x_F ad cA ((stp, psz, gk, gl, gh, opn, cki, ckl, mp, rk, rv, ri, chk), (mo, mi, ml, mk, mlo, mhi, upd pk ((((mi 9) * 12) + x2).toNatClampNeg) (mk x2.toNatClampNeg), ps, pl, ph, mm), out)) 0 C m_27 rfl rfl w4 d_Md_push_27 e_pk ?_
      refine x_aload_n 0 C d_Md_push_28 rfl rfl ?_
      refine x_get (i := (18, 0)) (v := (.ref (ad (29, 0)))) 21 C m_18 rfl rfl i_Md (by decide) (List.mem_cons_of_mem _ q_812) rfl d_Md_push_29 ?_
      refine x_aload_n 0 C d_Md_push_32 rfl rfl ?_
      refine x_get (i := (18, 0)) (v := (.int (mi 9))) 24 C m_18 rfl rfl i_Md (by decide) (List.mem_cons_of_mem _ q_815) rfl d_Md_push_33 ?_
      refine x_bipush (v := 12) C d_Md_push_36 (by decide) ?_
      refine x_imul C d_Md_push_38 ?_
      refine x_iload_n 2 C d_Md_push_39 rfl rfl ?_
      refine x_iadd C d_Md_push_40 ?_
      refine x_aload_n 0 C d_Md_push_41 rfl rfl ?_
      refine x_get (i := (18, 0)) (v := (.ref (ad (25, 0)))) 17 C m_18 rfl rfl i_Md (by decide) (List.mem_cons_of_mem _ q_808) rfl d_Md_push_42 ?_
      refine x_iload_n 2 C d_Md_push_45 rfl rfl ?_
      refine x_lald (i := (25, 0)) (g := mlo) 1 C m_25 rfl rfl w3 d_Md_push_46 ?_
      refine x_last (i := (29, 0)) (g := pl) (f' := x_F ad cA ((stp, psz, gk, gl, gh, opn, cki, ckl, mp, rk, rv, ri, chk), (mo, mi, ml, mk, mlo, mhi, upd pk ((((mi 9) * 12) + x2).toNatClampNeg) (mk x2.toNatClampNeg), ps, vp_updL pl ((((mi 9) * 12) + x2).toNatClampNeg) (mlo x2.toNatClampNeg), ph, mm), out)) 1 C m_29 rfl rfl w4 d_Md_push_47 e_pl ?_
      refine x_aload_n 0 C d_Md_push_48 rfl rfl ?_
      refine x_get (i := (18, 0)) (v := (.ref (ad (30, 0)))) 22 C m_18 rfl rfl i_Md (by decide) (List.mem_cons_of_mem _ q_813) rfl d_Md_push_49 ?_
      refine x_aload_n 0 C d_Md_push_52 rfl rfl ?_
      refine x_get (i := (18, 0)) (v := (.int (mi 9))) 24 C m_18 rfl rfl i_Md (by decide) (List.mem_cons_of_mem _ q_815) rfl d_Md_push_53 ?_
      refine x_bipush (v := 12) C d_Md_push_56 (by decide) ?_
      refine x_imul C d_Md_push_58 ?_
      refine x_iload_n 2 C d_Md_push_59 rfl rfl ?_
      refine x_iadd C d_Md_push_60 ?_
      refine x_aload_n 0 C d_Md_push_61 rfl rfl ?_
      refine x_get (i := (18, 0)) (v := (.ref (ad (26, 0)))) 18 C m_18 rfl rfl i_Md (by decide) (List.mem_cons_of_mem _ q_809) rfl d_Md_push_62 ?_
      refine x_iload_n 2 C d_Md_push_65 rfl rfl ?_
      refine x_lald (i := (26, 0)) (g := mhi) 1 C m_26 rfl rfl w3 d_Md_push_66 ?_
      refine x_last (i := (30, 0)) (g := ph) (f' := x_F ad cA ((stp, psz, gk, gl, gh, opn, cki, ckl, mp, rk, rv, ri, chk), (mo, mi, ml, mk, mlo, mhi, upd pk ((((mi 9) * 12) + x2).toNatClampNeg) (mk x2.toNatClampNeg), ps, vp_updL pl ((((mi 9) * 12) + x2).toNatClampNeg) (mlo x2.toNatClampNeg), vp_updL ph ((((mi 9) * 12) + x2).toNatClampNeg) (mhi x2.toNatClampNeg), mm), out)) 1 C m_30 rfl rfl w4 d_Md_push_67 e_ph ?_
      refine x_iinc (lv' := [(2, (.int (x2 + 1))), (0, (.ref (ad (18, 0)))), (1, (.int a1))]) 2 C d_Md_push_68 rfl rfl (by decide) rfl ?_
      refine x_goto 2 C d_Md_push_71 (by decide) ?_
      refine x_loc (lv' := [(0, (.ref (ad (18, 0)))), (1, (.int a1)), (2, (.int (x2 + 1)))]) [1, 2, 0] rfl ?_
      exact ih mi (upd pk ((((mi 9) * 12) + x2).toNatClampNeg) (mk x2.toNatClampNeg)) ps (vp_updL pl ((((mi 9) * 12) + x2).toNatClampNeg) (mlo x2.toNatClampNeg)) (vp_updL ph ((((mi 9) * 12) + x2).toNatClampNeg) (mhi x2.toNatClampNeg)) (x2 + 1) hk
def s_Md_push (mi : Nat → Int32) (mk : Nat → Int32) (mlo : Nat → Int64) (mhi : Nat → Int64) (pk : Nat → Int32) (ps : Nat → Int32) (pl : Nat → Int64) (ph : Nat → Int64) (a1 : Int32) : (Nat → Int32) × (Nat → Int32) × (Nat → Int32) × (Nat → Int64) × (Nat → Int64) :=
  lp_Md_push_2 13 mi mk mlo mhi pk ps pl ph a1 0
def k_ok_Md_push (mi : Nat → Int32) (mk : Nat → Int32) (mlo : Nat → Int64) (mhi : Nat → Int64) (pk : Nat → Int32) (ps : Nat → Int32) (pl : Nat → Int64) (ph : Nat → Int64) (a1 : Int32) : Prop :=
  lp_ok_Md_push_2 13 mi mk mlo mhi pk ps pl ph a1 0
set_option maxHeartbeats 4000000 in
set_option maxRecDepth 100000 in
theorem c_Md_push {l : Launch} {D : va_G} {cA : Nat → ClassId} {ad : x_I → Nat} (ok : x_ok (x_k D cA ad)) {stp : Nat → Nat → Int32} {psz : Int32} {gk : Nat → Nat → Int32} {gl : Nat → Nat → Int64} {gh : Nat → Nat → Int64} {opn : Nat → Int32} {cki : Nat → Int32} {ckl : Nat → Int64} {mp : Nat → Nat → Int64} {rk : Nat → Int32} {rv : Nat → Int64} {ri : Nat → Int32} {chk : Int32} {mo : Nat → Nat → Int32} {mi : Nat → Int32} {ml : Nat → Int64} {mk : Nat → Int32} {mlo : Nat → Int64} {mhi : Nat → Int64} {pk : Nat → Int32} {ps : Nat → Int32} {pl : Nat → Int64} {ph : Nat → Int64} {mm : Nat → Int64} {out : Nat → Int64} (a1 : Int32) (hk : k_ok_Md_push mi mk mlo mhi pk ps pl ph a1) : x_M l y_Md_push (Cond.code y_Md_push b_Md_push 3 (Option.none : Option Jvm.ClassFile.FieldType) :: x_Wd) { frames := 0, cells := 0, slots := 0, locals := 0 } (x_k D cA ad) (x_F ad cA) [(.ref (ad (18, 0))), (.int a1)] ((stp, psz, gk, gl, gh, opn, cki, ckl, mp, rk, rv, ri, chk), (mo, mi, ml, mk, mlo, mhi, pk, ps, pl, ph, mm), out) ((fun q : (Nat → Int32) × (Nat → Int32) × (Nat → Int32) × (Nat → Int64) × (Nat → Int64) => ((none, ((stp, psz, gk, gl, gh, opn, cki, ckl, mp, rk, rv, ri, chk), (mo, q.1, ml, mk, mlo, mhi, q.2.1, q.2.2.1, q.2.2.2.1, q.2.2.2.2, mm), out)) : Option Value × x_S)) (s_Md_push mi mk mlo mhi pk ps pl ph a1)) 0 0 := by
  refine x_start (κ := x_k D cA ad) (cc := b_Md_push) (F := x_F ad cA) (wr := (fun q : (Nat → Int32) × (Nat → Int32) × (Nat → Int32) × (Nat → Int64) × (Nat → Int64) => ((none, ((stp, psz, gk, gl, gh, opn, cki, ckl, mp, rk, rv, ri, chk), (mo, q.1, ml, mk, mlo, mhi, q.2.1, q.2.2.1, q.2.2.2.1, q.2.2.2.2, mm), out)) : Option Value × x_S))) (q := s_Md_push mi mk mlo mhi pk ps pl ph a1) (ret := (Option.none : Option Jvm.ClassFile.FieldType)) (lv0 := [(0, (.ref (ad (18, 0)))), (1, (.int a1))]) ok (by decide) rfl (Nat.le_of_ble_eq_true rfl) rfl ?_
  intro p e s m below meth c C hr hlk
  unfold s_Md_push
  unfold k_ok_Md_push at hk
  refine x_iconst (v := 0) C d_Md_push_0 (by decide) ?_
  refine x_istore_n (lv' := [(2, (.int 0)), (0, (.ref (ad (18, 0)))), (1, (.int a1))]) C d_Md_push_1 rfl (by decide) rfl ?_
  refine x_loc (lv' := [(0, (.ref (ad (18, 0)))), (1, (.int a1)), (2, (.int 0))]) [1, 2, 0] rfl ?_
  exact cl_Md_push_2 ok C hr hlk a1 13 mi pk ps pl ph 0 hk
def lp_Md_pop_12 (n : Nat) (mi : Nat → Int32) (mk : Nat → Int32) (mlo : Nat → Int64) (mhi : Nat → Int64) (pk : Nat → Int32) (ps : Nat → Int32) (pl : Nat → Int64) (ph : Nat → Int64)  (x1 : Int32) : (Nat → Int32) × (Nat → Int32) × (Nat → Int64) × (Nat → Int64) := match n with
  | 0 => (mi, mk, mlo, mhi)
  | n + 1 => (if 12 ≤ x1 then (upd mi 10 (ps ((mi 9).toNatClampNeg)), mk, mlo, mhi) else (x_let (s_Md_know mk mlo mhi x1 (pk ((((mi 9) * 12) + x1).toNatClampNeg)) (pl ((((mi 9) * 12) + x1).toNatClampNeg)) (ph ((((mi 9) * 12) + x1).toNatClampNeg))) fun (mk5, mlo5, mhi5) => lp_Md_pop_12 n mi mk5 mlo5 mhi5 pk ps pl ph (x1 + 1)))
def lp_ok_Md_pop_12 (n : Nat) (mi : Nat → Int32) (mk : Nat → Int32) (mlo : Nat → Int64) (mhi : Nat → Int64) (pk : Nat → Int32) (ps : Nat → Int32) (pl : Nat → Int64) (ph : Nat → Int64)  (x1 : Int32) : Prop := match n with
  | 0 => False
  | n + 1 => (if 12 ≤ x1 then (vp_in (mi 9) 30 ∧ True) else (vp_in (((mi 9) * 12) + x1) 360 ∧ (k_ok_Md_know mk mlo mhi x1 (pk ((((mi 9) * 12) + x1).toNatClampNeg)) (pl ((((mi 9) * 12) + x1).toNatClampNeg)) (ph ((((mi 9) * 12) + x1).toNatClampNeg)) ∧ (x_let (s_Md_know mk mlo mhi x1 (pk ((((mi 9) * 12) + x1).toNatClampNeg)) (pl ((((mi 9) * 12) + x1).toNatClampNeg)) (ph ((((mi 9) * 12) + x1).toNatClampNeg))) fun (mk5, mlo5, mhi5) => lp_ok_Md_pop_12 n mi mk5 mlo5 mhi5 pk ps pl ph (x1 + 1)))))
set_option maxHeartbeats 4000000 in
set_option maxRecDepth 100000 in
theorem cl_Md_pop_12 {l : Launch} {D : va_G} {cA : Nat → ClassId} {ad : x_I → Nat} (ok : x_ok (x_k D cA ad)) {stp : Nat → Nat → Int32} {psz : Int32} {gk : Nat → Nat → Int32} {gl : Nat → Nat → Int64} {gh : Nat → Nat → Int64} {opn : Nat → Int32} {cki : Nat → Int32} {ckl : Nat → Int64} {mp : Nat → Nat → Int64} {rk : Nat → Int32} {rv : Nat → Int64} {ri : Nat → Int32} {chk : Int32} {mo : Nat → Nat → Int32} {ml : Nat → Int64} {pk : Nat → Int32} {ps : Nat → Int32} {pl : Nat → Int64} {ph : Nat → Int64} {mm : Nat → Int64} {out : Nat → Int64} {p : Program} {e : Env} {s : State} {m : MethodId} {args : Array Value} {below : List Frame} {meth : Method} {c : Code} (C : x_C p s m args c b_Md_pop 2 R_Md (Cond.code y_Md_pop b_Md_pop 2 (Option.none : Option Jvm.ClassFile.FieldType) :: x_Wd) (x_k D cA ad)) (hr : meth.sig.returnType = (Option.none : Option Jvm.ClassFile.FieldType)) (hlk : meth.locks = false)  : ∀ (n : Nat) (mi : Nat → Int32) (mk : Nat → Int32) (mlo : Nat → Int64) (mhi : Nat → Int64) (x1 : Int32) (hk : lp_ok_Md_pop_12 n mi mk mlo mhi pk ps pl ph x1), x_V p l e { frames := 1, cells := 0, slots := 0, locals := 26 } s m args below meth c (x_k D cA ad) 2 0 0 (x_E below (x_k D cA ad) args s 0 0 (x_F ad cA) (fun q : (Nat → Int32) × (Nat → Int32) × (Nat → Int64) × (Nat → Int64) => ((none, ((stp, psz, gk, gl, gh, opn, cki, ckl, mp, rk, rv, ri, chk), (mo, q.1, ml, q.2.1, q.2.2.1, q.2.2.2, pk, ps, pl, ph, mm), out)) : Option Value × x_S)) (lp_Md_pop_12 n mi mk mlo mhi pk ps pl ph x1)) (x_F ad cA ((stp, psz, gk, gl, gh, opn, cki, ckl, mp, rk, rv, ri, chk), (mo, mi, ml, mk, mlo, mhi, pk, ps, pl, ph, mm), out)) 12 [(0, (.ref (ad (18, 0)))), (1, (.int x1))] [] := by
  intro n
  induction n with
  | zero => intro mi mk mlo mhi x1 hk; exact False.elim hk
  | succ n ih =>
    intro mi mk mlo mhi x1 hk
    rw [lp_Md_pop_12]
    rw [lp_ok_Md_pop_12] at hk
    refine x_iload_n 1 C d_Md_pop_12 rfl rfl ?_
    refine x_bipush (v := 12) C d_Md_pop_13 (by decide) ?_
    refine x_icmp_ge 71 C d_Md_pop_15 (by decide) (fun z1 => ?_) (fun z1 => ?_)
    · have hk := x_okt hk z1
      refine x_aload_n 0 C d_Md_pop_71 rfl rfl ?_
      refine x_aload_n 0 C d_Md_pop_72 rfl rfl ?_
      refine x_get (i := (18, 0)) (v := (.ref (ad (28, 0)))) 20 C m_18 rfl rfl i_Md (by decide) (List.mem_cons_of_mem _ q_811) rfl d_Md_pop_73 ?_
      refine x_aload_n 0 C d_Md_pop_76 rfl rfl ?_
      refine x_get (i := (18, 0)) (v := (.int (mi 9))) 24 C m_18 rfl rfl i_Md (by decide) (List.mem_cons_of_mem _ q_815) rfl d_Md_pop_77 ?_
      have w2 := hk.1
      have hk := hk.2
      refine x_iald (i := (28, 0)) (g := ps) 0 C m_28 rfl rfl w2 d_Md_pop_80 ?_
      refine x_put (i := (18, 0)) (f' := x_F ad cA ((stp, psz, gk, gl, gh, opn, cki, ckl, mp, rk, rv, ri, chk), (mo, upd mi 10 (ps ((mi 9).toNatClampNeg)), ml, mk, mlo, mhi, pk, ps, pl, ph, mm), out)) 25 C m_18 rfl rfl i_Md t_Md_ok n_Md (by decide) (List.mem_cons_of_mem _ q_816) rfl rfl rfl (Nat.le_of_ble_eq_true rfl) d_Md_pop_81 e_mi10 ?_
      exact x_vret C hr hlk rfl d_Md_pop_84
    · have hk := x_okf hk z1
      refine x_aload_n 0 C d_Md_pop_18 rfl rfl ?_
      refine x_iload_n 1 C d_Md_pop_19 rfl rfl ?_
      refine x_aload_n 0 C d_Md_pop_20 rfl rfl ?_
      refine x_get (i := (18, 0)) (v := (.ref (ad (27, 0)))) 19 C m_18 rfl rfl i_Md (by decide) (List.mem_cons_of_mem _ q_810) rfl d_Md_pop_21 ?_
      refine x_aload_n 0 C d_Md_pop_24 rfl rfl ?_
      refine x_get (i := (18, 0)) (v := (.int (mi 9))) 24 C m_18 rfl rfl i_Md (by decide) (List.mem_cons_of_mem _ q_815) rfl d_Md_pop_25 ?_
      refine x_bipush (v := 12) C d_Md_pop_28 (by decide) ?_
      refine x_imul C d_Md_pop_30 ?_
      refine x_iload_n 1 C d_Md_pop_31 rfl rfl ?_
      refine x_iadd C d_Md_pop_32 ?_
      have w3 := hk.1
      have hk := hk.2
      refine x_iald (i := (27, 0)) (g := pk) 0 C m_27 rfl rfl w3 d_Md_pop_33 ?_
      refine x_aload_n 0 C d_Md_pop_34 rfl rfl ?_
      refine x_get (i := (18, 0)) (v := (.ref (ad (29, 0)))) 21 C m_18 rfl rfl i_Md (by decide) (List.mem_cons_of_mem _ q_812) rfl d_Md_pop_35 ?_
      refine x_aload_n 0 C d_Md_pop_38 rfl rfl ?_
      refine x_get (i := (18, 0)) (v := (.int (mi 9))) 24 C m_18 rfl rfl i_Md (by decide) (List.mem_cons_of_mem _ q_815) rfl d_Md_pop_39 ?_
      refine x_bipush (v := 12) C d_Md_pop_42 (by decide) ?_
      refine x_imul C d_Md_pop_44 ?_
      refine x_iload_n 1 C d_Md_pop_45 rfl rfl ?_
      refine x_iadd C d_Md_pop_46 ?_
      refine x_lald (i := (29, 0)) (g := pl) 1 C m_29 rfl rfl w3 d_Md_pop_47 ?_
      refine x_aload_n 0 C d_Md_pop_48 rfl rfl ?_
      refine x_get (i := (18, 0)) (v := (.ref (ad (30, 0)))) 22 C m_18 rfl rfl i_Md (by decide) (List.mem_cons_of_mem _ q_813) rfl d_Md_pop_49 ?_
      refine x_aload_n 0 C d_Md_pop_52 rfl rfl ?_
      refine x_get (i := (18, 0)) (v := (.int (mi 9))) 24 C m_18 rfl rfl i_Md (by decide) (List.mem_cons_of_mem _ q_815) rfl d_Md_pop_53 ?_
      refine x_bipush (v := 12) C d_Md_pop_56 (by decide) ?_
      refine x_imul C d_Md_pop_58 ?_
      refine x_iload_n 1 C d_Md_pop_59 rfl rfl ?_
      refine x_iadd C d_Md_pop_60 ?_
      refine x_lald (i := (30, 0)) (g := ph) 1 C m_30 rfl rfl w3 d_Md_pop_61 ?_
      have w4 := hk.1
      have hk := hk.2
      refine x_cv0 (i := (18, 0)) (F := x_F ad cA) (As := [(.int x1), (.int (pk ((((mi 9) * 12) + x1).toNatClampNeg))), (.long (pl ((((mi 9) * 12) + x1).toNatClampNeg))), (.long (ph ((((mi 9) * 12) + x1).toNatClampNeg)))]) (rest := []) C k_Md_know q_908 (c_Md_know ok x1 (pk ((((mi 9) * 12) + x1).toNatClampNeg)) (pl ((((mi 9) * 12) + x1).toNatClampNeg)) (ph ((((mi 9) * 12) + x1).toNatClampNeg)) w4) rfl rfl rfl (Nat.le_of_ble_eq_true rfl) (Nat.le_of_ble_eq_true rfl) m_18 rfl rfl rfl rfl rfl (Nat.le_of_ble_eq_true rfl) d_Md_pop_62 ⟨Nat.zero_le _, Nat.zero_le _⟩ ?_
      generalize hq5 : s_Md_know mk mlo mhi x1 (pk ((((mi 9) * 12) + x1).toNatClampNeg)) (pl ((((mi 9) * 12) + x1).toNatClampNeg)) (ph ((((mi 9) * 12) + x1).toNatClampNeg)) = q5 at hk ⊢
      obtain ⟨mk5, mlo5, mhi5⟩ := q5
      refine x_lets ?_
      have hk := x_lete hk
      dsimp only at hk ⊢
      refine x_iinc (lv' := [(1, (.int (x1 + 1))), (0, (.ref (ad (18, 0))))]) 1 C d_Md_pop_65 rfl rfl (by decide) rfl ?_
      refine x_goto 12 C d_Md_pop_68 (by decide) ?_
      refine x_loc (lv' := [(0, (.ref (ad (18, 0)))), (1, (.int (x1 + 1)))]) [1, 0] rfl ?_
      exact ih mi mk5 mlo5 mhi5 (x1 + 1) hk
def s_Md_pop (mi : Nat → Int32) (mk : Nat → Int32) (mlo : Nat → Int64) (mhi : Nat → Int64) (pk : Nat → Int32) (ps : Nat → Int32) (pl : Nat → Int64) (ph : Nat → Int64)  : (Nat → Int32) × (Nat → Int32) × (Nat → Int64) × (Nat → Int64) :=
  lp_Md_pop_12 13 (upd mi 9 ((mi 9) - 1)) mk mlo mhi pk ps pl ph 0
def k_ok_Md_pop (mi : Nat → Int32) (mk : Nat → Int32) (mlo : Nat → Int64) (mhi : Nat → Int64) (pk : Nat → Int32) (ps : Nat → Int32) (pl : Nat → Int64) (ph : Nat → Int64)  : Prop :=
  lp_ok_Md_pop_12 13 (upd mi 9 ((mi 9) - 1)) mk mlo mhi pk ps pl ph 0
set_option maxHeartbeats 4000000 in
set_option maxRecDepth 100000 in
theorem c_Md_pop {l : Launch} {D : va_G} {cA : Nat → ClassId} {ad : x_I → Nat} (ok : x_ok (x_k D cA ad)) {stp : Nat → Nat → Int32} {psz : Int32} {gk : Nat → Nat → Int32} {gl : Nat → Nat → Int64} {gh : Nat → Nat → Int64} {opn : Nat → Int32} {cki : Nat → Int32} {ckl : Nat → Int64} {mp : Nat → Nat → Int64} {rk : Nat → Int32} {rv : Nat → Int64} {ri : Nat → Int32} {chk : Int32} {mo : Nat → Nat → Int32} {mi : Nat → Int32} {ml : Nat → Int64} {mk : Nat → Int32} {mlo : Nat → Int64} {mhi : Nat → Int64} {pk : Nat → Int32} {ps : Nat → Int32} {pl : Nat → Int64} {ph : Nat → Int64} {mm : Nat → Int64} {out : Nat → Int64}  (hk : k_ok_Md_pop mi mk mlo mhi pk ps pl ph) : x_M l y_Md_pop (Cond.code y_Md_pop b_Md_pop 2 (Option.none : Option Jvm.ClassFile.FieldType) :: x_Wd) { frames := 1, cells := 0, slots := 0, locals := 26 } (x_k D cA ad) (x_F ad cA) [(.ref (ad (18, 0)))] ((stp, psz, gk, gl, gh, opn, cki, ckl, mp, rk, rv, ri, chk), (mo, mi, ml, mk, mlo, mhi, pk, ps, pl, ph, mm), out) ((fun q : (Nat → Int32) × (Nat → Int32) × (Nat → Int64) × (Nat → Int64) => ((none, ((stp, psz, gk, gl, gh, opn, cki, ckl, mp, rk, rv, ri, chk), (mo, q.1, ml, q.2.1, q.2.2.1, q.2.2.2, pk, ps, pl, ph, mm), out)) : Option Value × x_S)) (s_Md_pop mi mk mlo mhi pk ps pl ph)) 0 0 := by
  refine x_start (κ := x_k D cA ad) (cc := b_Md_pop) (F := x_F ad cA) (wr := (fun q : (Nat → Int32) × (Nat → Int32) × (Nat → Int64) × (Nat → Int64) => ((none, ((stp, psz, gk, gl, gh, opn, cki, ckl, mp, rk, rv, ri, chk), (mo, q.1, ml, q.2.1, q.2.2.1, q.2.2.2, pk, ps, pl, ph, mm), out)) : Option Value × x_S))) (q := s_Md_pop mi mk mlo mhi pk ps pl ph) (ret := (Option.none : Option Jvm.ClassFile.FieldType)) (lv0 := [(0, (.ref (ad (18, 0))))]) ok (by decide) rfl (Nat.le_of_ble_eq_true rfl) rfl ?_
  intro p e s m below meth c C hr hlk
  unfold s_Md_pop
  unfold k_ok_Md_pop at hk
  refine x_aload_n 0 C d_Md_pop_0 rfl rfl ?_
  refine x_dup C d_Md_pop_1 rfl ?_
  refine x_get (i := (18, 0)) (v := (.int (mi 9))) 24 C m_18 rfl rfl i_Md (by decide) (List.mem_cons_of_mem _ q_815) rfl d_Md_pop_2 ?_
  refine x_iconst (v := 1) C d_Md_pop_5 (by decide) ?_
  refine x_isub C d_Md_pop_6 ?_
  refine x_put (i := (18, 0)) (f' := x_F ad cA ((stp, psz, gk, gl, gh, opn, cki, ckl, mp, rk, rv, ri, chk), (mo, upd mi 9 ((mi 9) - 1), ml, mk, mlo, mhi, pk, ps, pl, ph, mm), out)) 24 C m_18 rfl rfl i_Md t_Md_ok n_Md (by decide) (List.mem_cons_of_mem _ q_815) rfl rfl rfl (Nat.le_of_ble_eq_true rfl) d_Md_pop_7 e_mi9 ?_
  refine x_iconst (v := 0) C d_Md_pop_10 (by decide) ?_
  refine x_istore_n (lv' := [(1, (.int 0)), (0, (.ref (ad (18, 0))))]) C d_Md_pop_11 rfl (by decide) rfl ?_
  refine x_loc (lv' := [(0, (.ref (ad (18, 0)))), (1, (.int 0))]) [1, 0] rfl ?_
  exact cl_Md_pop_12 ok C hr hlk  13 (upd mi 9 ((mi 9) - 1)) mk mlo mhi 0 hk
def bk_Md_move_27 (mk : Nat → Int32) (mlo : Nat → Int64) (mhi : Nat → Int64) (a1 : Int32) (a2 : Int64) (a3 : Int64)  : (Nat → Int32) × (Nat → Int64) × (Nat → Int64) :=
  (x_let (s_Md_anything mk mlo mhi a1) fun (mk9, mlo9, mhi9) => (mk9, mlo9, mhi9))
def bk_ok_Md_move_27 (mk : Nat → Int32) (mlo : Nat → Int64) (mhi : Nat → Int64) (a1 : Int32) (a2 : Int64) (a3 : Int64)  : Prop :=
  (k_ok_Md_anything mk mlo mhi a1 ∧ True)
set_option maxHeartbeats 4000000 in
set_option maxRecDepth 100000 in
theorem cb_Md_move_27 {l : Launch} {D : va_G} {cA : Nat → ClassId} {ad : x_I → Nat} (ok : x_ok (x_k D cA ad)) {stp : Nat → Nat → Int32} {psz : Int32} {gk : Nat → Nat → Int32} {gl : Nat → Nat → Int64} {gh : Nat → Nat → Int64} {opn : Nat → Int32} {cki : Nat → Int32} {ckl : Nat → Int64} {mp : Nat → Nat → Int64} {rk : Nat → Int32} {rv : Nat → Int64} {ri : Nat → Int32} {chk : Int32} {mo : Nat → Nat → Int32} {mi : Nat → Int32} {ml : Nat → Int64} {pk : Nat → Int32} {ps : Nat → Int32} {pl : Nat → Int64} {ph : Nat → Int64} {mm : Nat → Int64} {out : Nat → Int64} {p : Program} {e : Env} {s : State} {m : MethodId} {args : Array Value} {below : List Frame} {meth : Method} {c : Code} (C : x_C p s m args c b_Md_move 6 R_Md (Cond.code y_Md_move b_Md_move 6 (Option.none : Option Jvm.ClassFile.FieldType) :: x_Wd) (x_k D cA ad)) (hr : meth.sig.returnType = (Option.none : Option Jvm.ClassFile.FieldType)) (hlk : meth.locks = false) (a1 : Int32) (a2 : Int64) (a3 : Int64) (mk : Nat → Int32) (mlo : Nat → Int64) (mhi : Nat → Int64)  (hk : bk_ok_Md_move_27 mk mlo mhi a1 a2 a3) : x_V p l e { frames := 2, cells := 0, slots := 0, locals := 47 } s m args below meth c (x_k D cA ad) 6 0 0 (x_E below (x_k D cA ad) args s 0 0 (x_F ad cA) (fun q : (Nat → Int32) × (Nat → Int64) × (Nat → Int64) => ((none, ((stp, psz, gk, gl, gh, opn, cki, ckl, mp, rk, rv, ri, chk), (mo, mi, ml, q.1, q.2.1, q.2.2, pk, ps, pl, ph, mm), out)) : Option Value × x_S)) (bk_Md_move_27 mk mlo mhi a1 a2 a3)) (x_F ad cA ((stp, psz, gk, gl, gh, opn, cki, ckl, mp, rk, rv, ri, chk), (mo, mi, ml, mk, mlo, mhi, pk, ps, pl, ph, mm), out)) 27 [(0, (.ref (ad (18, 0)))), (1, (.int a1))] [] := by
  unfold bk_Md_move_27
  unfold bk_ok_Md_move_27 at hk
  refine x_aload_n 0 C d_Md_move_27 rfl rfl ?_
  refine x_iload_n 1 C d_Md_move_28 rfl rfl ?_
  have w8 := hk.1
  have hk := hk.2
  refine x_cv0 (i := (18, 0)) (F := x_F ad cA) (As := [(.int a1)]) (rest := []) C k_Md_anything q_912 (c_Md_anything ok a1 w8) rfl rfl rfl (Nat.le_of_ble_eq_true rfl) (Nat.le_of_ble_eq_true rfl) m_18 rfl rfl rfl rfl rfl (Nat.le_of_ble_eq_true rfl) d_Md_move_29 ⟨Nat.zero_le _, Nat.zero_le _⟩ ?_
  generalize hq9 : s_Md_anything mk mlo mhi a1 = q9
  obtain ⟨mk9, mlo9, mhi9⟩ := q9
  refine x_lets ?_
  dsimp only
  refine x_goto 63 C d_Md_move_32 (by decide) ?_
  exact x_vret C hr hlk rfl d_Md_move_63
def s_Md_move (mk : Nat → Int32) (mlo : Nat → Int64) (mhi : Nat → Int64) (a1 : Int32) (a2 : Int64) (a3 : Int64) : (Nat → Int32) × (Nat → Int64) × (Nat → Int64) :=
  (x_let (s_Md_overflows (mlo a1.toNatClampNeg) a2) fun r2 => (if r2 = 0 then (x_let (s_Md_overflows (mhi a1.toNatClampNeg) a3) fun r4 => (if r4 = 0 then (x_let (s_Md_know mk mlo mhi a1 (mk a1.toNatClampNeg) ((mlo a1.toNatClampNeg) + a2) ((mhi a1.toNatClampNeg) + a3)) fun (mk7, mlo7, mhi7) => (mk7, mlo7, mhi7)) else bk_Md_move_27 mk mlo mhi a1 a2 a3)) else bk_Md_move_27 mk mlo mhi a1 a2 a3))
def k_ok_Md_move (mk : Nat → Int32) (mlo : Nat → Int64) (mhi : Nat → Int64) (a1 : Int32) (a2 : Int64) (a3 : Int64) : Prop :=
  (vp_in a1 12 ∧ (x_let (s_Md_overflows (mlo a1.toNatClampNeg) a2) fun r2 => (if r2 = 0 then (x_let (s_Md_overflows (mhi a1.toNatClampNeg) a3) fun r4 => (if r4 = 0 then (k_ok_Md_know mk mlo mhi a1 (mk a1.toNatClampNeg) ((mlo a1.toNatClampNeg) + a2) ((mhi a1.toNatClampNeg) + a3) ∧ True) else bk_ok_Md_move_27 mk mlo mhi a1 a2 a3)) else bk_ok_Md_move_27 mk mlo mhi a1 a2 a3)))
set_option maxHeartbeats 4000000 in
set_option maxRecDepth 100000 in
theorem c_Md_move {l : Launch} {D : va_G} {cA : Nat → ClassId} {ad : x_I → Nat} (ok : x_ok (x_k D cA ad)) {stp : Nat → Nat → Int32} {psz : Int32} {gk : Nat → Nat → Int32} {gl : Nat → Nat → Int64} {gh : Nat → Nat → Int64} {opn : Nat → Int32} {cki : Nat → Int32} {ckl : Nat → Int64} {mp : Nat → Nat → Int64} {rk : Nat → Int32} {rv : Nat → Int64} {ri : Nat → Int32} {chk : Int32} {mo : Nat → Nat → Int32} {mi : Nat → Int32} {ml : Nat → Int64} {mk : Nat → Int32} {mlo : Nat → Int64} {mhi : Nat → Int64} {pk : Nat → Int32} {ps : Nat → Int32} {pl : Nat → Int64} {ph : Nat → Int64} {mm : Nat → Int64} {out : Nat → Int64} (a1 : Int32) (a2 : Int64) (a3 : Int64) (hk : k_ok_Md_move mk mlo mhi a1 a2 a3) : x_M l y_Md_move (Cond.code y_Md_move b_Md_move 6 (Option.none : Option Jvm.ClassFile.FieldType) :: x_Wd) { frames := 2, cells := 0, slots := 0, locals := 47 } (x_k D cA ad) (x_F ad cA) [(.ref (ad (18, 0))), (.int a1), (.long a2), (.long a3)] ((stp, psz, gk, gl, gh, opn, cki, ckl, mp, rk, rv, ri, chk), (mo, mi, ml, mk, mlo, mhi, pk, ps, pl, ph, mm), out) ((fun q : (Nat → Int32) × (Nat → Int64) × (Nat → Int64) => ((none, ((stp, psz, gk, gl, gh, opn, cki, ckl, mp, rk, rv, ri, chk), (mo, mi, ml, q.1, q.2.1, q.2.2, pk, ps, pl, ph, mm), out)) : Option Value × x_S)) (s_Md_move mk mlo mhi a1 a2 a3)) 0 0 := by
  refine x_start (κ := x_k D cA ad) (cc := b_Md_move) (F := x_F ad cA) (wr := (fun q : (Nat → Int32) × (Nat → Int64) × (Nat → Int64) => ((none, ((stp, psz, gk, gl, gh, opn, cki, ckl, mp, rk, rv, ri, chk), (mo, mi, ml, q.1, q.2.1, q.2.2, pk, ps, pl, ph, mm), out)) : Option Value × x_S))) (q := s_Md_move mk mlo mhi a1 a2 a3) (ret := (Option.none : Option Jvm.ClassFile.FieldType)) (lv0 := [(0, (.ref (ad (18, 0)))), (1, (.int a1)), (2, (.long a2)), (4, (.long a3))]) ok (by decide) rfl (Nat.le_of_ble_eq_true rfl) rfl ?_
  intro p e s m below meth c C hr hlk
  unfold s_Md_move
  unfold k_ok_Md_move at hk
  refine x_aload_n 0 C d_Md_move_0 rfl rfl ?_
  refine x_get (i := (18, 0)) (v := (.ref (ad (25, 0)))) 17 C m_18 rfl rfl i_Md (by decide) (List.mem_cons_of_mem _ q_808) rfl d_Md_move_1 ?_
  refine x_iload_n 1 C d_Md_move_4 rfl rfl ?_
  have w1 := hk.1
  have hk := hk.2
  refine x_lald (i := (25, 0)) (g := mlo) 1 C m_25 rfl rfl w1 d_Md_move_5 ?_
  refine x_lload_n 2 C d_Md_move_6 rfl rfl ?_
  refine x_cs (F := x_F ad cA) (As := [(.long (mlo a1.toNatClampNeg)), (.long a2)]) (rest := []) C k_Md_overflows q_958 (c_Md_overflows ok (mlo a1.toNatClampNeg) a2) rfl rfl rfl (Nat.le_of_ble_eq_true rfl) (Nat.le_of_ble_eq_true rfl) rfl rfl (Nat.le_of_ble_eq_true rfl) d_Md_move_7 ⟨Nat.zero_le _, Nat.zero_le _⟩ ?_
  generalize hq2 : s_Md_overflows (mlo a1.toNatClampNeg) a2 = r2 at hk ⊢
  refine x_lets ?_
  have hk := x_lete hk
  refine x_if_ne 27 C d_Md_move_10 (by decide) (fun z3 => ?_) (fun z3 => ?_)
  · have hk := x_okt hk z3
    refine x_aload_n 0 C d_Md_move_13 rfl rfl ?_
    refine x_get (i := (18, 0)) (v := (.ref (ad (26, 0)))) 18 C m_18 rfl rfl i_Md (by decide) (List.mem_cons_of_mem _ q_809) rfl d_Md_move_14 ?_
    refine x_iload_n 1 C d_Md_move_17 rfl rfl ?_
    refine x_lald (i := (26, 0)) (g := mhi) 1 C m_26 rfl rfl w1 d_Md_move_18 ?_
    refine x_lload 3 C d_Md_move_19 rfl ?_
    refine x_cs (F := x_F ad cA) (As := [(.long (mhi a1.toNatClampNeg)), (.long a3)]) (rest := []) C k_Md_overflows q_958 (c_Md_overflows ok (mhi a1.toNatClampNeg) a3) rfl rfl rfl (Nat.le_of_ble_eq_true rfl) (Nat.le_of_ble_eq_true rfl) rfl rfl (Nat.le_of_ble_eq_true rfl) d_Md_move_21 ⟨Nat.zero_le _, Nat.zero_le _⟩ ?_
    generalize hq4 : s_Md_overflows (mhi a1.toNatClampNeg) a3 = r4 at hk ⊢
    refine x_lets ?_
    have hk := x_lete hk
    refine x_if_eq 35 C d_Md_move_24 (by decide) (fun z5 => ?_) (fun z5 => ?_)
    · have hk := x_okt hk z5
      refine x_aload_n 0 C d_Md_move_35 rfl rfl ?_
      refine x_iload_n 1 C d_Md_move_36 rfl rfl ?_
      refine x_aload_n 0 C d_Md_move_37 rfl rfl ?_
      refine x_get (i := (18, 0)) (v := (.ref (ad (24, 0)))) 16 C m_18 rfl rfl i_Md (by decide) (List.mem_cons_of_mem _ q_807) rfl d_Md_move_38 ?_
      refine x_iload_n 1 C d_Md_move_41 rfl rfl ?_
      refine x_iald (i := (24, 0)) (g := mk) 0 C m_24 rfl rfl w1 d_Md_move_42 ?_
      refine x_aload_n 0 C d_Md_move_43 rfl rfl ?_
      refine x_get (i := (18, 0)) (v := (.ref (ad (25, 0)))) 17 C m_18 rfl rfl i_Md (by decide) (List.mem_cons_of_mem _ q_808) rfl d_Md_move_44 ?_
      refine x_iload_n 1 C d_Md_move_47 rfl rfl ?_
      refine x_lald (i := (25, 0)) (g := mlo) 1 C m_25 rfl rfl w1 d_Md_move_48 ?_
      refine x_lload_n 2 C d_Md_move_49 rfl rfl ?_
      refine x_ladd C d_Md_move_50 ?_
      refine x_aload_n 0 C d_Md_move_51 rfl rfl ?_
      refine x_get (i := (18, 0)) (v := (.ref (ad (26, 0)))) 18 C m_18 rfl rfl i_Md (by decide) (List.mem_cons_of_mem _ q_809) rfl d_Md_move_52 ?_
      refine x_iload_n 1 C d_Md_move_55 rfl rfl ?_
      refine x_lald (i := (26, 0)) (g := mhi) 1 C m_26 rfl rfl w1 d_Md_move_56 ?_
      refine x_lload 3 C d_Md_move_57 rfl ?_
      refine x_ladd C d_Md_move_59 ?_
      have w6 := hk.1
      have hk := hk.2
      refine x_cv0 (i := (18, 0)) (F := x_F ad cA) (As := [(.int a1), (.int (mk a1.toNatClampNeg)), (.long ((mlo a1.toNatClampNeg) + a2)), (.long ((mhi a1.toNatClampNeg) + a3))]) (rest := []) C k_Md_know q_908 (c_Md_know ok a1 (mk a1.toNatClampNeg) ((mlo a1.toNatClampNeg) + a2) ((mhi a1.toNatClampNeg) + a3) w6) rfl rfl rfl (Nat.le_of_ble_eq_true rfl) (Nat.le_of_ble_eq_true rfl) m_18 rfl rfl rfl rfl rfl (Nat.le_of_ble_eq_true rfl) d_Md_move_60 ⟨Nat.zero_le _, Nat.zero_le _⟩ ?_
      generalize hq7 : s_Md_know mk mlo mhi a1 (mk a1.toNatClampNeg) ((mlo a1.toNatClampNeg) + a2) ((mhi a1.toNatClampNeg) + a3) = q7
      obtain ⟨mk7, mlo7, mhi7⟩ := q7
      refine x_lets ?_
      dsimp only
      exact x_vret C hr hlk rfl d_Md_move_63
    · have hk := x_okf hk z5
      refine x_loc (lv' := [(0, (.ref (ad (18, 0)))), (1, (.int a1))]) [0, 1] rfl ?_
      exact cb_Md_move_27 ok C hr hlk a1 a2 a3  mk mlo mhi  hk
  · have hk := x_okf hk z3
    refine x_loc (lv' := [(0, (.ref (ad (18, 0)))), (1, (.int a1))]) [0, 1] rfl ?_
    exact cb_Md_move_27 ok C hr hlk a1 a2 a3  mk mlo mhi  hk
def s_Md_spread (mk : Nat → Int32) (mlo : Nat → Int64) (mhi : Nat → Int64) (a1 : Int32) (a2 : Int64) (a3 : Int64) : (Nat → Int32) × (Nat → Int64) × (Nat → Int64) :=
  (if a3 ≤ a2 then (if a3 ≤ a2 then (x_let (s_Md_know mk mlo mhi a1 1 a3 a2) fun (mk4, mlo4, mhi4) => (mk4, mlo4, mhi4)) else (x_let (s_Md_know mk mlo mhi a1 1 a3 a3) fun (mk6, mlo6, mhi6) => (mk6, mlo6, mhi6))) else (if a3 ≤ a2 then (x_let (s_Md_know mk mlo mhi a1 1 a2 a2) fun (mk9, mlo9, mhi9) => (mk9, mlo9, mhi9)) else (x_let (s_Md_know mk mlo mhi a1 1 a2 a3) fun (mk11, mlo11, mhi11) => (mk11, mlo11, mhi11))))
def k_ok_Md_spread (mk : Nat → Int32) (mlo : Nat → Int64) (mhi : Nat → Int64) (a1 : Int32) (a2 : Int64) (a3 : Int64) : Prop :=
  (if a3 ≤ a2 then (if a3 ≤ a2 then (k_ok_Md_know mk mlo mhi a1 1 a3 a2 ∧ True) else (k_ok_Md_know mk mlo mhi a1 1 a3 a3 ∧ True)) else (if a3 ≤ a2 then (k_ok_Md_know mk mlo mhi a1 1 a2 a2 ∧ True) else (k_ok_Md_know mk mlo mhi a1 1 a2 a3 ∧ True)))
set_option maxHeartbeats 4000000 in
set_option maxRecDepth 100000 in
theorem c_Md_spread {l : Launch} {D : va_G} {cA : Nat → ClassId} {ad : x_I → Nat} (ok : x_ok (x_k D cA ad)) {stp : Nat → Nat → Int32} {psz : Int32} {gk : Nat → Nat → Int32} {gl : Nat → Nat → Int64} {gh : Nat → Nat → Int64} {opn : Nat → Int32} {cki : Nat → Int32} {ckl : Nat → Int64} {mp : Nat → Nat → Int64} {rk : Nat → Int32} {rv : Nat → Int64} {ri : Nat → Int32} {chk : Int32} {mo : Nat → Nat → Int32} {mi : Nat → Int32} {ml : Nat → Int64} {mk : Nat → Int32} {mlo : Nat → Int64} {mhi : Nat → Int64} {pk : Nat → Int32} {ps : Nat → Int32} {pl : Nat → Int64} {ph : Nat → Int64} {mm : Nat → Int64} {out : Nat → Int64} (a1 : Int32) (a2 : Int64) (a3 : Int64) (hk : k_ok_Md_spread mk mlo mhi a1 a2 a3) : x_M l y_Md_spread (Cond.code y_Md_spread b_Md_spread 6 (Option.none : Option Jvm.ClassFile.FieldType) :: x_Wd) { frames := 1, cells := 0, slots := 0, locals := 26 } (x_k D cA ad) (x_F ad cA) [(.ref (ad (18, 0))), (.int a1), (.long a2), (.long a3)] ((stp, psz, gk, gl, gh, opn, cki, ckl, mp, rk, rv, ri, chk), (mo, mi, ml, mk, mlo, mhi, pk, ps, pl, ph, mm), out) ((fun q : (Nat → Int32) × (Nat → Int64) × (Nat → Int64) => ((none, ((stp, psz, gk, gl, gh, opn, cki, ckl, mp, rk, rv, ri, chk), (mo, mi, ml, q.1, q.2.1, q.2.2, pk, ps, pl, ph, mm), out)) : Option Value × x_S)) (s_Md_spread mk mlo mhi a1 a2 a3)) 0 0 := by
  refine x_start (κ := x_k D cA ad) (cc := b_Md_spread) (F := x_F ad cA) (wr := (fun q : (Nat → Int32) × (Nat → Int64) × (Nat → Int64) => ((none, ((stp, psz, gk, gl, gh, opn, cki, ckl, mp, rk, rv, ri, chk), (mo, mi, ml, q.1, q.2.1, q.2.2, pk, ps, pl, ph, mm), out)) : Option Value × x_S))) (q := s_Md_spread mk mlo mhi a1 a2 a3) (ret := (Option.none : Option Jvm.ClassFile.FieldType)) (lv0 := [(0, (.ref (ad (18, 0)))), (1, (.int a1)), (2, (.long a2)), (4, (.long a3))]) ok (by decide) rfl (Nat.le_of_ble_eq_true rfl) rfl ?_
  intro p e s m below meth c C hr hlk
  unfold s_Md_spread
  unfold k_ok_Md_spread at hk
  refine x_aload_n 0 C d_Md_spread_0 rfl rfl ?_
  refine x_iload_n 1 C d_Md_spread_1 rfl rfl ?_
  refine x_iconst (v := 1) C d_Md_spread_2 (by decide) ?_
  refine x_lload_n 2 C d_Md_spread_3 rfl rfl ?_
  refine x_lload 3 C d_Md_spread_4 rfl ?_
  refine x_lcmp_ge 14 C d_Md_spread_6 d_Md_spread_7 (by decide) (fun z1 => ?_) (fun z1 => ?_)
  · have hk := x_okt hk z1
    refine x_lload 3 C d_Md_spread_14 rfl ?_
    refine x_lload_n 2 C d_Md_spread_16 rfl rfl ?_
    refine x_lload 3 C d_Md_spread_17 rfl ?_
    refine x_lcmp_ge 28 C d_Md_spread_19 d_Md_spread_20 (by decide) (fun z2 => ?_) (fun z2 => ?_)
    · have hk := x_okt hk z2
      refine x_lload_n 2 C d_Md_spread_28 rfl rfl ?_
      have w3 := hk.1
      have hk := hk.2
      refine x_cv0 (i := (18, 0)) (F := x_F ad cA) (As := [(.int a1), (.int 1), (.long a3), (.long a2)]) (rest := []) C k_Md_know q_908 (c_Md_know ok a1 1 a3 a2 w3) rfl rfl rfl (Nat.le_of_ble_eq_true rfl) (Nat.le_of_ble_eq_true rfl) m_18 rfl rfl rfl rfl rfl (Nat.le_of_ble_eq_true rfl) d_Md_spread_29 ⟨Nat.zero_le _, Nat.zero_le _⟩ ?_
      generalize hq4 : s_Md_know mk mlo mhi a1 1 a3 a2 = q4
      obtain ⟨mk4, mlo4, mhi4⟩ := q4
      refine x_lets ?_
      dsimp only
      exact x_vret C hr hlk rfl d_Md_spread_32
    · have hk := x_okf hk z2
      refine x_lload 3 C d_Md_spread_23 rfl ?_
      refine x_goto 29 C d_Md_spread_25 (by decide) ?_
      have w5 := hk.1
      have hk := hk.2
      refine x_cv0 (i := (18, 0)) (F := x_F ad cA) (As := [(.int a1), (.int 1), (.long a3), (.long a3)]) (rest := []) C k_Md_know q_908 (c_Md_know ok a1 1 a3 a3 w5) rfl rfl rfl (Nat.le_of_ble_eq_true rfl) (Nat.le_of_ble_eq_true rfl) m_18 rfl rfl rfl rfl rfl (Nat.le_of_ble_eq_true rfl) d_Md_spread_29 ⟨Nat.zero_le _, Nat.zero_le _⟩ ?_
      generalize hq6 : s_Md_know mk mlo mhi a1 1 a3 a3 = q6
      obtain ⟨mk6, mlo6, mhi6⟩ := q6
      refine x_lets ?_
      dsimp only
      exact x_vret C hr hlk rfl d_Md_spread_32
  · have hk := x_okf hk z1
    refine x_lload_n 2 C d_Md_spread_10 rfl rfl ?_
    refine x_goto 16 C d_Md_spread_11 (by decide) ?_
    refine x_lload_n 2 C d_Md_spread_16 rfl rfl ?_
    refine x_lload 3 C d_Md_spread_17 rfl ?_
    refine x_lcmp_ge 28 C d_Md_spread_19 d_Md_spread_20 (by decide) (fun z7 => ?_) (fun z7 => ?_)
    · have hk := x_okt hk z7
      refine x_lload_n 2 C d_Md_spread_28 rfl rfl ?_
      have w8 := hk.1
      have hk := hk.2
      refine x_cv0 (i := (18, 0)) (F := x_F ad cA) (As := [(.int a1), (.int 1), (.long a2), (.long a2)]) (rest := []) C k_Md_know q_908 (c_Md_know ok a1 1 a2 a2 w8) rfl rfl rfl (Nat.le_of_ble_eq_true rfl) (Nat.le_of_ble_eq_true rfl) m_18 rfl rfl rfl rfl rfl (Nat.le_of_ble_eq_true rfl) d_Md_spread_29 ⟨Nat.zero_le _, Nat.zero_le _⟩ ?_
      generalize hq9 : s_Md_know mk mlo mhi a1 1 a2 a2 = q9
      obtain ⟨mk9, mlo9, mhi9⟩ := q9
      refine x_lets ?_
      dsimp only
      exact x_vret C hr hlk rfl d_Md_spread_32
    · have hk := x_okf hk z7
      refine x_lload 3 C d_Md_spread_23 rfl ?_
      refine x_goto 29 C d_Md_spread_25 (by decide) ?_
      have w10 := hk.1
      have hk := hk.2
      refine x_cv0 (i := (18, 0)) (F := x_F ad cA) (As := [(.int a1), (.int 1), (.long a2), (.long a3)]) (rest := []) C k_Md_know q_908 (c_Md_know ok a1 1 a2 a3 w10) rfl rfl rfl (Nat.le_of_ble_eq_true rfl) (Nat.le_of_ble_eq_true rfl) m_18 rfl rfl rfl rfl rfl (Nat.le_of_ble_eq_true rfl) d_Md_spread_29 ⟨Nat.zero_le _, Nat.zero_le _⟩ ?_
      generalize hq11 : s_Md_know mk mlo mhi a1 1 a2 a3 = q11
      obtain ⟨mk11, mlo11, mhi11⟩ := q11
      refine x_lets ?_
      dsimp only
      exact x_vret C hr hlk rfl d_Md_spread_32
def bk_Md_subtract_84 (mk : Nat → Int32) (mlo : Nat → Int64) (mhi : Nat → Int64) (a1 : Int32) (a2 : Int32)  : (Nat → Int32) × (Nat → Int64) × (Nat → Int64) :=
  (x_let (s_Md_anything mk mlo mhi a1) fun (mk5, mlo5, mhi5) => (mk5, mlo5, mhi5))
def bk_ok_Md_subtract_84 (mk : Nat → Int32) (mlo : Nat → Int64) (mhi : Nat → Int64) (a1 : Int32) (a2 : Int32)  : Prop :=
  (k_ok_Md_anything mk mlo mhi a1 ∧ True)
set_option maxHeartbeats 4000000 in
set_option maxRecDepth 100000 in
theorem cb_Md_subtract_84 {l : Launch} {D : va_G} {cA : Nat → ClassId} {ad : x_I → Nat} (ok : x_ok (x_k D cA ad)) {stp : Nat → Nat → Int32} {psz : Int32} {gk : Nat → Nat → Int32} {gl : Nat → Nat → Int64} {gh : Nat → Nat → Int64} {opn : Nat → Int32} {cki : Nat → Int32} {ckl : Nat → Int64} {mp : Nat → Nat → Int64} {rk : Nat → Int32} {rv : Nat → Int64} {ri : Nat → Int32} {chk : Int32} {mo : Nat → Nat → Int32} {mi : Nat → Int32} {ml : Nat → Int64} {pk : Nat → Int32} {ps : Nat → Int32} {pl : Nat → Int64} {ph : Nat → Int64} {mm : Nat → Int64} {out : Nat → Int64} {p : Program} {e : Env} {s : State} {m : MethodId} {args : Array Value} {below : List Frame} {meth : Method} {c : Code} (C : x_C p s m args c b_Md_subtract 7 R_Md (Cond.code y_Md_subtract b_Md_subtract 7 (Option.none : Option Jvm.ClassFile.FieldType) :: x_Wd) (x_k D cA ad)) (hr : meth.sig.returnType = (Option.none : Option Jvm.ClassFile.FieldType)) (hlk : meth.locks = false) (a1 : Int32) (a2 : Int32) (mk : Nat → Int32) (mlo : Nat → Int64) (mhi : Nat → Int64)  (hk : bk_ok_Md_subtract_84 mk mlo mhi a1 a2) : x_V p l e { frames := 2, cells := 0, slots := 0, locals := 47 } s m args below meth c (x_k D cA ad) 7 0 0 (x_E below (x_k D cA ad) args s 0 0 (x_F ad cA) (fun q : (Nat → Int32) × (Nat → Int64) × (Nat → Int64) => ((none, ((stp, psz, gk, gl, gh, opn, cki, ckl, mp, rk, rv, ri, chk), (mo, mi, ml, q.1, q.2.1, q.2.2, pk, ps, pl, ph, mm), out)) : Option Value × x_S)) (bk_Md_subtract_84 mk mlo mhi a1 a2)) (x_F ad cA ((stp, psz, gk, gl, gh, opn, cki, ckl, mp, rk, rv, ri, chk), (mo, mi, ml, mk, mlo, mhi, pk, ps, pl, ph, mm), out)) 84 [(0, (.ref (ad (18, 0)))), (1, (.int a1))] [] := by
  unfold bk_Md_subtract_84
  unfold bk_ok_Md_subtract_84 at hk
  refine x_aload_n 0 C d_Md_subtract_84 rfl rfl ?_
  refine x_iload_n 1 C d_Md_subtract_85 rfl rfl ?_
  have w4 := hk.1
  have hk := hk.2
  refine x_cv0 (i := (18, 0)) (F := x_F ad cA) (As := [(.int a1)]) (rest := []) C k_Md_anything q_912 (c_Md_anything ok a1 w4) rfl rfl rfl (Nat.le_of_ble_eq_true rfl) (Nat.le_of_ble_eq_true rfl) m_18 rfl rfl rfl rfl rfl (Nat.le_of_ble_eq_true rfl) d_Md_subtract_86 ⟨Nat.zero_le _, Nat.zero_le _⟩ ?_
  generalize hq5 : s_Md_anything mk mlo mhi a1 = q5
  obtain ⟨mk5, mlo5, mhi5⟩ := q5
  refine x_lets ?_
  dsimp only
  refine x_goto 101 C d_Md_subtract_89 (by decide) ?_
  exact x_vret C hr hlk rfl d_Md_subtract_101
def s_Md_subtract (mk : Nat → Int32) (mlo : Nat → Int64) (mhi : Nat → Int64) (a1 : Int32) (a2 : Int32) : (Nat → Int32) × (Nat → Int64) × (Nat → Int64) :=
  (if (((mlo a1.toNatClampNeg) ^^^ (mhi a2.toNatClampNeg)) &&& ((mlo a1.toNatClampNeg) ^^^ ((mlo a1.toNatClampNeg) - (mhi a2.toNatClampNeg)))) < 0 then bk_Md_subtract_84 mk mlo mhi a1 a2 else (if 0 ≤ (((mhi a1.toNatClampNeg) ^^^ (mlo a2.toNatClampNeg)) &&& ((mhi a1.toNatClampNeg) ^^^ ((mhi a1.toNatClampNeg) - (mlo a2.toNatClampNeg)))) then (x_let (s_Md_know mk mlo mhi a1 1 ((mlo a1.toNatClampNeg) - (mhi a2.toNatClampNeg)) ((mhi a1.toNatClampNeg) - (mlo a2.toNatClampNeg))) fun (mk8, mlo8, mhi8) => (mk8, mlo8, mhi8)) else bk_Md_subtract_84 mk mlo mhi a1 a2))
def k_ok_Md_subtract (mk : Nat → Int32) (mlo : Nat → Int64) (mhi : Nat → Int64) (a1 : Int32) (a2 : Int32) : Prop :=
  (vp_in a1 12 ∧ (vp_in a2 12 ∧ (if (((mlo a1.toNatClampNeg) ^^^ (mhi a2.toNatClampNeg)) &&& ((mlo a1.toNatClampNeg) ^^^ ((mlo a1.toNatClampNeg) - (mhi a2.toNatClampNeg)))) < 0 then bk_ok_Md_subtract_84 mk mlo mhi a1 a2 else (if 0 ≤ (((mhi a1.toNatClampNeg) ^^^ (mlo a2.toNatClampNeg)) &&& ((mhi a1.toNatClampNeg) ^^^ ((mhi a1.toNatClampNeg) - (mlo a2.toNatClampNeg)))) then (k_ok_Md_know mk mlo mhi a1 1 ((mlo a1.toNatClampNeg) - (mhi a2.toNatClampNeg)) ((mhi a1.toNatClampNeg) - (mlo a2.toNatClampNeg)) ∧ True) else bk_ok_Md_subtract_84 mk mlo mhi a1 a2))))
set_option maxHeartbeats 4000000 in
set_option maxRecDepth 100000 in
theorem c_Md_subtract {l : Launch} {D : va_G} {cA : Nat → ClassId} {ad : x_I → Nat} (ok : x_ok (x_k D cA ad)) {stp : Nat → Nat → Int32} {psz : Int32} {gk : Nat → Nat → Int32} {gl : Nat → Nat → Int64} {gh : Nat → Nat → Int64} {opn : Nat → Int32} {cki : Nat → Int32} {ckl : Nat → Int64} {mp : Nat → Nat → Int64} {rk : Nat → Int32} {rv : Nat → Int64} {ri : Nat → Int32} {chk : Int32} {mo : Nat → Nat → Int32} {mi : Nat → Int32} {ml : Nat → Int64} {mk : Nat → Int32} {mlo : Nat → Int64} {mhi : Nat → Int64} {pk : Nat → Int32} {ps : Nat → Int32} {pl : Nat → Int64} {ph : Nat → Int64} {mm : Nat → Int64} {out : Nat → Int64} (a1 : Int32) (a2 : Int32) (hk : k_ok_Md_subtract mk mlo mhi a1 a2) : x_M l y_Md_subtract (Cond.code y_Md_subtract b_Md_subtract 7 (Option.none : Option Jvm.ClassFile.FieldType) :: x_Wd) { frames := 2, cells := 0, slots := 0, locals := 47 } (x_k D cA ad) (x_F ad cA) [(.ref (ad (18, 0))), (.int a1), (.int a2)] ((stp, psz, gk, gl, gh, opn, cki, ckl, mp, rk, rv, ri, chk), (mo, mi, ml, mk, mlo, mhi, pk, ps, pl, ph, mm), out) ((fun q : (Nat → Int32) × (Nat → Int64) × (Nat → Int64) => ((none, ((stp, psz, gk, gl, gh, opn, cki, ckl, mp, rk, rv, ri, chk), (mo, mi, ml, q.1, q.2.1, q.2.2, pk, ps, pl, ph, mm), out)) : Option Value × x_S)) (s_Md_subtract mk mlo mhi a1 a2)) 0 0 := by
  refine x_start (κ := x_k D cA ad) (cc := b_Md_subtract) (F := x_F ad cA) (wr := (fun q : (Nat → Int32) × (Nat → Int64) × (Nat → Int64) => ((none, ((stp, psz, gk, gl, gh, opn, cki, ckl, mp, rk, rv, ri, chk), (mo, mi, ml, q.1, q.2.1, q.2.2, pk, ps, pl, ph, mm), out)) : Option Value × x_S))) (q := s_Md_subtract mk mlo mhi a1 a2) (ret := (Option.none : Option Jvm.ClassFile.FieldType)) (lv0 := [(0, (.ref (ad (18, 0)))), (1, (.int a1)), (2, (.int a2))]) ok (by decide) rfl (Nat.le_of_ble_eq_true rfl) rfl ?_
  intro p e s m below meth c C hr hlk
  unfold s_Md_subtract
  unfold k_ok_Md_subtract at hk
  refine x_aload_n 0 C d_Md_subtract_0 rfl rfl ?_
  refine x_get (i := (18, 0)) (v := (.ref (ad (25, 0)))) 17 C m_18 rfl rfl i_Md (by decide) (List.mem_cons_of_mem _ q_808) rfl d_Md_subtract_1 ?_
  refine x_iload_n 1 C d_Md_subtract_4 rfl rfl ?_
  have w1 := hk.1
  have hk := hk.2
  refine x_lald (i := (25, 0)) (g := mlo) 1 C m_25 rfl rfl w1 d_Md_subtract_5 ?_
  refine x_aload_n 0 C d_Md_subtract_6 rfl rfl ?_
  refine x_get (i := (18, 0)) (v := (.ref (ad (26, 0)))) 18 C m_18 rfl rfl i_Md (by decide) (List.mem_cons_of_mem _ q_809) rfl d_Md_subtract_7 ?_
  refine x_iload_n 2 C d_Md_subtract_10 rfl rfl ?_
  have w2 := hk.1
  have hk := hk.2
  refine x_lald (i := (26, 0)) (g := mhi) 1 C m_26 rfl rfl w2 d_Md_subtract_11 ?_
  refine x_lsub C d_Md_subtract_12 ?_
  refine x_lstore_n (lv' := [(3, (.long ((mlo a1.toNatClampNeg) - (mhi a2.toNatClampNeg)))), (0, (.ref (ad (18, 0)))), (1, (.int a1)), (2, (.int a2))]) C d_Md_subtract_13 rfl (by decide) rfl ?_
  refine x_aload_n 1 C d_Md_subtract_14 rfl rfl ?_
  refine x_get (i := (18, 0)) (v := (.ref (ad (26, 0)))) 18 C m_18 rfl rfl i_Md (by decide) (List.mem_cons_of_mem _ q_809) rfl d_Md_subtract_15 ?_
  refine x_iload_n 2 C d_Md_subtract_18 rfl rfl ?_
  refine x_lald (i := (26, 0)) (g := mhi) 1 C m_26 rfl rfl w1 d_Md_subtract_19 ?_
  refine x_aload_n 1 C d_Md_subtract_20 rfl rfl ?_
  refine x_get (i := (18, 0)) (v := (.ref (ad (25, 0)))) 17 C m_18 rfl rfl i_Md (by decide) (List.mem_cons_of_mem _ q_808) rfl d_Md_subtract_21 ?_
  refine x_iload_n 3 C d_Md_subtract_24 rfl rfl ?_
  refine x_lald (i := (25, 0)) (g := mlo) 1 C m_25 rfl rfl w2 d_Md_subtract_25 ?_
  refine x_lsub C d_Md_subtract_26 ?_
  refine x_lstore (lv' := [(5, (.long ((mhi a1.toNatClampNeg) - (mlo a2.toNatClampNeg)))), (3, (.long ((mlo a1.toNatClampNeg) - (mhi a2.toNatClampNeg)))), (0, (.ref (ad (18, 0)))), (1, (.int a1)), (2, (.int a2))]) C d_Md_subtract_27 (by decide) rfl ?_
  refine x_aload_n 2 C d_Md_subtract_29 rfl rfl ?_
  refine x_get (i := (18, 0)) (v := (.ref (ad (25, 0)))) 17 C m_18 rfl rfl i_Md (by decide) (List.mem_cons_of_mem _ q_808) rfl d_Md_subtract_30 ?_
  refine x_iload_n 3 C d_Md_subtract_33 rfl rfl ?_
  refine x_lald (i := (25, 0)) (g := mlo) 1 C m_25 rfl rfl w1 d_Md_subtract_34 ?_
  refine x_aload_n 2 C d_Md_subtract_35 rfl rfl ?_
  refine x_get (i := (18, 0)) (v := (.ref (ad (26, 0)))) 18 C m_18 rfl rfl i_Md (by decide) (List.mem_cons_of_mem _ q_809) rfl d_Md_subtract_36 ?_
  refine x_iload_n 4 C d_Md_subtract_39 rfl rfl ?_
  refine x_lald (i := (26, 0)) (g := mhi) 1 C m_26 rfl rfl w2 d_Md_subtract_40 ?_
  refine x_lxor C d_Md_subtract_41 ?_
  refine x_aload_n 2 C d_Md_subtract_42 rfl rfl ?_
  refine x_get (i := (18, 0)) (v := (.ref (ad (25, 0)))) 17 C m_18 rfl rfl i_Md (by decide) (List.mem_cons_of_mem _ q_808) rfl d_Md_subtract_43 ?_
  refine x_iload_n 3 C d_Md_subtract_46 rfl rfl ?_
  refine x_lald (i := (25, 0)) (g := mlo) 1 C m_25 rfl rfl w1 d_Md_subtract_47 ?_
  refine x_lload_n 1 C d_Md_subtract_48 rfl rfl ?_
  refine x_lxor C d_Md_subtract_49 ?_
  refine x_land C d_Md_subtract_50 ?_
  refine x_lconst (v := 0) C d_Md_subtract_51 (by decide) ?_
  refine x_lcmp_lt 84 C d_Md_subtract_52 d_Md_subtract_53 (by decide) (fun z3 => ?_) (fun z3 => ?_)
  · have hk := x_okt hk z3
    refine x_loc (lv' := [(0, (.ref (ad (18, 0)))), (1, (.int a1))]) [2, 3] rfl ?_
    exact cb_Md_subtract_84 ok C hr hlk a1 a2  mk mlo mhi  hk
  · have hk := x_okf hk z3
    refine x_aload_n 2 C d_Md_subtract_56 rfl rfl ?_
    refine x_get (i := (18, 0)) (v := (.ref (ad (26, 0)))) 18 C m_18 rfl rfl i_Md (by decide) (List.mem_cons_of_mem _ q_809) rfl d_Md_subtract_57 ?_
    refine x_iload_n 3 C d_Md_subtract_60 rfl rfl ?_
    refine x_lald (i := (26, 0)) (g := mhi) 1 C m_26 rfl rfl w1 d_Md_subtract_61 ?_
    refine x_aload_n 2 C d_Md_subtract_62 rfl rfl ?_
    refine x_get (i := (18, 0)) (v := (.ref (ad (25, 0)))) 17 C m_18 rfl rfl i_Md (by decide) (List.mem_cons_of_mem _ q_808) rfl d_Md_subtract_63 ?_
    refine x_iload_n 4 C d_Md_subtract_66 rfl rfl ?_
    refine x_lald (i := (25, 0)) (g := mlo) 1 C m_25 rfl rfl w2 d_Md_subtract_67 ?_
    refine x_lxor C d_Md_subtract_68 ?_
    refine x_aload_n 2 C d_Md_subtract_69 rfl rfl ?_
    refine x_get (i := (18, 0)) (v := (.ref (ad (26, 0)))) 18 C m_18 rfl rfl i_Md (by decide) (List.mem_cons_of_mem _ q_809) rfl d_Md_subtract_70 ?_
    refine x_iload_n 3 C d_Md_subtract_73 rfl rfl ?_
    refine x_lald (i := (26, 0)) (g := mhi) 1 C m_26 rfl rfl w1 d_Md_subtract_74 ?_
    refine x_lload 0 C d_Md_subtract_75 rfl ?_
    refine x_lxor C d_Md_subtract_77 ?_
    refine x_land C d_Md_subtract_78 ?_
    refine x_lconst (v := 0) C d_Md_subtract_79 (by decide) ?_
    refine x_lcmp_ge 92 C d_Md_subtract_80 d_Md_subtract_81 (by decide) (fun z6 => ?_) (fun z6 => ?_)
    · have hk := x_okt hk z6
      refine x_aload_n 2 C d_Md_subtract_92 rfl rfl ?_
      refine x_iload_n 3 C d_Md_subtract_93 rfl rfl ?_
      refine x_iconst (v := 1) C d_Md_subtract_94 (by decide) ?_
      refine x_lload_n 1 C d_Md_subtract_95 rfl rfl ?_
      refine x_lload 0 C d_Md_subtract_96 rfl ?_
      have w7 := hk.1
      have hk := hk.2
      refine x_cv0 (i := (18, 0)) (F := x_F ad cA) (As := [(.int a1), (.int 1), (.long ((mlo a1.toNatClampNeg) - (mhi a2.toNatClampNeg))), (.long ((mhi a1.toNatClampNeg) - (mlo a2.toNatClampNeg)))]) (rest := []) C k_Md_know q_908 (c_Md_know ok a1 1 ((mlo a1.toNatClampNeg) - (mhi a2.toNatClampNeg)) ((mhi a1.toNatClampNeg) - (mlo a2.toNatClampNeg)) w7) rfl rfl rfl (Nat.le_of_ble_eq_true rfl) (Nat.le_of_ble_eq_true rfl) m_18 rfl rfl rfl rfl rfl (Nat.le_of_ble_eq_true rfl) d_Md_subtract_98 ⟨Nat.zero_le _, Nat.zero_le _⟩ ?_
      generalize hq8 : s_Md_know mk mlo mhi a1 1 ((mlo a1.toNatClampNeg) - (mhi a2.toNatClampNeg)) ((mhi a1.toNatClampNeg) - (mlo a2.toNatClampNeg)) = q8
      obtain ⟨mk8, mlo8, mhi8⟩ := q8
      refine x_lets ?_
      dsimp only
      exact x_vret C hr hlk rfl d_Md_subtract_101
    · have hk := x_okf hk z6
      refine x_loc (lv' := [(0, (.ref (ad (18, 0)))), (1, (.int a1))]) [2, 3] rfl ?_
      exact cb_Md_subtract_84 ok C hr hlk a1 a2  mk mlo mhi  hk
def s_Md_and (mk : Nat → Int32) (mlo : Nat → Int64) (mhi : Nat → Int64) (a1 : Int32) (a2 : Int64) : (Nat → Int32) × (Nat → Int64) × (Nat → Int64) :=
  (if (mlo a1.toNatClampNeg) = (mhi a1.toNatClampNeg) then (x_let (s_Md_know mk mlo mhi a1 1 ((mlo a1.toNatClampNeg) &&& a2) ((mlo a1.toNatClampNeg) &&& a2)) fun (mk4, mlo4, mhi4) => (mk4, mlo4, mhi4)) else (if 0 ≤ a2 then (if (mlo a1.toNatClampNeg) < 0 then (x_let (s_Md_know mk mlo mhi a1 1 0 a2) fun (mk8, mlo8, mhi8) => (mk8, mlo8, mhi8)) else (if a2 ≤ (mhi a1.toNatClampNeg) then (x_let (s_Md_know mk mlo mhi a1 1 0 a2) fun (mk11, mlo11, mhi11) => (mk11, mlo11, mhi11)) else (x_let (s_Md_know mk mlo mhi a1 1 0 (mhi a1.toNatClampNeg)) fun (mk13, mlo13, mhi13) => (mk13, mlo13, mhi13)))) else (x_let (s_Md_anything mk mlo mhi a1) fun (mk15, mlo15, mhi15) => (mk15, mlo15, mhi15))))
def k_ok_Md_and (mk : Nat → Int32) (mlo : Nat → Int64) (mhi : Nat → Int64) (a1 : Int32) (a2 : Int64) : Prop :=
  (vp_in a1 12 ∧ (if (mlo a1.toNatClampNeg) = (mhi a1.toNatClampNeg) then (k_ok_Md_know mk mlo mhi a1 1 ((mlo a1.toNatClampNeg) &&& a2) ((mlo a1.toNatClampNeg) &&& a2) ∧ True) else (if 0 ≤ a2 then (if (mlo a1.toNatClampNeg) < 0 then (k_ok_Md_know mk mlo mhi a1 1 0 a2 ∧ True) else (if a2 ≤ (mhi a1.toNatClampNeg) then (k_ok_Md_know mk mlo mhi a1 1 0 a2 ∧ True) else (k_ok_Md_know mk mlo mhi a1 1 0 (mhi a1.toNatClampNeg) ∧ True))) else (k_ok_Md_anything mk mlo mhi a1 ∧ True))))
set_option maxHeartbeats 4000000 in
set_option maxRecDepth 100000 in
theorem c_Md_and {l : Launch} {D : va_G} {cA : Nat → ClassId} {ad : x_I → Nat} (ok : x_ok (x_k D cA ad)) {stp : Nat → Nat → Int32} {psz : Int32} {gk : Nat → Nat → Int32} {gl : Nat → Nat → Int64} {gh : Nat → Nat → Int64} {opn : Nat → Int32} {cki : Nat → Int32} {ckl : Nat → Int64} {mp : Nat → Nat → Int64} {rk : Nat → Int32} {rv : Nat → Int64} {ri : Nat → Int32} {chk : Int32} {mo : Nat → Nat → Int32} {mi : Nat → Int32} {ml : Nat → Int64} {mk : Nat → Int32} {mlo : Nat → Int64} {mhi : Nat → Int64} {pk : Nat → Int32} {ps : Nat → Int32} {pl : Nat → Int64} {ph : Nat → Int64} {mm : Nat → Int64} {out : Nat → Int64} (a1 : Int32) (a2 : Int64) (hk : k_ok_Md_and mk mlo mhi a1 a2) : x_M l y_Md_and (Cond.code y_Md_and b_Md_and 4 (Option.none : Option Jvm.ClassFile.FieldType) :: x_Wd) { frames := 2, cells := 0, slots := 0, locals := 47 } (x_k D cA ad) (x_F ad cA) [(.ref (ad (18, 0))), (.int a1), (.long a2)] ((stp, psz, gk, gl, gh, opn, cki, ckl, mp, rk, rv, ri, chk), (mo, mi, ml, mk, mlo, mhi, pk, ps, pl, ph, mm), out) ((fun q : (Nat → Int32) × (Nat → Int64) × (Nat → Int64) => ((none, ((stp, psz, gk, gl, gh, opn, cki, ckl, mp, rk, rv, ri, chk), (mo, mi, ml, q.1, q.2.1, q.2.2, pk, ps, pl, ph, mm), out)) : Option Value × x_S)) (s_Md_and mk mlo mhi a1 a2)) 0 0 := by
  refine x_start (κ := x_k D cA ad) (cc := b_Md_and) (F := x_F ad cA) (wr := (fun q : (Nat → Int32) × (Nat → Int64) × (Nat → Int64) => ((none, ((stp, psz, gk, gl, gh, opn, cki, ckl, mp, rk, rv, ri, chk), (mo, mi, ml, q.1, q.2.1, q.2.2, pk, ps, pl, ph, mm), out)) : Option Value × x_S))) (q := s_Md_and mk mlo mhi a1 a2) (ret := (Option.none : Option Jvm.ClassFile.FieldType)) (lv0 := [(0, (.ref (ad (18, 0)))), (1, (.int a1)), (2, (.long a2))]) ok (by decide) rfl (Nat.le_of_ble_eq_true rfl) rfl ?_
  intro p e s m below meth c C hr hlk
  unfold s_Md_and
  unfold k_ok_Md_and at hk
  refine x_aload_n 0 C d_Md_and_0 rfl rfl ?_
  refine x_get (i := (18, 0)) (v := (.ref (ad (25, 0)))) 17 C m_18 rfl rfl i_Md (by decide) (List.mem_cons_of_mem _ q_808) rfl d_Md_and_1 ?_
  refine x_iload_n 1 C d_Md_and_4 rfl rfl ?_
  have w1 := hk.1
  have hk := hk.2
  refine x_lald (i := (25, 0)) (g := mlo) 1 C m_25 rfl rfl w1 d_Md_and_5 ?_
  refine x_aload_n 0 C d_Md_and_6 rfl rfl ?_
  refine x_get (i := (18, 0)) (v := (.ref (ad (26, 0)))) 18 C m_18 rfl rfl i_Md (by decide) (List.mem_cons_of_mem _ q_809) rfl d_Md_and_7 ?_
  refine x_iload_n 1 C d_Md_and_10 rfl rfl ?_
  refine x_lald (i := (26, 0)) (g := mhi) 1 C m_26 rfl rfl w1 d_Md_and_11 ?_
  refine x_lcmp_ne 41 C d_Md_and_12 d_Md_and_13 (by decide) (fun z2 => ?_) (fun z2 => ?_)
  · have hk := x_okt hk z2
    refine x_aload_n 0 C d_Md_and_16 rfl rfl ?_
    refine x_iload_n 1 C d_Md_and_17 rfl rfl ?_
    refine x_iconst (v := 1) C d_Md_and_18 (by decide) ?_
    refine x_aload_n 0 C d_Md_and_19 rfl rfl ?_
    refine x_get (i := (18, 0)) (v := (.ref (ad (25, 0)))) 17 C m_18 rfl rfl i_Md (by decide) (List.mem_cons_of_mem _ q_808) rfl d_Md_and_20 ?_
    refine x_iload_n 1 C d_Md_and_23 rfl rfl ?_
    refine x_lald (i := (25, 0)) (g := mlo) 1 C m_25 rfl rfl w1 d_Md_and_24 ?_
    refine x_lload_n 2 C d_Md_and_25 rfl rfl ?_
    refine x_land C d_Md_and_26 ?_
    refine x_aload_n 0 C d_Md_and_27 rfl rfl ?_
    refine x_get (i := (18, 0)) (v := (.ref (ad (25, 0)))) 17 C m_18 rfl rfl i_Md (by decide) (List.mem_cons_of_mem _ q_808) rfl d_Md_and_28 ?_
    refine x_iload_n 1 C d_Md_and_31 rfl rfl ?_
    refine x_lald (i := (25, 0)) (g := mlo) 1 C m_25 rfl rfl w1 d_Md_and_32 ?_
    refine x_lload_n 2 C d_Md_and_33 rfl rfl ?_
    refine x_land C d_Md_and_34 ?_
    have w3 := hk.1
    have hk := hk.2
    refine x_cv0 (i := (18, 0)) (F := x_F ad cA) (As := [(.int a1), (.int 1), (.long ((mlo a1.toNatClampNeg) &&& a2)), (.long ((mlo a1.toNatClampNeg) &&& a2))]) (rest := []) C k_Md_know q_908 (c_Md_know ok a1 1 ((mlo a1.toNatClampNeg) &&& a2) ((mlo a1.toNatClampNeg) &&& a2) w3) rfl rfl rfl (Nat.le_of_ble_eq_true rfl) (Nat.le_of_ble_eq_true rfl) m_18 rfl rfl rfl rfl rfl (Nat.le_of_ble_eq_true rfl) d_Md_and_35 ⟨Nat.zero_le _, Nat.zero_le _⟩ ?_
    generalize hq4 : s_Md_know mk mlo mhi a1 1 ((mlo a1.toNatClampNeg) &&& a2) ((mlo a1.toNatClampNeg) &&& a2) = q4
    obtain ⟨mk4, mlo4, mhi4⟩ := q4
    refine x_lets ?_
    dsimp only
    refine x_goto 94 C d_Md_and_38 (by decide) ?_
    exact x_vret C hr hlk rfl d_Md_and_94
  · have hk := x_okf hk z2
    refine x_lload_n 2 C d_Md_and_41 rfl rfl ?_
    refine x_lconst (v := 0) C d_Md_and_42 (by decide) ?_
    refine x_lcmp_ge 55 C d_Md_and_43 d_Md_and_44 (by decide) (fun z5 => ?_) (fun z5 => ?_)
    · have hk := x_okt hk z5
      refine x_aload_n 0 C d_Md_and_55 rfl rfl ?_
      refine x_iload_n 1 C d_Md_and_56 rfl rfl ?_
      refine x_iconst (v := 1) C d_Md_and_57 (by decide) ?_
      refine x_lconst (v := 0) C d_Md_and_58 (by decide) ?_
      refine x_aload_n 0 C d_Md_and_59 rfl rfl ?_
      refine x_get (i := (18, 0)) (v := (.ref (ad (25, 0)))) 17 C m_18 rfl rfl i_Md (by decide) (List.mem_cons_of_mem _ q_808) rfl d_Md_and_60 ?_
      refine x_iload_n 1 C d_Md_and_63 rfl rfl ?_
      refine x_lald (i := (25, 0)) (g := mlo) 1 C m_25 rfl rfl w1 d_Md_and_64 ?_
      refine x_lconst (v := 0) C d_Md_and_65 (by decide) ?_
      refine x_lcmp_lt 90 C d_Md_and_66 d_Md_and_67 (by decide) (fun z6 => ?_) (fun z6 => ?_)
      · have hk := x_okt hk z6
        refine x_lload_n 2 C d_Md_and_90 rfl rfl ?_
        have w7 := hk.1
        have hk := hk.2
        refine x_cv0 (i := (18, 0)) (F := x_F ad cA) (As := [(.int a1), (.int 1), (.long 0), (.long a2)]) (rest := []) C k_Md_know q_908 (c_Md_know ok a1 1 0 a2 w7) rfl rfl rfl (Nat.le_of_ble_eq_true rfl) (Nat.le_of_ble_eq_true rfl) m_18 rfl rfl rfl rfl rfl (Nat.le_of_ble_eq_true rfl) d_Md_and_91 ⟨Nat.zero_le _, Nat.zero_le _⟩ ?_
        generalize hq8 : s_Md_know mk mlo mhi a1 1 0 a2 = q8
        obtain ⟨mk8, mlo8, mhi8⟩ := q8
        refine x_lets ?_
        dsimp only
        exact x_vret C hr hlk rfl d_Md_and_94
      · have hk := x_okf hk z6
        refine x_aload_n 0 C d_Md_and_70 rfl rfl ?_
        refine x_get (i := (18, 0)) (v := (.ref (ad (26, 0)))) 18 C m_18 rfl rfl i_Md (by decide) (List.mem_cons_of_mem _ q_809) rfl d_Md_and_71 ?_
        refine x_iload_n 1 C d_Md_and_74 rfl rfl ?_
        refine x_lald (i := (26, 0)) (g := mhi) 1 C m_26 rfl rfl w1 d_Md_and_75 ?_
        refine x_lload_n 2 C d_Md_and_76 rfl rfl ?_
        refine x_lcmp_ge 90 C d_Md_and_77 d_Md_and_78 (by decide) (fun z9 => ?_) (fun z9 => ?_)
        · have hk := x_okt hk z9
          refine x_lload_n 2 C d_Md_and_90 rfl rfl ?_
          have w10 := hk.1
          have hk := hk.2
          refine x_cv0 (i := (18, 0)) (F := x_F ad cA) (As := [(.int a1), (.int 1), (.long 0), (.long a2)]) (rest := []) C k_Md_know q_908 (c_Md_know ok a1 1 0 a2 w10) rfl rfl rfl (Nat.le_of_ble_eq_true rfl) (Nat.le_of_ble_eq_true rfl) m_18 rfl rfl rfl rfl rfl (Nat.le_of_ble_eq_true rfl) d_Md_and_91 ⟨Nat.zero_le _, Nat.zero_le _⟩ ?_
          generalize hq11 : s_Md_know mk mlo mhi a1 1 0 a2 = q11
          obtain ⟨mk11, mlo11, mhi11⟩ := q11
          refine x_lets ?_
          dsimp only
          exact x_vret C hr hlk rfl d_Md_and_94
        · have hk := x_okf hk z9
          refine x_aload_n 0 C d_Md_and_81 rfl rfl ?_
          refine x_get (i := (18, 0)) (v := (.ref (ad (26, 0)))) 18 C m_18 rfl rfl i_Md (by decide) (List.mem_cons_of_mem _ q_809) rfl d_Md_and_82 ?_
          refine x_iload_n 1 C d_Md_and_85 rfl rfl ?_
          refine x_lald (i := (26, 0)) (g := mhi) 1 C m_26 rfl rfl w1 d_Md_and_86 ?_
          refine x_goto 91 C d_Md_and_87 (by decide) ?_
          have w12 := hk.1
          have hk := hk.2
          refine x_cv0 (i := (18, 0)) (F := x_F ad cA) (As := [(.int a1), (.int 1), (.long 0), (.long (mhi a1.toNatClampNeg))]) (rest := []) C k_Md_know q_908 (c_Md_know ok a1 1 0 (mhi a1.toNatClampNeg) w12) rfl rfl rfl (Nat.le_of_ble_eq_true rfl) (Nat.le_of_ble_eq_true rfl) m_18 rfl rfl rfl rfl rfl (Nat.le_of_ble_eq_true rfl) d_Md_and_91 ⟨Nat.zero_le _, Nat.zero_le _⟩ ?_
          generalize hq13 : s_Md_know mk mlo mhi a1 1 0 (mhi a1.toNatClampNeg) = q13
          obtain ⟨mk13, mlo13, mhi13⟩ := q13
          refine x_lets ?_
          dsimp only
          exact x_vret C hr hlk rfl d_Md_and_94
    · have hk := x_okf hk z5
      refine x_aload_n 0 C d_Md_and_47 rfl rfl ?_
      refine x_iload_n 1 C d_Md_and_48 rfl rfl ?_
      have w14 := hk.1
      have hk := hk.2
      refine x_cv0 (i := (18, 0)) (F := x_F ad cA) (As := [(.int a1)]) (rest := []) C k_Md_anything q_912 (c_Md_anything ok a1 w14) rfl rfl rfl (Nat.le_of_ble_eq_true rfl) (Nat.le_of_ble_eq_true rfl) m_18 rfl rfl rfl rfl rfl (Nat.le_of_ble_eq_true rfl) d_Md_and_49 ⟨Nat.zero_le _, Nat.zero_le _⟩ ?_
      generalize hq15 : s_Md_anything mk mlo mhi a1 = q15
      obtain ⟨mk15, mlo15, mhi15⟩ := q15
      refine x_lets ?_
      dsimp only
      refine x_goto 94 C d_Md_and_52 (by decide) ?_
      exact x_vret C hr hlk rfl d_Md_and_94
def bk_Md_arithmetic_148 (mk : Nat → Int32) (mlo : Nat → Int64) (mhi : Nat → Int64) (a1 : Int32) (a2 : Int32) (a3 : Int64) (x5 : Int64) (x7 : Int64) : (Nat → Int32) × (Nat → Int64) × (Nat → Int64) :=
  (if a1 = 9 then (if x5 = (-9223372036854775808) then (x_let (s_Md_anything mk mlo mhi a2) fun (mk21, mlo21, mhi21) => (mk21, mlo21, mhi21)) else (x_let (s_Md_know mk mlo mhi a2 1 (-x7) (-x5)) fun (mk23, mlo23, mhi23) => (mk23, mlo23, mhi23))) else (mk, mlo, mhi))
def bk_ok_Md_arithmetic_148 (mk : Nat → Int32) (mlo : Nat → Int64) (mhi : Nat → Int64) (a1 : Int32) (a2 : Int32) (a3 : Int64) (x5 : Int64) (x7 : Int64) : Prop :=
  (if a1 = 9 then (if x5 = (-9223372036854775808) then (k_ok_Md_anything mk mlo mhi a2 ∧ True) else (k_ok_Md_know mk mlo mhi a2 1 (-x7) (-x5) ∧ True)) else True)
set_option maxHeartbeats 4000000 in
set_option maxRecDepth 100000 in
theorem cb_Md_arithmetic_148 {l : Launch} {D : va_G} {cA : Nat → ClassId} {ad : x_I → Nat} (ok : x_ok (x_k D cA ad)) {stp : Nat → Nat → Int32} {psz : Int32} {gk : Nat → Nat → Int32} {gl : Nat → Nat → Int64} {gh : Nat → Nat → Int64} {opn : Nat → Int32} {cki : Nat → Int32} {ckl : Nat → Int64} {mp : Nat → Nat → Int64} {rk : Nat → Int32} {rv : Nat → Int64} {ri : Nat → Int32} {chk : Int32} {mo : Nat → Nat → Int32} {mi : Nat → Int32} {ml : Nat → Int64} {pk : Nat → Int32} {ps : Nat → Int32} {pl : Nat → Int64} {ph : Nat → Int64} {mm : Nat → Int64} {out : Nat → Int64} {p : Program} {e : Env} {s : State} {m : MethodId} {args : Array Value} {below : List Frame} {meth : Method} {c : Code} (C : x_C p s m args c b_Md_arithmetic 9 R_Md (Cond.code y_Md_arithmetic b_Md_arithmetic 9 (Option.none : Option Jvm.ClassFile.FieldType) :: x_Wd) (x_k D cA ad)) (hr : meth.sig.returnType = (Option.none : Option Jvm.ClassFile.FieldType)) (hlk : meth.locks = false) (a1 : Int32) (a2 : Int32) (a3 : Int64) (mk : Nat → Int32) (mlo : Nat → Int64) (mhi : Nat → Int64) (x5 : Int64) (x7 : Int64) (hk : bk_ok_Md_arithmetic_148 mk mlo mhi a1 a2 a3 x5 x7) : x_V p l e { frames := 3, cells := 0, slots := 0, locals := 70 } s m args below meth c (x_k D cA ad) 9 0 0 (x_E below (x_k D cA ad) args s 0 0 (x_F ad cA) (fun q : (Nat → Int32) × (Nat → Int64) × (Nat → Int64) => ((none, ((stp, psz, gk, gl, gh, opn, cki, ckl, mp, rk, rv, ri, chk), (mo, mi, ml, q.1, q.2.1, q.2.2, pk, ps, pl, ph, mm), out)) : Option Value × x_S)) (bk_Md_arithmetic_148 mk mlo mhi a1 a2 a3 x5 x7)) (x_F ad cA ((stp, psz, gk, gl, gh, opn, cki, ckl, mp, rk, rv, ri, chk), (mo, mi, ml, mk, mlo, mhi, pk, ps, pl, ph, mm), out)) 148 [(0, (.ref (ad (18, 0)))), (1, (.int a1)), (2, (.int a2)), (5, (.long x5)), (7, (.long x7))] [] := by
  unfold bk_Md_arithmetic_148
  unfold bk_ok_Md_arithmetic_148 at hk
  refine x_iload_n 1 C d_Md_arithmetic_148 rfl rfl ?_
  refine x_bipush (v := 9) C d_Md_arithmetic_149 (by decide) ?_
  refine x_icmp_ne 183 C d_Md_arithmetic_151 (by decide) (fun z18 => ?_) (fun z18 => ?_)
  · have hk := x_okt hk z18
    refine x_lload 3 C d_Md_arithmetic_154 rfl ?_
    refine x_ldc2 (v := (-9223372036854775808)) C (List.mem_cons_of_mem _ q_916) d_Md_arithmetic_156 ?_
    refine x_lcmp_ne 171 C d_Md_arithmetic_159 d_Md_arithmetic_160 (by decide) (fun z19 => ?_) (fun z19 => ?_)
    · have hk := x_okt hk z19
      refine x_aload_n 0 C d_Md_arithmetic_163 rfl rfl ?_
      refine x_iload_n 2 C d_Md_arithmetic_164 rfl rfl ?_
      have w20 := hk.1
      have hk := hk.2
      refine x_cv0 (i := (18, 0)) (F := x_F ad cA) (As := [(.int a2)]) (rest := []) C k_Md_anything q_912 (c_Md_anything ok a2 w20) rfl rfl rfl (Nat.le_of_ble_eq_true rfl) (Nat.le_of_ble_eq_true rfl) m_18 rfl rfl rfl rfl rfl (Nat.le_of_ble_eq_true rfl) d_Md_arithmetic_165 ⟨Nat.zero_le _, Nat.zero_le _⟩ ?_
      generalize hq21 : s_Md_anything mk mlo mhi a2 = q21
      obtain ⟨mk21, mlo21, mhi21⟩ := q21
      refine x_lets ?_
      dsimp only
      refine x_goto 183 C d_Md_arithmetic_168 (by decide) ?_
      exact x_vret C hr hlk rfl d_Md_arithmetic_183
    · have hk := x_okf hk z19
      refine x_aload_n 0 C d_Md_arithmetic_171 rfl rfl ?_
      refine x_iload_n 2 C d_Md_arithmetic_172 rfl rfl ?_
      refine x_iconst (v := 1) C d_Md_arithmetic_173 (by decide) ?_
      refine x_lload 4 C d_Md_arithmetic_174 rfl ?_
      refine x_lneg C d_Md_arithmetic_176 ?_
      refine x_lload 3 C d_Md_arithmetic_177 rfl ?_
      refine x_lneg C d_Md_arithmetic_179 ?_
      have w22 := hk.1
      have hk := hk.2
      refine x_cv0 (i := (18, 0)) (F := x_F ad cA) (As := [(.int a2), (.int 1), (.long (-x7)), (.long (-x5))]) (rest := []) C k_Md_know q_908 (c_Md_know ok a2 1 (-x7) (-x5) w22) rfl rfl rfl (Nat.le_of_ble_eq_true rfl) (Nat.le_of_ble_eq_true rfl) m_18 rfl rfl rfl rfl rfl (Nat.le_of_ble_eq_true rfl) d_Md_arithmetic_180 ⟨Nat.zero_le _, Nat.zero_le _⟩ ?_
      generalize hq23 : s_Md_know mk mlo mhi a2 1 (-x7) (-x5) = q23
      obtain ⟨mk23, mlo23, mhi23⟩ := q23
      refine x_lets ?_
      dsimp only
      exact x_vret C hr hlk rfl d_Md_arithmetic_183
  · have hk := x_okf hk z18
    exact x_vret C hr hlk rfl d_Md_arithmetic_183
def bk_Md_arithmetic_135 (mk : Nat → Int32) (mlo : Nat → Int64) (mhi : Nat → Int64) (a1 : Int32) (a2 : Int32) (a3 : Int64) (x5 : Int64) (x7 : Int64) : (Nat → Int32) × (Nat → Int64) × (Nat → Int64) :=
  (x_let (s_Md_spread mk mlo mhi a2 (x5 / a3) (x7 / a3)) fun (mk27, mlo27, mhi27) => bk_Md_arithmetic_148 mk27 mlo27 mhi27 a1 a2 a3 x5 x7)
def bk_ok_Md_arithmetic_135 (mk : Nat → Int32) (mlo : Nat → Int64) (mhi : Nat → Int64) (a1 : Int32) (a2 : Int32) (a3 : Int64) (x5 : Int64) (x7 : Int64) : Prop :=
  (¬ a3 = 0 ∧ (¬ a3 = 0 ∧ (k_ok_Md_spread mk mlo mhi a2 (x5 / a3) (x7 / a3) ∧ (x_let (s_Md_spread mk mlo mhi a2 (x5 / a3) (x7 / a3)) fun (mk27, mlo27, mhi27) => bk_ok_Md_arithmetic_148 mk27 mlo27 mhi27 a1 a2 a3 x5 x7))))
set_option maxHeartbeats 4000000 in
set_option maxRecDepth 100000 in
theorem cb_Md_arithmetic_135 {l : Launch} {D : va_G} {cA : Nat → ClassId} {ad : x_I → Nat} (ok : x_ok (x_k D cA ad)) {stp : Nat → Nat → Int32} {psz : Int32} {gk : Nat → Nat → Int32} {gl : Nat → Nat → Int64} {gh : Nat → Nat → Int64} {opn : Nat → Int32} {cki : Nat → Int32} {ckl : Nat → Int64} {mp : Nat → Nat → Int64} {rk : Nat → Int32} {rv : Nat → Int64} {ri : Nat → Int32} {chk : Int32} {mo : Nat → Nat → Int32} {mi : Nat → Int32} {ml : Nat → Int64} {pk : Nat → Int32} {ps : Nat → Int32} {pl : Nat → Int64} {ph : Nat → Int64} {mm : Nat → Int64} {out : Nat → Int64} {p : Program} {e : Env} {s : State} {m : MethodId} {args : Array Value} {below : List Frame} {meth : Method} {c : Code} (C : x_C p s m args c b_Md_arithmetic 9 R_Md (Cond.code y_Md_arithmetic b_Md_arithmetic 9 (Option.none : Option Jvm.ClassFile.FieldType) :: x_Wd) (x_k D cA ad)) (hr : meth.sig.returnType = (Option.none : Option Jvm.ClassFile.FieldType)) (hlk : meth.locks = false) (a1 : Int32) (a2 : Int32) (a3 : Int64) (mk : Nat → Int32) (mlo : Nat → Int64) (mhi : Nat → Int64) (x5 : Int64) (x7 : Int64) (hk : bk_ok_Md_arithmetic_135 mk mlo mhi a1 a2 a3 x5 x7) : x_V p l e { frames := 3, cells := 0, slots := 0, locals := 70 } s m args below meth c (x_k D cA ad) 9 0 0 (x_E below (x_k D cA ad) args s 0 0 (x_F ad cA) (fun q : (Nat → Int32) × (Nat → Int64) × (Nat → Int64) => ((none, ((stp, psz, gk, gl, gh, opn, cki, ckl, mp, rk, rv, ri, chk), (mo, mi, ml, q.1, q.2.1, q.2.2, pk, ps, pl, ph, mm), out)) : Option Value × x_S)) (bk_Md_arithmetic_135 mk mlo mhi a1 a2 a3 x5 x7)) (x_F ad cA ((stp, psz, gk, gl, gh, opn, cki, ckl, mp, rk, rv, ri, chk), (mo, mi, ml, mk, mlo, mhi, pk, ps, pl, ph, mm), out)) 135 [(0, (.ref (ad (18, 0)))), (1, (.int a1)), (2, (.int a2)), (3, (.long a3)), (5, (.long x5)), (7, (.long x7))] [] := by
  unfold bk_Md_arithmetic_135
  unfold bk_ok_Md_arithmetic_135 at hk
  refine x_aload_n 0 C d_Md_arithmetic_135 rfl rfl ?_
  refine x_iload_n 2 C d_Md_arithmetic_136 rfl rfl ?_
  refine x_lload 4 C d_Md_arithmetic_137 rfl ?_
  refine x_lload_n 3 C d_Md_arithmetic_139 rfl rfl ?_
  have w24 := hk.1
  have hk := hk.2
  refine x_ldiv C w24 d_Md_arithmetic_140 ?_
  refine x_lload 5 C d_Md_arithmetic_141 rfl ?_
  refine x_lload_n 3 C d_Md_arithmetic_143 rfl rfl ?_
  have w25 := hk.1
  have hk := hk.2
  refine x_ldiv C w25 d_Md_arithmetic_144 ?_
  have w26 := hk.1
  have hk := hk.2
  refine x_cv0 (i := (18, 0)) (F := x_F ad cA) (As := [(.int a2), (.long (x5 / a3)), (.long (x7 / a3))]) (rest := []) C k_Md_spread q_990 (c_Md_spread ok a2 (x5 / a3) (x7 / a3) w26) rfl rfl rfl (Nat.le_of_ble_eq_true rfl) (Nat.le_of_ble_eq_true rfl) m_18 rfl rfl rfl rfl rfl (Nat.le_of_ble_eq_true rfl) d_Md_arithmetic_145 ⟨Nat.zero_le _, Nat.zero_le _⟩ ?_
  generalize hq27 : s_Md_spread mk mlo mhi a2 (x5 / a3) (x7 / a3) = q27 at hk ⊢
  obtain ⟨mk27, mlo27, mhi27⟩ := q27
  refine x_lets ?_
  have hk := x_lete hk
  dsimp only at hk ⊢
  refine x_loc (lv' := [(0, (.ref (ad (18, 0)))), (1, (.int a1)), (2, (.int a2)), (5, (.long x5)), (7, (.long x7))]) [0, 1, 2, 4, 5] rfl ?_
  exact cb_Md_arithmetic_148 ok C hr hlk a1 a2 a3  mk27 mlo27 mhi27 x5 x7 hk
def bk_Md_arithmetic_104 (mk : Nat → Int32) (mlo : Nat → Int64) (mhi : Nat → Int64) (a1 : Int32) (a2 : Int32) (a3 : Int64) (x5 : Int64) (x7 : Int64) : (Nat → Int32) × (Nat → Int64) × (Nat → Int64) :=
  (if a1 = 8 then (if a3 = (-1) then (if x5 = (-9223372036854775808) then (x_let (s_Md_anything mk mlo mhi a2) fun (mk17, mlo17, mhi17) => bk_Md_arithmetic_148 mk17 mlo17 mhi17 a1 a2 a3 x5 x7) else bk_Md_arithmetic_135 mk mlo mhi a1 a2 a3 x5 x7) else bk_Md_arithmetic_135 mk mlo mhi a1 a2 a3 x5 x7) else bk_Md_arithmetic_148 mk mlo mhi a1 a2 a3 x5 x7)
def bk_ok_Md_arithmetic_104 (mk : Nat → Int32) (mlo : Nat → Int64) (mhi : Nat → Int64) (a1 : Int32) (a2 : Int32) (a3 : Int64) (x5 : Int64) (x7 : Int64) : Prop :=
  (if a1 = 8 then (if a3 = (-1) then (if x5 = (-9223372036854775808) then (k_ok_Md_anything mk mlo mhi a2 ∧ (x_let (s_Md_anything mk mlo mhi a2) fun (mk17, mlo17, mhi17) => bk_ok_Md_arithmetic_148 mk17 mlo17 mhi17 a1 a2 a3 x5 x7)) else bk_ok_Md_arithmetic_135 mk mlo mhi a1 a2 a3 x5 x7) else bk_ok_Md_arithmetic_135 mk mlo mhi a1 a2 a3 x5 x7) else bk_ok_Md_arithmetic_148 mk mlo mhi a1 a2 a3 x5 x7)
set_option maxHeartbeats 4000000 in
set_option maxRecDepth 100000 in
theorem cb_Md_arithmetic_104 {l : Launch} {D : va_G} {cA : Nat → ClassId} {ad : x_I → Nat} (ok : x_ok (x_k D cA ad)) {stp : Nat → Nat → Int32} {psz : Int32} {gk : Nat → Nat → Int32} {gl : Nat → Nat → Int64} {gh : Nat → Nat → Int64} {opn : Nat → Int32} {cki : Nat → Int32} {ckl : Nat → Int64} {mp : Nat → Nat → Int64} {rk : Nat → Int32} {rv : Nat → Int64} {ri : Nat → Int32} {chk : Int32} {mo : Nat → Nat → Int32} {mi : Nat → Int32} {ml : Nat → Int64} {pk : Nat → Int32} {ps : Nat → Int32} {pl : Nat → Int64} {ph : Nat → Int64} {mm : Nat → Int64} {out : Nat → Int64} {p : Program} {e : Env} {s : State} {m : MethodId} {args : Array Value} {below : List Frame} {meth : Method} {c : Code} (C : x_C p s m args c b_Md_arithmetic 9 R_Md (Cond.code y_Md_arithmetic b_Md_arithmetic 9 (Option.none : Option Jvm.ClassFile.FieldType) :: x_Wd) (x_k D cA ad)) (hr : meth.sig.returnType = (Option.none : Option Jvm.ClassFile.FieldType)) (hlk : meth.locks = false) (a1 : Int32) (a2 : Int32) (a3 : Int64) (mk : Nat → Int32) (mlo : Nat → Int64) (mhi : Nat → Int64) (x5 : Int64) (x7 : Int64) (hk : bk_ok_Md_arithmetic_104 mk mlo mhi a1 a2 a3 x5 x7) : x_V p l e { frames := 3, cells := 0, slots := 0, locals := 70 } s m args below meth c (x_k D cA ad) 9 0 0 (x_E below (x_k D cA ad) args s 0 0 (x_F ad cA) (fun q : (Nat → Int32) × (Nat → Int64) × (Nat → Int64) => ((none, ((stp, psz, gk, gl, gh, opn, cki, ckl, mp, rk, rv, ri, chk), (mo, mi, ml, q.1, q.2.1, q.2.2, pk, ps, pl, ph, mm), out)) : Option Value × x_S)) (bk_Md_arithmetic_104 mk mlo mhi a1 a2 a3 x5 x7)) (x_F ad cA ((stp, psz, gk, gl, gh, opn, cki, ckl, mp, rk, rv, ri, chk), (mo, mi, ml, mk, mlo, mhi, pk, ps, pl, ph, mm), out)) 104 [(0, (.ref (ad (18, 0)))), (1, (.int a1)), (2, (.int a2)), (3, (.long a3)), (5, (.long x5)), (7, (.long x7))] [] := by
  unfold bk_Md_arithmetic_104
  unfold bk_ok_Md_arithmetic_104 at hk
  refine x_iload_n 1 C d_Md_arithmetic_104 rfl rfl ?_
  refine x_bipush (v := 8) C d_Md_arithmetic_105 (by decide) ?_
  refine x_icmp_ne 148 C d_Md_arithmetic_107 (by decide) (fun z13 => ?_) (fun z13 => ?_)
  · have hk := x_okt hk z13
    refine x_lload_n 3 C d_Md_arithmetic_110 rfl rfl ?_
    refine x_ldc2 (v := (-1)) C (List.mem_cons_of_mem _ q_998) d_Md_arithmetic_111 ?_
    refine x_lcmp_ne 135 C d_Md_arithmetic_114 d_Md_arithmetic_115 (by decide) (fun z14 => ?_) (fun z14 => ?_)
    · have hk := x_okt hk z14
      refine x_lload 4 C d_Md_arithmetic_118 rfl ?_
      refine x_ldc2 (v := (-9223372036854775808)) C (List.mem_cons_of_mem _ q_916) d_Md_arithmetic_120 ?_
      refine x_lcmp_ne 135 C d_Md_arithmetic_123 d_Md_arithmetic_124 (by decide) (fun z15 => ?_) (fun z15 => ?_)
      · have hk := x_okt hk z15
        refine x_aload_n 0 C d_Md_arithmetic_127 rfl rfl ?_
        refine x_iload_n 2 C d_Md_arithmetic_128 rfl rfl ?_
        have w16 := hk.1
        have hk := hk.2
        refine x_cv0 (i := (18, 0)) (F := x_F ad cA) (As := [(.int a2)]) (rest := []) C k_Md_anything q_912 (c_Md_anything ok a2 w16) rfl rfl rfl (Nat.le_of_ble_eq_true rfl) (Nat.le_of_ble_eq_true rfl) m_18 rfl rfl rfl rfl rfl (Nat.le_of_ble_eq_true rfl) d_Md_arithmetic_129 ⟨Nat.zero_le _, Nat.zero_le _⟩ ?_
        generalize hq17 : s_Md_anything mk mlo mhi a2 = q17 at hk ⊢
        obtain ⟨mk17, mlo17, mhi17⟩ := q17
        refine x_lets ?_
        have hk := x_lete hk
        dsimp only at hk ⊢
        refine x_goto 148 C d_Md_arithmetic_132 (by decide) ?_
        refine x_loc (lv' := [(0, (.ref (ad (18, 0)))), (1, (.int a1)), (2, (.int a2)), (5, (.long x5)), (7, (.long x7))]) [0, 1, 2, 4, 5] rfl ?_
        exact cb_Md_arithmetic_148 ok C hr hlk a1 a2 a3  mk17 mlo17 mhi17 x5 x7 hk
      · have hk := x_okf hk z15
        refine x_loc (lv' := [(0, (.ref (ad (18, 0)))), (1, (.int a1)), (2, (.int a2)), (3, (.long a3)), (5, (.long x5)), (7, (.long x7))]) [0, 1, 2, 3, 4, 5] rfl ?_
        exact cb_Md_arithmetic_135 ok C hr hlk a1 a2 a3  mk mlo mhi x5 x7 hk
    · have hk := x_okf hk z14
      refine x_loc (lv' := [(0, (.ref (ad (18, 0)))), (1, (.int a1)), (2, (.int a2)), (3, (.long a3)), (5, (.long x5)), (7, (.long x7))]) [0, 1, 2, 3, 4, 5] rfl ?_
      exact cb_Md_arithmetic_135 ok C hr hlk a1 a2 a3  mk mlo mhi x5 x7 hk
  · have hk := x_okf hk z13
    refine x_loc (lv' := [(0, (.ref (ad (18, 0)))), (1, (.int a1)), (2, (.int a2)), (5, (.long x5)), (7, (.long x7))]) [0, 1, 2, 4, 5] rfl ?_
    exact cb_Md_arithmetic_148 ok C hr hlk a1 a2 a3  mk mlo mhi x5 x7 hk
def bk_Md_arithmetic_82 (mk : Nat → Int32) (mlo : Nat → Int64) (mhi : Nat → Int64) (a1 : Int32) (a2 : Int32) (a3 : Int64) (x5 : Int64) (x7 : Int64) : (Nat → Int32) × (Nat → Int64) × (Nat → Int64) :=
  (if a1 = 7 then (x_let (s_Md_know mk mlo mhi a2 1 (x5 >>> (Int32.toInt64 (Int64.toInt32 a3) &&& 63)) (x7 >>> (Int32.toInt64 (Int64.toInt32 a3) &&& 63))) fun (mk12, mlo12, mhi12) => bk_Md_arithmetic_104 mk12 mlo12 mhi12 a1 a2 a3 x5 x7) else bk_Md_arithmetic_104 mk mlo mhi a1 a2 a3 x5 x7)
def bk_ok_Md_arithmetic_82 (mk : Nat → Int32) (mlo : Nat → Int64) (mhi : Nat → Int64) (a1 : Int32) (a2 : Int32) (a3 : Int64) (x5 : Int64) (x7 : Int64) : Prop :=
  (if a1 = 7 then (k_ok_Md_know mk mlo mhi a2 1 (x5 >>> (Int32.toInt64 (Int64.toInt32 a3) &&& 63)) (x7 >>> (Int32.toInt64 (Int64.toInt32 a3) &&& 63)) ∧ (x_let (s_Md_know mk mlo mhi a2 1 (x5 >>> (Int32.toInt64 (Int64.toInt32 a3) &&& 63)) (x7 >>> (Int32.toInt64 (Int64.toInt32 a3) &&& 63))) fun (mk12, mlo12, mhi12) => bk_ok_Md_arithmetic_104 mk12 mlo12 mhi12 a1 a2 a3 x5 x7)) else bk_ok_Md_arithmetic_104 mk mlo mhi a1 a2 a3 x5 x7)
set_option maxHeartbeats 4000000 in
set_option maxRecDepth 100000 in
theorem cb_Md_arithmetic_82 {l : Launch} {D : va_G} {cA : Nat → ClassId} {ad : x_I → Nat} (ok : x_ok (x_k D cA ad)) {stp : Nat → Nat → Int32} {psz : Int32} {gk : Nat → Nat → Int32} {gl : Nat → Nat → Int64} {gh : Nat → Nat → Int64} {opn : Nat → Int32} {cki : Nat → Int32} {ckl : Nat → Int64} {mp : Nat → Nat → Int64} {rk : Nat → Int32} {rv : Nat → Int64} {ri : Nat → Int32} {chk : Int32} {mo : Nat → Nat → Int32} {mi : Nat → Int32} {ml : Nat → Int64} {pk : Nat → Int32} {ps : Nat → Int32} {pl : Nat → Int64} {ph : Nat → Int64} {mm : Nat → Int64} {out : Nat → Int64} {p : Program} {e : Env} {s : State} {m : MethodId} {args : Array Value} {below : List Frame} {meth : Method} {c : Code} (C : x_C p s m args c b_Md_arithmetic 9 R_Md (Cond.code y_Md_arithmetic b_Md_arithmetic 9 (Option.none : Option Jvm.ClassFile.FieldType) :: x_Wd) (x_k D cA ad)) (hr : meth.sig.returnType = (Option.none : Option Jvm.ClassFile.FieldType)) (hlk : meth.locks = false) (a1 : Int32) (a2 : Int32) (a3 : Int64) (mk : Nat → Int32) (mlo : Nat → Int64) (mhi : Nat → Int64) (x5 : Int64) (x7 : Int64) (hk : bk_ok_Md_arithmetic_82 mk mlo mhi a1 a2 a3 x5 x7) : x_V p l e { frames := 3, cells := 0, slots := 0, locals := 70 } s m args below meth c (x_k D cA ad) 9 0 0 (x_E below (x_k D cA ad) args s 0 0 (x_F ad cA) (fun q : (Nat → Int32) × (Nat → Int64) × (Nat → Int64) => ((none, ((stp, psz, gk, gl, gh, opn, cki, ckl, mp, rk, rv, ri, chk), (mo, mi, ml, q.1, q.2.1, q.2.2, pk, ps, pl, ph, mm), out)) : Option Value × x_S)) (bk_Md_arithmetic_82 mk mlo mhi a1 a2 a3 x5 x7)) (x_F ad cA ((stp, psz, gk, gl, gh, opn, cki, ckl, mp, rk, rv, ri, chk), (mo, mi, ml, mk, mlo, mhi, pk, ps, pl, ph, mm), out)) 82 [(0, (.ref (ad (18, 0)))), (1, (.int a1)), (2, (.int a2)), (3, (.long a3)), (5, (.long x5)), (7, (.long x7))] [] := by
  unfold bk_Md_arithmetic_82
  unfold bk_ok_Md_arithmetic_82 at hk
  refine x_iload_n 1 C d_Md_arithmetic_82 rfl rfl ?_
  refine x_bipush (v := 7) C d_Md_arithmetic_83 (by decide) ?_
  refine x_icmp_ne 104 C d_Md_arithmetic_85 (by decide) (fun z10 => ?_) (fun z10 => ?_)
  · have hk := x_okt hk z10
    refine x_aload_n 0 C d_Md_arithmetic_88 rfl rfl ?_
    refine x_iload_n 2 C d_Md_arithmetic_89 rfl rfl ?_
    refine x_iconst (v := 1) C d_Md_arithmetic_90 (by decide) ?_
    refine x_lload 4 C d_Md_arithmetic_91 rfl ?_
    refine x_lload_n 3 C d_Md_arithmetic_93 rfl rfl ?_
    refine x_l2i C d_Md_arithmetic_94 ?_
    refine x_lshr C d_Md_arithmetic_95 ?_
    refine x_lload 5 C d_Md_arithmetic_96 rfl ?_
    refine x_lload_n 3 C d_Md_arithmetic_98 rfl rfl ?_
    refine x_l2i C d_Md_arithmetic_99 ?_
    refine x_lshr C d_Md_arithmetic_100 ?_
    have w11 := hk.1
    have hk := hk.2
    refine x_cv0 (i := (18, 0)) (F := x_F ad cA) (As := [(.int a2), (.int 1), (.long (x5 >>> (Int32.toInt64 (Int64.toInt32 a3) &&& 63))), (.long (x7 >>> (Int32.toInt64 (Int64.toInt32 a3) &&& 63)))]) (rest := []) C k_Md_know q_908 (c_Md_know ok a2 1 (x5 >>> (Int32.toInt64 (Int64.toInt32 a3) &&& 63)) (x7 >>> (Int32.toInt64 (Int64.toInt32 a3) &&& 63)) w11) rfl rfl rfl (Nat.le_of_ble_eq_true rfl) (Nat.le_of_ble_eq_true rfl) m_18 rfl rfl rfl rfl rfl (Nat.le_of_ble_eq_true rfl) d_Md_arithmetic_101 ⟨Nat.zero_le _, Nat.zero_le _⟩ ?_
    generalize hq12 : s_Md_know mk mlo mhi a2 1 (x5 >>> (Int32.toInt64 (Int64.toInt32 a3) &&& 63)) (x7 >>> (Int32.toInt64 (Int64.toInt32 a3) &&& 63)) = q12 at hk ⊢
    obtain ⟨mk12, mlo12, mhi12⟩ := q12
    refine x_lets ?_
    have hk := x_lete hk
    dsimp only at hk ⊢
    refine x_loc (lv' := [(0, (.ref (ad (18, 0)))), (1, (.int a1)), (2, (.int a2)), (3, (.long a3)), (5, (.long x5)), (7, (.long x7))]) [0, 1, 2, 3, 4, 5] rfl ?_
    exact cb_Md_arithmetic_104 ok C hr hlk a1 a2 a3  mk12 mlo12 mhi12 x5 x7 hk
  · have hk := x_okf hk z10
    refine x_loc (lv' := [(0, (.ref (ad (18, 0)))), (1, (.int a1)), (2, (.int a2)), (3, (.long a3)), (5, (.long x5)), (7, (.long x7))]) [0, 1, 2, 3, 4, 5] rfl ?_
    exact cb_Md_arithmetic_104 ok C hr hlk a1 a2 a3  mk mlo mhi x5 x7 hk
def bk_Md_arithmetic_70 (mk : Nat → Int32) (mlo : Nat → Int64) (mhi : Nat → Int64) (a1 : Int32) (a2 : Int32) (a3 : Int64) (x5 : Int64) (x7 : Int64) : (Nat → Int32) × (Nat → Int64) × (Nat → Int64) :=
  (if a1 = 6 then (x_let (s_Md_and mk mlo mhi a2 a3) fun (mk9, mlo9, mhi9) => bk_Md_arithmetic_82 mk9 mlo9 mhi9 a1 a2 a3 x5 x7) else bk_Md_arithmetic_82 mk mlo mhi a1 a2 a3 x5 x7)
def bk_ok_Md_arithmetic_70 (mk : Nat → Int32) (mlo : Nat → Int64) (mhi : Nat → Int64) (a1 : Int32) (a2 : Int32) (a3 : Int64) (x5 : Int64) (x7 : Int64) : Prop :=
  (if a1 = 6 then (k_ok_Md_and mk mlo mhi a2 a3 ∧ (x_let (s_Md_and mk mlo mhi a2 a3) fun (mk9, mlo9, mhi9) => bk_ok_Md_arithmetic_82 mk9 mlo9 mhi9 a1 a2 a3 x5 x7)) else bk_ok_Md_arithmetic_82 mk mlo mhi a1 a2 a3 x5 x7)
set_option maxHeartbeats 4000000 in
set_option maxRecDepth 100000 in
theorem cb_Md_arithmetic_70 {l : Launch} {D : va_G} {cA : Nat → ClassId} {ad : x_I → Nat} (ok : x_ok (x_k D cA ad)) {stp : Nat → Nat → Int32} {psz : Int32} {gk : Nat → Nat → Int32} {gl : Nat → Nat → Int64} {gh : Nat → Nat → Int64} {opn : Nat → Int32} {cki : Nat → Int32} {ckl : Nat → Int64} {mp : Nat → Nat → Int64} {rk : Nat → Int32} {rv : Nat → Int64} {ri : Nat → Int32} {chk : Int32} {mo : Nat → Nat → Int32} {mi : Nat → Int32} {ml : Nat → Int64} {pk : Nat → Int32} {ps : Nat → Int32} {pl : Nat → Int64} {ph : Nat → Int64} {mm : Nat → Int64} {out : Nat → Int64} {p : Program} {e : Env} {s : State} {m : MethodId} {args : Array Value} {below : List Frame} {meth : Method} {c : Code} (C : x_C p s m args c b_Md_arithmetic 9 R_Md (Cond.code y_Md_arithmetic b_Md_arithmetic 9 (Option.none : Option Jvm.ClassFile.FieldType) :: x_Wd) (x_k D cA ad)) (hr : meth.sig.returnType = (Option.none : Option Jvm.ClassFile.FieldType)) (hlk : meth.locks = false) (a1 : Int32) (a2 : Int32) (a3 : Int64) (mk : Nat → Int32) (mlo : Nat → Int64) (mhi : Nat → Int64) (x5 : Int64) (x7 : Int64) (hk : bk_ok_Md_arithmetic_70 mk mlo mhi a1 a2 a3 x5 x7) : x_V p l e { frames := 3, cells := 0, slots := 0, locals := 70 } s m args below meth c (x_k D cA ad) 9 0 0 (x_E below (x_k D cA ad) args s 0 0 (x_F ad cA) (fun q : (Nat → Int32) × (Nat → Int64) × (Nat → Int64) => ((none, ((stp, psz, gk, gl, gh, opn, cki, ckl, mp, rk, rv, ri, chk), (mo, mi, ml, q.1, q.2.1, q.2.2, pk, ps, pl, ph, mm), out)) : Option Value × x_S)) (bk_Md_arithmetic_70 mk mlo mhi a1 a2 a3 x5 x7)) (x_F ad cA ((stp, psz, gk, gl, gh, opn, cki, ckl, mp, rk, rv, ri, chk), (mo, mi, ml, mk, mlo, mhi, pk, ps, pl, ph, mm), out)) 70 [(0, (.ref (ad (18, 0)))), (1, (.int a1)), (2, (.int a2)), (3, (.long a3)), (5, (.long x5)), (7, (.long x7))] [] := by
  unfold bk_Md_arithmetic_70
  unfold bk_ok_Md_arithmetic_70 at hk
  refine x_iload_n 1 C d_Md_arithmetic_70 rfl rfl ?_
  refine x_bipush (v := 6) C d_Md_arithmetic_71 (by decide) ?_
  refine x_icmp_ne 82 C d_Md_arithmetic_73 (by decide) (fun z7 => ?_) (fun z7 => ?_)
  · have hk := x_okt hk z7
    refine x_aload_n 0 C d_Md_arithmetic_76 rfl rfl ?_
    refine x_iload_n 2 C d_Md_arithmetic_77 rfl rfl ?_
    refine x_lload_n 3 C d_Md_arithmetic_78 rfl rfl ?_
    have w8 := hk.1
    have hk := hk.2
    refine x_cv0 (i := (18, 0)) (F := x_F ad cA) (As := [(.int a2), (.long a3)]) (rest := []) C k_Md_and q_994 (c_Md_and ok a2 a3 w8) rfl rfl rfl (Nat.le_of_ble_eq_true rfl) (Nat.le_of_ble_eq_true rfl) m_18 rfl rfl rfl rfl rfl (Nat.le_of_ble_eq_true rfl) d_Md_arithmetic_79 ⟨Nat.zero_le _, Nat.zero_le _⟩ ?_
    generalize hq9 : s_Md_and mk mlo mhi a2 a3 = q9 at hk ⊢
    obtain ⟨mk9, mlo9, mhi9⟩ := q9
    refine x_lets ?_
    have hk := x_lete hk
    dsimp only at hk ⊢
    refine x_loc (lv' := [(0, (.ref (ad (18, 0)))), (1, (.int a1)), (2, (.int a2)), (3, (.long a3)), (5, (.long x5)), (7, (.long x7))]) [0, 1, 2, 3, 4, 5] rfl ?_
    exact cb_Md_arithmetic_82 ok C hr hlk a1 a2 a3  mk9 mlo9 mhi9 x5 x7 hk
  · have hk := x_okf hk z7
    refine x_loc (lv' := [(0, (.ref (ad (18, 0)))), (1, (.int a1)), (2, (.int a2)), (3, (.long a3)), (5, (.long x5)), (7, (.long x7))]) [0, 1, 2, 3, 4, 5] rfl ?_
    exact cb_Md_arithmetic_82 ok C hr hlk a1 a2 a3  mk mlo mhi x5 x7 hk
def bk_Md_arithmetic_65 (mk : Nat → Int32) (mlo : Nat → Int64) (mhi : Nat → Int64) (a1 : Int32) (a2 : Int32) (a3 : Int64) (x5 : Int64) (x7 : Int64) : (Nat → Int32) × (Nat → Int64) × (Nat → Int64) :=
  (x_let (s_Md_anything mk mlo mhi a2) fun (mk6, mlo6, mhi6) => bk_Md_arithmetic_70 mk6 mlo6 mhi6 a1 a2 a3 x5 x7)
def bk_ok_Md_arithmetic_65 (mk : Nat → Int32) (mlo : Nat → Int64) (mhi : Nat → Int64) (a1 : Int32) (a2 : Int32) (a3 : Int64) (x5 : Int64) (x7 : Int64) : Prop :=
  (k_ok_Md_anything mk mlo mhi a2 ∧ (x_let (s_Md_anything mk mlo mhi a2) fun (mk6, mlo6, mhi6) => bk_ok_Md_arithmetic_70 mk6 mlo6 mhi6 a1 a2 a3 x5 x7))
set_option maxHeartbeats 4000000 in
set_option maxRecDepth 100000 in
theorem cb_Md_arithmetic_65 {l : Launch} {D : va_G} {cA : Nat → ClassId} {ad : x_I → Nat} (ok : x_ok (x_k D cA ad)) {stp : Nat → Nat → Int32} {psz : Int32} {gk : Nat → Nat → Int32} {gl : Nat → Nat → Int64} {gh : Nat → Nat → Int64} {opn : Nat → Int32} {cki : Nat → Int32} {ckl : Nat → Int64} {mp : Nat → Nat → Int64} {rk : Nat → Int32} {rv : Nat → Int64} {ri : Nat → Int32} {chk : Int32} {mo : Nat → Nat → Int32} {mi : Nat → Int32} {ml : Nat → Int64} {pk : Nat → Int32} {ps : Nat → Int32} {pl : Nat → Int64} {ph : Nat → Int64} {mm : Nat → Int64} {out : Nat → Int64} {p : Program} {e : Env} {s : State} {m : MethodId} {args : Array Value} {below : List Frame} {meth : Method} {c : Code} (C : x_C p s m args c b_Md_arithmetic 9 R_Md (Cond.code y_Md_arithmetic b_Md_arithmetic 9 (Option.none : Option Jvm.ClassFile.FieldType) :: x_Wd) (x_k D cA ad)) (hr : meth.sig.returnType = (Option.none : Option Jvm.ClassFile.FieldType)) (hlk : meth.locks = false) (a1 : Int32) (a2 : Int32) (a3 : Int64) (mk : Nat → Int32) (mlo : Nat → Int64) (mhi : Nat → Int64) (x5 : Int64) (x7 : Int64) (hk : bk_ok_Md_arithmetic_65 mk mlo mhi a1 a2 a3 x5 x7) : x_V p l e { frames := 3, cells := 0, slots := 0, locals := 70 } s m args below meth c (x_k D cA ad) 9 0 0 (x_E below (x_k D cA ad) args s 0 0 (x_F ad cA) (fun q : (Nat → Int32) × (Nat → Int64) × (Nat → Int64) => ((none, ((stp, psz, gk, gl, gh, opn, cki, ckl, mp, rk, rv, ri, chk), (mo, mi, ml, q.1, q.2.1, q.2.2, pk, ps, pl, ph, mm), out)) : Option Value × x_S)) (bk_Md_arithmetic_65 mk mlo mhi a1 a2 a3 x5 x7)) (x_F ad cA ((stp, psz, gk, gl, gh, opn, cki, ckl, mp, rk, rv, ri, chk), (mo, mi, ml, mk, mlo, mhi, pk, ps, pl, ph, mm), out)) 65 [(0, (.ref (ad (18, 0)))), (1, (.int a1)), (2, (.int a2)), (3, (.long a3)), (5, (.long x5)), (7, (.long x7))] [] := by
  unfold bk_Md_arithmetic_65
  unfold bk_ok_Md_arithmetic_65 at hk
  refine x_aload_n 0 C d_Md_arithmetic_65 rfl rfl ?_
  refine x_iload_n 2 C d_Md_arithmetic_66 rfl rfl ?_
  have w5 := hk.1
  have hk := hk.2
  refine x_cv0 (i := (18, 0)) (F := x_F ad cA) (As := [(.int a2)]) (rest := []) C k_Md_anything q_912 (c_Md_anything ok a2 w5) rfl rfl rfl (Nat.le_of_ble_eq_true rfl) (Nat.le_of_ble_eq_true rfl) m_18 rfl rfl rfl rfl rfl (Nat.le_of_ble_eq_true rfl) d_Md_arithmetic_67 ⟨Nat.zero_le _, Nat.zero_le _⟩ ?_
  generalize hq6 : s_Md_anything mk mlo mhi a2 = q6 at hk ⊢
  obtain ⟨mk6, mlo6, mhi6⟩ := q6
  refine x_lets ?_
  have hk := x_lete hk
  dsimp only at hk ⊢
  refine x_loc (lv' := [(0, (.ref (ad (18, 0)))), (1, (.int a1)), (2, (.int a2)), (3, (.long a3)), (5, (.long x5)), (7, (.long x7))]) [0, 1, 2, 3, 4, 5] rfl ?_
  exact cb_Md_arithmetic_70 ok C hr hlk a1 a2 a3  mk6 mlo6 mhi6 x5 x7 hk
def s_Md_arithmetic (mk : Nat → Int32) (mlo : Nat → Int64) (mhi : Nat → Int64) (a1 : Int32) (a2 : Int32) (a3 : Int64) : (Nat → Int32) × (Nat → Int64) × (Nat → Int64) :=
  (if a1 = 5 then (x_let (s_Md_in (mlo a2.toNatClampNeg) (-2147483648) 2147483648) fun r3 => (if r3 = 0 then bk_Md_arithmetic_65 mk mlo mhi a1 a2 a3 (mlo a2.toNatClampNeg) (mhi a2.toNatClampNeg) else (x_let (s_Md_in (mhi a2.toNatClampNeg) (-2147483648) 2147483648) fun r28 => (if r28 = 0 then bk_Md_arithmetic_65 mk mlo mhi a1 a2 a3 (mlo a2.toNatClampNeg) (mhi a2.toNatClampNeg) else (x_let (s_Md_spread mk mlo mhi a2 ((mlo a2.toNatClampNeg) * a3) ((mhi a2.toNatClampNeg) * a3)) fun (mk31, mlo31, mhi31) => bk_Md_arithmetic_70 mk31 mlo31 mhi31 a1 a2 a3 (mlo a2.toNatClampNeg) (mhi a2.toNatClampNeg)))))) else bk_Md_arithmetic_70 mk mlo mhi a1 a2 a3 (mlo a2.toNatClampNeg) (mhi a2.toNatClampNeg))
def k_ok_Md_arithmetic (mk : Nat → Int32) (mlo : Nat → Int64) (mhi : Nat → Int64) (a1 : Int32) (a2 : Int32) (a3 : Int64) : Prop :=
  (vp_in a2 12 ∧ (if a1 = 5 then (x_let (s_Md_in (mlo a2.toNatClampNeg) (-2147483648) 2147483648) fun r3 => (if r3 = 0 then bk_ok_Md_arithmetic_65 mk mlo mhi a1 a2 a3 (mlo a2.toNatClampNeg) (mhi a2.toNatClampNeg) else (x_let (s_Md_in (mhi a2.toNatClampNeg) (-2147483648) 2147483648) fun r28 => (if r28 = 0 then bk_ok_Md_arithmetic_65 mk mlo mhi a1 a2 a3 (mlo a2.toNatClampNeg) (mhi a2.toNatClampNeg) else (k_ok_Md_spread mk mlo mhi a2 ((mlo a2.toNatClampNeg) * a3) ((mhi a2.toNatClampNeg) * a3) ∧ (x_let (s_Md_spread mk mlo mhi a2 ((mlo a2.toNatClampNeg) * a3) ((mhi a2.toNatClampNeg) * a3)) fun (mk31, mlo31, mhi31) => bk_ok_Md_arithmetic_70 mk31 mlo31 mhi31 a1 a2 a3 (mlo a2.toNatClampNeg) (mhi a2.toNatClampNeg))))))) else bk_ok_Md_arithmetic_70 mk mlo mhi a1 a2 a3 (mlo a2.toNatClampNeg) (mhi a2.toNatClampNeg)))
set_option maxHeartbeats 4000000 in
set_option maxRecDepth 100000 in
theorem c_Md_arithmetic {l : Launch} {D : va_G} {cA : Nat → ClassId} {ad : x_I → Nat} (ok : x_ok (x_k D cA ad)) {stp : Nat → Nat → Int32} {psz : Int32} {gk : Nat → Nat → Int32} {gl : Nat → Nat → Int64} {gh : Nat → Nat → Int64} {opn : Nat → Int32} {cki : Nat → Int32} {ckl : Nat → Int64} {mp : Nat → Nat → Int64} {rk : Nat → Int32} {rv : Nat → Int64} {ri : Nat → Int32} {chk : Int32} {mo : Nat → Nat → Int32} {mi : Nat → Int32} {ml : Nat → Int64} {mk : Nat → Int32} {mlo : Nat → Int64} {mhi : Nat → Int64} {pk : Nat → Int32} {ps : Nat → Int32} {pl : Nat → Int64} {ph : Nat → Int64} {mm : Nat → Int64} {out : Nat → Int64} (a1 : Int32) (a2 : Int32) (a3 : Int64) (hk : k_ok_Md_arithmetic mk mlo mhi a1 a2 a3) : x_M l y_Md_arithmetic (Cond.code y_Md_arithmetic b_Md_arithmetic 9 (Option.none : Option Jvm.ClassFile.FieldType) :: x_Wd) { frames := 3, cells := 0, slots := 0, locals := 70 } (x_k D cA ad) (x_F ad cA) [(.ref (ad (18, 0))), (.int a1), (.int a2), (.long a3)] ((stp, psz, gk, gl, gh, opn, cki, ckl, mp, rk, rv, ri, chk), (mo, mi, ml, mk, mlo, mhi, pk, ps, pl, ph, mm), out) ((fun q : (Nat → Int32) × (Nat → Int64) × (Nat → Int64) => ((none, ((stp, psz, gk, gl, gh, opn, cki, ckl, mp, rk, rv, ri, chk), (mo, mi, ml, q.1, q.2.1, q.2.2, pk, ps, pl, ph, mm), out)) : Option Value × x_S)) (s_Md_arithmetic mk mlo mhi a1 a2 a3)) 0 0 := by
  refine x_start (κ := x_k D cA ad) (cc := b_Md_arithmetic) (F := x_F ad cA) (wr := (fun q : (Nat → Int32) × (Nat → Int64) × (Nat → Int64) => ((none, ((stp, psz, gk, gl, gh, opn, cki, ckl, mp, rk, rv, ri, chk), (mo, mi, ml, q.1, q.2.1, q.2.2, pk, ps, pl, ph, mm), out)) : Option Value × x_S))) (q := s_Md_arithmetic mk mlo mhi a1 a2 a3) (ret := (Option.none : Option Jvm.ClassFile.FieldType)) (lv0 := [(0, (.ref (ad (18, 0)))), (1, (.int a1)), (2, (.int a2)), (3, (.long a3))]) ok (by decide) rfl (Nat.le_of_ble_eq_true rfl) rfl ?_
  intro p e s m below meth c C hr hlk
  unfold s_Md_arithmetic
  unfold k_ok_Md_arithmetic at hk
  refine x_aload_n 0 C d_Md_arithmetic_0 rfl rfl ?_
  refine x_get (i := (18, 0)) (v := (.ref (ad (25, 0)))) 17 C m_18 rfl rfl i_Md (by decide) (List.mem_cons_of_mem _ q_808) rfl d_Md_arithmetic_1 ?_
  refine x_iload_n 2 C d_Md_arithmetic_4 rfl rfl ?_
  have w1 := hk.1
  have hk := hk.2
  refine x_lald (i := (25, 0)) (g := mlo) 1 C m_25 rfl rfl w1 d_Md_arithmetic_5 ?_
  refine x_lstore (lv' := [(5, (.long (mlo a2.toNatClampNeg))), (0, (.ref (ad (18, 0)))), (1, (.int a1)), (2, (.int a2)), (3, (.long a3))]) C d_Md_arithmetic_6 (by decide) rfl ?_
  refine x_aload_n 1 C d_Md_arithmetic_8 rfl rfl ?_
  refine x_get (i := (18, 0)) (v := (.ref (ad (26, 0)))) 18 C m_18 rfl rfl i_Md (by decide) (List.mem_cons_of_mem _ q_809) rfl d_Md_arithmetic_9 ?_
  refine x_iload_n 3 C d_Md_arithmetic_12 rfl rfl ?_
  refine x_lald (i := (26, 0)) (g := mhi) 1 C m_26 rfl rfl w1 d_Md_arithmetic_13 ?_
  refine x_lstore (lv' := [(7, (.long (mhi a2.toNatClampNeg))), (5, (.long (mlo a2.toNatClampNeg))), (0, (.ref (ad (18, 0)))), (1, (.int a1)), (2, (.int a2)), (3, (.long a3))]) C d_Md_arithmetic_14 (by decide) rfl ?_
  refine x_iload_n 3 C d_Md_arithmetic_16 rfl rfl ?_
  refine x_iconst (v := 5) C d_Md_arithmetic_17 (by decide) ?_
  refine x_icmp_ne 70 C d_Md_arithmetic_18 (by decide) (fun z2 => ?_) (fun z2 => ?_)
  · have hk := x_okt hk z2
    refine x_lload 1 C d_Md_arithmetic_21 rfl ?_
    refine x_ldc2 (v := (-2147483648)) C (List.mem_cons_of_mem _ q_988) d_Md_arithmetic_23 ?_
    refine x_ldc2 (v := 2147483648) C (List.mem_cons_of_mem _ q_989) d_Md_arithmetic_26 ?_
    refine x_cs (F := x_F ad cA) (As := [(.long (mlo a2.toNatClampNeg)), (.long (-2147483648)), (.long 2147483648)]) (rest := []) C k_Md_in q_883 (c_Md_in ok (mlo a2.toNatClampNeg) (-2147483648) 2147483648) rfl rfl rfl (Nat.le_of_ble_eq_true rfl) (Nat.le_of_ble_eq_true rfl) rfl rfl (Nat.le_of_ble_eq_true rfl) d_Md_arithmetic_29 ⟨Nat.zero_le _, Nat.zero_le _⟩ ?_
    generalize hq3 : s_Md_in (mlo a2.toNatClampNeg) (-2147483648) 2147483648 = r3 at hk ⊢
    refine x_lets ?_
    have hk := x_lete hk
    refine x_if_eq 65 C d_Md_arithmetic_32 (by decide) (fun z4 => ?_) (fun z4 => ?_)
    · have hk := x_okt hk z4
      refine x_loc (lv' := [(0, (.ref (ad (18, 0)))), (1, (.int a1)), (2, (.int a2)), (3, (.long a3)), (5, (.long (mlo a2.toNatClampNeg))), (7, (.long (mhi a2.toNatClampNeg)))]) [2, 3, 4, 5, 1, 0] rfl ?_
      exact cb_Md_arithmetic_65 ok C hr hlk a1 a2 a3  mk mlo mhi (mlo a2.toNatClampNeg) (mhi a2.toNatClampNeg) hk
    · have hk := x_okf hk z4
      refine x_lload 0 C d_Md_arithmetic_35 rfl ?_
      refine x_ldc2 (v := (-2147483648)) C (List.mem_cons_of_mem _ q_988) d_Md_arithmetic_37 ?_
      refine x_ldc2 (v := 2147483648) C (List.mem_cons_of_mem _ q_989) d_Md_arithmetic_40 ?_
      refine x_cs (F := x_F ad cA) (As := [(.long (mhi a2.toNatClampNeg)), (.long (-2147483648)), (.long 2147483648)]) (rest := []) C k_Md_in q_883 (c_Md_in ok (mhi a2.toNatClampNeg) (-2147483648) 2147483648) rfl rfl rfl (Nat.le_of_ble_eq_true rfl) (Nat.le_of_ble_eq_true rfl) rfl rfl (Nat.le_of_ble_eq_true rfl) d_Md_arithmetic_43 ⟨Nat.zero_le _, Nat.zero_le _⟩ ?_
      generalize hq28 : s_Md_in (mhi a2.toNatClampNeg) (-2147483648) 2147483648 = r28 at hk ⊢
      refine x_lets ?_
      have hk := x_lete hk
      refine x_if_eq 65 C d_Md_arithmetic_46 (by decide) (fun z29 => ?_) (fun z29 => ?_)
      · have hk := x_okt hk z29
        refine x_loc (lv' := [(0, (.ref (ad (18, 0)))), (1, (.int a1)), (2, (.int a2)), (3, (.long a3)), (5, (.long (mlo a2.toNatClampNeg))), (7, (.long (mhi a2.toNatClampNeg)))]) [2, 3, 4, 5, 1, 0] rfl ?_
        exact cb_Md_arithmetic_65 ok C hr hlk a1 a2 a3  mk mlo mhi (mlo a2.toNatClampNeg) (mhi a2.toNatClampNeg) hk
      · have hk := x_okf hk z29
        refine x_aload_n 2 C d_Md_arithmetic_49 rfl rfl ?_
        refine x_iload_n 4 C d_Md_arithmetic_50 rfl rfl ?_
        refine x_lload 1 C d_Md_arithmetic_51 rfl ?_
        refine x_lload_n 5 C d_Md_arithmetic_53 rfl rfl ?_
        refine x_lmul C d_Md_arithmetic_54 ?_
        refine x_lload 0 C d_Md_arithmetic_55 rfl ?_
        refine x_lload_n 5 C d_Md_arithmetic_57 rfl rfl ?_
        refine x_lmul C d_Md_arithmetic_58 ?_
        have w30 := hk.1
        have hk := hk.2
        refine x_cv0 (i := (18, 0)) (F := x_F ad cA) (As := [(.int a2), (.long ((mlo a2.toNatClampNeg) * a3)), (.long ((mhi a2.toNatClampNeg) * a3))]) (rest := []) C k_Md_spread q_990 (c_Md_spread ok a2 ((mlo a2.toNatClampNeg) * a3) ((mhi a2.toNatClampNeg) * a3) w30) rfl rfl rfl (Nat.le_of_ble_eq_true rfl) (Nat.le_of_ble_eq_true rfl) m_18 rfl rfl rfl rfl rfl (Nat.le_of_ble_eq_true rfl) d_Md_arithmetic_59 ⟨Nat.zero_le _, Nat.zero_le _⟩ ?_
        generalize hq31 : s_Md_spread mk mlo mhi a2 ((mlo a2.toNatClampNeg) * a3) ((mhi a2.toNatClampNeg) * a3) = q31 at hk ⊢
        obtain ⟨mk31, mlo31, mhi31⟩ := q31
        refine x_lets ?_
        have hk := x_lete hk
        dsimp only at hk ⊢
        refine x_goto 70 C d_Md_arithmetic_62 (by decide) ?_
        refine x_loc (lv' := [(0, (.ref (ad (18, 0)))), (1, (.int a1)), (2, (.int a2)), (3, (.long a3)), (5, (.long (mlo a2.toNatClampNeg))), (7, (.long (mhi a2.toNatClampNeg)))]) [2, 3, 4, 5, 1, 0] rfl ?_
        exact cb_Md_arithmetic_70 ok C hr hlk a1 a2 a3  mk31 mlo31 mhi31 (mlo a2.toNatClampNeg) (mhi a2.toNatClampNeg) hk
  · have hk := x_okf hk z2
    refine x_loc (lv' := [(0, (.ref (ad (18, 0)))), (1, (.int a1)), (2, (.int a2)), (3, (.long a3)), (5, (.long (mlo a2.toNatClampNeg))), (7, (.long (mhi a2.toNatClampNeg)))]) [2, 3, 4, 5, 1, 0] rfl ?_
    exact cb_Md_arithmetic_70 ok C hr hlk a1 a2 a3  mk mlo mhi (mlo a2.toNatClampNeg) (mhi a2.toNatClampNeg) hk
def bk_Md_load_147 (K : (Nat → Int32) → (Nat → Int64) → (Nat → Int64) → Int32 → Int32 → Int64 → Int64 → Int32 → (Nat → Int32) × (Nat → Int64) × (Nat → Int64)) (mo : Nat → Nat → Int32) (mk : Nat → Int32) (mlo : Nat → Int64) (mhi : Nat → Int64) (a1 : Int32) (x4 : Int32) (x5 : Int32) (x6 : Int64) (x8 : Int64) (x10 : Int32) : (Nat → Int32) × (Nat → Int64) × (Nat → Int64) :=
  K mk mlo mhi x4 x5 x6 x8 (x10 + 1)
def bk_ok_Md_load_147 (KO : (Nat → Int32) → (Nat → Int64) → (Nat → Int64) → Int32 → Int32 → Int64 → Int64 → Int32 → Prop) (mo : Nat → Nat → Int32) (mk : Nat → Int32) (mlo : Nat → Int64) (mhi : Nat → Int64) (a1 : Int32) (x4 : Int32) (x5 : Int32) (x6 : Int64) (x8 : Int64) (x10 : Int32) : Prop :=
  KO mk mlo mhi x4 x5 x6 x8 (x10 + 1)
set_option maxHeartbeats 4000000 in
set_option maxRecDepth 100000 in
theorem cb_Md_load_147 {l : Launch} {D : va_G} {cA : Nat → ClassId} {ad : x_I → Nat} (ok : x_ok (x_k D cA ad)) {stp : Nat → Nat → Int32} {psz : Int32} {gk : Nat → Nat → Int32} {gl : Nat → Nat → Int64} {gh : Nat → Nat → Int64} {opn : Nat → Int32} {cki : Nat → Int32} {ckl : Nat → Int64} {mp : Nat → Nat → Int64} {rk : Nat → Int32} {rv : Nat → Int64} {ri : Nat → Int32} {chk : Int32} {mo : Nat → Nat → Int32} {mi : Nat → Int32} {ml : Nat → Int64} {pk : Nat → Int32} {ps : Nat → Int32} {pl : Nat → Int64} {ph : Nat → Int64} {mm : Nat → Int64} {out : Nat → Int64} {p : Program} {e : Env} {s : State} {m : MethodId} {args : Array Value} {below : List Frame} {meth : Method} {c : Code} (C : x_C p s m args c b_Md_load 11 R_Md (Cond.code y_Md_load b_Md_load 11 (Option.none : Option Jvm.ClassFile.FieldType) :: x_Wd) (x_k D cA ad)) (hr : meth.sig.returnType = (Option.none : Option Jvm.ClassFile.FieldType)) (hlk : meth.locks = false) (a1 : Int32) (K : (Nat → Int32) → (Nat → Int64) → (Nat → Int64) → Int32 → Int32 → Int64 → Int64 → Int32 → (Nat → Int32) × (Nat → Int64) × (Nat → Int64)) (KO : (Nat → Int32) → (Nat → Int64) → (Nat → Int64) → Int32 → Int32 → Int64 → Int64 → Int32 → Prop) (ih : ∀ (mk : Nat → Int32) (mlo : Nat → Int64) (mhi : Nat → Int64) (x4 : Int32) (x5 : Int32) (x6 : Int64) (x8 : Int64) (x10 : Int32), KO mk mlo mhi x4 x5 x6 x8 x10 → x_V p l e { frames := 2, cells := 0, slots := 0, locals := 47 } s m args below meth c (x_k D cA ad) 11 0 0 (x_E below (x_k D cA ad) args s 0 0 (x_F ad cA) (fun q : (Nat → Int32) × (Nat → Int64) × (Nat → Int64) => ((none, ((stp, psz, gk, gl, gh, opn, cki, ckl, mp, rk, rv, ri, chk), (mo, mi, ml, q.1, q.2.1, q.2.2, pk, ps, pl, ph, mm), out)) : Option Value × x_S)) (K mk mlo mhi x4 x5 x6 x8 x10)) (x_F ad cA ((stp, psz, gk, gl, gh, opn, cki, ckl, mp, rk, rv, ri, chk), (mo, mi, ml, mk, mlo, mhi, pk, ps, pl, ph, mm), out)) 96 [(0, (.ref (ad (18, 0)))), (1, (.int a1)), (4, (.int x4)), (5, (.int x5)), (6, (.long x6)), (8, (.long x8)), (10, (.int x10))] []) (mk : Nat → Int32) (mlo : Nat → Int64) (mhi : Nat → Int64) (x4 : Int32) (x5 : Int32) (x6 : Int64) (x8 : Int64) (x10 : Int32) (hk : bk_ok_Md_load_147 KO mo mk mlo mhi a1 x4 x5 x6 x8 x10) : x_V p l e { frames := 2, cells := 0, slots := 0, locals := 47 } s m args below meth c (x_k D cA ad) 11 0 0 (x_E below (x_k D cA ad) args s 0 0 (x_F ad cA) (fun q : (Nat → Int32) × (Nat → Int64) × (Nat → Int64) => ((none, ((stp, psz, gk, gl, gh, opn, cki, ckl, mp, rk, rv, ri, chk), (mo, mi, ml, q.1, q.2.1, q.2.2, pk, ps, pl, ph, mm), out)) : Option Value × x_S)) (bk_Md_load_147 K mo mk mlo mhi a1 x4 x5 x6 x8 x10)) (x_F ad cA ((stp, psz, gk, gl, gh, opn, cki, ckl, mp, rk, rv, ri, chk), (mo, mi, ml, mk, mlo, mhi, pk, ps, pl, ph, mm), out)) 147 [(0, (.ref (ad (18, 0)))), (1, (.int a1)), (4, (.int x4)), (5, (.int x5)), (6, (.long x6)), (8, (.long x8)), (10, (.int x10))] [] := by
  unfold bk_Md_load_147
  unfold bk_ok_Md_load_147 at hk
  refine x_iinc (lv' := [(10, (.int (x10 + 1))), (0, (.ref (ad (18, 0)))), (1, (.int a1)), (4, (.int x4)), (5, (.int x5)), (6, (.long x6)), (8, (.long x8))]) 6 C d_Md_load_147 rfl rfl (by decide) rfl ?_
  refine x_goto 96 C d_Md_load_150 (by decide) ?_
  refine x_loc (lv' := [(0, (.ref (ad (18, 0)))), (1, (.int a1)), (4, (.int x4)), (5, (.int x5)), (6, (.long x6)), (8, (.long x8)), (10, (.int (x10 + 1)))]) [1, 2, 3, 4, 5, 6, 0] rfl ?_
  exact ih mk mlo mhi x4 x5 x6 x8 (x10 + 1) hk
def bk_Md_load_125 (K : (Nat → Int32) → (Nat → Int64) → (Nat → Int64) → Int32 → Int32 → Int64 → Int64 → Int32 → (Nat → Int32) × (Nat → Int64) × (Nat → Int64)) (mo : Nat → Nat → Int32) (mk : Nat → Int32) (mlo : Nat → Int64) (mhi : Nat → Int64) (a1 : Int32) (x4 : Int32) (x5 : Int32) (x6 : Int64) (x8 : Int64) (x10 : Int32) : (Nat → Int32) × (Nat → Int64) × (Nat → Int64) :=
  (if (mhi x10.toNatClampNeg) ≤ x8 then bk_Md_load_147 K mo mk mlo mhi a1 x4 x5 x6 x8 x10 else bk_Md_load_147 K mo mk mlo mhi a1 x4 x5 x6 (mhi x10.toNatClampNeg) x10)
def bk_ok_Md_load_125 (KO : (Nat → Int32) → (Nat → Int64) → (Nat → Int64) → Int32 → Int32 → Int64 → Int64 → Int32 → Prop) (mo : Nat → Nat → Int32) (mk : Nat → Int32) (mlo : Nat → Int64) (mhi : Nat → Int64) (a1 : Int32) (x4 : Int32) (x5 : Int32) (x6 : Int64) (x8 : Int64) (x10 : Int32) : Prop :=
  (vp_in x10 12 ∧ (if (mhi x10.toNatClampNeg) ≤ x8 then bk_ok_Md_load_147 KO mo mk mlo mhi a1 x4 x5 x6 x8 x10 else bk_ok_Md_load_147 KO mo mk mlo mhi a1 x4 x5 x6 (mhi x10.toNatClampNeg) x10))
set_option maxHeartbeats 4000000 in
set_option maxRecDepth 100000 in
theorem cb_Md_load_125 {l : Launch} {D : va_G} {cA : Nat → ClassId} {ad : x_I → Nat} (ok : x_ok (x_k D cA ad)) {stp : Nat → Nat → Int32} {psz : Int32} {gk : Nat → Nat → Int32} {gl : Nat → Nat → Int64} {gh : Nat → Nat → Int64} {opn : Nat → Int32} {cki : Nat → Int32} {ckl : Nat → Int64} {mp : Nat → Nat → Int64} {rk : Nat → Int32} {rv : Nat → Int64} {ri : Nat → Int32} {chk : Int32} {mo : Nat → Nat → Int32} {mi : Nat → Int32} {ml : Nat → Int64} {pk : Nat → Int32} {ps : Nat → Int32} {pl : Nat → Int64} {ph : Nat → Int64} {mm : Nat → Int64} {out : Nat → Int64} {p : Program} {e : Env} {s : State} {m : MethodId} {args : Array Value} {below : List Frame} {meth : Method} {c : Code} (C : x_C p s m args c b_Md_load 11 R_Md (Cond.code y_Md_load b_Md_load 11 (Option.none : Option Jvm.ClassFile.FieldType) :: x_Wd) (x_k D cA ad)) (hr : meth.sig.returnType = (Option.none : Option Jvm.ClassFile.FieldType)) (hlk : meth.locks = false) (a1 : Int32) (K : (Nat → Int32) → (Nat → Int64) → (Nat → Int64) → Int32 → Int32 → Int64 → Int64 → Int32 → (Nat → Int32) × (Nat → Int64) × (Nat → Int64)) (KO : (Nat → Int32) → (Nat → Int64) → (Nat → Int64) → Int32 → Int32 → Int64 → Int64 → Int32 → Prop) (ih : ∀ (mk : Nat → Int32) (mlo : Nat → Int64) (mhi : Nat → Int64) (x4 : Int32) (x5 : Int32) (x6 : Int64) (x8 : Int64) (x10 : Int32), KO mk mlo mhi x4 x5 x6 x8 x10 → x_V p l e { frames := 2, cells := 0, slots := 0, locals := 47 } s m args below meth c (x_k D cA ad) 11 0 0 (x_E below (x_k D cA ad) args s 0 0 (x_F ad cA) (fun q : (Nat → Int32) × (Nat → Int64) × (Nat → Int64) => ((none, ((stp, psz, gk, gl, gh, opn, cki, ckl, mp, rk, rv, ri, chk), (mo, mi, ml, q.1, q.2.1, q.2.2, pk, ps, pl, ph, mm), out)) : Option Value × x_S)) (K mk mlo mhi x4 x5 x6 x8 x10)) (x_F ad cA ((stp, psz, gk, gl, gh, opn, cki, ckl, mp, rk, rv, ri, chk), (mo, mi, ml, mk, mlo, mhi, pk, ps, pl, ph, mm), out)) 96 [(0, (.ref (ad (18, 0)))), (1, (.int a1)), (4, (.int x4)), (5, (.int x5)), (6, (.long x6)), (8, (.long x8)), (10, (.int x10))] []) (mk : Nat → Int32) (mlo : Nat → Int64) (mhi : Nat → Int64) (x4 : Int32) (x5 : Int32) (x6 : Int64) (x8 : Int64) (x10 : Int32) (hk : bk_ok_Md_load_125 KO mo mk mlo mhi a1 x4 x5 x6 x8 x10) : x_V p l e { frames := 2, cells := 0, slots := 0, locals := 47 } s m args below meth c (x_k D cA ad) 11 0 0 (x_E below (x_k D cA ad) args s 0 0 (x_F ad cA) (fun q : (Nat → Int32) × (Nat → Int64) × (Nat → Int64) => ((none, ((stp, psz, gk, gl, gh, opn, cki, ckl, mp, rk, rv, ri, chk), (mo, mi, ml, q.1, q.2.1, q.2.2, pk, ps, pl, ph, mm), out)) : Option Value × x_S)) (bk_Md_load_125 K mo mk mlo mhi a1 x4 x5 x6 x8 x10)) (x_F ad cA ((stp, psz, gk, gl, gh, opn, cki, ckl, mp, rk, rv, ri, chk), (mo, mi, ml, mk, mlo, mhi, pk, ps, pl, ph, mm), out)) 125 [(0, (.ref (ad (18, 0)))), (1, (.int a1)), (4, (.int x4)), (5, (.int x5)), (6, (.long x6)), (8, (.long x8)), (10, (.int x10))] [] := by
  unfold bk_Md_load_125
  unfold bk_ok_Md_load_125 at hk
  refine x_aload_n 0 C d_Md_load_125 rfl rfl ?_
  refine x_get (i := (18, 0)) (v := (.ref (ad (26, 0)))) 18 C m_18 rfl rfl i_Md (by decide) (List.mem_cons_of_mem _ q_809) rfl d_Md_load_126 ?_
  refine x_iload 6 C d_Md_load_129 rfl ?_
  have w13 := hk.1
  have hk := hk.2
  refine x_lald (i := (26, 0)) (g := mhi) 1 C m_26 rfl rfl w13 d_Md_load_131 ?_
  refine x_lload 5 C d_Md_load_132 rfl ?_
  refine x_lcmp_le 147 C d_Md_load_134 d_Md_load_135 (by decide) (fun z14 => ?_) (fun z14 => ?_)
  · have hk := x_okt hk z14
    refine x_loc (lv' := [(0, (.ref (ad (18, 0)))), (1, (.int a1)), (4, (.int x4)), (5, (.int x5)), (6, (.long x6)), (8, (.long x8)), (10, (.int x10))]) [0, 1, 2, 3, 4, 5, 6] rfl ?_
    exact cb_Md_load_147 ok C hr hlk a1 K KO ih  mk mlo mhi x4 x5 x6 x8 x10 hk
  · have hk := x_okf hk z14
    refine x_aload_n 0 C d_Md_load_138 rfl rfl ?_
    refine x_get (i := (18, 0)) (v := (.ref (ad (26, 0)))) 18 C m_18 rfl rfl i_Md (by decide) (List.mem_cons_of_mem _ q_809) rfl d_Md_load_139 ?_
    refine x_iload 6 C d_Md_load_142 rfl ?_
    refine x_lald (i := (26, 0)) (g := mhi) 1 C m_26 rfl rfl w13 d_Md_load_144 ?_
    refine x_lstore (lv' := [(8, (.long (mhi x10.toNatClampNeg))), (0, (.ref (ad (18, 0)))), (1, (.int a1)), (4, (.int x4)), (5, (.int x5)), (6, (.long x6)), (10, (.int x10))]) C d_Md_load_145 (by decide) rfl ?_
    refine x_loc (lv' := [(0, (.ref (ad (18, 0)))), (1, (.int a1)), (4, (.int x4)), (5, (.int x5)), (6, (.long x6)), (8, (.long (mhi x10.toNatClampNeg))), (10, (.int x10))]) [1, 2, 3, 4, 5, 0, 6] rfl ?_
    exact cb_Md_load_147 ok C hr hlk a1 K KO ih  mk mlo mhi x4 x5 x6 (mhi x10.toNatClampNeg) x10 hk
def lp_Md_load_96 (n : Nat) (mo : Nat → Nat → Int32) (mk : Nat → Int32) (mlo : Nat → Int64) (mhi : Nat → Int64) (a1 : Int32) (x4 : Int32) (x5 : Int32) (x6 : Int64) (x8 : Int64) (x10 : Int32) : (Nat → Int32) × (Nat → Int64) × (Nat → Int64) := match n with
  | 0 => (mk, mlo, mhi)
  | n + 1 => (if x4 < x10 then (x_let (s_Md_know mk mlo mhi (mo 1 a1.toNatClampNeg) x5 x6 x8) fun (mk10, mlo10, mhi10) => (mk10, mlo10, mhi10)) else (if x6 ≤ (mlo x10.toNatClampNeg) then bk_Md_load_125 (fun mk mlo mhi x4 x5 x6 x8 x10 => lp_Md_load_96 n mo mk mlo mhi a1 x4 x5 x6 x8 x10) mo mk mlo mhi a1 x4 x5 x6 x8 x10 else bk_Md_load_125 (fun mk mlo mhi x4 x5 x6 x8 x10 => lp_Md_load_96 n mo mk mlo mhi a1 x4 x5 x6 x8 x10) mo mk mlo mhi a1 x4 x5 (mlo x10.toNatClampNeg) x8 x10))
def lp_ok_Md_load_96 (n : Nat) (mo : Nat → Nat → Int32) (mk : Nat → Int32) (mlo : Nat → Int64) (mhi : Nat → Int64) (a1 : Int32) (x4 : Int32) (x5 : Int32) (x6 : Int64) (x8 : Int64) (x10 : Int32) : Prop := match n with
  | 0 => False
  | n + 1 => (if x4 < x10 then (vp_in a1 24 ∧ (k_ok_Md_know mk mlo mhi (mo 1 a1.toNatClampNeg) x5 x6 x8 ∧ True)) else (vp_in x10 12 ∧ (if x6 ≤ (mlo x10.toNatClampNeg) then bk_ok_Md_load_125 (fun mk mlo mhi x4 x5 x6 x8 x10 => lp_ok_Md_load_96 n mo mk mlo mhi a1 x4 x5 x6 x8 x10) mo mk mlo mhi a1 x4 x5 x6 x8 x10 else bk_ok_Md_load_125 (fun mk mlo mhi x4 x5 x6 x8 x10 => lp_ok_Md_load_96 n mo mk mlo mhi a1 x4 x5 x6 x8 x10) mo mk mlo mhi a1 x4 x5 (mlo x10.toNatClampNeg) x8 x10)))
set_option maxHeartbeats 4000000 in
set_option maxRecDepth 100000 in
theorem cl_Md_load_96 {l : Launch} {D : va_G} {cA : Nat → ClassId} {ad : x_I → Nat} (ok : x_ok (x_k D cA ad)) {stp : Nat → Nat → Int32} {psz : Int32} {gk : Nat → Nat → Int32} {gl : Nat → Nat → Int64} {gh : Nat → Nat → Int64} {opn : Nat → Int32} {cki : Nat → Int32} {ckl : Nat → Int64} {mp : Nat → Nat → Int64} {rk : Nat → Int32} {rv : Nat → Int64} {ri : Nat → Int32} {chk : Int32} {mo : Nat → Nat → Int32} {mi : Nat → Int32} {ml : Nat → Int64} {pk : Nat → Int32} {ps : Nat → Int32} {pl : Nat → Int64} {ph : Nat → Int64} {mm : Nat → Int64} {out : Nat → Int64} {p : Program} {e : Env} {s : State} {m : MethodId} {args : Array Value} {below : List Frame} {meth : Method} {c : Code} (C : x_C p s m args c b_Md_load 11 R_Md (Cond.code y_Md_load b_Md_load 11 (Option.none : Option Jvm.ClassFile.FieldType) :: x_Wd) (x_k D cA ad)) (hr : meth.sig.returnType = (Option.none : Option Jvm.ClassFile.FieldType)) (hlk : meth.locks = false) (a1 : Int32) : ∀ (n : Nat) (mk : Nat → Int32) (mlo : Nat → Int64) (mhi : Nat → Int64) (x4 : Int32) (x5 : Int32) (x6 : Int64) (x8 : Int64) (x10 : Int32) (hk : lp_ok_Md_load_96 n mo mk mlo mhi a1 x4 x5 x6 x8 x10), x_V p l e { frames := 2, cells := 0, slots := 0, locals := 47 } s m args below meth c (x_k D cA ad) 11 0 0 (x_E below (x_k D cA ad) args s 0 0 (x_F ad cA) (fun q : (Nat → Int32) × (Nat → Int64) × (Nat → Int64) => ((none, ((stp, psz, gk, gl, gh, opn, cki, ckl, mp, rk, rv, ri, chk), (mo, mi, ml, q.1, q.2.1, q.2.2, pk, ps, pl, ph, mm), out)) : Option Value × x_S)) (lp_Md_load_96 n mo mk mlo mhi a1 x4 x5 x6 x8 x10)) (x_F ad cA ((stp, psz, gk, gl, gh, opn, cki, ckl, mp, rk, rv, ri, chk), (mo, mi, ml, mk, mlo, mhi, pk, ps, pl, ph, mm), out)) 96 [(0, (.ref (ad (18, 0)))), (1, (.int a1)), (4, (.int x4)), (5, (.int x5)), (6, (.long x6)), (8, (.long x8)), (10, (.int x10))] [] := by
  intro n
  induction n with
  | zero => intro mk mlo mhi x4 x5 x6 x8 x10 hk; exact False.elim hk
  | succ n ih =>
    intro mk mlo mhi x4 x5 x6 x8 x10 hk
    rw [lp_Md_load_96]
    rw [lp_ok_Md_load_96] at hk
    refine x_iload 6 C d_Md_load_96 rfl ?_
    refine x_iload 2 C d_Md_load_98 rfl ?_
    refine x_icmp_gt 153 C d_Md_load_100 (by decide) (fun z7 => ?_) (fun z7 => ?_)
    · have hk := x_okt hk z7
      refine x_aload_n 0 C d_Md_load_153 rfl rfl ?_
      refine x_aload_n 0 C d_Md_load_154 rfl rfl ?_
      refine x_get (i := (18, 0)) (v := (.ref (ad (20, 0)))) 1 C m_18 rfl rfl i_Md (by decide) (List.mem_cons_of_mem _ q_792) rfl d_Md_load_155 ?_
      refine x_iload_n 1 C d_Md_load_158 rfl rfl ?_
      have w8 := hk.1
      have hk := hk.2
      refine x_iald (i := (20, 0)) (g := mo 1) 0 C m_20 rfl rfl w8 d_Md_load_159 ?_
      refine x_iload 3 C d_Md_load_160 rfl ?_
      refine x_lload 4 C d_Md_load_162 rfl ?_
      refine x_lload 5 C d_Md_load_164 rfl ?_
      have w9 := hk.1
      have hk := hk.2
      refine x_cv0 (i := (18, 0)) (F := x_F ad cA) (As := [(.int (mo 1 a1.toNatClampNeg)), (.int x5), (.long x6), (.long x8)]) (rest := []) C k_Md_know q_908 (c_Md_know ok (mo 1 a1.toNatClampNeg) x5 x6 x8 w9) rfl rfl rfl (Nat.le_of_ble_eq_true rfl) (Nat.le_of_ble_eq_true rfl) m_18 rfl rfl rfl rfl rfl (Nat.le_of_ble_eq_true rfl) d_Md_load_166 ⟨Nat.zero_le _, Nat.zero_le _⟩ ?_
      generalize hq10 : s_Md_know mk mlo mhi (mo 1 a1.toNatClampNeg) x5 x6 x8 = q10
      obtain ⟨mk10, mlo10, mhi10⟩ := q10
      refine x_lets ?_
      dsimp only
      exact x_vret C hr hlk rfl d_Md_load_169
    · have hk := x_okf hk z7
      refine x_aload_n 0 C d_Md_load_103 rfl rfl ?_
      refine x_get (i := (18, 0)) (v := (.ref (ad (25, 0)))) 17 C m_18 rfl rfl i_Md (by decide) (List.mem_cons_of_mem _ q_808) rfl d_Md_load_104 ?_
      refine x_iload 6 C d_Md_load_107 rfl ?_
      have w11 := hk.1
      have hk := hk.2
      refine x_lald (i := (25, 0)) (g := mlo) 1 C m_25 rfl rfl w11 d_Md_load_109 ?_
      refine x_lload 4 C d_Md_load_110 rfl ?_
      refine x_lcmp_ge 125 C d_Md_load_112 d_Md_load_113 (by decide) (fun z12 => ?_) (fun z12 => ?_)
      · have hk := x_okt hk z12
        refine x_loc (lv' := [(0, (.ref (ad (18, 0)))), (1, (.int a1)), (4, (.int x4)), (5, (.int x5)), (6, (.long x6)), (8, (.long x8)), (10, (.int x10))]) [0, 1, 2, 3, 4, 5, 6] rfl ?_
        exact cb_Md_load_125 ok C hr hlk a1 (fun mk mlo mhi x4 x5 x6 x8 x10 => lp_Md_load_96 n mo mk mlo mhi a1 x4 x5 x6 x8 x10) (fun mk mlo mhi x4 x5 x6 x8 x10 => lp_ok_Md_load_96 n mo mk mlo mhi a1 x4 x5 x6 x8 x10) ih  mk mlo mhi x4 x5 x6 x8 x10 hk
      · have hk := x_okf hk z12
        refine x_aload_n 0 C d_Md_load_116 rfl rfl ?_
        refine x_get (i := (18, 0)) (v := (.ref (ad (25, 0)))) 17 C m_18 rfl rfl i_Md (by decide) (List.mem_cons_of_mem _ q_808) rfl d_Md_load_117 ?_
        refine x_iload 6 C d_Md_load_120 rfl ?_
        refine x_lald (i := (25, 0)) (g := mlo) 1 C m_25 rfl rfl w11 d_Md_load_122 ?_
        refine x_lstore (lv' := [(6, (.long (mlo x10.toNatClampNeg))), (0, (.ref (ad (18, 0)))), (1, (.int a1)), (4, (.int x4)), (5, (.int x5)), (8, (.long x8)), (10, (.int x10))]) C d_Md_load_123 (by decide) rfl ?_
        refine x_loc (lv' := [(0, (.ref (ad (18, 0)))), (1, (.int a1)), (4, (.int x4)), (5, (.int x5)), (6, (.long (mlo x10.toNatClampNeg))), (8, (.long x8)), (10, (.int x10))]) [1, 2, 3, 4, 0, 5, 6] rfl ?_
        exact cb_Md_load_125 ok C hr hlk a1 (fun mk mlo mhi x4 x5 x6 x8 x10 => lp_Md_load_96 n mo mk mlo mhi a1 x4 x5 x6 x8 x10) (fun mk mlo mhi x4 x5 x6 x8 x10 => lp_ok_Md_load_96 n mo mk mlo mhi a1 x4 x5 x6 x8 x10) ih  mk mlo mhi x4 x5 (mlo x10.toNatClampNeg) x8 x10 hk
def s_Md_load (mo : Nat → Nat → Int32) (mk : Nat → Int32) (mlo : Nat → Int64) (mhi : Nat → Int64) (a1 : Int32) : (Nat → Int32) × (Nat → Int64) × (Nat → Int64) :=
  (if (mk ((mo 2 a1.toNatClampNeg).toNatClampNeg)) = 3 then (x_let (s_Md_anything mk mlo mhi (mo 1 a1.toNatClampNeg)) fun (mk5, mlo5, mhi5) => (mk5, mlo5, mhi5)) else lp_Md_load_96 8 mo mk mlo mhi a1 (6 + (Int64.toInt32 ((mhi ((mo 2 a1.toNatClampNeg).toNatClampNeg)) + (Int32.toInt64 (mo 3 a1.toNatClampNeg))))) (mk ((6 + (Int64.toInt32 ((mlo ((mo 2 a1.toNatClampNeg).toNatClampNeg)) + (Int32.toInt64 (mo 3 a1.toNatClampNeg))))).toNatClampNeg)) (mlo ((6 + (Int64.toInt32 ((mlo ((mo 2 a1.toNatClampNeg).toNatClampNeg)) + (Int32.toInt64 (mo 3 a1.toNatClampNeg))))).toNatClampNeg)) (mhi ((6 + (Int64.toInt32 ((mlo ((mo 2 a1.toNatClampNeg).toNatClampNeg)) + (Int32.toInt64 (mo 3 a1.toNatClampNeg))))).toNatClampNeg)) ((6 + (Int64.toInt32 ((mlo ((mo 2 a1.toNatClampNeg).toNatClampNeg)) + (Int32.toInt64 (mo 3 a1.toNatClampNeg))))) + 1))
def k_ok_Md_load (mo : Nat → Nat → Int32) (mk : Nat → Int32) (mlo : Nat → Int64) (mhi : Nat → Int64) (a1 : Int32) : Prop :=
  (vp_in a1 24 ∧ (vp_in (mo 2 a1.toNatClampNeg) 12 ∧ (if (mk ((mo 2 a1.toNatClampNeg).toNatClampNeg)) = 3 then (k_ok_Md_anything mk mlo mhi (mo 1 a1.toNatClampNeg) ∧ True) else (vp_in (6 + (Int64.toInt32 ((mlo ((mo 2 a1.toNatClampNeg).toNatClampNeg)) + (Int32.toInt64 (mo 3 a1.toNatClampNeg))))) 12 ∧ lp_ok_Md_load_96 8 mo mk mlo mhi a1 (6 + (Int64.toInt32 ((mhi ((mo 2 a1.toNatClampNeg).toNatClampNeg)) + (Int32.toInt64 (mo 3 a1.toNatClampNeg))))) (mk ((6 + (Int64.toInt32 ((mlo ((mo 2 a1.toNatClampNeg).toNatClampNeg)) + (Int32.toInt64 (mo 3 a1.toNatClampNeg))))).toNatClampNeg)) (mlo ((6 + (Int64.toInt32 ((mlo ((mo 2 a1.toNatClampNeg).toNatClampNeg)) + (Int32.toInt64 (mo 3 a1.toNatClampNeg))))).toNatClampNeg)) (mhi ((6 + (Int64.toInt32 ((mlo ((mo 2 a1.toNatClampNeg).toNatClampNeg)) + (Int32.toInt64 (mo 3 a1.toNatClampNeg))))).toNatClampNeg)) ((6 + (Int64.toInt32 ((mlo ((mo 2 a1.toNatClampNeg).toNatClampNeg)) + (Int32.toInt64 (mo 3 a1.toNatClampNeg))))) + 1)))))
set_option maxHeartbeats 4000000 in
set_option maxRecDepth 100000 in
theorem c_Md_load {l : Launch} {D : va_G} {cA : Nat → ClassId} {ad : x_I → Nat} (ok : x_ok (x_k D cA ad)) {stp : Nat → Nat → Int32} {psz : Int32} {gk : Nat → Nat → Int32} {gl : Nat → Nat → Int64} {gh : Nat → Nat → Int64} {opn : Nat → Int32} {cki : Nat → Int32} {ckl : Nat → Int64} {mp : Nat → Nat → Int64} {rk : Nat → Int32} {rv : Nat → Int64} {ri : Nat → Int32} {chk : Int32} {mo : Nat → Nat → Int32} {mi : Nat → Int32} {ml : Nat → Int64} {mk : Nat → Int32} {mlo : Nat → Int64} {mhi : Nat → Int64} {pk : Nat → Int32} {ps : Nat → Int32} {pl : Nat → Int64} {ph : Nat → Int64} {mm : Nat → Int64} {out : Nat → Int64} (a1 : Int32) (hk : k_ok_Md_load mo mk mlo mhi a1) : x_M l y_Md_load (Cond.code y_Md_load b_Md_load 11 (Option.none : Option Jvm.ClassFile.FieldType) :: x_Wd) { frames := 2, cells := 0, slots := 0, locals := 47 } (x_k D cA ad) (x_F ad cA) [(.ref (ad (18, 0))), (.int a1)] ((stp, psz, gk, gl, gh, opn, cki, ckl, mp, rk, rv, ri, chk), (mo, mi, ml, mk, mlo, mhi, pk, ps, pl, ph, mm), out) ((fun q : (Nat → Int32) × (Nat → Int64) × (Nat → Int64) => ((none, ((stp, psz, gk, gl, gh, opn, cki, ckl, mp, rk, rv, ri, chk), (mo, mi, ml, q.1, q.2.1, q.2.2, pk, ps, pl, ph, mm), out)) : Option Value × x_S)) (s_Md_load mo mk mlo mhi a1)) 0 0 := by
  refine x_start (κ := x_k D cA ad) (cc := b_Md_load) (F := x_F ad cA) (wr := (fun q : (Nat → Int32) × (Nat → Int64) × (Nat → Int64) => ((none, ((stp, psz, gk, gl, gh, opn, cki, ckl, mp, rk, rv, ri, chk), (mo, mi, ml, q.1, q.2.1, q.2.2, pk, ps, pl, ph, mm), out)) : Option Value × x_S))) (q := s_Md_load mo mk mlo mhi a1) (ret := (Option.none : Option Jvm.ClassFile.FieldType)) (lv0 := [(0, (.ref (ad (18, 0)))), (1, (.int a1))]) ok (by decide) rfl (Nat.le_of_ble_eq_true rfl) rfl ?_
  intro p e s m below meth c C hr hlk
  unfold s_Md_load
  unfold k_ok_Md_load at hk
  refine x_aload_n 0 C d_Md_load_0 rfl rfl ?_
  refine x_get (i := (18, 0)) (v := (.ref (ad (21, 0)))) 2 C m_18 rfl rfl i_Md (by decide) (List.mem_cons_of_mem _ q_793) rfl d_Md_load_1 ?_
  refine x_iload_n 1 C d_Md_load_4 rfl rfl ?_
  have w1 := hk.1
  have hk := hk.2
  refine x_iald (i := (21, 0)) (g := mo 2) 0 C m_21 rfl rfl w1 d_Md_load_5 ?_
  refine x_istore_n (lv' := [(2, (.int (mo 2 a1.toNatClampNeg))), (0, (.ref (ad (18, 0)))), (1, (.int a1))]) C d_Md_load_6 rfl (by decide) rfl ?_
  refine x_bipush (v := 6) C d_Md_load_7 (by decide) ?_
  refine x_aload_n 1 C d_Md_load_9 rfl rfl ?_
  refine x_get (i := (18, 0)) (v := (.ref (ad (25, 0)))) 17 C m_18 rfl rfl i_Md (by decide) (List.mem_cons_of_mem _ q_808) rfl d_Md_load_10 ?_
  refine x_iload_n 0 C d_Md_load_13 rfl rfl ?_
  have w2 := hk.1
  have hk := hk.2
  refine x_lald (i := (25, 0)) (g := mlo) 1 C m_25 rfl rfl w2 d_Md_load_14 ?_
  refine x_aload_n 1 C d_Md_load_15 rfl rfl ?_
  refine x_get (i := (18, 0)) (v := (.ref (ad (22, 0)))) 3 C m_18 rfl rfl i_Md (by decide) (List.mem_cons_of_mem _ q_794) rfl d_Md_load_16 ?_
  refine x_iload_n 2 C d_Md_load_19 rfl rfl ?_
  refine x_iald (i := (22, 0)) (g := mo 3) 0 C m_22 rfl rfl w1 d_Md_load_20 ?_
  refine x_i2l C d_Md_load_21 ?_
  refine x_ladd C d_Md_load_22 ?_
  refine x_l2i C d_Md_load_23 ?_
  refine x_iadd C d_Md_load_24 ?_
  refine x_istore_n (lv' := [(3, (.int (6 + (Int64.toInt32 ((mlo ((mo 2 a1.toNatClampNeg).toNatClampNeg)) + (Int32.toInt64 (mo 3 a1.toNatClampNeg))))))), (2, (.int (mo 2 a1.toNatClampNeg))), (0, (.ref (ad (18, 0)))), (1, (.int a1))]) C d_Md_load_25 rfl (by decide) rfl ?_
  refine x_bipush (v := 6) C d_Md_load_26 (by decide) ?_
  refine x_aload_n 2 C d_Md_load_28 rfl rfl ?_
  refine x_get (i := (18, 0)) (v := (.ref (ad (26, 0)))) 18 C m_18 rfl rfl i_Md (by decide) (List.mem_cons_of_mem _ q_809) rfl d_Md_load_29 ?_
  refine x_iload_n 1 C d_Md_load_32 rfl rfl ?_
  refine x_lald (i := (26, 0)) (g := mhi) 1 C m_26 rfl rfl w2 d_Md_load_33 ?_
  refine x_aload_n 2 C d_Md_load_34 rfl rfl ?_
  refine x_get (i := (18, 0)) (v := (.ref (ad (22, 0)))) 3 C m_18 rfl rfl i_Md (by decide) (List.mem_cons_of_mem _ q_794) rfl d_Md_load_35 ?_
  refine x_iload_n 3 C d_Md_load_38 rfl rfl ?_
  refine x_iald (i := (22, 0)) (g := mo 3) 0 C m_22 rfl rfl w1 d_Md_load_39 ?_
  refine x_i2l C d_Md_load_40 ?_
  refine x_ladd C d_Md_load_41 ?_
  refine x_l2i C d_Md_load_42 ?_
  refine x_iadd C d_Md_load_43 ?_
  refine x_istore (lv' := [(4, (.int (6 + (Int64.toInt32 ((mhi ((mo 2 a1.toNatClampNeg).toNatClampNeg)) + (Int32.toInt64 (mo 3 a1.toNatClampNeg))))))), (3, (.int (6 + (Int64.toInt32 ((mlo ((mo 2 a1.toNatClampNeg).toNatClampNeg)) + (Int32.toInt64 (mo 3 a1.toNatClampNeg))))))), (2, (.int (mo 2 a1.toNatClampNeg))), (0, (.ref (ad (18, 0)))), (1, (.int a1))]) C d_Md_load_44 (by decide) rfl ?_
  refine x_aload_n 3 C d_Md_load_46 rfl rfl ?_
  refine x_get (i := (18, 0)) (v := (.ref (ad (24, 0)))) 16 C m_18 rfl rfl i_Md (by decide) (List.mem_cons_of_mem _ q_807) rfl d_Md_load_47 ?_
  refine x_iload_n 2 C d_Md_load_50 rfl rfl ?_
  refine x_iald (i := (24, 0)) (g := mk) 0 C m_24 rfl rfl w2 d_Md_load_51 ?_
  refine x_iconst (v := 3) C d_Md_load_52 (by decide) ?_
  refine x_icmp_ne 67 C d_Md_load_53 (by decide) (fun z3 => ?_) (fun z3 => ?_)
  · have hk := x_okt hk z3
    refine x_aload_n 3 C d_Md_load_56 rfl rfl ?_
    refine x_aload_n 3 C d_Md_load_57 rfl rfl ?_
    refine x_get (i := (18, 0)) (v := (.ref (ad (20, 0)))) 1 C m_18 rfl rfl i_Md (by decide) (List.mem_cons_of_mem _ q_792) rfl d_Md_load_58 ?_
    refine x_iload_n 4 C d_Md_load_61 rfl rfl ?_
    refine x_iald (i := (20, 0)) (g := mo 1) 0 C m_20 rfl rfl w1 d_Md_load_62 ?_
    have w4 := hk.1
    have hk := hk.2
    refine x_cv0 (i := (18, 0)) (F := x_F ad cA) (As := [(.int (mo 1 a1.toNatClampNeg))]) (rest := []) C k_Md_anything q_912 (c_Md_anything ok (mo 1 a1.toNatClampNeg) w4) rfl rfl rfl (Nat.le_of_ble_eq_true rfl) (Nat.le_of_ble_eq_true rfl) m_18 rfl rfl rfl rfl rfl (Nat.le_of_ble_eq_true rfl) d_Md_load_63 ⟨Nat.zero_le _, Nat.zero_le _⟩ ?_
    generalize hq5 : s_Md_anything mk mlo mhi (mo 1 a1.toNatClampNeg) = q5
    obtain ⟨mk5, mlo5, mhi5⟩ := q5
    refine x_lets ?_
    dsimp only
    exact x_vret C hr hlk rfl d_Md_load_66
  · have hk := x_okf hk z3
    refine x_aload_n 3 C d_Md_load_67 rfl rfl ?_
    refine x_get (i := (18, 0)) (v := (.ref (ad (24, 0)))) 16 C m_18 rfl rfl i_Md (by decide) (List.mem_cons_of_mem _ q_807) rfl d_Md_load_68 ?_
    refine x_iload_n 1 C d_Md_load_71 rfl rfl ?_
    have w6 := hk.1
    have hk := hk.2
    refine x_iald (i := (24, 0)) (g := mk) 0 C m_24 rfl rfl w6 d_Md_load_72 ?_
    refine x_istore (lv' := [(5, (.int (mk ((6 + (Int64.toInt32 ((mlo ((mo 2 a1.toNatClampNeg).toNatClampNeg)) + (Int32.toInt64 (mo 3 a1.toNatClampNeg))))).toNatClampNeg)))), (4, (.int (6 + (Int64.toInt32 ((mhi ((mo 2 a1.toNatClampNeg).toNatClampNeg)) + (Int32.toInt64 (mo 3 a1.toNatClampNeg))))))), (3, (.int (6 + (Int64.toInt32 ((mlo ((mo 2 a1.toNatClampNeg).toNatClampNeg)) + (Int32.toInt64 (mo 3 a1.toNatClampNeg))))))), (2, (.int (mo 2 a1.toNatClampNeg))), (0, (.ref (ad (18, 0)))), (1, (.int a1))]) C d_Md_load_73 (by decide) rfl ?_
    refine x_aload_n 4 C d_Md_load_75 rfl rfl ?_
    refine x_get (i := (18, 0)) (v := (.ref (ad (25, 0)))) 17 C m_18 rfl rfl i_Md (by decide) (List.mem_cons_of_mem _ q_808) rfl d_Md_load_76 ?_
    refine x_iload_n 2 C d_Md_load_79 rfl rfl ?_
    refine x_lald (i := (25, 0)) (g := mlo) 1 C m_25 rfl rfl w6 d_Md_load_80 ?_
    refine x_lstore (lv' := [(6, (.long (mlo ((6 + (Int64.toInt32 ((mlo ((mo 2 a1.toNatClampNeg).toNatClampNeg)) + (Int32.toInt64 (mo 3 a1.toNatClampNeg))))).toNatClampNeg)))), (5, (.int (mk ((6 + (Int64.toInt32 ((mlo ((mo 2 a1.toNatClampNeg).toNatClampNeg)) + (Int32.toInt64 (mo 3 a1.toNatClampNeg))))).toNatClampNeg)))), (4, (.int (6 + (Int64.toInt32 ((mhi ((mo 2 a1.toNatClampNeg).toNatClampNeg)) + (Int32.toInt64 (mo 3 a1.toNatClampNeg))))))), (3, (.int (6 + (Int64.toInt32 ((mlo ((mo 2 a1.toNatClampNeg).toNatClampNeg)) + (Int32.toInt64 (mo 3 a1.toNatClampNeg))))))), (2, (.int (mo 2 a1.toNatClampNeg))), (0, (.ref (ad (18, 0)))), (1, (.int a1))]) C d_Md_load_81 (by decide) rfl ?_
    refine x_aload_n 5 C d_Md_load_83 rfl rfl ?_
    refine x_get (i := (18, 0)) (v := (.ref (ad (26, 0)))) 18 C m_18 rfl rfl i_Md (by decide) (List.mem_cons_of_mem _ q_809) rfl d_Md_load_84 ?_
    refine x_iload_n 3 C d_Md_load_87 rfl rfl ?_
    refine x_lald (i := (26, 0)) (g := mhi) 1 C m_26 rfl rfl w6 d_Md_load_88 ?_
    refine x_lstore (lv' := [(8, (.long (mhi ((6 + (Int64.toInt32 ((mlo ((mo 2 a1.toNatClampNeg).toNatClampNeg)) + (Int32.toInt64 (mo 3 a1.toNatClampNeg))))).toNatClampNeg)))), (6, (.long (mlo ((6 + (Int64.toInt32 ((mlo ((mo 2 a1.toNatClampNeg).toNatClampNeg)) + (Int32.toInt64 (mo 3 a1.toNatClampNeg))))).toNatClampNeg)))), (5, (.int (mk ((6 + (Int64.toInt32 ((mlo ((mo 2 a1.toNatClampNeg).toNatClampNeg)) + (Int32.toInt64 (mo 3 a1.toNatClampNeg))))).toNatClampNeg)))), (4, (.int (6 + (Int64.toInt32 ((mhi ((mo 2 a1.toNatClampNeg).toNatClampNeg)) + (Int32.toInt64 (mo 3 a1.toNatClampNeg))))))), (3, (.int (6 + (Int64.toInt32 ((mlo ((mo 2 a1.toNatClampNeg).toNatClampNeg)) + (Int32.toInt64 (mo 3 a1.toNatClampNeg))))))), (2, (.int (mo 2 a1.toNatClampNeg))), (0, (.ref (ad (18, 0)))), (1, (.int a1))]) C d_Md_load_89 (by decide) rfl ?_
    refine x_iload_n 4 C d_Md_load_91 rfl rfl ?_
    refine x_iconst (v := 1) C d_Md_load_92 (by decide) ?_
    refine x_iadd C d_Md_load_93 ?_
    refine x_istore (lv' := [(10, (.int ((6 + (Int64.toInt32 ((mlo ((mo 2 a1.toNatClampNeg).toNatClampNeg)) + (Int32.toInt64 (mo 3 a1.toNatClampNeg))))) + 1))), (8, (.long (mhi ((6 + (Int64.toInt32 ((mlo ((mo 2 a1.toNatClampNeg).toNatClampNeg)) + (Int32.toInt64 (mo 3 a1.toNatClampNeg))))).toNatClampNeg)))), (6, (.long (mlo ((6 + (Int64.toInt32 ((mlo ((mo 2 a1.toNatClampNeg).toNatClampNeg)) + (Int32.toInt64 (mo 3 a1.toNatClampNeg))))).toNatClampNeg)))), (5, (.int (mk ((6 + (Int64.toInt32 ((mlo ((mo 2 a1.toNatClampNeg).toNatClampNeg)) + (Int32.toInt64 (mo 3 a1.toNatClampNeg))))).toNatClampNeg)))), (4, (.int (6 + (Int64.toInt32 ((mhi ((mo 2 a1.toNatClampNeg).toNatClampNeg)) + (Int32.toInt64 (mo 3 a1.toNatClampNeg))))))), (3, (.int (6 + (Int64.toInt32 ((mlo ((mo 2 a1.toNatClampNeg).toNatClampNeg)) + (Int32.toInt64 (mo 3 a1.toNatClampNeg))))))), (2, (.int (mo 2 a1.toNatClampNeg))), (0, (.ref (ad (18, 0)))), (1, (.int a1))]) C d_Md_load_94 (by decide) rfl ?_
    refine x_loc (lv' := [(0, (.ref (ad (18, 0)))), (1, (.int a1)), (4, (.int (6 + (Int64.toInt32 ((mhi ((mo 2 a1.toNatClampNeg).toNatClampNeg)) + (Int32.toInt64 (mo 3 a1.toNatClampNeg))))))), (5, (.int (mk ((6 + (Int64.toInt32 ((mlo ((mo 2 a1.toNatClampNeg).toNatClampNeg)) + (Int32.toInt64 (mo 3 a1.toNatClampNeg))))).toNatClampNeg)))), (6, (.long (mlo ((6 + (Int64.toInt32 ((mlo ((mo 2 a1.toNatClampNeg).toNatClampNeg)) + (Int32.toInt64 (mo 3 a1.toNatClampNeg))))).toNatClampNeg)))), (8, (.long (mhi ((6 + (Int64.toInt32 ((mlo ((mo 2 a1.toNatClampNeg).toNatClampNeg)) + (Int32.toInt64 (mo 3 a1.toNatClampNeg))))).toNatClampNeg)))), (10, (.int ((6 + (Int64.toInt32 ((mlo ((mo 2 a1.toNatClampNeg).toNatClampNeg)) + (Int32.toInt64 (mo 3 a1.toNatClampNeg))))) + 1)))]) [7, 8, 4, 3, 2, 1, 0] rfl ?_
    exact cl_Md_load_96 ok C hr hlk a1 8 mk mlo mhi (6 + (Int64.toInt32 ((mhi ((mo 2 a1.toNatClampNeg).toNatClampNeg)) + (Int32.toInt64 (mo 3 a1.toNatClampNeg))))) (mk ((6 + (Int64.toInt32 ((mlo ((mo 2 a1.toNatClampNeg).toNatClampNeg)) + (Int32.toInt64 (mo 3 a1.toNatClampNeg))))).toNatClampNeg)) (mlo ((6 + (Int64.toInt32 ((mlo ((mo 2 a1.toNatClampNeg).toNatClampNeg)) + (Int32.toInt64 (mo 3 a1.toNatClampNeg))))).toNatClampNeg)) (mhi ((6 + (Int64.toInt32 ((mlo ((mo 2 a1.toNatClampNeg).toNatClampNeg)) + (Int32.toInt64 (mo 3 a1.toNatClampNeg))))).toNatClampNeg)) ((6 + (Int64.toInt32 ((mlo ((mo 2 a1.toNatClampNeg).toNatClampNeg)) + (Int32.toInt64 (mo 3 a1.toNatClampNeg))))) + 1) hk
def bk_Md_store_139 (K : (Nat → Int32) → (Nat → Int64) → (Nat → Int64) → Int32 → Int32 → Int32 → Int32 → (Nat → Int32) × (Nat → Int64) × (Nat → Int64)) (mk : Nat → Int32) (mlo : Nat → Int64) (mhi : Nat → Int64) (a1 : Int32) (x3 : Int32) (x4 : Int32) (x5 : Int32) (x6 : Int32) : (Nat → Int32) × (Nat → Int64) × (Nat → Int64) :=
  (if (mhi x5.toNatClampNeg) ≤ (mhi x6.toNatClampNeg) then K mk mlo mhi x3 x4 x5 (x6 + 1) else K mk mlo (vp_updL mhi x6.toNatClampNeg (mhi x5.toNatClampNeg)) x3 x4 x5 (x6 + 1))
def bk_ok_Md_store_139 (KO : (Nat → Int32) → (Nat → Int64) → (Nat → Int64) → Int32 → Int32 → Int32 → Int32 → Prop) (mk : Nat → Int32) (mlo : Nat → Int64) (mhi : Nat → Int64) (a1 : Int32) (x3 : Int32) (x4 : Int32) (x5 : Int32) (x6 : Int32) : Prop :=
  (vp_in x5 12 ∧ (vp_in x6 12 ∧ (if (mhi x5.toNatClampNeg) ≤ (mhi x6.toNatClampNeg) then KO mk mlo mhi x3 x4 x5 (x6 + 1) else KO mk mlo (vp_updL mhi x6.toNatClampNeg (mhi x5.toNatClampNeg)) x3 x4 x5 (x6 + 1))))
set_option maxHeartbeats 4000000 in
set_option maxRecDepth 100000 in
theorem cb_Md_store_139 {l : Launch} {D : va_G} {cA : Nat → ClassId} {ad : x_I → Nat} (ok : x_ok (x_k D cA ad)) {stp : Nat → Nat → Int32} {psz : Int32} {gk : Nat → Nat → Int32} {gl : Nat → Nat → Int64} {gh : Nat → Nat → Int64} {opn : Nat → Int32} {cki : Nat → Int32} {ckl : Nat → Int64} {mp : Nat → Nat → Int64} {rk : Nat → Int32} {rv : Nat → Int64} {ri : Nat → Int32} {chk : Int32} {mo : Nat → Nat → Int32} {mi : Nat → Int32} {ml : Nat → Int64} {pk : Nat → Int32} {ps : Nat → Int32} {pl : Nat → Int64} {ph : Nat → Int64} {mm : Nat → Int64} {out : Nat → Int64} {p : Program} {e : Env} {s : State} {m : MethodId} {args : Array Value} {below : List Frame} {meth : Method} {c : Code} (C : x_C p s m args c b_Md_store 7 R_Md (Cond.code y_Md_store b_Md_store 7 (Option.none : Option Jvm.ClassFile.FieldType) :: x_Wd) (x_k D cA ad)) (hr : meth.sig.returnType = (Option.none : Option Jvm.ClassFile.FieldType)) (hlk : meth.locks = false) (a1 : Int32) (K : (Nat → Int32) → (Nat → Int64) → (Nat → Int64) → Int32 → Int32 → Int32 → Int32 → (Nat → Int32) × (Nat → Int64) × (Nat → Int64)) (KO : (Nat → Int32) → (Nat → Int64) → (Nat → Int64) → Int32 → Int32 → Int32 → Int32 → Prop) (ih : ∀ (mk : Nat → Int32) (mlo : Nat → Int64) (mhi : Nat → Int64) (x3 : Int32) (x4 : Int32) (x5 : Int32) (x6 : Int32), KO mk mlo mhi x3 x4 x5 x6 → x_V p l e { frames := 2, cells := 0, slots := 0, locals := 48 } s m args below meth c (x_k D cA ad) 7 0 0 (x_E below (x_k D cA ad) args s 0 0 (x_F ad cA) (fun q : (Nat → Int32) × (Nat → Int64) × (Nat → Int64) => ((none, ((stp, psz, gk, gl, gh, opn, cki, ckl, mp, rk, rv, ri, chk), (mo, mi, ml, q.1, q.2.1, q.2.2, pk, ps, pl, ph, mm), out)) : Option Value × x_S)) (K mk mlo mhi x3 x4 x5 x6)) (x_F ad cA ((stp, psz, gk, gl, gh, opn, cki, ckl, mp, rk, rv, ri, chk), (mo, mi, ml, mk, mlo, mhi, pk, ps, pl, ph, mm), out)) 81 [(0, (.ref (ad (18, 0)))), (3, (.int x3)), (4, (.int x4)), (5, (.int x5)), (6, (.int x6))] []) (mk : Nat → Int32) (mlo : Nat → Int64) (mhi : Nat → Int64) (x3 : Int32) (x4 : Int32) (x5 : Int32) (x6 : Int32) (hk : bk_ok_Md_store_139 KO mk mlo mhi a1 x3 x4 x5 x6) : x_V p l e { frames := 2, cells := 0, slots := 0, locals := 48 } s m args below meth c (x_k D cA ad) 7 0 0 (x_E below (x_k D cA ad) args s 0 0 (x_F ad cA) (fun q : (Nat → Int32) × (Nat → Int64) × (Nat → Int64) => ((none, ((stp, psz, gk, gl, gh, opn, cki, ckl, mp, rk, rv, ri, chk), (mo, mi, ml, q.1, q.2.1, q.2.2, pk, ps, pl, ph, mm), out)) : Option Value × x_S)) (bk_Md_store_139 K mk mlo mhi a1 x3 x4 x5 x6)) (x_F ad cA ((stp, psz, gk, gl, gh, opn, cki, ckl, mp, rk, rv, ri, chk), (mo, mi, ml, mk, mlo, mhi, pk, ps, pl, ph, mm), out)) 139 [(0, (.ref (ad (18, 0)))), (3, (.int x3)), (4, (.int x4)), (5, (.int x5)), (6, (.int x6))] [] := by
  unfold bk_Md_store_139
  unfold bk_ok_Md_store_139 at hk
  refine x_aload_n 0 C d_Md_store_139 rfl rfl ?_
  refine x_get (i := (18, 0)) (v := (.ref (ad (26, 0)))) 18 C m_18 rfl rfl i_Md (by decide) (List.mem_cons_of_mem _ q_809) rfl d_Md_store_140 ?_
  refine x_iload 3 C d_Md_store_143 rfl ?_
  have w13 := hk.1
  have hk := hk.2
  refine x_lald (i := (26, 0)) (g := mhi) 1 C m_26 rfl rfl w13 d_Md_store_145 ?_
  refine x_aload_n 0 C d_Md_store_146 rfl rfl ?_
  refine x_get (i := (18, 0)) (v := (.ref (ad (26, 0)))) 18 C m_18 rfl rfl i_Md (by decide) (List.mem_cons_of_mem _ q_809) rfl d_Md_store_147 ?_
  refine x_iload 4 C d_Md_store_150 rfl ?_
  have w14 := hk.1
  have hk := hk.2
  refine x_lald (i := (26, 0)) (g := mhi) 1 C m_26 rfl rfl w14 d_Md_store_152 ?_
  refine x_lcmp_le 171 C d_Md_store_153 d_Md_store_154 (by decide) (fun z15 => ?_) (fun z15 => ?_)
  · have hk := x_okt hk z15
    refine x_iinc (lv' := [(6, (.int (x6 + 1))), (0, (.ref (ad (18, 0)))), (3, (.int x3)), (4, (.int x4)), (5, (.int x5))]) 4 C d_Md_store_171 rfl rfl (by decide) rfl ?_
    refine x_goto 81 C d_Md_store_174 (by decide) ?_
    refine x_loc (lv' := [(0, (.ref (ad (18, 0)))), (3, (.int x3)), (4, (.int x4)), (5, (.int x5)), (6, (.int (x6 + 1)))]) [1, 2, 3, 4, 0] rfl ?_
    exact ih mk mlo mhi x3 x4 x5 (x6 + 1) hk
  · have hk := x_okf hk z15
    refine x_aload_n 0 C d_Md_store_157 rfl rfl ?_
    refine x_get (i := (18, 0)) (v := (.ref (ad (26, 0)))) 18 C m_18 rfl rfl i_Md (by decide) (List.mem_cons_of_mem _ q_809) rfl d_Md_store_158 ?_
    refine x_iload 4 C d_Md_store_161 rfl ?_
    refine x_aload_n 0 C d_Md_store_163 rfl rfl ?_
    refine x_get (i := (18, 0)) (v := (.ref (ad (26, 0)))) 18 C m_18 rfl rfl i_Md (by decide) (List.mem_cons_of_mem _ q_809) rfl d_Md_store_164 ?_
    refine x_iload 3 C d_Md_store_167 rfl ?_
    refine x_lald (i := (26, 0)) (g := mhi) 1 C m_26 rfl rfl w13 d_Md_store_169 ?_
    refine x_last (i := (26, 0)) (g := mhi) (f' := x_F ad cA ((stp, psz, gk, gl, gh, opn, cki, ckl, mp, rk, rv, ri, chk), (mo, mi, ml, mk, mlo, vp_updL mhi x6.toNatClampNeg (mhi x5.toNatClampNeg), pk, ps, pl, ph, mm), out)) 1 C m_26 rfl rfl w14 d_Md_store_170 e_mhi ?_
    refine x_iinc (lv' := [(6, (.int (x6 + 1))), (0, (.ref (ad (18, 0)))), (3, (.int x3)), (4, (.int x4)), (5, (.int x5))]) 4 C d_Md_store_171 rfl rfl (by decide) rfl ?_
    refine x_goto 81 C d_Md_store_174 (by decide) ?_
    refine x_loc (lv' := [(0, (.ref (ad (18, 0)))), (3, (.int x3)), (4, (.int x4)), (5, (.int x5)), (6, (.int (x6 + 1)))]) [1, 2, 3, 4, 0] rfl ?_
    exact ih mk mlo (vp_updL mhi x6.toNatClampNeg (mhi x5.toNatClampNeg)) x3 x4 x5 (x6 + 1) hk
def lp_Md_store_81 (n : Nat) (mk : Nat → Int32) (mlo : Nat → Int64) (mhi : Nat → Int64) (a1 : Int32) (x3 : Int32) (x4 : Int32) (x5 : Int32) (x6 : Int32) : (Nat → Int32) × (Nat → Int64) × (Nat → Int64) := match n with
  | 0 => (mk, mlo, mhi)
  | n + 1 => (if x4 < x6 then (mk, mlo, mhi) else (if x4 ≤ x3 then (mk, mlo, mhi) else (if (mk x6.toNatClampNeg) = 0 then lp_Md_store_81 n mk mlo mhi a1 x3 x4 x5 (x6 + 1) else (if (mlo x6.toNatClampNeg) ≤ (mlo x5.toNatClampNeg) then bk_Md_store_139 (fun mk mlo mhi x3 x4 x5 x6 => lp_Md_store_81 n mk mlo mhi a1 x3 x4 x5 x6) mk mlo mhi a1 x3 x4 x5 x6 else bk_Md_store_139 (fun mk mlo mhi x3 x4 x5 x6 => lp_Md_store_81 n mk mlo mhi a1 x3 x4 x5 x6) mk (vp_updL mlo x6.toNatClampNeg (mlo x5.toNatClampNeg)) mhi a1 x3 x4 x5 x6))))
def lp_ok_Md_store_81 (n : Nat) (mk : Nat → Int32) (mlo : Nat → Int64) (mhi : Nat → Int64) (a1 : Int32) (x3 : Int32) (x4 : Int32) (x5 : Int32) (x6 : Int32) : Prop := match n with
  | 0 => False
  | n + 1 => (if x4 < x6 then True else (if x4 ≤ x3 then True else (vp_in x6 12 ∧ (if (mk x6.toNatClampNeg) = 0 then lp_ok_Md_store_81 n mk mlo mhi a1 x3 x4 x5 (x6 + 1) else (vp_in x5 12 ∧ (if (mlo x6.toNatClampNeg) ≤ (mlo x5.toNatClampNeg) then bk_ok_Md_store_139 (fun mk mlo mhi x3 x4 x5 x6 => lp_ok_Md_store_81 n mk mlo mhi a1 x3 x4 x5 x6) mk mlo mhi a1 x3 x4 x5 x6 else bk_ok_Md_store_139 (fun mk mlo mhi x3 x4 x5 x6 => lp_ok_Md_store_81 n mk mlo mhi a1 x3 x4 x5 x6) mk (vp_updL mlo x6.toNatClampNeg (mlo x5.toNatClampNeg)) mhi a1 x3 x4 x5 x6))))))
set_option maxHeartbeats 4000000 in
set_option maxRecDepth 100000 in
theorem cl_Md_store_81 {l : Launch} {D : va_G} {cA : Nat → ClassId} {ad : x_I → Nat} (ok : x_ok (x_k D cA ad)) {stp : Nat → Nat → Int32} {psz : Int32} {gk : Nat → Nat → Int32} {gl : Nat → Nat → Int64} {gh : Nat → Nat → Int64} {opn : Nat → Int32} {cki : Nat → Int32} {ckl : Nat → Int64} {mp : Nat → Nat → Int64} {rk : Nat → Int32} {rv : Nat → Int64} {ri : Nat → Int32} {chk : Int32} {mo : Nat → Nat → Int32} {mi : Nat → Int32} {ml : Nat → Int64} {pk : Nat → Int32} {ps : Nat → Int32} {pl : Nat → Int64} {ph : Nat → Int64} {mm : Nat → Int64} {out : Nat → Int64} {p : Program} {e : Env} {s : State} {m : MethodId} {args : Array Value} {below : List Frame} {meth : Method} {c : Code} (C : x_C p s m args c b_Md_store 7 R_Md (Cond.code y_Md_store b_Md_store 7 (Option.none : Option Jvm.ClassFile.FieldType) :: x_Wd) (x_k D cA ad)) (hr : meth.sig.returnType = (Option.none : Option Jvm.ClassFile.FieldType)) (hlk : meth.locks = false) (a1 : Int32) : ∀ (n : Nat) (mk : Nat → Int32) (mlo : Nat → Int64) (mhi : Nat → Int64) (x3 : Int32) (x4 : Int32) (x5 : Int32) (x6 : Int32) (hk : lp_ok_Md_store_81 n mk mlo mhi a1 x3 x4 x5 x6), x_V p l e { frames := 2, cells := 0, slots := 0, locals := 48 } s m args below meth c (x_k D cA ad) 7 0 0 (x_E below (x_k D cA ad) args s 0 0 (x_F ad cA) (fun q : (Nat → Int32) × (Nat → Int64) × (Nat → Int64) => ((none, ((stp, psz, gk, gl, gh, opn, cki, ckl, mp, rk, rv, ri, chk), (mo, mi, ml, q.1, q.2.1, q.2.2, pk, ps, pl, ph, mm), out)) : Option Value × x_S)) (lp_Md_store_81 n mk mlo mhi a1 x3 x4 x5 x6)) (x_F ad cA ((stp, psz, gk, gl, gh, opn, cki, ckl, mp, rk, rv, ri, chk), (mo, mi, ml, mk, mlo, mhi, pk, ps, pl, ph, mm), out)) 81 [(0, (.ref (ad (18, 0)))), (3, (.int x3)), (4, (.int x4)), (5, (.int x5)), (6, (.int x6))] [] := by
  intro n
  induction n with
  | zero => intro mk mlo mhi x3 x4 x5 x6 hk; exact False.elim hk
  | succ n ih =>
    intro mk mlo mhi x3 x4 x5 x6 hk
    rw [lp_Md_store_81]
    rw [lp_ok_Md_store_81] at hk
    refine x_iload 4 C d_Md_store_81 rfl ?_
    refine x_iload 2 C d_Md_store_83 rfl ?_
    refine x_icmp_gt 177 C d_Md_store_85 (by decide) (fun z7 => ?_) (fun z7 => ?_)
    · have hk := x_okt hk z7
      exact x_vret C hr hlk rfl d_Md_store_177
    · have hk := x_okf hk z7
      refine x_iload_n 1 C d_Md_store_88 rfl rfl ?_
      refine x_iload 2 C d_Md_store_89 rfl ?_
      refine x_icmp_ge 177 C d_Md_store_91 (by decide) (fun z8 => ?_) (fun z8 => ?_)
      · have hk := x_okt hk z8
        exact x_vret C hr hlk rfl d_Md_store_177
      · have hk := x_okf hk z8
        refine x_aload_n 0 C d_Md_store_94 rfl rfl ?_
        refine x_get (i := (18, 0)) (v := (.ref (ad (24, 0)))) 16 C m_18 rfl rfl i_Md (by decide) (List.mem_cons_of_mem _ q_807) rfl d_Md_store_95 ?_
        refine x_iload 4 C d_Md_store_98 rfl ?_
        have w9 := hk.1
        have hk := hk.2
        refine x_iald (i := (24, 0)) (g := mk) 0 C m_24 rfl rfl w9 d_Md_store_100 ?_
        refine x_if_ne 107 C d_Md_store_101 (by decide) (fun z10 => ?_) (fun z10 => ?_)
        · have hk := x_okt hk z10
          refine x_goto 171 C d_Md_store_104 (by decide) ?_
          refine x_iinc (lv' := [(6, (.int (x6 + 1))), (0, (.ref (ad (18, 0)))), (3, (.int x3)), (4, (.int x4)), (5, (.int x5))]) 4 C d_Md_store_171 rfl rfl (by decide) rfl ?_
          refine x_goto 81 C d_Md_store_174 (by decide) ?_
          refine x_loc (lv' := [(0, (.ref (ad (18, 0)))), (3, (.int x3)), (4, (.int x4)), (5, (.int x5)), (6, (.int (x6 + 1)))]) [1, 2, 3, 4, 0] rfl ?_
          exact ih mk mlo mhi x3 x4 x5 (x6 + 1) hk
        · have hk := x_okf hk z10
          refine x_aload_n 0 C d_Md_store_107 rfl rfl ?_
          refine x_get (i := (18, 0)) (v := (.ref (ad (25, 0)))) 17 C m_18 rfl rfl i_Md (by decide) (List.mem_cons_of_mem _ q_808) rfl d_Md_store_108 ?_
          refine x_iload 3 C d_Md_store_111 rfl ?_
          have w11 := hk.1
          have hk := hk.2
          refine x_lald (i := (25, 0)) (g := mlo) 1 C m_25 rfl rfl w11 d_Md_store_113 ?_
          refine x_aload_n 0 C d_Md_store_114 rfl rfl ?_
          refine x_get (i := (18, 0)) (v := (.ref (ad (25, 0)))) 17 C m_18 rfl rfl i_Md (by decide) (List.mem_cons_of_mem _ q_808) rfl d_Md_store_115 ?_
          refine x_iload 4 C d_Md_store_118 rfl ?_
          refine x_lald (i := (25, 0)) (g := mlo) 1 C m_25 rfl rfl w9 d_Md_store_120 ?_
          refine x_lcmp_ge 139 C d_Md_store_121 d_Md_store_122 (by decide) (fun z12 => ?_) (fun z12 => ?_)
          · have hk := x_okt hk z12
            refine x_loc (lv' := [(0, (.ref (ad (18, 0)))), (3, (.int x3)), (4, (.int x4)), (5, (.int x5)), (6, (.int x6))]) [0, 1, 2, 3, 4] rfl ?_
            exact cb_Md_store_139 ok C hr hlk a1 (fun mk mlo mhi x3 x4 x5 x6 => lp_Md_store_81 n mk mlo mhi a1 x3 x4 x5 x6) (fun mk mlo mhi x3 x4 x5 x6 => lp_ok_Md_store_81 n mk mlo mhi a1 x3 x4 x5 x6) ih  mk mlo mhi x3 x4 x5 x6 hk
          · have hk := x_okf hk z12
            refine x_aload_n 0 C d_Md_store_125 rfl rfl ?_
            refine x_get (i := (18, 0)) (v := (.ref (ad (25, 0)))) 17 C m_18 rfl rfl i_Md (by decide) (List.mem_cons_of_mem _ q_808) rfl d_Md_store_126 ?_
            refine x_iload 4 C d_Md_store_129 rfl ?_
            refine x_aload_n 0 C d_Md_store_131 rfl rfl ?_
            refine x_get (i := (18, 0)) (v := (.ref (ad (25, 0)))) 17 C m_18 rfl rfl i_Md (by decide) (List.mem_cons_of_mem _ q_808) rfl d_Md_store_132 ?_
            refine x_iload 3 C d_Md_store_135 rfl ?_
            refine x_lald (i := (25, 0)) (g := mlo) 1 C m_25 rfl rfl w11 d_Md_store_137 ?_
            refine x_last (i := (25, 0)) (g := mlo) (f' := x_F ad cA ((stp, psz, gk, gl, gh, opn, cki, ckl, mp, rk, rv, ri, chk), (mo, mi, ml, mk, vp_updL mlo x6.toNatClampNeg (mlo x5.toNatClampNeg), mhi, pk, ps, pl, ph, mm), out)) 1 C m_25 rfl rfl w9 d_Md_store_138 e_mlo ?_
            refine x_loc (lv' := [(0, (.ref (ad (18, 0)))), (3, (.int x3)), (4, (.int x4)), (5, (.int x5)), (6, (.int x6))]) [0, 1, 2, 3, 4] rfl ?_
            exact cb_Md_store_139 ok C hr hlk a1 (fun mk mlo mhi x3 x4 x5 x6 => lp_Md_store_81 n mk mlo mhi a1 x3 x4 x5 x6) (fun mk mlo mhi x3 x4 x5 x6 => lp_ok_Md_store_81 n mk mlo mhi a1 x3 x4 x5 x6) ih  mk (vp_updL mlo x6.toNatClampNeg (mlo x5.toNatClampNeg)) mhi x3 x4 x5 x6 hk
def bk_Md_store_78 (mk : Nat → Int32) (mlo : Nat → Int64) (mhi : Nat → Int64) (a1 : Int32) (x3 : Int32) (x4 : Int32) (x5 : Int32) : (Nat → Int32) × (Nat → Int64) × (Nat → Int64) :=
  lp_Md_store_81 8 mk mlo mhi a1 x3 x4 x5 x3
def bk_ok_Md_store_78 (mk : Nat → Int32) (mlo : Nat → Int64) (mhi : Nat → Int64) (a1 : Int32) (x3 : Int32) (x4 : Int32) (x5 : Int32) : Prop :=
  lp_ok_Md_store_81 8 mk mlo mhi a1 x3 x4 x5 x3
set_option maxHeartbeats 4000000 in
set_option maxRecDepth 100000 in
theorem cb_Md_store_78 {l : Launch} {D : va_G} {cA : Nat → ClassId} {ad : x_I → Nat} (ok : x_ok (x_k D cA ad)) {stp : Nat → Nat → Int32} {psz : Int32} {gk : Nat → Nat → Int32} {gl : Nat → Nat → Int64} {gh : Nat → Nat → Int64} {opn : Nat → Int32} {cki : Nat → Int32} {ckl : Nat → Int64} {mp : Nat → Nat → Int64} {rk : Nat → Int32} {rv : Nat → Int64} {ri : Nat → Int32} {chk : Int32} {mo : Nat → Nat → Int32} {mi : Nat → Int32} {ml : Nat → Int64} {pk : Nat → Int32} {ps : Nat → Int32} {pl : Nat → Int64} {ph : Nat → Int64} {mm : Nat → Int64} {out : Nat → Int64} {p : Program} {e : Env} {s : State} {m : MethodId} {args : Array Value} {below : List Frame} {meth : Method} {c : Code} (C : x_C p s m args c b_Md_store 7 R_Md (Cond.code y_Md_store b_Md_store 7 (Option.none : Option Jvm.ClassFile.FieldType) :: x_Wd) (x_k D cA ad)) (hr : meth.sig.returnType = (Option.none : Option Jvm.ClassFile.FieldType)) (hlk : meth.locks = false) (a1 : Int32) (mk : Nat → Int32) (mlo : Nat → Int64) (mhi : Nat → Int64) (x3 : Int32) (x4 : Int32) (x5 : Int32) (hk : bk_ok_Md_store_78 mk mlo mhi a1 x3 x4 x5) : x_V p l e { frames := 2, cells := 0, slots := 0, locals := 48 } s m args below meth c (x_k D cA ad) 7 0 0 (x_E below (x_k D cA ad) args s 0 0 (x_F ad cA) (fun q : (Nat → Int32) × (Nat → Int64) × (Nat → Int64) => ((none, ((stp, psz, gk, gl, gh, opn, cki, ckl, mp, rk, rv, ri, chk), (mo, mi, ml, q.1, q.2.1, q.2.2, pk, ps, pl, ph, mm), out)) : Option Value × x_S)) (bk_Md_store_78 mk mlo mhi a1 x3 x4 x5)) (x_F ad cA ((stp, psz, gk, gl, gh, opn, cki, ckl, mp, rk, rv, ri, chk), (mo, mi, ml, mk, mlo, mhi, pk, ps, pl, ph, mm), out)) 78 [(0, (.ref (ad (18, 0)))), (3, (.int x3)), (4, (.int x4)), (5, (.int x5))] [] := by
  unfold bk_Md_store_78
  unfold bk_ok_Md_store_78 at hk
  refine x_iload_n 1 C d_Md_store_78 rfl rfl ?_
  refine x_istore (lv' := [(6, (.int x3)), (0, (.ref (ad (18, 0)))), (3, (.int x3)), (4, (.int x4)), (5, (.int x5))]) C d_Md_store_79 (by decide) rfl ?_
  refine x_loc (lv' := [(0, (.ref (ad (18, 0)))), (3, (.int x3)), (4, (.int x4)), (5, (.int x5)), (6, (.int x3))]) [1, 2, 3, 4, 0] rfl ?_
  exact cl_Md_store_81 ok C hr hlk a1 8 mk mlo mhi x3 x4 x5 x3 hk
def s_Md_store (mo : Nat → Nat → Int32) (mk : Nat → Int32) (mlo : Nat → Int64) (mhi : Nat → Int64) (a1 : Int32) : (Nat → Int32) × (Nat → Int64) × (Nat → Int64) :=
  (if (mk ((mo 1 a1.toNatClampNeg).toNatClampNeg)) = 3 then (mk, mlo, mhi) else (if (6 + (Int64.toInt32 ((mlo ((mo 1 a1.toNatClampNeg).toNatClampNeg)) + (Int32.toInt64 (mo 3 a1.toNatClampNeg))))) = (6 + (Int64.toInt32 ((mhi ((mo 1 a1.toNatClampNeg).toNatClampNeg)) + (Int32.toInt64 (mo 3 a1.toNatClampNeg))))) then (x_let (s_Md_copy mk mlo mhi (mo 2 a1.toNatClampNeg) (6 + (Int64.toInt32 ((mlo ((mo 1 a1.toNatClampNeg).toNatClampNeg)) + (Int32.toInt64 (mo 3 a1.toNatClampNeg)))))) fun (mk6, mlo6, mhi6) => bk_Md_store_78 mk6 mlo6 mhi6 a1 (6 + (Int64.toInt32 ((mlo ((mo 1 a1.toNatClampNeg).toNatClampNeg)) + (Int32.toInt64 (mo 3 a1.toNatClampNeg))))) (6 + (Int64.toInt32 ((mhi ((mo 1 a1.toNatClampNeg).toNatClampNeg)) + (Int32.toInt64 (mo 3 a1.toNatClampNeg))))) (mo 2 a1.toNatClampNeg)) else bk_Md_store_78 mk mlo mhi a1 (6 + (Int64.toInt32 ((mlo ((mo 1 a1.toNatClampNeg).toNatClampNeg)) + (Int32.toInt64 (mo 3 a1.toNatClampNeg))))) (6 + (Int64.toInt32 ((mhi ((mo 1 a1.toNatClampNeg).toNatClampNeg)) + (Int32.toInt64 (mo 3 a1.toNatClampNeg))))) (mo 2 a1.toNatClampNeg)))
def k_ok_Md_store (mo : Nat → Nat → Int32) (mk : Nat → Int32) (mlo : Nat → Int64) (mhi : Nat → Int64) (a1 : Int32) : Prop :=
  (vp_in a1 24 ∧ (vp_in (mo 1 a1.toNatClampNeg) 12 ∧ (if (mk ((mo 1 a1.toNatClampNeg).toNatClampNeg)) = 3 then True else (if (6 + (Int64.toInt32 ((mlo ((mo 1 a1.toNatClampNeg).toNatClampNeg)) + (Int32.toInt64 (mo 3 a1.toNatClampNeg))))) = (6 + (Int64.toInt32 ((mhi ((mo 1 a1.toNatClampNeg).toNatClampNeg)) + (Int32.toInt64 (mo 3 a1.toNatClampNeg))))) then (k_ok_Md_copy mk mlo mhi (mo 2 a1.toNatClampNeg) (6 + (Int64.toInt32 ((mlo ((mo 1 a1.toNatClampNeg).toNatClampNeg)) + (Int32.toInt64 (mo 3 a1.toNatClampNeg))))) ∧ (x_let (s_Md_copy mk mlo mhi (mo 2 a1.toNatClampNeg) (6 + (Int64.toInt32 ((mlo ((mo 1 a1.toNatClampNeg).toNatClampNeg)) + (Int32.toInt64 (mo 3 a1.toNatClampNeg)))))) fun (mk6, mlo6, mhi6) => bk_ok_Md_store_78 mk6 mlo6 mhi6 a1 (6 + (Int64.toInt32 ((mlo ((mo 1 a1.toNatClampNeg).toNatClampNeg)) + (Int32.toInt64 (mo 3 a1.toNatClampNeg))))) (6 + (Int64.toInt32 ((mhi ((mo 1 a1.toNatClampNeg).toNatClampNeg)) + (Int32.toInt64 (mo 3 a1.toNatClampNeg))))) (mo 2 a1.toNatClampNeg))) else bk_ok_Md_store_78 mk mlo mhi a1 (6 + (Int64.toInt32 ((mlo ((mo 1 a1.toNatClampNeg).toNatClampNeg)) + (Int32.toInt64 (mo 3 a1.toNatClampNeg))))) (6 + (Int64.toInt32 ((mhi ((mo 1 a1.toNatClampNeg).toNatClampNeg)) + (Int32.toInt64 (mo 3 a1.toNatClampNeg))))) (mo 2 a1.toNatClampNeg)))))
set_option maxHeartbeats 4000000 in
set_option maxRecDepth 100000 in
theorem c_Md_store {l : Launch} {D : va_G} {cA : Nat → ClassId} {ad : x_I → Nat} (ok : x_ok (x_k D cA ad)) {stp : Nat → Nat → Int32} {psz : Int32} {gk : Nat → Nat → Int32} {gl : Nat → Nat → Int64} {gh : Nat → Nat → Int64} {opn : Nat → Int32} {cki : Nat → Int32} {ckl : Nat → Int64} {mp : Nat → Nat → Int64} {rk : Nat → Int32} {rv : Nat → Int64} {ri : Nat → Int32} {chk : Int32} {mo : Nat → Nat → Int32} {mi : Nat → Int32} {ml : Nat → Int64} {mk : Nat → Int32} {mlo : Nat → Int64} {mhi : Nat → Int64} {pk : Nat → Int32} {ps : Nat → Int32} {pl : Nat → Int64} {ph : Nat → Int64} {mm : Nat → Int64} {out : Nat → Int64} (a1 : Int32) (hk : k_ok_Md_store mo mk mlo mhi a1) : x_M l y_Md_store (Cond.code y_Md_store b_Md_store 7 (Option.none : Option Jvm.ClassFile.FieldType) :: x_Wd) { frames := 2, cells := 0, slots := 0, locals := 48 } (x_k D cA ad) (x_F ad cA) [(.ref (ad (18, 0))), (.int a1)] ((stp, psz, gk, gl, gh, opn, cki, ckl, mp, rk, rv, ri, chk), (mo, mi, ml, mk, mlo, mhi, pk, ps, pl, ph, mm), out) ((fun q : (Nat → Int32) × (Nat → Int64) × (Nat → Int64) => ((none, ((stp, psz, gk, gl, gh, opn, cki, ckl, mp, rk, rv, ri, chk), (mo, mi, ml, q.1, q.2.1, q.2.2, pk, ps, pl, ph, mm), out)) : Option Value × x_S)) (s_Md_store mo mk mlo mhi a1)) 0 0 := by
  refine x_start (κ := x_k D cA ad) (cc := b_Md_store) (F := x_F ad cA) (wr := (fun q : (Nat → Int32) × (Nat → Int64) × (Nat → Int64) => ((none, ((stp, psz, gk, gl, gh, opn, cki, ckl, mp, rk, rv, ri, chk), (mo, mi, ml, q.1, q.2.1, q.2.2, pk, ps, pl, ph, mm), out)) : Option Value × x_S))) (q := s_Md_store mo mk mlo mhi a1) (ret := (Option.none : Option Jvm.ClassFile.FieldType)) (lv0 := [(0, (.ref (ad (18, 0)))), (1, (.int a1))]) ok (by decide) rfl (Nat.le_of_ble_eq_true rfl) rfl ?_
  intro p e s m below meth c C hr hlk
  unfold s_Md_store
  unfold k_ok_Md_store at hk
  refine x_aload_n 0 C d_Md_store_0 rfl rfl ?_
  refine x_get (i := (18, 0)) (v := (.ref (ad (20, 0)))) 1 C m_18 rfl rfl i_Md (by decide) (List.mem_cons_of_mem _ q_792) rfl d_Md_store_1 ?_
  refine x_iload_n 1 C d_Md_store_4 rfl rfl ?_
  have w1 := hk.1
  have hk := hk.2
  refine x_iald (i := (20, 0)) (g := mo 1) 0 C m_20 rfl rfl w1 d_Md_store_5 ?_
  refine x_istore_n (lv' := [(2, (.int (mo 1 a1.toNatClampNeg))), (0, (.ref (ad (18, 0)))), (1, (.int a1))]) C d_Md_store_6 rfl (by decide) rfl ?_
  refine x_bipush (v := 6) C d_Md_store_7 (by decide) ?_
  refine x_aload_n 1 C d_Md_store_9 rfl rfl ?_
  refine x_get (i := (18, 0)) (v := (.ref (ad (25, 0)))) 17 C m_18 rfl rfl i_Md (by decide) (List.mem_cons_of_mem _ q_808) rfl d_Md_store_10 ?_
  refine x_iload_n 0 C d_Md_store_13 rfl rfl ?_
  have w2 := hk.1
  have hk := hk.2
  refine x_lald (i := (25, 0)) (g := mlo) 1 C m_25 rfl rfl w2 d_Md_store_14 ?_
  refine x_aload_n 1 C d_Md_store_15 rfl rfl ?_
  refine x_get (i := (18, 0)) (v := (.ref (ad (22, 0)))) 3 C m_18 rfl rfl i_Md (by decide) (List.mem_cons_of_mem _ q_794) rfl d_Md_store_16 ?_
  refine x_iload_n 2 C d_Md_store_19 rfl rfl ?_
  refine x_iald (i := (22, 0)) (g := mo 3) 0 C m_22 rfl rfl w1 d_Md_store_20 ?_
  refine x_i2l C d_Md_store_21 ?_
  refine x_ladd C d_Md_store_22 ?_
  refine x_l2i C d_Md_store_23 ?_
  refine x_iadd C d_Md_store_24 ?_
  refine x_istore_n (lv' := [(3, (.int (6 + (Int64.toInt32 ((mlo ((mo 1 a1.toNatClampNeg).toNatClampNeg)) + (Int32.toInt64 (mo 3 a1.toNatClampNeg))))))), (2, (.int (mo 1 a1.toNatClampNeg))), (0, (.ref (ad (18, 0)))), (1, (.int a1))]) C d_Md_store_25 rfl (by decide) rfl ?_
  refine x_bipush (v := 6) C d_Md_store_26 (by decide) ?_
  refine x_aload_n 2 C d_Md_store_28 rfl rfl ?_
  refine x_get (i := (18, 0)) (v := (.ref (ad (26, 0)))) 18 C m_18 rfl rfl i_Md (by decide) (List.mem_cons_of_mem _ q_809) rfl d_Md_store_29 ?_
  refine x_iload_n 1 C d_Md_store_32 rfl rfl ?_
  refine x_lald (i := (26, 0)) (g := mhi) 1 C m_26 rfl rfl w2 d_Md_store_33 ?_
  refine x_aload_n 2 C d_Md_store_34 rfl rfl ?_
  refine x_get (i := (18, 0)) (v := (.ref (ad (22, 0)))) 3 C m_18 rfl rfl i_Md (by decide) (List.mem_cons_of_mem _ q_794) rfl d_Md_store_35 ?_
  refine x_iload_n 3 C d_Md_store_38 rfl rfl ?_
  refine x_iald (i := (22, 0)) (g := mo 3) 0 C m_22 rfl rfl w1 d_Md_store_39 ?_
  refine x_i2l C d_Md_store_40 ?_
  refine x_ladd C d_Md_store_41 ?_
  refine x_l2i C d_Md_store_42 ?_
  refine x_iadd C d_Md_store_43 ?_
  refine x_istore (lv' := [(4, (.int (6 + (Int64.toInt32 ((mhi ((mo 1 a1.toNatClampNeg).toNatClampNeg)) + (Int32.toInt64 (mo 3 a1.toNatClampNeg))))))), (3, (.int (6 + (Int64.toInt32 ((mlo ((mo 1 a1.toNatClampNeg).toNatClampNeg)) + (Int32.toInt64 (mo 3 a1.toNatClampNeg))))))), (2, (.int (mo 1 a1.toNatClampNeg))), (0, (.ref (ad (18, 0)))), (1, (.int a1))]) C d_Md_store_44 (by decide) rfl ?_
  refine x_aload_n 3 C d_Md_store_46 rfl rfl ?_
  refine x_get (i := (18, 0)) (v := (.ref (ad (21, 0)))) 2 C m_18 rfl rfl i_Md (by decide) (List.mem_cons_of_mem _ q_793) rfl d_Md_store_47 ?_
  refine x_iload_n 4 C d_Md_store_50 rfl rfl ?_
  refine x_iald (i := (21, 0)) (g := mo 2) 0 C m_21 rfl rfl w1 d_Md_store_51 ?_
  refine x_istore (lv' := [(5, (.int (mo 2 a1.toNatClampNeg))), (4, (.int (6 + (Int64.toInt32 ((mhi ((mo 1 a1.toNatClampNeg).toNatClampNeg)) + (Int32.toInt64 (mo 3 a1.toNatClampNeg))))))), (3, (.int (6 + (Int64.toInt32 ((mlo ((mo 1 a1.toNatClampNeg).toNatClampNeg)) + (Int32.toInt64 (mo 3 a1.toNatClampNeg))))))), (2, (.int (mo 1 a1.toNatClampNeg))), (0, (.ref (ad (18, 0)))), (1, (.int a1))]) C d_Md_store_52 (by decide) rfl ?_
  refine x_aload_n 4 C d_Md_store_54 rfl rfl ?_
  refine x_get (i := (18, 0)) (v := (.ref (ad (24, 0)))) 16 C m_18 rfl rfl i_Md (by decide) (List.mem_cons_of_mem _ q_807) rfl d_Md_store_55 ?_
  refine x_iload_n 3 C d_Md_store_58 rfl rfl ?_
  refine x_iald (i := (24, 0)) (g := mk) 0 C m_24 rfl rfl w2 d_Md_store_59 ?_
  refine x_iconst (v := 3) C d_Md_store_60 (by decide) ?_
  refine x_icmp_ne 65 C d_Md_store_61 (by decide) (fun z3 => ?_) (fun z3 => ?_)
  · have hk := x_okt hk z3
    exact x_vret C hr hlk rfl d_Md_store_64
  · have hk := x_okf hk z3
    refine x_iload_n 2 C d_Md_store_65 rfl rfl ?_
    refine x_iload 1 C d_Md_store_66 rfl ?_
    refine x_icmp_ne 78 C d_Md_store_68 (by decide) (fun z4 => ?_) (fun z4 => ?_)
    · have hk := x_okt hk z4
      refine x_aload_n 4 C d_Md_store_71 rfl rfl ?_
      refine x_iload 0 C d_Md_store_72 rfl ?_
      refine x_iload_n 2 C d_Md_store_74 rfl rfl ?_
      have w5 := hk.1
      have hk := hk.2
      refine x_cv0 (i := (18, 0)) (F := x_F ad cA) (As := [(.int (mo 2 a1.toNatClampNeg)), (.int (6 + (Int64.toInt32 ((mlo ((mo 1 a1.toNatClampNeg).toNatClampNeg)) + (Int32.toInt64 (mo 3 a1.toNatClampNeg))))))]) (rest := []) C k_Md_copy q_972 (c_Md_copy ok (mo 2 a1.toNatClampNeg) (6 + (Int64.toInt32 ((mlo ((mo 1 a1.toNatClampNeg).toNatClampNeg)) + (Int32.toInt64 (mo 3 a1.toNatClampNeg))))) w5) rfl rfl rfl (Nat.le_of_ble_eq_true rfl) (Nat.le_of_ble_eq_true rfl) m_18 rfl rfl rfl rfl rfl (Nat.le_of_ble_eq_true rfl) d_Md_store_75 ⟨Nat.zero_le _, Nat.zero_le _⟩ ?_
      generalize hq6 : s_Md_copy mk mlo mhi (mo 2 a1.toNatClampNeg) (6 + (Int64.toInt32 ((mlo ((mo 1 a1.toNatClampNeg).toNatClampNeg)) + (Int32.toInt64 (mo 3 a1.toNatClampNeg))))) = q6 at hk ⊢
      obtain ⟨mk6, mlo6, mhi6⟩ := q6
      refine x_lets ?_
      have hk := x_lete hk
      dsimp only at hk ⊢
      refine x_loc (lv' := [(0, (.ref (ad (18, 0)))), (3, (.int (6 + (Int64.toInt32 ((mlo ((mo 1 a1.toNatClampNeg).toNatClampNeg)) + (Int32.toInt64 (mo 3 a1.toNatClampNeg))))))), (4, (.int (6 + (Int64.toInt32 ((mhi ((mo 1 a1.toNatClampNeg).toNatClampNeg)) + (Int32.toInt64 (mo 3 a1.toNatClampNeg))))))), (5, (.int (mo 2 a1.toNatClampNeg)))]) [4, 2, 1, 0] rfl ?_
      exact cb_Md_store_78 ok C hr hlk a1  mk6 mlo6 mhi6 (6 + (Int64.toInt32 ((mlo ((mo 1 a1.toNatClampNeg).toNatClampNeg)) + (Int32.toInt64 (mo 3 a1.toNatClampNeg))))) (6 + (Int64.toInt32 ((mhi ((mo 1 a1.toNatClampNeg).toNatClampNeg)) + (Int32.toInt64 (mo 3 a1.toNatClampNeg))))) (mo 2 a1.toNatClampNeg) hk
    · have hk := x_okf hk z4
      refine x_loc (lv' := [(0, (.ref (ad (18, 0)))), (3, (.int (6 + (Int64.toInt32 ((mlo ((mo 1 a1.toNatClampNeg).toNatClampNeg)) + (Int32.toInt64 (mo 3 a1.toNatClampNeg))))))), (4, (.int (6 + (Int64.toInt32 ((mhi ((mo 1 a1.toNatClampNeg).toNatClampNeg)) + (Int32.toInt64 (mo 3 a1.toNatClampNeg))))))), (5, (.int (mo 2 a1.toNatClampNeg)))]) [4, 2, 1, 0] rfl ?_
      exact cb_Md_store_78 ok C hr hlk a1  mk mlo mhi (6 + (Int64.toInt32 ((mlo ((mo 1 a1.toNatClampNeg).toNatClampNeg)) + (Int32.toInt64 (mo 3 a1.toNatClampNeg))))) (6 + (Int64.toInt32 ((mhi ((mo 1 a1.toNatClampNeg).toNatClampNeg)) + (Int32.toInt64 (mo 3 a1.toNatClampNeg))))) (mo 2 a1.toNatClampNeg) hk
def lp_Md_callGuess_102 (n : Nat) (mk : Nat → Int32) (mlo : Nat → Int64) (mhi : Nat → Int64) (a1 : Int32) (x2 : Int32) : (Nat → Int32) × (Nat → Int64) × (Nat → Int64) := match n with
  | 0 => (mk, mlo, mhi)
  | n + 1 => (if 4 ≤ x2 then (mk, mlo, mhi) else (x_let (s_Md_know mk mlo mhi x2 0 0 0) fun (mk14, mlo14, mhi14) => lp_Md_callGuess_102 n mk14 mlo14 mhi14 a1 (x2 + 1)))
def lp_ok_Md_callGuess_102 (n : Nat) (mk : Nat → Int32) (mlo : Nat → Int64) (mhi : Nat → Int64) (a1 : Int32) (x2 : Int32) : Prop := match n with
  | 0 => False
  | n + 1 => (if 4 ≤ x2 then True else (k_ok_Md_know mk mlo mhi x2 0 0 0 ∧ (x_let (s_Md_know mk mlo mhi x2 0 0 0) fun (mk14, mlo14, mhi14) => lp_ok_Md_callGuess_102 n mk14 mlo14 mhi14 a1 (x2 + 1))))
set_option maxHeartbeats 4000000 in
set_option maxRecDepth 100000 in
theorem cl_Md_callGuess_102 {l : Launch} {D : va_G} {cA : Nat → ClassId} {ad : x_I → Nat} (ok : x_ok (x_k D cA ad)) {stp : Nat → Nat → Int32} {psz : Int32} {gk : Nat → Nat → Int32} {gl : Nat → Nat → Int64} {gh : Nat → Nat → Int64} {opn : Nat → Int32} {cki : Nat → Int32} {ckl : Nat → Int64} {mp : Nat → Nat → Int64} {rk : Nat → Int32} {rv : Nat → Int64} {ri : Nat → Int32} {chk : Int32} {mo : Nat → Nat → Int32} {mi : Nat → Int32} {ml : Nat → Int64} {pk : Nat → Int32} {ps : Nat → Int32} {pl : Nat → Int64} {ph : Nat → Int64} {mm : Nat → Int64} {out : Nat → Int64} {p : Program} {e : Env} {s : State} {m : MethodId} {args : Array Value} {below : List Frame} {meth : Method} {c : Code} (C : x_C p s m args c b_Md_callGuess 3 R_Md (Cond.code y_Md_callGuess b_Md_callGuess 3 (Option.none : Option Jvm.ClassFile.FieldType) :: x_Wd) (x_k D cA ad)) (hr : meth.sig.returnType = (Option.none : Option Jvm.ClassFile.FieldType)) (hlk : meth.locks = false) (a1 : Int32) : ∀ (n : Nat) (mk : Nat → Int32) (mlo : Nat → Int64) (mhi : Nat → Int64) (x2 : Int32) (hk : lp_ok_Md_callGuess_102 n mk mlo mhi a1 x2), x_V p l e { frames := 1, cells := 0, slots := 0, locals := 26 } s m args below meth c (x_k D cA ad) 3 0 0 (x_E below (x_k D cA ad) args s 0 0 (x_F ad cA) (fun q : (Nat → Int32) × (Nat → Int64) × (Nat → Int64) => ((none, ((stp, psz, gk, gl, gh, opn, cki, ckl, mp, rk, rv, ri, chk), (mo, mi, ml, q.1, q.2.1, q.2.2, pk, ps, pl, ph, mm), out)) : Option Value × x_S)) (lp_Md_callGuess_102 n mk mlo mhi a1 x2)) (x_F ad cA ((stp, psz, gk, gl, gh, opn, cki, ckl, mp, rk, rv, ri, chk), (mo, mi, ml, mk, mlo, mhi, pk, ps, pl, ph, mm), out)) 102 [(0, (.ref (ad (18, 0)))), (2, (.int x2))] [] := by
  intro n
  induction n with
  | zero => intro mk mlo mhi x2 hk; exact False.elim hk
  | succ n ih =>
    intro mk mlo mhi x2 hk
    rw [lp_Md_callGuess_102]
    rw [lp_ok_Md_callGuess_102] at hk
    refine x_iload_n 1 C d_Md_callGuess_102 rfl rfl ?_
    refine x_iconst (v := 4) C d_Md_callGuess_103 (by decide) ?_
    refine x_icmp_ge 121 C d_Md_callGuess_104 (by decide) (fun z12 => ?_) (fun z12 => ?_)
    · have hk := x_okt hk z12
      exact x_vret C hr hlk rfl d_Md_callGuess_121
    · have hk := x_okf hk z12
      refine x_aload_n 0 C d_Md_callGuess_107 rfl rfl ?_
      refine x_iload_n 1 C d_Md_callGuess_108 rfl rfl ?_
      refine x_iconst (v := 0) C d_Md_callGuess_109 (by decide) ?_
      refine x_lconst (v := 0) C d_Md_callGuess_110 (by decide) ?_
      refine x_lconst (v := 0) C d_Md_callGuess_111 (by decide) ?_
      have w13 := hk.1
      have hk := hk.2
      refine x_cv0 (i := (18, 0)) (F := x_F ad cA) (As := [(.int x2), (.int 0), (.long 0), (.long 0)]) (rest := []) C k_Md_know q_908 (c_Md_know ok x2 0 0 0 w13) rfl rfl rfl (Nat.le_of_ble_eq_true rfl) (Nat.le_of_ble_eq_true rfl) m_18 rfl rfl rfl rfl rfl (Nat.le_of_ble_eq_true rfl) d_Md_callGuess_112 ⟨Nat.zero_le _, Nat.zero_le _⟩ ?_
      generalize hq14 : s_Md_know mk mlo mhi x2 0 0 0 = q14 at hk ⊢
      obtain ⟨mk14, mlo14, mhi14⟩ := q14
      refine x_lets ?_
      have hk := x_lete hk
      dsimp only at hk ⊢
      refine x_iinc (lv' := [(2, (.int (x2 + 1))), (0, (.ref (ad (18, 0))))]) 1 C d_Md_callGuess_115 rfl rfl (by decide) rfl ?_
      refine x_goto 102 C d_Md_callGuess_118 (by decide) ?_
      refine x_loc (lv' := [(0, (.ref (ad (18, 0)))), (2, (.int (x2 + 1)))]) [1, 0] rfl ?_
      exact ih mk14 mlo14 mhi14 (x2 + 1) hk
def bk_Md_callGuess_100 (mk : Nat → Int32) (mlo : Nat → Int64) (mhi : Nat → Int64) (a1 : Int32)  : (Nat → Int32) × (Nat → Int64) × (Nat → Int64) :=
  lp_Md_callGuess_102 4 mk mlo mhi a1 1
def bk_ok_Md_callGuess_100 (mk : Nat → Int32) (mlo : Nat → Int64) (mhi : Nat → Int64) (a1 : Int32)  : Prop :=
  lp_ok_Md_callGuess_102 4 mk mlo mhi a1 1
set_option maxHeartbeats 4000000 in
set_option maxRecDepth 100000 in
theorem cb_Md_callGuess_100 {l : Launch} {D : va_G} {cA : Nat → ClassId} {ad : x_I → Nat} (ok : x_ok (x_k D cA ad)) {stp : Nat → Nat → Int32} {psz : Int32} {gk : Nat → Nat → Int32} {gl : Nat → Nat → Int64} {gh : Nat → Nat → Int64} {opn : Nat → Int32} {cki : Nat → Int32} {ckl : Nat → Int64} {mp : Nat → Nat → Int64} {rk : Nat → Int32} {rv : Nat → Int64} {ri : Nat → Int32} {chk : Int32} {mo : Nat → Nat → Int32} {mi : Nat → Int32} {ml : Nat → Int64} {pk : Nat → Int32} {ps : Nat → Int32} {pl : Nat → Int64} {ph : Nat → Int64} {mm : Nat → Int64} {out : Nat → Int64} {p : Program} {e : Env} {s : State} {m : MethodId} {args : Array Value} {below : List Frame} {meth : Method} {c : Code} (C : x_C p s m args c b_Md_callGuess 3 R_Md (Cond.code y_Md_callGuess b_Md_callGuess 3 (Option.none : Option Jvm.ClassFile.FieldType) :: x_Wd) (x_k D cA ad)) (hr : meth.sig.returnType = (Option.none : Option Jvm.ClassFile.FieldType)) (hlk : meth.locks = false) (a1 : Int32) (mk : Nat → Int32) (mlo : Nat → Int64) (mhi : Nat → Int64)  (hk : bk_ok_Md_callGuess_100 mk mlo mhi a1) : x_V p l e { frames := 1, cells := 0, slots := 0, locals := 26 } s m args below meth c (x_k D cA ad) 3 0 0 (x_E below (x_k D cA ad) args s 0 0 (x_F ad cA) (fun q : (Nat → Int32) × (Nat → Int64) × (Nat → Int64) => ((none, ((stp, psz, gk, gl, gh, opn, cki, ckl, mp, rk, rv, ri, chk), (mo, mi, ml, q.1, q.2.1, q.2.2, pk, ps, pl, ph, mm), out)) : Option Value × x_S)) (bk_Md_callGuess_100 mk mlo mhi a1)) (x_F ad cA ((stp, psz, gk, gl, gh, opn, cki, ckl, mp, rk, rv, ri, chk), (mo, mi, ml, mk, mlo, mhi, pk, ps, pl, ph, mm), out)) 100 [(0, (.ref (ad (18, 0))))] [] := by
  unfold bk_Md_callGuess_100
  unfold bk_ok_Md_callGuess_100 at hk
  refine x_iconst (v := 1) C d_Md_callGuess_100 (by decide) ?_
  refine x_istore_n (lv' := [(2, (.int 1)), (0, (.ref (ad (18, 0))))]) C d_Md_callGuess_101 rfl (by decide) rfl ?_
  refine x_loc (lv' := [(0, (.ref (ad (18, 0)))), (2, (.int 1))]) [1, 0] rfl ?_
  exact cl_Md_callGuess_102 ok C hr hlk a1 4 mk mlo mhi 1 hk
def bk_Md_callGuess_27 (mk : Nat → Int32) (mlo : Nat → Int64) (mhi : Nat → Int64) (a1 : Int32)  : (Nat → Int32) × (Nat → Int64) × (Nat → Int64) :=
  (if a1 = 2 then (if (mlo (Int32.toNatClampNeg 1)) ≤ (mlo (Int32.toNatClampNeg 2)) then (if (mhi (Int32.toNatClampNeg 1)) ≤ (mhi (Int32.toNatClampNeg 2)) then (x_let (s_Md_know mk mlo mhi 0 1 (mlo (Int32.toNatClampNeg 2)) (mhi (Int32.toNatClampNeg 2))) fun (mk11, mlo11, mhi11) => bk_Md_callGuess_100 mk11 mlo11 mhi11 a1) else (x_let (s_Md_know mk mlo mhi 0 1 (mlo (Int32.toNatClampNeg 2)) (mhi (Int32.toNatClampNeg 1))) fun (mk16, mlo16, mhi16) => bk_Md_callGuess_100 mk16 mlo16 mhi16 a1)) else (if (mhi (Int32.toNatClampNeg 1)) ≤ (mhi (Int32.toNatClampNeg 2)) then (x_let (s_Md_know mk mlo mhi 0 1 (mlo (Int32.toNatClampNeg 1)) (mhi (Int32.toNatClampNeg 2))) fun (mk19, mlo19, mhi19) => bk_Md_callGuess_100 mk19 mlo19 mhi19 a1) else (x_let (s_Md_know mk mlo mhi 0 1 (mlo (Int32.toNatClampNeg 1)) (mhi (Int32.toNatClampNeg 1))) fun (mk21, mlo21, mhi21) => bk_Md_callGuess_100 mk21 mlo21 mhi21 a1))) else bk_Md_callGuess_100 mk mlo mhi a1)
def bk_ok_Md_callGuess_27 (mk : Nat → Int32) (mlo : Nat → Int64) (mhi : Nat → Int64) (a1 : Int32)  : Prop :=
  (if a1 = 2 then (if (mlo (Int32.toNatClampNeg 1)) ≤ (mlo (Int32.toNatClampNeg 2)) then (if (mhi (Int32.toNatClampNeg 1)) ≤ (mhi (Int32.toNatClampNeg 2)) then (k_ok_Md_know mk mlo mhi 0 1 (mlo (Int32.toNatClampNeg 2)) (mhi (Int32.toNatClampNeg 2)) ∧ (x_let (s_Md_know mk mlo mhi 0 1 (mlo (Int32.toNatClampNeg 2)) (mhi (Int32.toNatClampNeg 2))) fun (mk11, mlo11, mhi11) => bk_ok_Md_callGuess_100 mk11 mlo11 mhi11 a1)) else (k_ok_Md_know mk mlo mhi 0 1 (mlo (Int32.toNatClampNeg 2)) (mhi (Int32.toNatClampNeg 1)) ∧ (x_let (s_Md_know mk mlo mhi 0 1 (mlo (Int32.toNatClampNeg 2)) (mhi (Int32.toNatClampNeg 1))) fun (mk16, mlo16, mhi16) => bk_ok_Md_callGuess_100 mk16 mlo16 mhi16 a1))) else (if (mhi (Int32.toNatClampNeg 1)) ≤ (mhi (Int32.toNatClampNeg 2)) then (k_ok_Md_know mk mlo mhi 0 1 (mlo (Int32.toNatClampNeg 1)) (mhi (Int32.toNatClampNeg 2)) ∧ (x_let (s_Md_know mk mlo mhi 0 1 (mlo (Int32.toNatClampNeg 1)) (mhi (Int32.toNatClampNeg 2))) fun (mk19, mlo19, mhi19) => bk_ok_Md_callGuess_100 mk19 mlo19 mhi19 a1)) else (k_ok_Md_know mk mlo mhi 0 1 (mlo (Int32.toNatClampNeg 1)) (mhi (Int32.toNatClampNeg 1)) ∧ (x_let (s_Md_know mk mlo mhi 0 1 (mlo (Int32.toNatClampNeg 1)) (mhi (Int32.toNatClampNeg 1))) fun (mk21, mlo21, mhi21) => bk_ok_Md_callGuess_100 mk21 mlo21 mhi21 a1)))) else bk_ok_Md_callGuess_100 mk mlo mhi a1)
set_option maxHeartbeats 4000000 in
set_option maxRecDepth 100000 in
theorem cb_Md_callGuess_27 {l : Launch} {D : va_G} {cA : Nat → ClassId} {ad : x_I → Nat} (ok : x_ok (x_k D cA ad)) {stp : Nat → Nat → Int32} {psz : Int32} {gk : Nat → Nat → Int32} {gl : Nat → Nat → Int64} {gh : Nat → Nat → Int64} {opn : Nat → Int32} {cki : Nat → Int32} {ckl : Nat → Int64} {mp : Nat → Nat → Int64} {rk : Nat → Int32} {rv : Nat → Int64} {ri : Nat → Int32} {chk : Int32} {mo : Nat → Nat → Int32} {mi : Nat → Int32} {ml : Nat → Int64} {pk : Nat → Int32} {ps : Nat → Int32} {pl : Nat → Int64} {ph : Nat → Int64} {mm : Nat → Int64} {out : Nat → Int64} {p : Program} {e : Env} {s : State} {m : MethodId} {args : Array Value} {below : List Frame} {meth : Method} {c : Code} (C : x_C p s m args c b_Md_callGuess 3 R_Md (Cond.code y_Md_callGuess b_Md_callGuess 3 (Option.none : Option Jvm.ClassFile.FieldType) :: x_Wd) (x_k D cA ad)) (hr : meth.sig.returnType = (Option.none : Option Jvm.ClassFile.FieldType)) (hlk : meth.locks = false) (a1 : Int32) (mk : Nat → Int32) (mlo : Nat → Int64) (mhi : Nat → Int64)  (hk : bk_ok_Md_callGuess_27 mk mlo mhi a1) : x_V p l e { frames := 1, cells := 0, slots := 0, locals := 26 } s m args below meth c (x_k D cA ad) 3 0 0 (x_E below (x_k D cA ad) args s 0 0 (x_F ad cA) (fun q : (Nat → Int32) × (Nat → Int64) × (Nat → Int64) => ((none, ((stp, psz, gk, gl, gh, opn, cki, ckl, mp, rk, rv, ri, chk), (mo, mi, ml, q.1, q.2.1, q.2.2, pk, ps, pl, ph, mm), out)) : Option Value × x_S)) (bk_Md_callGuess_27 mk mlo mhi a1)) (x_F ad cA ((stp, psz, gk, gl, gh, opn, cki, ckl, mp, rk, rv, ri, chk), (mo, mi, ml, mk, mlo, mhi, pk, ps, pl, ph, mm), out)) 27 [(0, (.ref (ad (18, 0)))), (1, (.int a1))] [] := by
  unfold bk_Md_callGuess_27
  unfold bk_ok_Md_callGuess_27 at hk
  refine x_iload_n 1 C d_Md_callGuess_27 rfl rfl ?_
  refine x_iconst (v := 2) C d_Md_callGuess_28 (by decide) ?_
  refine x_icmp_ne 100 C d_Md_callGuess_29 (by decide) (fun z7 => ?_) (fun z7 => ?_)
  · have hk := x_okt hk z7
    refine x_aload_n 0 C d_Md_callGuess_32 rfl rfl ?_
    refine x_iconst (v := 0) C d_Md_callGuess_33 (by decide) ?_
    refine x_iconst (v := 1) C d_Md_callGuess_34 (by decide) ?_
    refine x_aload_n 0 C d_Md_callGuess_35 rfl rfl ?_
    refine x_get (i := (18, 0)) (v := (.ref (ad (25, 0)))) 17 C m_18 rfl rfl i_Md (by decide) (List.mem_cons_of_mem _ q_808) rfl d_Md_callGuess_36 ?_
    refine x_iconst (v := 1) C d_Md_callGuess_39 (by decide) ?_
    refine x_lald (i := (25, 0)) (g := mlo) 1 C m_25 rfl rfl (x_vin (by decide)) d_Md_callGuess_40 ?_
    refine x_aload_n 0 C d_Md_callGuess_41 rfl rfl ?_
    refine x_get (i := (18, 0)) (v := (.ref (ad (25, 0)))) 17 C m_18 rfl rfl i_Md (by decide) (List.mem_cons_of_mem _ q_808) rfl d_Md_callGuess_42 ?_
    refine x_iconst (v := 2) C d_Md_callGuess_45 (by decide) ?_
    refine x_lald (i := (25, 0)) (g := mlo) 1 C m_25 rfl rfl (x_vin (by decide)) d_Md_callGuess_46 ?_
    refine x_lcmp_le 60 C d_Md_callGuess_47 d_Md_callGuess_48 (by decide) (fun z8 => ?_) (fun z8 => ?_)
    · have hk := x_okt hk z8
      refine x_aload_n 0 C d_Md_callGuess_60 rfl rfl ?_
      refine x_get (i := (18, 0)) (v := (.ref (ad (25, 0)))) 17 C m_18 rfl rfl i_Md (by decide) (List.mem_cons_of_mem _ q_808) rfl d_Md_callGuess_61 ?_
      refine x_iconst (v := 2) C d_Md_callGuess_64 (by decide) ?_
      refine x_lald (i := (25, 0)) (g := mlo) 1 C m_25 rfl rfl (x_vin (by decide)) d_Md_callGuess_65 ?_
      refine x_aload_n 0 C d_Md_callGuess_66 rfl rfl ?_
      refine x_get (i := (18, 0)) (v := (.ref (ad (26, 0)))) 18 C m_18 rfl rfl i_Md (by decide) (List.mem_cons_of_mem _ q_809) rfl d_Md_callGuess_67 ?_
      refine x_iconst (v := 1) C d_Md_callGuess_70 (by decide) ?_
      refine x_lald (i := (26, 0)) (g := mhi) 1 C m_26 rfl rfl (x_vin (by decide)) d_Md_callGuess_71 ?_
      refine x_aload_n 0 C d_Md_callGuess_72 rfl rfl ?_
      refine x_get (i := (18, 0)) (v := (.ref (ad (26, 0)))) 18 C m_18 rfl rfl i_Md (by decide) (List.mem_cons_of_mem _ q_809) rfl d_Md_callGuess_73 ?_
      refine x_iconst (v := 2) C d_Md_callGuess_76 (by decide) ?_
      refine x_lald (i := (26, 0)) (g := mhi) 1 C m_26 rfl rfl (x_vin (by decide)) d_Md_callGuess_77 ?_
      refine x_lcmp_le 91 C d_Md_callGuess_78 d_Md_callGuess_79 (by decide) (fun z9 => ?_) (fun z9 => ?_)
      · have hk := x_okt hk z9
        refine x_aload_n 0 C d_Md_callGuess_91 rfl rfl ?_
        refine x_get (i := (18, 0)) (v := (.ref (ad (26, 0)))) 18 C m_18 rfl rfl i_Md (by decide) (List.mem_cons_of_mem _ q_809) rfl d_Md_callGuess_92 ?_
        refine x_iconst (v := 2) C d_Md_callGuess_95 (by decide) ?_
        refine x_lald (i := (26, 0)) (g := mhi) 1 C m_26 rfl rfl (x_vin (by decide)) d_Md_callGuess_96 ?_
        have w10 := hk.1
        have hk := hk.2
        refine x_cv0 (i := (18, 0)) (F := x_F ad cA) (As := [(.int 0), (.int 1), (.long (mlo (Int32.toNatClampNeg 2))), (.long (mhi (Int32.toNatClampNeg 2)))]) (rest := []) C k_Md_know q_908 (c_Md_know ok 0 1 (mlo (Int32.toNatClampNeg 2)) (mhi (Int32.toNatClampNeg 2)) w10) rfl rfl rfl (Nat.le_of_ble_eq_true rfl) (Nat.le_of_ble_eq_true rfl) m_18 rfl rfl rfl rfl rfl (Nat.le_of_ble_eq_true rfl) d_Md_callGuess_97 ⟨Nat.zero_le _, Nat.zero_le _⟩ ?_
        generalize hq11 : s_Md_know mk mlo mhi 0 1 (mlo (Int32.toNatClampNeg 2)) (mhi (Int32.toNatClampNeg 2)) = q11 at hk ⊢
        obtain ⟨mk11, mlo11, mhi11⟩ := q11
        refine x_lets ?_
        have hk := x_lete hk
        dsimp only at hk ⊢
        refine x_loc (lv' := [(0, (.ref (ad (18, 0))))]) [0] rfl ?_
        exact cb_Md_callGuess_100 ok C hr hlk a1  mk11 mlo11 mhi11  hk
      · have hk := x_okf hk z9
        refine x_aload_n 0 C d_Md_callGuess_82 rfl rfl ?_
        refine x_get (i := (18, 0)) (v := (.ref (ad (26, 0)))) 18 C m_18 rfl rfl i_Md (by decide) (List.mem_cons_of_mem _ q_809) rfl d_Md_callGuess_83 ?_
        refine x_iconst (v := 1) C d_Md_callGuess_86 (by decide) ?_
        refine x_lald (i := (26, 0)) (g := mhi) 1 C m_26 rfl rfl (x_vin (by decide)) d_Md_callGuess_87 ?_
        refine x_goto 97 C d_Md_callGuess_88 (by decide) ?_
        have w15 := hk.1
        have hk := hk.2
        refine x_cv0 (i := (18, 0)) (F := x_F ad cA) (As := [(.int 0), (.int 1), (.long (mlo (Int32.toNatClampNeg 2))), (.long (mhi (Int32.toNatClampNeg 1)))]) (rest := []) C k_Md_know q_908 (c_Md_know ok 0 1 (mlo (Int32.toNatClampNeg 2)) (mhi (Int32.toNatClampNeg 1)) w15) rfl rfl rfl (Nat.le_of_ble_eq_true rfl) (Nat.le_of_ble_eq_true rfl) m_18 rfl rfl rfl rfl rfl (Nat.le_of_ble_eq_true rfl) d_Md_callGuess_97 ⟨Nat.zero_le _, Nat.zero_le _⟩ ?_
        generalize hq16 : s_Md_know mk mlo mhi 0 1 (mlo (Int32.toNatClampNeg 2)) (mhi (Int32.toNatClampNeg 1)) = q16 at hk ⊢
        obtain ⟨mk16, mlo16, mhi16⟩ := q16
        refine x_lets ?_
        have hk := x_lete hk
        dsimp only at hk ⊢
        refine x_loc (lv' := [(0, (.ref (ad (18, 0))))]) [0] rfl ?_
        exact cb_Md_callGuess_100 ok C hr hlk a1  mk16 mlo16 mhi16  hk
    · have hk := x_okf hk z8
      refine x_aload_n 0 C d_Md_callGuess_51 rfl rfl ?_
      refine x_get (i := (18, 0)) (v := (.ref (ad (25, 0)))) 17 C m_18 rfl rfl i_Md (by decide) (List.mem_cons_of_mem _ q_808) rfl d_Md_callGuess_52 ?_
      refine x_iconst (v := 1) C d_Md_callGuess_55 (by decide) ?_
      refine x_lald (i := (25, 0)) (g := mlo) 1 C m_25 rfl rfl (x_vin (by decide)) d_Md_callGuess_56 ?_
      refine x_goto 66 C d_Md_callGuess_57 (by decide) ?_
      refine x_aload_n 0 C d_Md_callGuess_66 rfl rfl ?_
      refine x_get (i := (18, 0)) (v := (.ref (ad (26, 0)))) 18 C m_18 rfl rfl i_Md (by decide) (List.mem_cons_of_mem _ q_809) rfl d_Md_callGuess_67 ?_
      refine x_iconst (v := 1) C d_Md_callGuess_70 (by decide) ?_
      refine x_lald (i := (26, 0)) (g := mhi) 1 C m_26 rfl rfl (x_vin (by decide)) d_Md_callGuess_71 ?_
      refine x_aload_n 0 C d_Md_callGuess_72 rfl rfl ?_
      refine x_get (i := (18, 0)) (v := (.ref (ad (26, 0)))) 18 C m_18 rfl rfl i_Md (by decide) (List.mem_cons_of_mem _ q_809) rfl d_Md_callGuess_73 ?_
      refine x_iconst (v := 2) C d_Md_callGuess_76 (by decide) ?_
      refine x_lald (i := (26, 0)) (g := mhi) 1 C m_26 rfl rfl (x_vin (by decide)) d_Md_callGuess_77 ?_
      refine x_lcmp_le 91 C d_Md_callGuess_78 d_Md_callGuess_79 (by decide) (fun z17 => ?_) (fun z17 => ?_)
      · have hk := x_okt hk z17
        refine x_aload_n 0 C d_Md_callGuess_91 rfl rfl ?_
        refine x_get (i := (18, 0)) (v := (.ref (ad (26, 0)))) 18 C m_18 rfl rfl i_Md (by decide) (List.mem_cons_of_mem _ q_809) rfl d_Md_callGuess_92 ?_
        refine x_iconst (v := 2) C d_Md_callGuess_95 (by decide) ?_
        refine x_lald (i := (26, 0)) (g := mhi) 1 C m_26 rfl rfl (x_vin (by decide)) d_Md_callGuess_96 ?_
        have w18 := hk.1
        have hk := hk.2
        refine x_cv0 (i := (18, 0)) (F := x_F ad cA) (As := [(.int 0), (.int 1), (.long (mlo (Int32.toNatClampNeg 1))), (.long (mhi (Int32.toNatClampNeg 2)))]) (rest := []) C k_Md_know q_908 (c_Md_know ok 0 1 (mlo (Int32.toNatClampNeg 1)) (mhi (Int32.toNatClampNeg 2)) w18) rfl rfl rfl (Nat.le_of_ble_eq_true rfl) (Nat.le_of_ble_eq_true rfl) m_18 rfl rfl rfl rfl rfl (Nat.le_of_ble_eq_true rfl) d_Md_callGuess_97 ⟨Nat.zero_le _, Nat.zero_le _⟩ ?_
        generalize hq19 : s_Md_know mk mlo mhi 0 1 (mlo (Int32.toNatClampNeg 1)) (mhi (Int32.toNatClampNeg 2)) = q19 at hk ⊢
        obtain ⟨mk19, mlo19, mhi19⟩ := q19
        refine x_lets ?_
        have hk := x_lete hk
        dsimp only at hk ⊢
        refine x_loc (lv' := [(0, (.ref (ad (18, 0))))]) [0] rfl ?_
        exact cb_Md_callGuess_100 ok C hr hlk a1  mk19 mlo19 mhi19  hk
      · have hk := x_okf hk z17
        refine x_aload_n 0 C d_Md_callGuess_82 rfl rfl ?_
        refine x_get (i := (18, 0)) (v := (.ref (ad (26, 0)))) 18 C m_18 rfl rfl i_Md (by decide) (List.mem_cons_of_mem _ q_809) rfl d_Md_callGuess_83 ?_
        refine x_iconst (v := 1) C d_Md_callGuess_86 (by decide) ?_
        refine x_lald (i := (26, 0)) (g := mhi) 1 C m_26 rfl rfl (x_vin (by decide)) d_Md_callGuess_87 ?_
        refine x_goto 97 C d_Md_callGuess_88 (by decide) ?_
        have w20 := hk.1
        have hk := hk.2
        refine x_cv0 (i := (18, 0)) (F := x_F ad cA) (As := [(.int 0), (.int 1), (.long (mlo (Int32.toNatClampNeg 1))), (.long (mhi (Int32.toNatClampNeg 1)))]) (rest := []) C k_Md_know q_908 (c_Md_know ok 0 1 (mlo (Int32.toNatClampNeg 1)) (mhi (Int32.toNatClampNeg 1)) w20) rfl rfl rfl (Nat.le_of_ble_eq_true rfl) (Nat.le_of_ble_eq_true rfl) m_18 rfl rfl rfl rfl rfl (Nat.le_of_ble_eq_true rfl) d_Md_callGuess_97 ⟨Nat.zero_le _, Nat.zero_le _⟩ ?_
        generalize hq21 : s_Md_know mk mlo mhi 0 1 (mlo (Int32.toNatClampNeg 1)) (mhi (Int32.toNatClampNeg 1)) = q21 at hk ⊢
        obtain ⟨mk21, mlo21, mhi21⟩ := q21
        refine x_lets ?_
        have hk := x_lete hk
        dsimp only at hk ⊢
        refine x_loc (lv' := [(0, (.ref (ad (18, 0))))]) [0] rfl ?_
        exact cb_Md_callGuess_100 ok C hr hlk a1  mk21 mlo21 mhi21  hk
  · have hk := x_okf hk z7
    refine x_loc (lv' := [(0, (.ref (ad (18, 0))))]) [0] rfl ?_
    exact cb_Md_callGuess_100 ok C hr hlk a1  mk mlo mhi  hk
def bk_Md_callGuess_14 (mk : Nat → Int32) (mlo : Nat → Int64) (mhi : Nat → Int64) (a1 : Int32)  : (Nat → Int32) × (Nat → Int64) × (Nat → Int64) :=
  (if a1 = 1 then (x_let (s_Md_know mk mlo mhi 0 4 0 0) fun (mk6, mlo6, mhi6) => bk_Md_callGuess_27 mk6 mlo6 mhi6 a1) else bk_Md_callGuess_27 mk mlo mhi a1)
def bk_ok_Md_callGuess_14 (mk : Nat → Int32) (mlo : Nat → Int64) (mhi : Nat → Int64) (a1 : Int32)  : Prop :=
  (if a1 = 1 then (k_ok_Md_know mk mlo mhi 0 4 0 0 ∧ (x_let (s_Md_know mk mlo mhi 0 4 0 0) fun (mk6, mlo6, mhi6) => bk_ok_Md_callGuess_27 mk6 mlo6 mhi6 a1)) else bk_ok_Md_callGuess_27 mk mlo mhi a1)
set_option maxHeartbeats 4000000 in
set_option maxRecDepth 100000 in
theorem cb_Md_callGuess_14 {l : Launch} {D : va_G} {cA : Nat → ClassId} {ad : x_I → Nat} (ok : x_ok (x_k D cA ad)) {stp : Nat → Nat → Int32} {psz : Int32} {gk : Nat → Nat → Int32} {gl : Nat → Nat → Int64} {gh : Nat → Nat → Int64} {opn : Nat → Int32} {cki : Nat → Int32} {ckl : Nat → Int64} {mp : Nat → Nat → Int64} {rk : Nat → Int32} {rv : Nat → Int64} {ri : Nat → Int32} {chk : Int32} {mo : Nat → Nat → Int32} {mi : Nat → Int32} {ml : Nat → Int64} {pk : Nat → Int32} {ps : Nat → Int32} {pl : Nat → Int64} {ph : Nat → Int64} {mm : Nat → Int64} {out : Nat → Int64} {p : Program} {e : Env} {s : State} {m : MethodId} {args : Array Value} {below : List Frame} {meth : Method} {c : Code} (C : x_C p s m args c b_Md_callGuess 3 R_Md (Cond.code y_Md_callGuess b_Md_callGuess 3 (Option.none : Option Jvm.ClassFile.FieldType) :: x_Wd) (x_k D cA ad)) (hr : meth.sig.returnType = (Option.none : Option Jvm.ClassFile.FieldType)) (hlk : meth.locks = false) (a1 : Int32) (mk : Nat → Int32) (mlo : Nat → Int64) (mhi : Nat → Int64)  (hk : bk_ok_Md_callGuess_14 mk mlo mhi a1) : x_V p l e { frames := 1, cells := 0, slots := 0, locals := 26 } s m args below meth c (x_k D cA ad) 3 0 0 (x_E below (x_k D cA ad) args s 0 0 (x_F ad cA) (fun q : (Nat → Int32) × (Nat → Int64) × (Nat → Int64) => ((none, ((stp, psz, gk, gl, gh, opn, cki, ckl, mp, rk, rv, ri, chk), (mo, mi, ml, q.1, q.2.1, q.2.2, pk, ps, pl, ph, mm), out)) : Option Value × x_S)) (bk_Md_callGuess_14 mk mlo mhi a1)) (x_F ad cA ((stp, psz, gk, gl, gh, opn, cki, ckl, mp, rk, rv, ri, chk), (mo, mi, ml, mk, mlo, mhi, pk, ps, pl, ph, mm), out)) 14 [(0, (.ref (ad (18, 0)))), (1, (.int a1))] [] := by
  unfold bk_Md_callGuess_14
  unfold bk_ok_Md_callGuess_14 at hk
  refine x_iload_n 1 C d_Md_callGuess_14 rfl rfl ?_
  refine x_iconst (v := 1) C d_Md_callGuess_15 (by decide) ?_
  refine x_icmp_ne 27 C d_Md_callGuess_16 (by decide) (fun z4 => ?_) (fun z4 => ?_)
  · have hk := x_okt hk z4
    refine x_aload_n 0 C d_Md_callGuess_19 rfl rfl ?_
    refine x_iconst (v := 0) C d_Md_callGuess_20 (by decide) ?_
    refine x_iconst (v := 4) C d_Md_callGuess_21 (by decide) ?_
    refine x_lconst (v := 0) C d_Md_callGuess_22 (by decide) ?_
    refine x_lconst (v := 0) C d_Md_callGuess_23 (by decide) ?_
    have w5 := hk.1
    have hk := hk.2
    refine x_cv0 (i := (18, 0)) (F := x_F ad cA) (As := [(.int 0), (.int 4), (.long 0), (.long 0)]) (rest := []) C k_Md_know q_908 (c_Md_know ok 0 4 0 0 w5) rfl rfl rfl (Nat.le_of_ble_eq_true rfl) (Nat.le_of_ble_eq_true rfl) m_18 rfl rfl rfl rfl rfl (Nat.le_of_ble_eq_true rfl) d_Md_callGuess_24 ⟨Nat.zero_le _, Nat.zero_le _⟩ ?_
    generalize hq6 : s_Md_know mk mlo mhi 0 4 0 0 = q6 at hk ⊢
    obtain ⟨mk6, mlo6, mhi6⟩ := q6
    refine x_lets ?_
    have hk := x_lete hk
    dsimp only at hk ⊢
    refine x_loc (lv' := [(0, (.ref (ad (18, 0)))), (1, (.int a1))]) [0, 1] rfl ?_
    exact cb_Md_callGuess_27 ok C hr hlk a1  mk6 mlo6 mhi6  hk
  · have hk := x_okf hk z4
    refine x_loc (lv' := [(0, (.ref (ad (18, 0)))), (1, (.int a1))]) [0, 1] rfl ?_
    exact cb_Md_callGuess_27 ok C hr hlk a1  mk mlo mhi  hk
def s_Md_callGuess (mk : Nat → Int32) (mlo : Nat → Int64) (mhi : Nat → Int64) (a1 : Int32) : (Nat → Int32) × (Nat → Int64) × (Nat → Int64) :=
  (if a1 = 0 then (x_let (s_Md_know mk mlo mhi 0 1 0 99) fun (mk3, mlo3, mhi3) => bk_Md_callGuess_14 mk3 mlo3 mhi3 a1) else bk_Md_callGuess_14 mk mlo mhi a1)
def k_ok_Md_callGuess (mk : Nat → Int32) (mlo : Nat → Int64) (mhi : Nat → Int64) (a1 : Int32) : Prop :=
  (if a1 = 0 then (k_ok_Md_know mk mlo mhi 0 1 0 99 ∧ (x_let (s_Md_know mk mlo mhi 0 1 0 99) fun (mk3, mlo3, mhi3) => bk_ok_Md_callGuess_14 mk3 mlo3 mhi3 a1)) else bk_ok_Md_callGuess_14 mk mlo mhi a1)
set_option maxHeartbeats 4000000 in
set_option maxRecDepth 100000 in
theorem c_Md_callGuess {l : Launch} {D : va_G} {cA : Nat → ClassId} {ad : x_I → Nat} (ok : x_ok (x_k D cA ad)) {stp : Nat → Nat → Int32} {psz : Int32} {gk : Nat → Nat → Int32} {gl : Nat → Nat → Int64} {gh : Nat → Nat → Int64} {opn : Nat → Int32} {cki : Nat → Int32} {ckl : Nat → Int64} {mp : Nat → Nat → Int64} {rk : Nat → Int32} {rv : Nat → Int64} {ri : Nat → Int32} {chk : Int32} {mo : Nat → Nat → Int32} {mi : Nat → Int32} {ml : Nat → Int64} {mk : Nat → Int32} {mlo : Nat → Int64} {mhi : Nat → Int64} {pk : Nat → Int32} {ps : Nat → Int32} {pl : Nat → Int64} {ph : Nat → Int64} {mm : Nat → Int64} {out : Nat → Int64} (a1 : Int32) (hk : k_ok_Md_callGuess mk mlo mhi a1) : x_M l y_Md_callGuess (Cond.code y_Md_callGuess b_Md_callGuess 3 (Option.none : Option Jvm.ClassFile.FieldType) :: x_Wd) { frames := 1, cells := 0, slots := 0, locals := 26 } (x_k D cA ad) (x_F ad cA) [(.ref (ad (18, 0))), (.int a1)] ((stp, psz, gk, gl, gh, opn, cki, ckl, mp, rk, rv, ri, chk), (mo, mi, ml, mk, mlo, mhi, pk, ps, pl, ph, mm), out) ((fun q : (Nat → Int32) × (Nat → Int64) × (Nat → Int64) => ((none, ((stp, psz, gk, gl, gh, opn, cki, ckl, mp, rk, rv, ri, chk), (mo, mi, ml, q.1, q.2.1, q.2.2, pk, ps, pl, ph, mm), out)) : Option Value × x_S)) (s_Md_callGuess mk mlo mhi a1)) 0 0 := by
  refine x_start (κ := x_k D cA ad) (cc := b_Md_callGuess) (F := x_F ad cA) (wr := (fun q : (Nat → Int32) × (Nat → Int64) × (Nat → Int64) => ((none, ((stp, psz, gk, gl, gh, opn, cki, ckl, mp, rk, rv, ri, chk), (mo, mi, ml, q.1, q.2.1, q.2.2, pk, ps, pl, ph, mm), out)) : Option Value × x_S))) (q := s_Md_callGuess mk mlo mhi a1) (ret := (Option.none : Option Jvm.ClassFile.FieldType)) (lv0 := [(0, (.ref (ad (18, 0)))), (1, (.int a1))]) ok (by decide) rfl (Nat.le_of_ble_eq_true rfl) rfl ?_
  intro p e s m below meth c C hr hlk
  unfold s_Md_callGuess
  unfold k_ok_Md_callGuess at hk
  refine x_iload_n 1 C d_Md_callGuess_0 rfl rfl ?_
  refine x_if_ne 14 C d_Md_callGuess_1 (by decide) (fun z1 => ?_) (fun z1 => ?_)
  · have hk := x_okt hk z1
    refine x_aload_n 0 C d_Md_callGuess_4 rfl rfl ?_
    refine x_iconst (v := 0) C d_Md_callGuess_5 (by decide) ?_
    refine x_iconst (v := 1) C d_Md_callGuess_6 (by decide) ?_
    refine x_lconst (v := 0) C d_Md_callGuess_7 (by decide) ?_
    refine x_ldc2 (v := 99) C (List.mem_cons_of_mem _ q_1023) d_Md_callGuess_8 ?_
    have w2 := hk.1
    have hk := hk.2
    refine x_cv0 (i := (18, 0)) (F := x_F ad cA) (As := [(.int 0), (.int 1), (.long 0), (.long 99)]) (rest := []) C k_Md_know q_908 (c_Md_know ok 0 1 0 99 w2) rfl rfl rfl (Nat.le_of_ble_eq_true rfl) (Nat.le_of_ble_eq_true rfl) m_18 rfl rfl rfl rfl rfl (Nat.le_of_ble_eq_true rfl) d_Md_callGuess_11 ⟨Nat.zero_le _, Nat.zero_le _⟩ ?_
    generalize hq3 : s_Md_know mk mlo mhi 0 1 0 99 = q3 at hk ⊢
    obtain ⟨mk3, mlo3, mhi3⟩ := q3
    refine x_lets ?_
    have hk := x_lete hk
    dsimp only at hk ⊢
    refine x_loc (lv' := [(0, (.ref (ad (18, 0)))), (1, (.int a1))]) [0, 1] rfl ?_
    exact cb_Md_callGuess_14 ok C hr hlk a1  mk3 mlo3 mhi3  hk
  · have hk := x_okf hk z1
    refine x_loc (lv' := [(0, (.ref (ad (18, 0)))), (1, (.int a1))]) [0, 1] rfl ?_
    exact cb_Md_callGuess_14 ok C hr hlk a1  mk mlo mhi  hk
