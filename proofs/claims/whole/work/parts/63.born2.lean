theorem x_upk {f : x_I → va_E} {k k' : Nat} {e : va_E} (h : k ≠ k') : x_up f (k', 0) e (k, 0) = f (k, 0) := x_upn (fun h9 => h (congrArg Prod.fst h9))
theorem k_St_init : x_calI y_St_init b_St_init 1 0 := ⟨⟨q_38, q_3, q_39⟩, rfl, ⟨by decide, by decide, by decide +kernel⟩⟩
theorem k_Gs_init : x_calI y_Gs_init b_Gs_init 1 0 := ⟨⟨q_95, q_5, q_96⟩, rfl, ⟨by decide, by decide, by decide +kernel⟩⟩
theorem k_Jg_init : x_calI y_Jg_init b_Jg_init 3 2 := ⟨⟨q_113, q_6, q_114⟩, rfl, ⟨by decide, by decide, by decide +kernel⟩⟩
theorem k_Ef_init : x_calI y_Ef_init b_Ef_init 2 1 := ⟨⟨q_126, q_7, q_127⟩, rfl, ⟨by decide, by decide, by decide +kernel⟩⟩
theorem k_Pg_init : x_calI y_Pg_init b_Pg_init 2 0 := ⟨⟨q_31, q_2, q_32⟩, rfl, ⟨by decide, by decide, by decide +kernel⟩⟩
theorem k_Ck_init : x_calI y_Ck_init b_Ck_init 3 1 := ⟨⟨q_89, q_4, q_90⟩, rfl, ⟨by decide, by decide, by decide +kernel⟩⟩
theorem k_Rn_init : x_calI y_Rn_init b_Rn_init 2 1 := ⟨⟨q_178, q_8, q_179⟩, rfl, ⟨by decide, by decide, by decide +kernel⟩⟩
theorem k_CM_init : x_calI y_CM_init b_CM_init 1 0 := ⟨⟨q_23, q_1, q_24⟩, rfl, ⟨by decide, by decide, by decide +kernel⟩⟩
theorem k_Md_init : x_calI y_Md_init b_Md_init 1 0 := ⟨⟨q_788, q_9, q_789⟩, rfl, ⟨by decide, by decide, by decide +kernel⟩⟩
set_option maxHeartbeats 4000000 in
set_option maxRecDepth 100000 in
theorem c_St_init {l : Launch} {D : va_G} {cA : Nat → ClassId} {b : Nat} {f : x_I → va_E} {n o : Nat}  : x_MN l y_St_init (Cond.code y_St_init b_St_init 1 none :: x_Wd) { frames := 1, cells := 0, slots := 0, locals := 12 } D cA b n n f f [(.ref (b + o))] 0 0 := by
  refine x_startN (cc := b_St_init) (lv0 := [(0, (.ref (b + o)))]) (by decide) rfl (Nat.le_of_ble_eq_true rfl) rfl ?_
  intro p e s m below meth c C hB hs hnm hr hlk
  refine x_aload_n 0 (x_Cn _ C) d_St_init_0 rfl rfl ?_
  refine x_objI (x_Cn _ C) q_40 d_St_init_1 (Nat.le_of_ble_eq_true rfl) (Nat.le_of_ble_eq_true rfl) ?_
  exact x_vretN (x_Cn _ C) hs hr hlk d_St_init_4
set_option maxHeartbeats 4000000 in
set_option maxRecDepth 100000 in
theorem c_Jg_init {l : Launch} {D : va_G} {cA : Nat → ClassId} {b : Nat} {f : x_I → va_E} {n o p1 p2 : Nat} (hon : o < n) (ho : f (o, 0) = .inr (3, [.null, .null])) : x_MN l y_Jg_init (Cond.code y_Jg_init b_Jg_init 3 none :: x_Wd) { frames := 1, cells := 0, slots := 0, locals := 12 } D cA b n n f (x_up f (o, 0) (.inr (3, [.ref (b + p1), .ref (b + p2)]))) [(.ref (b + o)), (.ref (b + p1)), (.ref (b + p2))] 0 0 := by
  refine x_startN (cc := b_Jg_init) (lv0 := [(0, (.ref (b + o))), (1, (.ref (b + p1))), (2, (.ref (b + p2)))]) (by decide) rfl (Nat.le_of_ble_eq_true rfl) rfl ?_
  intro p e s m below meth c C hB hs hnm hr hlk
  refine x_aload_n 0 (x_Cn _ C) d_Jg_init_0 rfl rfl ?_
  refine x_objI (x_Cn _ C) q_115 d_Jg_init_1 (Nat.le_of_ble_eq_true rfl) (Nat.le_of_ble_eq_true rfl) ?_
  refine x_aload_n 0 (x_Cn _ C) d_Jg_init_4 rfl rfl ?_
  refine x_aload_n 1 (x_Cn _ C) d_Jg_init_5 rfl rfl ?_
  refine x_putF (i := (o, 0)) (f' := (x_up f (o, 0) (.inr (3, [.ref (b + p1), .null])))) 0 (x_Cn _ C) hnm (x_mn hon) ho rfl i_Jg t_Jg_ok n_Jg (by decide) (List.mem_cons_of_mem _ q_116) rfl rfl rfl rfl (Nat.le_of_ble_eq_true rfl) d_Jg_init_6 rfl ?_
  refine x_aload_n 0 (x_Cn _ C) d_Jg_init_9 rfl rfl ?_
  refine x_aload_n 2 (x_Cn _ C) d_Jg_init_10 rfl rfl ?_
  refine x_putF (i := (o, 0)) (f' := (x_up f (o, 0) (.inr (3, [.ref (b + p1), .ref (b + p2)])))) 1 (x_Cn _ C) hnm (x_mn hon) x_ups rfl i_Jg t_Jg_ok n_Jg (by decide) (List.mem_cons_of_mem _ q_117) rfl rfl rfl rfl (Nat.le_of_ble_eq_true rfl) d_Jg_init_11 x_upp ?_
  exact x_vretN (x_Cn _ C) hs hr hlk d_Jg_init_14
set_option maxHeartbeats 4000000 in
set_option maxRecDepth 100000 in
theorem c_Ef_init {l : Launch} {D : va_G} {cA : Nat → ClassId} {b : Nat} {f : x_I → va_E} {n o p1 : Nat} (hon : o < n) (ho : f (o, 0) = .inr (1, [.null])) : x_MN l y_Ef_init (Cond.code y_Ef_init b_Ef_init 2 none :: x_Wd) { frames := 1, cells := 0, slots := 0, locals := 12 } D cA b n n f (x_up f (o, 0) (.inr (1, [.ref (b + p1)]))) [(.ref (b + o)), (.ref (b + p1))] 0 0 := by
  refine x_startN (cc := b_Ef_init) (lv0 := [(0, (.ref (b + o))), (1, (.ref (b + p1)))]) (by decide) rfl (Nat.le_of_ble_eq_true rfl) rfl ?_
  intro p e s m below meth c C hB hs hnm hr hlk
  refine x_aload_n 0 (x_Cn _ C) d_Ef_init_0 rfl rfl ?_
  refine x_objI (x_Cn _ C) q_128 d_Ef_init_1 (Nat.le_of_ble_eq_true rfl) (Nat.le_of_ble_eq_true rfl) ?_
  refine x_aload_n 0 (x_Cn _ C) d_Ef_init_4 rfl rfl ?_
  refine x_aload_n 1 (x_Cn _ C) d_Ef_init_5 rfl rfl ?_
  refine x_putF (i := (o, 0)) (f' := (x_up f (o, 0) (.inr (1, [.ref (b + p1)])))) 0 (x_Cn _ C) hnm (x_mn hon) ho rfl i_Ef t_Ef_ok n_Ef (by decide) (List.mem_cons_of_mem _ q_129) rfl rfl rfl rfl (Nat.le_of_ble_eq_true rfl) d_Ef_init_6 rfl ?_
  exact x_vretN (x_Cn _ C) hs hr hlk d_Ef_init_9
set_option maxHeartbeats 4000000 in
set_option maxRecDepth 100000 in
theorem c_Gs_init {l : Launch} {D : va_G} {cA : Nat → ClassId} {b : Nat} {f : x_I → va_E} {n o : Nat} (hon : o < n) (ho : f (o, 0) = .inr (2, [.null, .null, .null])) (h0 : f (n, 0) = .inl (cA 0, 12, .inl (fun _ => 0))) (h1 : f (n + 1, 0) = .inl (cA 1, 12, .inr (.inl (fun _ => 0)))) (h2 : f (n + 2, 0) = .inl (cA 1, 12, .inr (.inl (fun _ => 0)))) : x_MN l y_Gs_init (Cond.code y_Gs_init b_Gs_init 1 none :: x_Wd) { frames := 1, cells := 3, slots := 36, locals := 12 } D cA b n (n + 3) f (x_up f (o, 0) (.inr (2, [.ref (b + n), .ref (b + (n + 1)), .ref (b + (n + 2))]))) [(.ref (b + o))] 3 36 := by
  refine x_startN (cc := b_Gs_init) (lv0 := [(0, (.ref (b + o)))]) (by decide) rfl (Nat.le_of_ble_eq_true rfl) rfl ?_
  intro p e s m below meth c C hB hs hnm hr hlk
  refine x_aload_n 0 (x_Cn _ C) d_Gs_init_0 rfl rfl ?_
  refine x_objI (x_Cn _ C) q_97 d_Gs_init_1 (Nat.le_of_ble_eq_true rfl) (Nat.le_of_ble_eq_true rfl) ?_
  refine x_aload_n 0 (x_Cn _ C) d_Gs_init_4 rfl rfl ?_
  refine x_bipush (v := 12) (x_Cn _ C) d_Gs_init_5 (by decide) ?_
  refine x_newaB (atype := .int) (ty := .int) (n := n) (t0 := 0) (N' := 12) (x_Cn _ C) (by omega) (by omega) rfl (List.mem_cons_of_mem _ q_108) rfl (fun _ h => h) (fun _ => rfl) (by decide) (by decide) (by decide) h0 (Nat.le_of_ble_eq_true rfl) (Nat.le_of_ble_eq_true rfl) d_Gs_init_7 ?_
  refine x_putF (i := (o, 0)) (f' := x_up f (o, 0) (.inr (2, [.ref (b + n), .null, .null]))) 0 (x_Cn _ C) hnm (x_mn (by omega)) ho rfl i_Gs t_Gs_ok n_Gs (by decide) (List.mem_cons_of_mem _ q_98) rfl rfl rfl rfl (Nat.le_of_ble_eq_true rfl) d_Gs_init_9 rfl ?_
  refine x_aload_n 0 (x_Cn _ C) d_Gs_init_12 rfl rfl ?_
  refine x_bipush (v := 12) (x_Cn _ C) d_Gs_init_13 (by decide) ?_
  refine x_newaB (atype := .long) (ty := .long) (n := n + 1) (t0 := 1) (N' := 12) (x_Cn _ C) (by omega) (by omega) rfl (List.mem_cons_of_mem _ q_109) rfl (fun _ h => h) (fun _ => rfl) (by decide) (by decide) (by decide) ((x_upk (by omega)).trans h1) (Nat.le_of_ble_eq_true rfl) (Nat.le_of_ble_eq_true rfl) d_Gs_init_15 ?_
  refine x_putF (i := (o, 0)) (f' := x_up f (o, 0) (.inr (2, [.ref (b + n), .ref (b + (n + 1)), .null]))) 1 (x_Cn _ C) hnm (x_mn (by omega)) x_ups rfl i_Gs t_Gs_ok n_Gs (by decide) (List.mem_cons_of_mem _ q_99) rfl rfl rfl rfl (Nat.le_of_ble_eq_true rfl) d_Gs_init_17 x_upp ?_
  refine x_aload_n 0 (x_Cn _ C) d_Gs_init_20 rfl rfl ?_
  refine x_bipush (v := 12) (x_Cn _ C) d_Gs_init_21 (by decide) ?_
  refine x_newaB (atype := .long) (ty := .long) (n := n + 2) (t0 := 1) (N' := 12) (x_Cn _ C) (by omega) (by omega) rfl (List.mem_cons_of_mem _ q_109) rfl (fun _ h => h) (fun _ => rfl) (by decide) (by decide) (by decide) ((x_upk (by omega)).trans h2) (Nat.le_of_ble_eq_true rfl) (Nat.le_of_ble_eq_true rfl) d_Gs_init_23 ?_
  refine x_putF (i := (o, 0)) (f' := x_up f (o, 0) (.inr (2, [.ref (b + n), .ref (b + (n + 1)), .ref (b + (n + 2))]))) 2 (x_Cn _ C) hnm (x_mn (by omega)) x_ups rfl i_Gs t_Gs_ok n_Gs (by decide) (List.mem_cons_of_mem _ q_100) rfl rfl rfl rfl (Nat.le_of_ble_eq_true rfl) d_Gs_init_25 x_upp ?_
  exact x_vretN (x_Cn _ C) hs hr hlk d_Gs_init_28
def x_d (b : Nat) (cA : Nat → ClassId) (k : Nat) : va_E := match k with
  | 0 => .inr (7, [.null, .null, .null, .int 0])
  | 1 => .inr (4, [.null, .int 0])
  | 2 => .inl (cA 3, 24, .inr (.inr (.inr (.inr (fun _ => none)))))
  | 3 => .inr (6, [.int 0, .int 0, .int 0, .int 0, .int 0])
  | 4 => .inr (6, [.int 0, .int 0, .int 0, .int 0, .int 0])
  | 5 => .inr (6, [.int 0, .int 0, .int 0, .int 0, .int 0])
  | 6 => .inr (6, [.int 0, .int 0, .int 0, .int 0, .int 0])
  | 7 => .inr (6, [.int 0, .int 0, .int 0, .int 0, .int 0])
  | 8 => .inr (6, [.int 0, .int 0, .int 0, .int 0, .int 0])
  | 9 => .inr (6, [.int 0, .int 0, .int 0, .int 0, .int 0])
  | 10 => .inr (6, [.int 0, .int 0, .int 0, .int 0, .int 0])
  | 11 => .inr (6, [.int 0, .int 0, .int 0, .int 0, .int 0])
  | 12 => .inr (6, [.int 0, .int 0, .int 0, .int 0, .int 0])
  | 13 => .inr (6, [.int 0, .int 0, .int 0, .int 0, .int 0])
  | 14 => .inr (6, [.int 0, .int 0, .int 0, .int 0, .int 0])
  | 15 => .inr (6, [.int 0, .int 0, .int 0, .int 0, .int 0])
  | 16 => .inr (6, [.int 0, .int 0, .int 0, .int 0, .int 0])
  | 17 => .inr (6, [.int 0, .int 0, .int 0, .int 0, .int 0])
  | 18 => .inr (6, [.int 0, .int 0, .int 0, .int 0, .int 0])
  | 19 => .inr (6, [.int 0, .int 0, .int 0, .int 0, .int 0])
  | 20 => .inr (6, [.int 0, .int 0, .int 0, .int 0, .int 0])
  | 21 => .inr (6, [.int 0, .int 0, .int 0, .int 0, .int 0])
  | 22 => .inr (6, [.int 0, .int 0, .int 0, .int 0, .int 0])
  | 23 => .inr (6, [.int 0, .int 0, .int 0, .int 0, .int 0])
  | 24 => .inr (6, [.int 0, .int 0, .int 0, .int 0, .int 0])
  | 25 => .inr (6, [.int 0, .int 0, .int 0, .int 0, .int 0])
  | 26 => .inr (6, [.int 0, .int 0, .int 0, .int 0, .int 0])
  | 27 => .inr (0, [.null, .null, .null, .null, .null, .null, .int 0, .int 0, .int 0, .int 0, .int 0, .long 0, .long 0])
  | 28 => .inr (2, [.null, .null, .null])
  | 29 => .inl (cA 0, 12, .inl (fun _ => 0))
  | 30 => .inl (cA 1, 12, .inr (.inl (fun _ => 0)))
  | 31 => .inl (cA 1, 12, .inr (.inl (fun _ => 0)))
  | 32 => .inr (3, [.null, .null])
  | 33 => .inr (1, [.null])
  | 34 => .inl (cA 4, 24, .inr (.inr (.inr (.inr (fun _ => none)))))
  | 35 => .inr (2, [.null, .null, .null])
  | 36 => .inl (cA 0, 12, .inl (fun _ => 0))
  | 37 => .inl (cA 1, 12, .inr (.inl (fun _ => 0)))
  | 38 => .inl (cA 1, 12, .inr (.inl (fun _ => 0)))
  | 39 => .inr (2, [.null, .null, .null])
  | 40 => .inl (cA 0, 12, .inl (fun _ => 0))
  | 41 => .inl (cA 1, 12, .inr (.inl (fun _ => 0)))
  | 42 => .inl (cA 1, 12, .inr (.inl (fun _ => 0)))
  | 43 => .inr (2, [.null, .null, .null])
  | 44 => .inl (cA 0, 12, .inl (fun _ => 0))
  | 45 => .inl (cA 1, 12, .inr (.inl (fun _ => 0)))
  | 46 => .inl (cA 1, 12, .inr (.inl (fun _ => 0)))
  | 47 => .inr (2, [.null, .null, .null])
  | 48 => .inl (cA 0, 12, .inl (fun _ => 0))
  | 49 => .inl (cA 1, 12, .inr (.inl (fun _ => 0)))
  | 50 => .inl (cA 1, 12, .inr (.inl (fun _ => 0)))
  | 51 => .inr (2, [.null, .null, .null])
  | 52 => .inl (cA 0, 12, .inl (fun _ => 0))
  | 53 => .inl (cA 1, 12, .inr (.inl (fun _ => 0)))
  | 54 => .inl (cA 1, 12, .inr (.inl (fun _ => 0)))
  | 55 => .inr (2, [.null, .null, .null])
  | 56 => .inl (cA 0, 12, .inl (fun _ => 0))
  | 57 => .inl (cA 1, 12, .inr (.inl (fun _ => 0)))
  | 58 => .inl (cA 1, 12, .inr (.inl (fun _ => 0)))
  | 59 => .inr (2, [.null, .null, .null])
  | 60 => .inl (cA 0, 12, .inl (fun _ => 0))
  | 61 => .inl (cA 1, 12, .inr (.inl (fun _ => 0)))
  | 62 => .inl (cA 1, 12, .inr (.inl (fun _ => 0)))
  | 63 => .inr (2, [.null, .null, .null])
  | 64 => .inl (cA 0, 12, .inl (fun _ => 0))
  | 65 => .inl (cA 1, 12, .inr (.inl (fun _ => 0)))
  | 66 => .inl (cA 1, 12, .inr (.inl (fun _ => 0)))
  | 67 => .inr (2, [.null, .null, .null])
  | 68 => .inl (cA 0, 12, .inl (fun _ => 0))
  | 69 => .inl (cA 1, 12, .inr (.inl (fun _ => 0)))
  | 70 => .inl (cA 1, 12, .inr (.inl (fun _ => 0)))
  | 71 => .inr (2, [.null, .null, .null])
  | 72 => .inl (cA 0, 12, .inl (fun _ => 0))
  | 73 => .inl (cA 1, 12, .inr (.inl (fun _ => 0)))
  | 74 => .inl (cA 1, 12, .inr (.inl (fun _ => 0)))
  | 75 => .inr (2, [.null, .null, .null])
  | 76 => .inl (cA 0, 12, .inl (fun _ => 0))
  | 77 => .inl (cA 1, 12, .inr (.inl (fun _ => 0)))
  | 78 => .inl (cA 1, 12, .inr (.inl (fun _ => 0)))
  | 79 => .inr (2, [.null, .null, .null])
  | 80 => .inl (cA 0, 12, .inl (fun _ => 0))
  | 81 => .inl (cA 1, 12, .inr (.inl (fun _ => 0)))
  | 82 => .inl (cA 1, 12, .inr (.inl (fun _ => 0)))
  | 83 => .inr (2, [.null, .null, .null])
  | 84 => .inl (cA 0, 12, .inl (fun _ => 0))
  | 85 => .inl (cA 1, 12, .inr (.inl (fun _ => 0)))
  | 86 => .inl (cA 1, 12, .inr (.inl (fun _ => 0)))
  | 87 => .inr (2, [.null, .null, .null])
  | 88 => .inl (cA 0, 12, .inl (fun _ => 0))
  | 89 => .inl (cA 1, 12, .inr (.inl (fun _ => 0)))
  | 90 => .inl (cA 1, 12, .inr (.inl (fun _ => 0)))
  | 91 => .inr (2, [.null, .null, .null])
  | 92 => .inl (cA 0, 12, .inl (fun _ => 0))
  | 93 => .inl (cA 1, 12, .inr (.inl (fun _ => 0)))
  | 94 => .inl (cA 1, 12, .inr (.inl (fun _ => 0)))
  | 95 => .inr (2, [.null, .null, .null])
  | 96 => .inl (cA 0, 12, .inl (fun _ => 0))
  | 97 => .inl (cA 1, 12, .inr (.inl (fun _ => 0)))
  | 98 => .inl (cA 1, 12, .inr (.inl (fun _ => 0)))
  | 99 => .inr (2, [.null, .null, .null])
  | 100 => .inl (cA 0, 12, .inl (fun _ => 0))
  | 101 => .inl (cA 1, 12, .inr (.inl (fun _ => 0)))
  | 102 => .inl (cA 1, 12, .inr (.inl (fun _ => 0)))
  | 103 => .inr (2, [.null, .null, .null])
  | 104 => .inl (cA 0, 12, .inl (fun _ => 0))
  | 105 => .inl (cA 1, 12, .inr (.inl (fun _ => 0)))
  | 106 => .inl (cA 1, 12, .inr (.inl (fun _ => 0)))
  | 107 => .inr (2, [.null, .null, .null])
  | 108 => .inl (cA 0, 12, .inl (fun _ => 0))
  | 109 => .inl (cA 1, 12, .inr (.inl (fun _ => 0)))
  | 110 => .inl (cA 1, 12, .inr (.inl (fun _ => 0)))
  | 111 => .inr (2, [.null, .null, .null])
  | 112 => .inl (cA 0, 12, .inl (fun _ => 0))
  | 113 => .inl (cA 1, 12, .inr (.inl (fun _ => 0)))
  | 114 => .inl (cA 1, 12, .inr (.inl (fun _ => 0)))
  | 115 => .inr (2, [.null, .null, .null])
  | 116 => .inl (cA 0, 12, .inl (fun _ => 0))
  | 117 => .inl (cA 1, 12, .inr (.inl (fun _ => 0)))
  | 118 => .inl (cA 1, 12, .inr (.inl (fun _ => 0)))
  | 119 => .inr (2, [.null, .null, .null])
  | 120 => .inl (cA 0, 12, .inl (fun _ => 0))
  | 121 => .inl (cA 1, 12, .inr (.inl (fun _ => 0)))
  | 122 => .inl (cA 1, 12, .inr (.inl (fun _ => 0)))
  | 123 => .inr (2, [.null, .null, .null])
  | 124 => .inl (cA 0, 12, .inl (fun _ => 0))
  | 125 => .inl (cA 1, 12, .inr (.inl (fun _ => 0)))
  | 126 => .inl (cA 1, 12, .inr (.inl (fun _ => 0)))
  | 127 => .inr (2, [.null, .null, .null])
  | 128 => .inl (cA 0, 12, .inl (fun _ => 0))
  | 129 => .inl (cA 1, 12, .inr (.inl (fun _ => 0)))
  | 130 => .inl (cA 1, 12, .inr (.inl (fun _ => 0)))
  | 131 => .inl (cA 2, 24, .inl (fun _ => 0))
  | 132 => .inr (5, [.null, .null, .null, .null, .int 0, .int 0])
  | 133 => .inl (cA 5, 6, .inr (.inr (.inr (.inr (fun i => if i < 6 then some (b + (134 + i)) else none)))))
  | 134 => .inl (cA 1, 2, .inr (.inl (fun _ => 0)))
  | 135 => .inl (cA 1, 2, .inr (.inl (fun _ => 0)))
  | 136 => .inl (cA 1, 2, .inr (.inl (fun _ => 0)))
  | 137 => .inl (cA 1, 2, .inr (.inl (fun _ => 0)))
  | 138 => .inl (cA 1, 2, .inr (.inl (fun _ => 0)))
  | 139 => .inl (cA 1, 2, .inr (.inl (fun _ => 0)))
  | 140 => .inl (cA 0, 12, .inl (fun _ => 0))
  | 141 => .inl (cA 1, 12, .inr (.inl (fun _ => 0)))
  | 142 => .inr (8, [.null, .null, .null, .null, .null, .int 0, .int 0, .int 0, .int 0, .int 0, .int 0, .int 0, .int 0, .int 0, .long 0, .long 0, .null, .null, .null, .null, .null, .null, .null, .null, .int 0, .int 0])
  | 143 => .inl (cA 0, 24, .inl (fun _ => 0))
  | 144 => .inl (cA 0, 24, .inl (fun _ => 0))
  | 145 => .inl (cA 0, 24, .inl (fun _ => 0))
  | 146 => .inl (cA 0, 24, .inl (fun _ => 0))
  | 147 => .inl (cA 0, 24, .inl (fun _ => 0))
  | 148 => .inl (cA 0, 12, .inl (fun _ => 0))
  | 149 => .inl (cA 1, 12, .inr (.inl (fun _ => 0)))
  | 150 => .inl (cA 1, 12, .inr (.inl (fun _ => 0)))
  | 151 => .inl (cA 0, 360, .inl (fun _ => 0))
  | 152 => .inl (cA 0, 30, .inl (fun _ => 0))
  | 153 => .inl (cA 1, 360, .inr (.inl (fun _ => 0)))
  | 154 => .inl (cA 1, 360, .inr (.inl (fun _ => 0)))
  | 155 => .inl (cA 1, 12, .inr (.inl (fun _ => 0)))
  | _ => .inl (cA 1, 1, .inr (.inl (fun _ => 0)))
set_option maxHeartbeats 4000000 in
set_option maxRecDepth 100000 in
theorem c_Md_init {l : Launch} {D : va_G} {cA : Nat → ClassId} {b : Nat} {f : x_I → va_E} (ho : f (142, 0) = x_d b cA 142) (hf : ∀ k, 143 ≤ k → k < 156 → f (k, 0) = x_d b cA k) : x_MN l y_Md_init (Cond.code y_Md_init b_Md_init 1 none :: x_Wd) { frames := 1, cells := 13, slots := 1278, locals := 12 } D cA b 143 156 f (x_up f (142, 0) (.inr (8, [.ref (b + 143), .ref (b + 144), .ref (b + 145), .ref (b + 146), .ref (b + 147), .int 0, .int 0, .int 0, .int 0, .int 0, .int 0, .int 0, .int 0, .int 0, .long 0, .long 0, .ref (b + 148), .ref (b + 149), .ref (b + 150), .ref (b + 151), .ref (b + 152), .ref (b + 153), .ref (b + 154), .ref (b + 155), .int 0, .int 0]))) [(.ref (b + 142))] 13 1278 := by
  refine x_startN (cc := b_Md_init) (lv0 := [(0, (.ref (b + 142)))]) (by decide) rfl (Nat.le_of_ble_eq_true rfl) rfl ?_
  intro p e s m below meth c C hB hs hnm hr hlk
  refine x_aload_n 0 (x_Cn _ C) d_Md_init_0 rfl rfl ?_
  refine x_objI (x_Cn _ C) q_790 d_Md_init_1 (Nat.le_of_ble_eq_true rfl) (Nat.le_of_ble_eq_true rfl) ?_
  refine x_aload_n 0 (x_Cn _ C) d_Md_init_4 rfl rfl ?_
  refine x_bipush (v := 24) (x_Cn _ C) d_Md_init_5 (by decide) ?_
  refine x_newaB (atype := .int) (ty := .int) (t0 := 0) (N' := 24) (x_Cn _ C) (by omega) (by omega) rfl (List.mem_cons_of_mem _ q_108) rfl (fun _ h => h) (fun _ => rfl) (by decide) (by decide) (by decide) (hf 143 (by omega) (by omega)) (Nat.le_of_ble_eq_true rfl) (Nat.le_of_ble_eq_true rfl) d_Md_init_7 ?_
  refine x_putF (i := (142, 0)) (f' := (x_up f (142, 0) (.inr (8, [.ref (b + 143), .null, .null, .null, .null, .int 0, .int 0, .int 0, .int 0, .int 0, .int 0, .int 0, .int 0, .int 0, .long 0, .long 0, .null, .null, .null, .null, .null, .null, .null, .null, .int 0, .int 0])))) 0 (x_Cn _ C) hnm (x_mn (by omega)) (ho) rfl i_Md t_Md_ok n_Md (by decide) (List.mem_cons_of_mem _ q_791) rfl rfl rfl rfl (Nat.le_of_ble_eq_true rfl) d_Md_init_9 rfl ?_
  refine x_aload_n 0 (x_Cn _ C) d_Md_init_12 rfl rfl ?_
  refine x_bipush (v := 24) (x_Cn _ C) d_Md_init_13 (by decide) ?_
  refine x_newaB (atype := .int) (ty := .int) (t0 := 0) (N' := 24) (x_Cn _ C) (by omega) (by omega) rfl (List.mem_cons_of_mem _ q_108) rfl (fun _ h => h) (fun _ => rfl) (by decide) (by decide) (by decide) ((x_upk (by omega)).trans (hf 144 (by omega) (by omega))) (Nat.le_of_ble_eq_true rfl) (Nat.le_of_ble_eq_true rfl) d_Md_init_15 ?_
  refine x_putF (i := (142, 0)) (f' := (x_up f (142, 0) (.inr (8, [.ref (b + 143), .ref (b + 144), .null, .null, .null, .int 0, .int 0, .int 0, .int 0, .int 0, .int 0, .int 0, .int 0, .int 0, .long 0, .long 0, .null, .null, .null, .null, .null, .null, .null, .null, .int 0, .int 0])))) 1 (x_Cn _ C) hnm (x_mn (by omega)) (x_ups) rfl i_Md t_Md_ok n_Md (by decide) (List.mem_cons_of_mem _ q_792) rfl rfl rfl rfl (Nat.le_of_ble_eq_true rfl) d_Md_init_17 x_upp ?_
  refine x_aload_n 0 (x_Cn _ C) d_Md_init_20 rfl rfl ?_
  refine x_bipush (v := 24) (x_Cn _ C) d_Md_init_21 (by decide) ?_
  refine x_newaB (atype := .int) (ty := .int) (t0 := 0) (N' := 24) (x_Cn _ C) (by omega) (by omega) rfl (List.mem_cons_of_mem _ q_108) rfl (fun _ h => h) (fun _ => rfl) (by decide) (by decide) (by decide) ((x_upk (by omega)).trans (hf 145 (by omega) (by omega))) (Nat.le_of_ble_eq_true rfl) (Nat.le_of_ble_eq_true rfl) d_Md_init_23 ?_
  refine x_putF (i := (142, 0)) (f' := (x_up f (142, 0) (.inr (8, [.ref (b + 143), .ref (b + 144), .ref (b + 145), .null, .null, .int 0, .int 0, .int 0, .int 0, .int 0, .int 0, .int 0, .int 0, .int 0, .long 0, .long 0, .null, .null, .null, .null, .null, .null, .null, .null, .int 0, .int 0])))) 2 (x_Cn _ C) hnm (x_mn (by omega)) (x_ups) rfl i_Md t_Md_ok n_Md (by decide) (List.mem_cons_of_mem _ q_793) rfl rfl rfl rfl (Nat.le_of_ble_eq_true rfl) d_Md_init_25 x_upp ?_
  refine x_aload_n 0 (x_Cn _ C) d_Md_init_28 rfl rfl ?_
  refine x_bipush (v := 24) (x_Cn _ C) d_Md_init_29 (by decide) ?_
  refine x_newaB (atype := .int) (ty := .int) (t0 := 0) (N' := 24) (x_Cn _ C) (by omega) (by omega) rfl (List.mem_cons_of_mem _ q_108) rfl (fun _ h => h) (fun _ => rfl) (by decide) (by decide) (by decide) ((x_upk (by omega)).trans (hf 146 (by omega) (by omega))) (Nat.le_of_ble_eq_true rfl) (Nat.le_of_ble_eq_true rfl) d_Md_init_31 ?_
  refine x_putF (i := (142, 0)) (f' := (x_up f (142, 0) (.inr (8, [.ref (b + 143), .ref (b + 144), .ref (b + 145), .ref (b + 146), .null, .int 0, .int 0, .int 0, .int 0, .int 0, .int 0, .int 0, .int 0, .int 0, .long 0, .long 0, .null, .null, .null, .null, .null, .null, .null, .null, .int 0, .int 0])))) 3 (x_Cn _ C) hnm (x_mn (by omega)) (x_ups) rfl i_Md t_Md_ok n_Md (by decide) (List.mem_cons_of_mem _ q_794) rfl rfl rfl rfl (Nat.le_of_ble_eq_true rfl) d_Md_init_33 x_upp ?_
  refine x_aload_n 0 (x_Cn _ C) d_Md_init_36 rfl rfl ?_
  refine x_bipush (v := 24) (x_Cn _ C) d_Md_init_37 (by decide) ?_
  refine x_newaB (atype := .int) (ty := .int) (t0 := 0) (N' := 24) (x_Cn _ C) (by omega) (by omega) rfl (List.mem_cons_of_mem _ q_108) rfl (fun _ h => h) (fun _ => rfl) (by decide) (by decide) (by decide) ((x_upk (by omega)).trans (hf 147 (by omega) (by omega))) (Nat.le_of_ble_eq_true rfl) (Nat.le_of_ble_eq_true rfl) d_Md_init_39 ?_
  refine x_putF (i := (142, 0)) (f' := (x_up f (142, 0) (.inr (8, [.ref (b + 143), .ref (b + 144), .ref (b + 145), .ref (b + 146), .ref (b + 147), .int 0, .int 0, .int 0, .int 0, .int 0, .int 0, .int 0, .int 0, .int 0, .long 0, .long 0, .null, .null, .null, .null, .null, .null, .null, .null, .int 0, .int 0])))) 4 (x_Cn _ C) hnm (x_mn (by omega)) (x_ups) rfl i_Md t_Md_ok n_Md (by decide) (List.mem_cons_of_mem _ q_795) rfl rfl rfl rfl (Nat.le_of_ble_eq_true rfl) d_Md_init_41 x_upp ?_
  refine x_aload_n 0 (x_Cn _ C) d_Md_init_44 rfl rfl ?_
  refine x_bipush (v := 12) (x_Cn _ C) d_Md_init_45 (by decide) ?_
  refine x_newaB (atype := .int) (ty := .int) (t0 := 0) (N' := 12) (x_Cn _ C) (by omega) (by omega) rfl (List.mem_cons_of_mem _ q_108) rfl (fun _ h => h) (fun _ => rfl) (by decide) (by decide) (by decide) ((x_upk (by omega)).trans (hf 148 (by omega) (by omega))) (Nat.le_of_ble_eq_true rfl) (Nat.le_of_ble_eq_true rfl) d_Md_init_47 ?_
  refine x_putF (i := (142, 0)) (f' := (x_up f (142, 0) (.inr (8, [.ref (b + 143), .ref (b + 144), .ref (b + 145), .ref (b + 146), .ref (b + 147), .int 0, .int 0, .int 0, .int 0, .int 0, .int 0, .int 0, .int 0, .int 0, .long 0, .long 0, .ref (b + 148), .null, .null, .null, .null, .null, .null, .null, .int 0, .int 0])))) 16 (x_Cn _ C) hnm (x_mn (by omega)) (x_ups) rfl i_Md t_Md_ok n_Md (by decide) (List.mem_cons_of_mem _ q_807) rfl rfl rfl rfl (Nat.le_of_ble_eq_true rfl) d_Md_init_49 x_upp ?_
  refine x_aload_n 0 (x_Cn _ C) d_Md_init_52 rfl rfl ?_
  refine x_bipush (v := 12) (x_Cn _ C) d_Md_init_53 (by decide) ?_
  refine x_newaB (atype := .long) (ty := .long) (t0 := 1) (N' := 12) (x_Cn _ C) (by omega) (by omega) rfl (List.mem_cons_of_mem _ q_109) rfl (fun _ h => h) (fun _ => rfl) (by decide) (by decide) (by decide) ((x_upk (by omega)).trans (hf 149 (by omega) (by omega))) (Nat.le_of_ble_eq_true rfl) (Nat.le_of_ble_eq_true rfl) d_Md_init_55 ?_
  refine x_putF (i := (142, 0)) (f' := (x_up f (142, 0) (.inr (8, [.ref (b + 143), .ref (b + 144), .ref (b + 145), .ref (b + 146), .ref (b + 147), .int 0, .int 0, .int 0, .int 0, .int 0, .int 0, .int 0, .int 0, .int 0, .long 0, .long 0, .ref (b + 148), .ref (b + 149), .null, .null, .null, .null, .null, .null, .int 0, .int 0])))) 17 (x_Cn _ C) hnm (x_mn (by omega)) (x_ups) rfl i_Md t_Md_ok n_Md (by decide) (List.mem_cons_of_mem _ q_808) rfl rfl rfl rfl (Nat.le_of_ble_eq_true rfl) d_Md_init_57 x_upp ?_
  refine x_aload_n 0 (x_Cn _ C) d_Md_init_60 rfl rfl ?_
  refine x_bipush (v := 12) (x_Cn _ C) d_Md_init_61 (by decide) ?_
  refine x_newaB (atype := .long) (ty := .long) (t0 := 1) (N' := 12) (x_Cn _ C) (by omega) (by omega) rfl (List.mem_cons_of_mem _ q_109) rfl (fun _ h => h) (fun _ => rfl) (by decide) (by decide) (by decide) ((x_upk (by omega)).trans (hf 150 (by omega) (by omega))) (Nat.le_of_ble_eq_true rfl) (Nat.le_of_ble_eq_true rfl) d_Md_init_63 ?_
  refine x_putF (i := (142, 0)) (f' := (x_up f (142, 0) (.inr (8, [.ref (b + 143), .ref (b + 144), .ref (b + 145), .ref (b + 146), .ref (b + 147), .int 0, .int 0, .int 0, .int 0, .int 0, .int 0, .int 0, .int 0, .int 0, .long 0, .long 0, .ref (b + 148), .ref (b + 149), .ref (b + 150), .null, .null, .null, .null, .null, .int 0, .int 0])))) 18 (x_Cn _ C) hnm (x_mn (by omega)) (x_ups) rfl i_Md t_Md_ok n_Md (by decide) (List.mem_cons_of_mem _ q_809) rfl rfl rfl rfl (Nat.le_of_ble_eq_true rfl) d_Md_init_65 x_upp ?_
  refine x_aload_n 0 (x_Cn _ C) d_Md_init_68 rfl rfl ?_
  refine x_sipush (v := 360) (x_Cn _ C) d_Md_init_69 (by decide) ?_
  refine x_newaB (atype := .int) (ty := .int) (t0 := 0) (N' := 360) (x_Cn _ C) (by omega) (by omega) rfl (List.mem_cons_of_mem _ q_108) rfl (fun _ h => h) (fun _ => rfl) (by decide) (by decide) (by decide) ((x_upk (by omega)).trans (hf 151 (by omega) (by omega))) (Nat.le_of_ble_eq_true rfl) (Nat.le_of_ble_eq_true rfl) d_Md_init_72 ?_
  refine x_putF (i := (142, 0)) (f' := (x_up f (142, 0) (.inr (8, [.ref (b + 143), .ref (b + 144), .ref (b + 145), .ref (b + 146), .ref (b + 147), .int 0, .int 0, .int 0, .int 0, .int 0, .int 0, .int 0, .int 0, .int 0, .long 0, .long 0, .ref (b + 148), .ref (b + 149), .ref (b + 150), .ref (b + 151), .null, .null, .null, .null, .int 0, .int 0])))) 19 (x_Cn _ C) hnm (x_mn (by omega)) (x_ups) rfl i_Md t_Md_ok n_Md (by decide) (List.mem_cons_of_mem _ q_810) rfl rfl rfl rfl (Nat.le_of_ble_eq_true rfl) d_Md_init_74 x_upp ?_
  refine x_aload_n 0 (x_Cn _ C) d_Md_init_77 rfl rfl ?_
  refine x_bipush (v := 30) (x_Cn _ C) d_Md_init_78 (by decide) ?_
  refine x_newaB (atype := .int) (ty := .int) (t0 := 0) (N' := 30) (x_Cn _ C) (by omega) (by omega) rfl (List.mem_cons_of_mem _ q_108) rfl (fun _ h => h) (fun _ => rfl) (by decide) (by decide) (by decide) ((x_upk (by omega)).trans (hf 152 (by omega) (by omega))) (Nat.le_of_ble_eq_true rfl) (Nat.le_of_ble_eq_true rfl) d_Md_init_80 ?_
  refine x_putF (i := (142, 0)) (f' := (x_up f (142, 0) (.inr (8, [.ref (b + 143), .ref (b + 144), .ref (b + 145), .ref (b + 146), .ref (b + 147), .int 0, .int 0, .int 0, .int 0, .int 0, .int 0, .int 0, .int 0, .int 0, .long 0, .long 0, .ref (b + 148), .ref (b + 149), .ref (b + 150), .ref (b + 151), .ref (b + 152), .null, .null, .null, .int 0, .int 0])))) 20 (x_Cn _ C) hnm (x_mn (by omega)) (x_ups) rfl i_Md t_Md_ok n_Md (by decide) (List.mem_cons_of_mem _ q_811) rfl rfl rfl rfl (Nat.le_of_ble_eq_true rfl) d_Md_init_82 x_upp ?_
  refine x_aload_n 0 (x_Cn _ C) d_Md_init_85 rfl rfl ?_
  refine x_sipush (v := 360) (x_Cn _ C) d_Md_init_86 (by decide) ?_
  refine x_newaB (atype := .long) (ty := .long) (t0 := 1) (N' := 360) (x_Cn _ C) (by omega) (by omega) rfl (List.mem_cons_of_mem _ q_109) rfl (fun _ h => h) (fun _ => rfl) (by decide) (by decide) (by decide) ((x_upk (by omega)).trans (hf 153 (by omega) (by omega))) (Nat.le_of_ble_eq_true rfl) (Nat.le_of_ble_eq_true rfl) d_Md_init_89 ?_
  refine x_putF (i := (142, 0)) (f' := (x_up f (142, 0) (.inr (8, [.ref (b + 143), .ref (b + 144), .ref (b + 145), .ref (b + 146), .ref (b + 147), .int 0, .int 0, .int 0, .int 0, .int 0, .int 0, .int 0, .int 0, .int 0, .long 0, .long 0, .ref (b + 148), .ref (b + 149), .ref (b + 150), .ref (b + 151), .ref (b + 152), .ref (b + 153), .null, .null, .int 0, .int 0])))) 21 (x_Cn _ C) hnm (x_mn (by omega)) (x_ups) rfl i_Md t_Md_ok n_Md (by decide) (List.mem_cons_of_mem _ q_812) rfl rfl rfl rfl (Nat.le_of_ble_eq_true rfl) d_Md_init_91 x_upp ?_
  refine x_aload_n 0 (x_Cn _ C) d_Md_init_94 rfl rfl ?_
  refine x_sipush (v := 360) (x_Cn _ C) d_Md_init_95 (by decide) ?_
  refine x_newaB (atype := .long) (ty := .long) (t0 := 1) (N' := 360) (x_Cn _ C) (by omega) (by omega) rfl (List.mem_cons_of_mem _ q_109) rfl (fun _ h => h) (fun _ => rfl) (by decide) (by decide) (by decide) ((x_upk (by omega)).trans (hf 154 (by omega) (by omega))) (Nat.le_of_ble_eq_true rfl) (Nat.le_of_ble_eq_true rfl) d_Md_init_98 ?_
  refine x_putF (i := (142, 0)) (f' := (x_up f (142, 0) (.inr (8, [.ref (b + 143), .ref (b + 144), .ref (b + 145), .ref (b + 146), .ref (b + 147), .int 0, .int 0, .int 0, .int 0, .int 0, .int 0, .int 0, .int 0, .int 0, .long 0, .long 0, .ref (b + 148), .ref (b + 149), .ref (b + 150), .ref (b + 151), .ref (b + 152), .ref (b + 153), .ref (b + 154), .null, .int 0, .int 0])))) 22 (x_Cn _ C) hnm (x_mn (by omega)) (x_ups) rfl i_Md t_Md_ok n_Md (by decide) (List.mem_cons_of_mem _ q_813) rfl rfl rfl rfl (Nat.le_of_ble_eq_true rfl) d_Md_init_100 x_upp ?_
  refine x_aload_n 0 (x_Cn _ C) d_Md_init_103 rfl rfl ?_
  refine x_bipush (v := 12) (x_Cn _ C) d_Md_init_104 (by decide) ?_
  refine x_newaB (atype := .long) (ty := .long) (t0 := 1) (N' := 12) (x_Cn _ C) (by omega) (by omega) rfl (List.mem_cons_of_mem _ q_109) rfl (fun _ h => h) (fun _ => rfl) (by decide) (by decide) (by decide) ((x_upk (by omega)).trans (hf 155 (by omega) (by omega))) (Nat.le_of_ble_eq_true rfl) (Nat.le_of_ble_eq_true rfl) d_Md_init_106 ?_
  refine x_putF (i := (142, 0)) (f' := (x_up f (142, 0) (.inr (8, [.ref (b + 143), .ref (b + 144), .ref (b + 145), .ref (b + 146), .ref (b + 147), .int 0, .int 0, .int 0, .int 0, .int 0, .int 0, .int 0, .int 0, .int 0, .long 0, .long 0, .ref (b + 148), .ref (b + 149), .ref (b + 150), .ref (b + 151), .ref (b + 152), .ref (b + 153), .ref (b + 154), .ref (b + 155), .int 0, .int 0])))) 23 (x_Cn _ C) hnm (x_mn (by omega)) (x_ups) rfl i_Md t_Md_ok n_Md (by decide) (List.mem_cons_of_mem _ q_814) rfl rfl rfl rfl (Nat.le_of_ble_eq_true rfl) d_Md_init_108 x_upp ?_
  exact x_vretN (x_Cn _ C) hs hr hlk d_Md_init_111
