def x_lg (b j : Nat) (f : x_I → va_E) : x_I → va_E := fun i => if 35 ≤ i.1 ∧ i.1 < 35 + 4 * j ∧ (i.1 - 35) % 4 = 0 ∧ i.2 = 0 then .inr (2, [.ref (b + (i.1 + 1)), .ref (b + (i.1 + 1 + 1)), .ref (b + (i.1 + 1 + 2))]) else f i
theorem x_lgO {b j k : Nat} {f : x_I → va_E} (h : k < 35 ∨ 35 + 4 * j ≤ k) : x_lg b j f (k, 0) = f (k, 0) := if_neg (fun h9 => by have h1 : 35 ≤ k := h9.1; have h2 : k < 35 + 4 * j := h9.2.1; omega)
theorem x_lg0 {b : Nat} {f : x_I → va_E} : x_lg b 0 f = f := funext fun i => if_neg (fun h9 => by have h1 := h9.1; have h2 := h9.2.1; omega)
theorem x_lgS {b j : Nat} {cA : Nat → ClassId} {f : x_I → va_E} : x_up (x_up (x_up (x_lg b j f) (34, 0) (.inl (cA 4, 24, .inr (.inr (.inr (.inr (x_sg b 35 j 4))))))) (35 + 4 * j, 0) (.inr (2, [.ref (b + ((35 + 4 * j) + 1)), .ref (b + ((35 + 4 * j) + 1 + 1)), .ref (b + ((35 + 4 * j) + 1 + 2))]))) (34, 0) (.inl (cA 4, 24, .inr (.inr (.inr (.inr (x_sg b 35 (j + 1) 4)))))) = x_up (x_lg b (j + 1) f) (34, 0) (.inl (cA 4, 24, .inr (.inr (.inr (.inr (x_sg b 35 (j + 1) 4)))))) := by
  funext i
  by_cases h1 : i = (34, 0)
  · subst h1; rw [x_ups, x_ups]
  · rw [x_upn h1, x_upn h1]
    by_cases h2 : i = (35 + 4 * j, 0)
    · subst h2
      rw [x_ups]
      exact (if_pos ⟨by show 35 ≤ 35 + 4 * j; omega, by show 35 + 4 * j < 35 + 4 * (j + 1); omega, by show (35 + 4 * j - 35) % 4 = 0; omega, rfl⟩).symm
    · rw [x_upn h2, x_upn h1]
      unfold x_lg
      by_cases h3 : 35 ≤ i.1 ∧ i.1 < 35 + 4 * j ∧ (i.1 - 35) % 4 = 0 ∧ i.2 = 0
      · rw [if_pos h3, if_pos ⟨h3.1, by have := h3.2.1; omega, h3.2.2.1, h3.2.2.2⟩]
      · rw [if_neg h3, if_neg (fun h9 => ?_)]
        refine h3 ⟨h9.1, ?_, h9.2.2.1, h9.2.2.2⟩
        have a1 := h9.1
        have a2 := h9.2.1
        have a3 := h9.2.2.1
        have a4 : i.1 ≠ 35 + 4 * j := fun e => h2 (Prod.ext e h9.2.2.2)
        omega
theorem x_dG0 {b : Nat} {cA : Nat → ClassId} : ∀ j, j < 24 → x_d b cA (35 + 4 * j) = .inr (2, [.null, .null, .null])
  | 0, _ => rfl
  | 1, _ => rfl
  | 2, _ => rfl
  | 3, _ => rfl
  | 4, _ => rfl
  | 5, _ => rfl
  | 6, _ => rfl
  | 7, _ => rfl
  | 8, _ => rfl
  | 9, _ => rfl
  | 10, _ => rfl
  | 11, _ => rfl
  | 12, _ => rfl
  | 13, _ => rfl
  | 14, _ => rfl
  | 15, _ => rfl
  | 16, _ => rfl
  | 17, _ => rfl
  | 18, _ => rfl
  | 19, _ => rfl
  | 20, _ => rfl
  | 21, _ => rfl
  | 22, _ => rfl
  | 23, _ => rfl
  | i + 24, h => absurd h (by omega)
theorem x_dG1 {b : Nat} {cA : Nat → ClassId} : ∀ j, j < 24 → x_d b cA (35 + 4 * j + 1) = .inl (cA 0, 12, .inl (fun _ => 0))
  | 0, _ => rfl
  | 1, _ => rfl
  | 2, _ => rfl
  | 3, _ => rfl
  | 4, _ => rfl
  | 5, _ => rfl
  | 6, _ => rfl
  | 7, _ => rfl
  | 8, _ => rfl
  | 9, _ => rfl
  | 10, _ => rfl
  | 11, _ => rfl
  | 12, _ => rfl
  | 13, _ => rfl
  | 14, _ => rfl
  | 15, _ => rfl
  | 16, _ => rfl
  | 17, _ => rfl
  | 18, _ => rfl
  | 19, _ => rfl
  | 20, _ => rfl
  | 21, _ => rfl
  | 22, _ => rfl
  | 23, _ => rfl
  | i + 24, h => absurd h (by omega)
theorem x_dG2 {b : Nat} {cA : Nat → ClassId} : ∀ j, j < 24 → x_d b cA (35 + 4 * j + 1 + 1) = .inl (cA 1, 12, .inr (.inl (fun _ => 0)))
  | 0, _ => rfl
  | 1, _ => rfl
  | 2, _ => rfl
  | 3, _ => rfl
  | 4, _ => rfl
  | 5, _ => rfl
  | 6, _ => rfl
  | 7, _ => rfl
  | 8, _ => rfl
  | 9, _ => rfl
  | 10, _ => rfl
  | 11, _ => rfl
  | 12, _ => rfl
  | 13, _ => rfl
  | 14, _ => rfl
  | 15, _ => rfl
  | 16, _ => rfl
  | 17, _ => rfl
  | 18, _ => rfl
  | 19, _ => rfl
  | 20, _ => rfl
  | 21, _ => rfl
  | 22, _ => rfl
  | 23, _ => rfl
  | i + 24, h => absurd h (by omega)
theorem x_dG3 {b : Nat} {cA : Nat → ClassId} : ∀ j, j < 24 → x_d b cA (35 + 4 * j + 1 + 2) = .inl (cA 1, 12, .inr (.inl (fun _ => 0)))
  | 0, _ => rfl
  | 1, _ => rfl
  | 2, _ => rfl
  | 3, _ => rfl
  | 4, _ => rfl
  | 5, _ => rfl
  | 6, _ => rfl
  | 7, _ => rfl
  | 8, _ => rfl
  | 9, _ => rfl
  | 10, _ => rfl
  | 11, _ => rfl
  | 12, _ => rfl
  | 13, _ => rfl
  | 14, _ => rfl
  | 15, _ => rfl
  | 16, _ => rfl
  | 17, _ => rfl
  | 18, _ => rfl
  | 19, _ => rfl
  | 20, _ => rfl
  | 21, _ => rfl
  | 22, _ => rfl
  | 23, _ => rfl
  | i + 24, h => absurd h (by omega)
def x_fC1 (b : Nat) (f : x_I → va_E) : x_I → va_E := (x_up (x_up (x_up (x_up (x_up (x_up (x_up f (27, 0) (.inr (0, [.ref (b + 1), .null, .null, .null, .null, .null, .int 0, .int 0, .int 0, .int 0, .int 0, .long 0, .long 0]))) (28, 0) (.inr (2, [.ref (b + 29), .ref (b + (29 + 1)), .ref (b + (29 + 2))]))) (27, 0) (.inr (0, [.ref (b + 1), .ref (b + 28), .null, .null, .null, .null, .int 0, .int 0, .int 0, .int 0, .int 0, .long 0, .long 0]))) (32, 0) (.inr (3, [.ref (b + 1), .ref (b + 28)]))) (27, 0) (.inr (0, [.ref (b + 1), .ref (b + 28), .ref (b + 32), .null, .null, .null, .int 0, .int 0, .int 0, .int 0, .int 0, .long 0, .long 0]))) (33, 0) (.inr (1, [.ref (b + 28)]))) (27, 0) (.inr (0, [.ref (b + 1), .ref (b + 28), .ref (b + 32), .ref (b + 33), .ref (b + 34), .null, .int 0, .int 0, .int 0, .int 0, .int 0, .long 0, .long 0])))
theorem x_fC1_27 {b : Nat} {f : x_I → va_E} : x_fC1 b f (27, 0) = .inr (0, [.ref (b + 1), .ref (b + 28), .ref (b + 32), .ref (b + 33), .ref (b + 34), .null, .int 0, .int 0, .int 0, .int 0, .int 0, .long 0, .long 0]) := x_ups
theorem x_fC1_out {b k : Nat} {f : x_I → va_E} (h : k ≠ 27 ∧ k ≠ 28 ∧ k ≠ 32 ∧ k ≠ 33) : x_fC1 b f (k, 0) = f (k, 0) := by
  obtain ⟨h1, h2, h3, h4⟩ := h
  exact (x_upk (by omega)).trans ((x_upk (by omega)).trans ((x_upk (by omega)).trans ((x_upk (by omega)).trans ((x_upk (by omega)).trans ((x_upk (by omega)).trans (x_upk (by omega)))))))
def x_fC (b : Nat) (cA : Nat → ClassId) (f : x_I → va_E) : x_I → va_E := x_up (x_up (x_lg b 24 (x_fC1 b f)) (34, 0) (.inl (cA 4, 24, .inr (.inr (.inr (.inr (x_sg b 35 24 4))))))) (27, 0) (.inr (0, [.ref (b + 1), .ref (b + 28), .ref (b + 32), .ref (b + 33), .ref (b + 34), .ref (b + 131), .int 0, .int 0, .int 0, .int 0, .int 0, .long 0, .long 0]))
theorem x_fC_out {b : Nat} {cA : Nat → ClassId} {f : x_I → va_E} {k : Nat} (h : k < 27 ∨ 131 ≤ k) : x_fC b cA f (k, 0) = f (k, 0) := (x_upk (by omega)).trans ((x_upk (by omega)).trans ((x_lgO (by omega)).trans (x_fC1_out (by omega))))
set_option maxHeartbeats 4000000 in
set_option maxRecDepth 100000 in
theorem c_Ck_init {l : Launch} {D : va_G} {cA : Nat → ClassId} {b : Nat} {f : x_I → va_E} (ho : f (27, 0) = x_d b cA 27) (hf : ∀ k, 28 ≤ k → k < 132 → f (k, 0) = x_d b cA k) : x_MN l y_Ck_init (Cond.code y_Ck_init b_Ck_init 3 none :: x_Wd) { frames := 2, cells := 104, slots := 1026, locals := 34 } D cA b 28 132 f (x_fC b cA f) [(.ref (b + 27)), (.ref (b + 1))] 104 1026 := by
  refine x_startN (cc := b_Ck_init) (lv0 := [(0, (.ref (b + 27))), (1, (.ref (b + 1)))]) (by decide) rfl (Nat.le_of_ble_eq_true rfl) rfl ?_
  intro p e s m below meth c C hB hs hnm hr hlk
  have loop : ∀ (t j : Nat), j + t = 24 → x_V p l e { frames := 2, cells := 104, slots := 1026, locals := 34 } s m ([(.ref (b + 27)), (.ref (b + 1))] : List Value).toArray below meth c (x_kn D cA b (35 + 4 * j)) 3 (7 + 4 * j) (66 + 39 * j) (MQ below (x_RN D cA b 28 132 (x_fC b cA f)) ([(.ref (b + 27)), (.ref (b + 1))] : List Value).toArray s 104 1026 (x_A (x_kn D cA b 28) (b + 28))) (x_up (x_lg b j (x_fC1 b f)) (34, 0) (.inl (cA 4, 24, .inr (.inr (.inr (.inr (x_sg b 35 j 4))))))) 62 [(2, (.int (Int32.ofNat j))), (0, (.ref (b + 27))), (1, (.ref (b + 1)))] [] := by
    intro t
    induction t with
    | zero =>
      intro j hj
      have hj : j = 24 := by omega
      subst hj
      refine x_iload_n 0 (x_Cn _ C) d_Ck_init_62 rfl rfl ?_
      refine x_bipush (v := 24) (x_Cn _ C) d_Ck_init_63 (by decide) ?_
      refine x_icmp_ge_y 87 (x_Cn _ C) d_Ck_init_65 (by decide) (by decide) ?_
      refine x_aload_n 1 (x_Cn _ C) d_Ck_init_87 rfl rfl ?_
      refine x_bipush (v := 24) (x_Cn _ C) d_Ck_init_88 (by decide) ?_
      refine x_newaB (atype := .boolean) (ty := .boolean) (n := 131) (t0 := 2) (N' := 24) (x_Cn _ C) (by omega) (by omega) rfl (List.mem_cons_of_mem _ q_174) rfl (fun _ h => h) (fun _ => rfl) (by decide) (by decide) (by decide) ((x_upk (by omega)).trans ((x_lgO (by omega)).trans ((x_fC1_out (by omega)).trans (hf 131 (by omega) (by omega))))) (Nat.le_of_ble_eq_true rfl) (Nat.le_of_ble_eq_true rfl) d_Ck_init_90 ?_
      refine x_putF (i := (27, 0)) (f' := x_fC b cA f) 5 (x_Cn _ C) hnm (x_mn (by omega)) ((x_upk (by omega)).trans ((x_lgO (by omega)).trans x_fC1_27)) rfl i_Ck t_Ck_ok n_Ck (by decide) (List.mem_cons_of_mem _ q_139) rfl rfl rfl rfl (Nat.le_of_ble_eq_true rfl) d_Ck_init_92 rfl ?_
      exact x_vretN (x_Cn _ C) hs hr hlk d_Ck_init_95
    | succ t ih =>
      intro j hj
      obtain ⟨v1, v2, v3, v4⟩ := x_vj j (by omega)
      refine x_iload_n 0 (x_Cn _ C) d_Ck_init_62 rfl rfl ?_
      refine x_bipush (v := 24) (x_Cn _ C) d_Ck_init_63 (by decide) ?_
      refine x_icmp_ge_n 87 (x_Cn _ C) d_Ck_init_65 (by decide) v3 ?_
      refine x_aload_n 1 (x_Cn _ C) d_Ck_init_68 rfl rfl ?_
      refine x_get (i := (27, 0)) (v := .ref (b + 34)) 4 (x_Cn _ C) (x_mn (by omega)) ((x_upk (by omega)).trans ((x_lgO (by omega)).trans x_fC1_27)) rfl i_Ck (by decide) (List.mem_cons_of_mem _ q_138) rfl d_Ck_init_69 ?_
      refine x_iload_n 0 (x_Cn _ C) d_Ck_init_72 rfl rfl ?_
      have hg0 : (x_up (x_lg b j (x_fC1 b f)) (34, 0) (.inl (cA 4, 24, .inr (.inr (.inr (.inr (x_sg b 35 j 4))))))) (35 + 4 * j, 0) = .inr (2, [.null, .null, .null]) := (x_upk (by omega)).trans ((x_lgO (by omega)).trans ((x_fC1_out (by omega)).trans ((hf (35 + 4 * j) (by omega) (by omega)).trans (x_dG0 j (by omega)))))
      have hg1 : (x_up (x_lg b j (x_fC1 b f)) (34, 0) (.inl (cA 4, 24, .inr (.inr (.inr (.inr (x_sg b 35 j 4))))))) (35 + 4 * j + 1, 0) = .inl (cA 0, 12, .inl (fun _ => 0)) := (x_upk (by omega)).trans ((x_lgO (by omega)).trans ((x_fC1_out (by omega)).trans ((hf (35 + 4 * j + 1) (by omega) (by omega)).trans (x_dG1 j (by omega)))))
      have hg2 : (x_up (x_lg b j (x_fC1 b f)) (34, 0) (.inl (cA 4, 24, .inr (.inr (.inr (.inr (x_sg b 35 j 4))))))) (35 + 4 * j + 1 + 1, 0) = .inl (cA 1, 12, .inr (.inl (fun _ => 0))) := (x_upk (by omega)).trans ((x_lgO (by omega)).trans ((x_fC1_out (by omega)).trans ((hf (35 + 4 * j + 1 + 1) (by omega) (by omega)).trans (x_dG2 j (by omega)))))
      have hg3 : (x_up (x_lg b j (x_fC1 b f)) (34, 0) (.inl (cA 4, 24, .inr (.inr (.inr (.inr (x_sg b 35 j 4))))))) (35 + 4 * j + 1 + 2, 0) = .inl (cA 1, 12, .inr (.inl (fun _ => 0))) := (x_upk (by omega)).trans ((x_lgO (by omega)).trans ((x_fC1_out (by omega)).trans ((hf (35 + 4 * j + 1 + 2) (by omega) (by omega)).trans (x_dG3 j (by omega)))))
      refine x_newB (n := 35 + 4 * j) (ci := 2) (fs := [.null, .null, .null]) (ty := t_Gs) (x_Cn _ C) (by omega) (by omega) rfl i_Gs t_Gs_ok (List.mem_cons_of_mem _ q_92) (List.mem_cons_of_mem _ q_93) (List.mem_cons_of_mem _ q_5) hg0 (by decide) (show 7 + 4 * j + 1 ≤ 104 by omega) (show 66 + 39 * j + 3 ≤ 1026 by omega) d_Ck_init_73 ?_
      refine x_dup (x_Cn _ C) d_Ck_init_76 rfl ?_
      refine x_ci (o := 35 + 4 * j) (n' := 35 + 4 * j + 1 + 3) (f' := x_up (x_up (x_lg b j (x_fC1 b f)) (34, 0) (.inl (cA 4, 24, .inr (.inr (.inr (.inr (x_sg b 35 j 4))))))) (35 + 4 * j, 0) (.inr (2, [.ref (b + ((35 + 4 * j) + 1)), .ref (b + ((35 + 4 * j) + 1 + 1)), .ref (b + ((35 + 4 * j) + 1 + 2))]))) (As := []) (rest := [(.ref (b + (35 + 4 * j))), (.int (Int32.ofNat j)), (.ref (b + 34))]) (x_Cn _ C) hB (by omega) (by omega) k_Gs_init q_94 (c_Gs_init (n := 35 + 4 * j + 1) (o := 35 + 4 * j) (by omega) hg0 hg1 hg2 hg3) (by omega) rfl rfl (Nat.le_of_ble_eq_true rfl) (Nat.le_of_ble_eq_true rfl) rfl rfl (Nat.le_of_ble_eq_true rfl) d_Ck_init_77 ⟨(show 7 + 4 * j + 1 + 3 ≤ 104 by omega), (show 66 + 39 * j + 3 + 36 ≤ 1026 by omega)⟩ ?_
      refine x_aast (i := (34, 0)) (v := (35 + 4 * j, 0)) (f' := (x_up (x_lg b (j + 1) (x_fC1 b f)) (34, 0) (.inl (cA 4, 24, .inr (.inr (.inr (.inr (x_sg b 35 (j + 1) 4)))))))) 4 (x_Cn _ C) (x_mn (by omega)) (x_mn (by omega)) ((x_upk (by omega)).trans x_ups) x_ups rfl rfl v1 d_Ck_init_80 (by rw [v2, x_sgS]; exact x_lgS) ?_
      refine x_iinc (lv' := [(2, (.int (Int32.ofNat j + 1))), (0, (.ref (b + 27))), (1, (.ref (b + 1)))]) 0 (x_Cn _ C) d_Ck_init_81 rfl rfl (by decide) rfl ?_
      refine x_goto 62 (x_Cn _ C) d_Ck_init_84 (by decide) ?_
      rw [v4]
      exact x_wid (by omega) (by omega) (ih (j + 1) (by omega))
  refine x_aload_n 0 (x_Cn _ C) d_Ck_init_0 rfl rfl ?_
  refine x_objI (x_Cn _ C) q_91 d_Ck_init_1 (Nat.le_of_ble_eq_true rfl) (Nat.le_of_ble_eq_true rfl) ?_
  refine x_aload_n 0 (x_Cn _ C) d_Ck_init_4 rfl rfl ?_
  refine x_aload_n 1 (x_Cn _ C) d_Ck_init_5 rfl rfl ?_
  refine x_putF (i := (27, 0)) (f' := (x_up f (27, 0) (.inr (0, [.ref (b + 1), .null, .null, .null, .null, .null, .int 0, .int 0, .int 0, .int 0, .int 0, .long 0, .long 0])))) 0 (x_Cn _ C) hnm (x_mn (by omega)) (ho) rfl i_Ck t_Ck_ok n_Ck (by decide) (List.mem_cons_of_mem _ q_134) rfl rfl rfl rfl (Nat.le_of_ble_eq_true rfl) d_Ck_init_6 rfl ?_
  refine x_aload_n 0 (x_Cn _ C) d_Ck_init_9 rfl rfl ?_
  refine x_newB (ci := 2) (fs := [.null, .null, .null]) (ty := t_Gs) (x_Cn _ C) (by omega) (by omega) rfl i_Gs t_Gs_ok (List.mem_cons_of_mem _ q_92) (List.mem_cons_of_mem _ q_93) (List.mem_cons_of_mem _ q_5) ((x_upk (by omega)).trans (hf 28 (by omega) (by omega))) (by decide) (Nat.le_of_ble_eq_true rfl) (Nat.le_of_ble_eq_true rfl) d_Ck_init_10 ?_
  refine x_dup (x_Cn _ C) d_Ck_init_13 rfl ?_
  refine x_ci (o := 28) (n' := 32) (f' := (x_up (x_up f (27, 0) (.inr (0, [.ref (b + 1), .null, .null, .null, .null, .null, .int 0, .int 0, .int 0, .int 0, .int 0, .long 0, .long 0]))) (28, 0) (.inr (2, [.ref (b + 29), .ref (b + (29 + 1)), .ref (b + (29 + 2))])))) (As := []) (rest := [(.ref (b + 28)), (.ref (b + 27))]) (x_Cn _ C) hB (by omega) (by omega) k_Gs_init q_94 (c_Gs_init (n := 29) (o := 28) (by omega) ((x_upk (by omega)).trans (hf 28 (by omega) (by omega))) ((x_upk (by omega)).trans (hf 29 (by omega) (by omega))) ((x_upk (by omega)).trans (hf 30 (by omega) (by omega))) ((x_upk (by omega)).trans (hf 31 (by omega) (by omega)))) (by omega) rfl rfl (Nat.le_of_ble_eq_true rfl) (Nat.le_of_ble_eq_true rfl) rfl rfl (Nat.le_of_ble_eq_true rfl) d_Ck_init_14 ⟨(Nat.le_of_ble_eq_true rfl), (Nat.le_of_ble_eq_true rfl)⟩ ?_
  refine x_putF (i := (27, 0)) (f' := (x_up (x_up (x_up f (27, 0) (.inr (0, [.ref (b + 1), .null, .null, .null, .null, .null, .int 0, .int 0, .int 0, .int 0, .int 0, .long 0, .long 0]))) (28, 0) (.inr (2, [.ref (b + 29), .ref (b + (29 + 1)), .ref (b + (29 + 2))]))) (27, 0) (.inr (0, [.ref (b + 1), .ref (b + 28), .null, .null, .null, .null, .int 0, .int 0, .int 0, .int 0, .int 0, .long 0, .long 0])))) 1 (x_Cn _ C) hnm (x_mn (by omega)) ((x_upk (by omega)).trans (x_ups)) rfl i_Ck t_Ck_ok n_Ck (by decide) (List.mem_cons_of_mem _ q_135) rfl rfl rfl rfl (Nat.le_of_ble_eq_true rfl) d_Ck_init_17 rfl ?_
  refine x_aload_n 0 (x_Cn _ C) d_Ck_init_20 rfl rfl ?_
  refine x_newB (ci := 3) (fs := [.null, .null]) (ty := t_Jg) (x_Cn _ C) (by omega) (by omega) rfl i_Jg t_Jg_ok (List.mem_cons_of_mem _ q_110) (List.mem_cons_of_mem _ q_111) (List.mem_cons_of_mem _ q_6) ((x_upk (by omega)).trans ((x_upk (by omega)).trans ((x_upk (by omega)).trans (hf 32 (by omega) (by omega))))) (by decide) (Nat.le_of_ble_eq_true rfl) (Nat.le_of_ble_eq_true rfl) d_Ck_init_21 ?_
  refine x_dup (x_Cn _ C) d_Ck_init_24 rfl ?_
  refine x_aload_n 1 (x_Cn _ C) d_Ck_init_25 rfl rfl ?_
  refine x_aload_n 0 (x_Cn _ C) d_Ck_init_26 rfl rfl ?_
  refine x_get (i := (27, 0)) (v := .ref (b + 28)) 1 (x_Cn _ C) (x_mn (by omega)) (x_ups) rfl i_Ck (by decide) (List.mem_cons_of_mem _ q_135) rfl d_Ck_init_27 ?_
  refine x_ci (o := 32) (n' := 33) (f' := (x_up (x_up (x_up (x_up f (27, 0) (.inr (0, [.ref (b + 1), .null, .null, .null, .null, .null, .int 0, .int 0, .int 0, .int 0, .int 0, .long 0, .long 0]))) (28, 0) (.inr (2, [.ref (b + 29), .ref (b + (29 + 1)), .ref (b + (29 + 2))]))) (27, 0) (.inr (0, [.ref (b + 1), .ref (b + 28), .null, .null, .null, .null, .int 0, .int 0, .int 0, .int 0, .int 0, .long 0, .long 0]))) (32, 0) (.inr (3, [.ref (b + 1), .ref (b + 28)])))) (As := [(.ref (b + 1)), (.ref (b + 28))]) (rest := [(.ref (b + 32)), (.ref (b + 27))]) (x_Cn _ C) hB (by omega) (by omega) k_Jg_init q_112 (c_Jg_init (n := 33) (o := 32) (p1 := 1) (p2 := 28) (by omega) ((x_upk (by omega)).trans ((x_upk (by omega)).trans ((x_upk (by omega)).trans (hf 32 (by omega) (by omega)))))) (by omega) rfl rfl (Nat.le_of_ble_eq_true rfl) (Nat.le_of_ble_eq_true rfl) rfl rfl (Nat.le_of_ble_eq_true rfl) d_Ck_init_30 ⟨(Nat.le_of_ble_eq_true rfl), (Nat.le_of_ble_eq_true rfl)⟩ ?_
  refine x_putF (i := (27, 0)) (f' := (x_up (x_up (x_up (x_up (x_up f (27, 0) (.inr (0, [.ref (b + 1), .null, .null, .null, .null, .null, .int 0, .int 0, .int 0, .int 0, .int 0, .long 0, .long 0]))) (28, 0) (.inr (2, [.ref (b + 29), .ref (b + (29 + 1)), .ref (b + (29 + 2))]))) (27, 0) (.inr (0, [.ref (b + 1), .ref (b + 28), .null, .null, .null, .null, .int 0, .int 0, .int 0, .int 0, .int 0, .long 0, .long 0]))) (32, 0) (.inr (3, [.ref (b + 1), .ref (b + 28)]))) (27, 0) (.inr (0, [.ref (b + 1), .ref (b + 28), .ref (b + 32), .null, .null, .null, .int 0, .int 0, .int 0, .int 0, .int 0, .long 0, .long 0])))) 2 (x_Cn _ C) hnm (x_mn (by omega)) ((x_upk (by omega)).trans (x_ups)) rfl i_Ck t_Ck_ok n_Ck (by decide) (List.mem_cons_of_mem _ q_136) rfl rfl rfl rfl (Nat.le_of_ble_eq_true rfl) d_Ck_init_33 rfl ?_
  refine x_aload_n 0 (x_Cn _ C) d_Ck_init_36 rfl rfl ?_
  refine x_newB (ci := 1) (fs := [.null]) (ty := t_Ef) (x_Cn _ C) (by omega) (by omega) rfl i_Ef t_Ef_ok (List.mem_cons_of_mem _ q_123) (List.mem_cons_of_mem _ q_124) (List.mem_cons_of_mem _ q_7) ((x_upk (by omega)).trans ((x_upk (by omega)).trans ((x_upk (by omega)).trans ((x_upk (by omega)).trans ((x_upk (by omega)).trans (hf 33 (by omega) (by omega))))))) (by decide) (Nat.le_of_ble_eq_true rfl) (Nat.le_of_ble_eq_true rfl) d_Ck_init_37 ?_
  refine x_dup (x_Cn _ C) d_Ck_init_40 rfl ?_
  refine x_aload_n 0 (x_Cn _ C) d_Ck_init_41 rfl rfl ?_
  refine x_get (i := (27, 0)) (v := .ref (b + 28)) 1 (x_Cn _ C) (x_mn (by omega)) (x_ups) rfl i_Ck (by decide) (List.mem_cons_of_mem _ q_135) rfl d_Ck_init_42 ?_
  refine x_ci (o := 33) (n' := 34) (f' := (x_up (x_up (x_up (x_up (x_up (x_up f (27, 0) (.inr (0, [.ref (b + 1), .null, .null, .null, .null, .null, .int 0, .int 0, .int 0, .int 0, .int 0, .long 0, .long 0]))) (28, 0) (.inr (2, [.ref (b + 29), .ref (b + (29 + 1)), .ref (b + (29 + 2))]))) (27, 0) (.inr (0, [.ref (b + 1), .ref (b + 28), .null, .null, .null, .null, .int 0, .int 0, .int 0, .int 0, .int 0, .long 0, .long 0]))) (32, 0) (.inr (3, [.ref (b + 1), .ref (b + 28)]))) (27, 0) (.inr (0, [.ref (b + 1), .ref (b + 28), .ref (b + 32), .null, .null, .null, .int 0, .int 0, .int 0, .int 0, .int 0, .long 0, .long 0]))) (33, 0) (.inr (1, [.ref (b + 28)])))) (As := [(.ref (b + 28))]) (rest := [(.ref (b + 33)), (.ref (b + 27))]) (x_Cn _ C) hB (by omega) (by omega) k_Ef_init q_125 (c_Ef_init (n := 34) (o := 33) (p1 := 28) (by omega) ((x_upk (by omega)).trans ((x_upk (by omega)).trans ((x_upk (by omega)).trans ((x_upk (by omega)).trans ((x_upk (by omega)).trans (hf 33 (by omega) (by omega)))))))) (by omega) rfl rfl (Nat.le_of_ble_eq_true rfl) (Nat.le_of_ble_eq_true rfl) rfl rfl (Nat.le_of_ble_eq_true rfl) d_Ck_init_45 ⟨(Nat.le_of_ble_eq_true rfl), (Nat.le_of_ble_eq_true rfl)⟩ ?_
  refine x_putF (i := (27, 0)) (f' := (x_up (x_up (x_up (x_up (x_up (x_up (x_up f (27, 0) (.inr (0, [.ref (b + 1), .null, .null, .null, .null, .null, .int 0, .int 0, .int 0, .int 0, .int 0, .long 0, .long 0]))) (28, 0) (.inr (2, [.ref (b + 29), .ref (b + (29 + 1)), .ref (b + (29 + 2))]))) (27, 0) (.inr (0, [.ref (b + 1), .ref (b + 28), .null, .null, .null, .null, .int 0, .int 0, .int 0, .int 0, .int 0, .long 0, .long 0]))) (32, 0) (.inr (3, [.ref (b + 1), .ref (b + 28)]))) (27, 0) (.inr (0, [.ref (b + 1), .ref (b + 28), .ref (b + 32), .null, .null, .null, .int 0, .int 0, .int 0, .int 0, .int 0, .long 0, .long 0]))) (33, 0) (.inr (1, [.ref (b + 28)]))) (27, 0) (.inr (0, [.ref (b + 1), .ref (b + 28), .ref (b + 32), .ref (b + 33), .null, .null, .int 0, .int 0, .int 0, .int 0, .int 0, .long 0, .long 0])))) 3 (x_Cn _ C) hnm (x_mn (by omega)) ((x_upk (by omega)).trans (x_ups)) rfl i_Ck t_Ck_ok n_Ck (by decide) (List.mem_cons_of_mem _ q_137) rfl rfl rfl rfl (Nat.le_of_ble_eq_true rfl) d_Ck_init_48 rfl ?_
  refine x_aload_n 0 (x_Cn _ C) d_Ck_init_51 rfl rfl ?_
  refine x_bipush (v := 24) (x_Cn _ C) d_Ck_init_52 (by decide) ?_
  refine x_anewB (t0 := 4) (N' := 24) (x_Cn _ C) (by omega) (by omega) (List.mem_cons_of_mem _ q_92) hB.2.2.2.1 rfl (by decide) (by decide) (by decide) ((x_upk (by omega)).trans ((x_upk (by omega)).trans ((x_upk (by omega)).trans ((x_upk (by omega)).trans ((x_upk (by omega)).trans ((x_upk (by omega)).trans ((x_upk (by omega)).trans (hf 34 (by omega) (by omega))))))))) (Nat.le_of_ble_eq_true rfl) (Nat.le_of_ble_eq_true rfl) d_Ck_init_54 ?_
  refine x_putF (i := (27, 0)) (f' := (x_up (x_up (x_up (x_up (x_up (x_up (x_up f (27, 0) (.inr (0, [.ref (b + 1), .null, .null, .null, .null, .null, .int 0, .int 0, .int 0, .int 0, .int 0, .long 0, .long 0]))) (28, 0) (.inr (2, [.ref (b + 29), .ref (b + (29 + 1)), .ref (b + (29 + 2))]))) (27, 0) (.inr (0, [.ref (b + 1), .ref (b + 28), .null, .null, .null, .null, .int 0, .int 0, .int 0, .int 0, .int 0, .long 0, .long 0]))) (32, 0) (.inr (3, [.ref (b + 1), .ref (b + 28)]))) (27, 0) (.inr (0, [.ref (b + 1), .ref (b + 28), .ref (b + 32), .null, .null, .null, .int 0, .int 0, .int 0, .int 0, .int 0, .long 0, .long 0]))) (33, 0) (.inr (1, [.ref (b + 28)]))) (27, 0) (.inr (0, [.ref (b + 1), .ref (b + 28), .ref (b + 32), .ref (b + 33), .ref (b + 34), .null, .int 0, .int 0, .int 0, .int 0, .int 0, .long 0, .long 0])))) 4 (x_Cn _ C) hnm (x_mn (by omega)) (x_ups) rfl i_Ck t_Ck_ok n_Ck (by decide) (List.mem_cons_of_mem _ q_138) rfl rfl rfl rfl (Nat.le_of_ble_eq_true rfl) d_Ck_init_57 x_upp ?_
  refine x_iconst (v := 0) (x_Cn _ C) d_Ck_init_60 (by decide) ?_
  refine x_istore_n (lv' := [(2, (.int 0)), (0, (.ref (b + 27))), (1, (.ref (b + 1)))]) (x_Cn _ C) d_Ck_init_61 rfl (by decide) rfl ?_
  have e0 : x_fC1 b f = (x_up (x_lg b 0 (x_fC1 b f)) (34, 0) (.inl (cA 4, 24, .inr (.inr (.inr (.inr (x_sg b 35 0 4))))))) := by
    rw [x_sg0, x_lg0]
    exact (x_upf ((x_fC1_out (by omega)).trans (hf 34 (by omega) (by omega)))).symm
  show x_V _ _ _ _ _ _ _ _ _ _ _ _ _ _ _ (x_fC1 b f) _ _ _
  rw [e0]
  exact loop 24 0 (by omega)
def x_fM (b : Nat) (cA : Nat → ClassId) (f : x_I → va_E) : x_I → va_E := (x_up (x_up (x_up (x_fC b cA (x_up (x_fP b cA f) (0, 0) (.inr (7, [.ref (b + 1), .null, .null, .int 0])))) (0, 0) (.inr (7, [.ref (b + 1), .ref (b + 27), .null, .int 0]))) (132, 0) (.inr (5, [.ref (b + 1), .ref (b + 133), .ref (b + 140), .ref (b + 141), .int 0, .int 0]))) (0, 0) (.inr (7, [.ref (b + 1), .ref (b + 27), .ref (b + 132), .int 0])))
set_option maxHeartbeats 4000000 in
set_option maxRecDepth 100000 in
theorem c_CM_init {l : Launch} {D : va_G} {cA : Nat → ClassId} {b : Nat} {f : x_I → va_E} (ho : f (0, 0) = x_d b cA 0) (hf : ∀ k, 1 ≤ k → k < 142 → f (k, 0) = x_d b cA k) : x_MN l y_CM_init (Cond.code y_CM_init b_CM_init 1 none :: x_Wd) { frames := 3, cells := 141, slots := 1233, locals := 56 } D cA b 1 142 f (x_fM b cA f) [(.ref (b + 0))] 141 1233 := by
  refine x_startN (cc := b_CM_init) (lv0 := [(0, (.ref (b + 0)))]) (by decide) rfl (Nat.le_of_ble_eq_true rfl) rfl ?_
  intro p e s m below meth c C hB hs hnm hr hlk
  refine x_aload_n 0 (x_Cn _ C) d_CM_init_0 rfl rfl ?_
  refine x_objI (x_Cn _ C) q_25 d_CM_init_1 (Nat.le_of_ble_eq_true rfl) (Nat.le_of_ble_eq_true rfl) ?_
  refine x_aload_n 0 (x_Cn _ C) d_CM_init_4 rfl rfl ?_
  refine x_newB (ci := 4) (fs := [.null, .int 0]) (ty := t_Pg) (x_Cn _ C) (by omega) (by omega) rfl i_Pg t_Pg_ok (List.mem_cons_of_mem _ q_28) (List.mem_cons_of_mem _ q_29) (List.mem_cons_of_mem _ q_2) (hf 1 (by omega) (by omega)) (by decide) (Nat.le_of_ble_eq_true rfl) (Nat.le_of_ble_eq_true rfl) d_CM_init_5 ?_
  refine x_dup (x_Cn _ C) d_CM_init_8 rfl ?_
  refine x_ci (o := 1) (n' := 27) (f' := (x_fP b cA f)) (As := []) (rest := [(.ref (b + 1)), (.ref (b + 0))]) (x_Cn _ C) hB (by omega) (by omega) k_Pg_init q_30 (c_Pg_init (hf 1 (by omega) (by omega)) (fun k h1 h2 => (hf k (by omega) (by omega)))) (by omega) rfl rfl (Nat.le_of_ble_eq_true rfl) (Nat.le_of_ble_eq_true rfl) rfl rfl (Nat.le_of_ble_eq_true rfl) d_CM_init_9 ⟨(Nat.le_of_ble_eq_true rfl), (Nat.le_of_ble_eq_true rfl)⟩ ?_
  refine x_putF (i := (0, 0)) (f' := (x_up (x_fP b cA f) (0, 0) (.inr (7, [.ref (b + 1), .null, .null, .int 0])))) 0 (x_Cn _ C) hnm (x_mn (by omega)) ((x_fP_out (by omega)).trans (ho)) rfl i_CM t_CM_ok n_CM (by decide) (List.mem_cons_of_mem _ q_202) rfl rfl rfl rfl (Nat.le_of_ble_eq_true rfl) d_CM_init_12 rfl ?_
  refine x_aload_n 0 (x_Cn _ C) d_CM_init_15 rfl rfl ?_
  refine x_newB (ci := 0) (fs := [.null, .null, .null, .null, .null, .null, .int 0, .int 0, .int 0, .int 0, .int 0, .long 0, .long 0]) (ty := t_Ck) (x_Cn _ C) (by omega) (by omega) rfl i_Ck t_Ck_ok (List.mem_cons_of_mem _ q_86) (List.mem_cons_of_mem _ q_87) (List.mem_cons_of_mem _ q_4) ((x_upk (by omega)).trans ((x_fP_out (by omega)).trans (hf 27 (by omega) (by omega)))) (by decide) (Nat.le_of_ble_eq_true rfl) (Nat.le_of_ble_eq_true rfl) d_CM_init_16 ?_
  refine x_dup (x_Cn _ C) d_CM_init_19 rfl ?_
  refine x_aload_n 0 (x_Cn _ C) d_CM_init_20 rfl rfl ?_
  refine x_get (i := (0, 0)) (v := .ref (b + 1)) 0 (x_Cn _ C) (x_mn (by omega)) (x_ups) rfl i_CM (by decide) (List.mem_cons_of_mem _ q_202) rfl d_CM_init_21 ?_
  refine x_ci (o := 27) (n' := 132) (f' := (x_fC b cA (x_up (x_fP b cA f) (0, 0) (.inr (7, [.ref (b + 1), .null, .null, .int 0]))))) (As := [(.ref (b + 1))]) (rest := [(.ref (b + 27)), (.ref (b + 0))]) (x_Cn _ C) hB (by omega) (by omega) k_Ck_init q_88 (c_Ck_init ((x_upk (by omega)).trans ((x_fP_out (by omega)).trans (hf 27 (by omega) (by omega)))) (fun k h1 h2 => ((x_upk (by omega)).trans ((x_fP_out (by omega)).trans (hf k (by omega) (by omega)))))) (by omega) rfl rfl (Nat.le_of_ble_eq_true rfl) (Nat.le_of_ble_eq_true rfl) rfl rfl (Nat.le_of_ble_eq_true rfl) d_CM_init_24 ⟨(Nat.le_of_ble_eq_true rfl), (Nat.le_of_ble_eq_true rfl)⟩ ?_
  refine x_putF (i := (0, 0)) (f' := (x_up (x_fC b cA (x_up (x_fP b cA f) (0, 0) (.inr (7, [.ref (b + 1), .null, .null, .int 0])))) (0, 0) (.inr (7, [.ref (b + 1), .ref (b + 27), .null, .int 0])))) 1 (x_Cn _ C) hnm (x_mn (by omega)) ((x_fC_out (by omega)).trans (x_ups)) rfl i_CM t_CM_ok n_CM (by decide) (List.mem_cons_of_mem _ q_203) rfl rfl rfl rfl (Nat.le_of_ble_eq_true rfl) d_CM_init_27 rfl ?_
  refine x_aload_n 0 (x_Cn _ C) d_CM_init_30 rfl rfl ?_
  refine x_newB (ci := 5) (fs := [.null, .null, .null, .null, .int 0, .int 0]) (ty := t_Rn) (x_Cn _ C) (by omega) (by omega) rfl i_Rn t_Rn_ok (List.mem_cons_of_mem _ q_175) (List.mem_cons_of_mem _ q_176) (List.mem_cons_of_mem _ q_8) ((x_upk (by omega)).trans ((x_fC_out (by omega)).trans ((x_upk (by omega)).trans ((x_fP_out (by omega)).trans (hf 132 (by omega) (by omega)))))) (by decide) (Nat.le_of_ble_eq_true rfl) (Nat.le_of_ble_eq_true rfl) d_CM_init_31 ?_
  refine x_dup (x_Cn _ C) d_CM_init_34 rfl ?_
  refine x_aload_n 0 (x_Cn _ C) d_CM_init_35 rfl rfl ?_
  refine x_get (i := (0, 0)) (v := .ref (b + 1)) 0 (x_Cn _ C) (x_mn (by omega)) (x_ups) rfl i_CM (by decide) (List.mem_cons_of_mem _ q_202) rfl d_CM_init_36 ?_
  refine x_ci (o := 132) (n' := 142) (f' := (x_up (x_up (x_fC b cA (x_up (x_fP b cA f) (0, 0) (.inr (7, [.ref (b + 1), .null, .null, .int 0])))) (0, 0) (.inr (7, [.ref (b + 1), .ref (b + 27), .null, .int 0]))) (132, 0) (.inr (5, [.ref (b + 1), .ref (b + 133), .ref (b + 140), .ref (b + 141), .int 0, .int 0])))) (As := [(.ref (b + 1))]) (rest := [(.ref (b + 132)), (.ref (b + 0))]) (x_Cn _ C) hB (by omega) (by omega) k_Rn_init q_177 (c_Rn_init ((x_upk (by omega)).trans ((x_fC_out (by omega)).trans ((x_upk (by omega)).trans ((x_fP_out (by omega)).trans (hf 132 (by omega) (by omega)))))) (fun k h1 h2 => ((x_upk (by omega)).trans ((x_fC_out (by omega)).trans ((x_upk (by omega)).trans ((x_fP_out (by omega)).trans (hf k (by omega) (by omega)))))))) (by omega) rfl rfl (Nat.le_of_ble_eq_true rfl) (Nat.le_of_ble_eq_true rfl) rfl rfl (Nat.le_of_ble_eq_true rfl) d_CM_init_39 ⟨(Nat.le_of_ble_eq_true rfl), (Nat.le_of_ble_eq_true rfl)⟩ ?_
  refine x_putF (i := (0, 0)) (f' := (x_up (x_up (x_up (x_fC b cA (x_up (x_fP b cA f) (0, 0) (.inr (7, [.ref (b + 1), .null, .null, .int 0])))) (0, 0) (.inr (7, [.ref (b + 1), .ref (b + 27), .null, .int 0]))) (132, 0) (.inr (5, [.ref (b + 1), .ref (b + 133), .ref (b + 140), .ref (b + 141), .int 0, .int 0]))) (0, 0) (.inr (7, [.ref (b + 1), .ref (b + 27), .ref (b + 132), .int 0])))) 2 (x_Cn _ C) hnm (x_mn (by omega)) ((x_upk (by omega)).trans (x_ups)) rfl i_CM t_CM_ok n_CM (by decide) (List.mem_cons_of_mem _ q_204) rfl rfl rfl rfl (Nat.le_of_ble_eq_true rfl) d_CM_init_42 rfl ?_
  refine x_aload_n 0 (x_Cn _ C) d_CM_init_45 rfl rfl ?_
  refine x_iconst (v := 0) (x_Cn _ C) d_CM_init_46 (by decide) ?_
  refine x_put (i := (0, 0)) (f' := (x_up (x_up (x_up (x_fC b cA (x_up (x_fP b cA f) (0, 0) (.inr (7, [.ref (b + 1), .null, .null, .int 0])))) (0, 0) (.inr (7, [.ref (b + 1), .ref (b + 27), .null, .int 0]))) (132, 0) (.inr (5, [.ref (b + 1), .ref (b + 133), .ref (b + 140), .ref (b + 141), .int 0, .int 0]))) (0, 0) (.inr (7, [.ref (b + 1), .ref (b + 27), .ref (b + 132), .int 0])))) 3 (x_Cn _ C) (x_mn (by omega)) (x_ups) rfl i_CM t_CM_ok n_CM (by decide) (List.mem_cons_of_mem _ q_205) rfl rfl rfl (Nat.le_of_ble_eq_true rfl) d_CM_init_47 x_upp ?_
  exact x_vretN (x_Cn _ C) hs hr hlk d_CM_init_50
