theorem x_outer (c : ClassId) (N h0 : Nat) : ∀ i : Nat, Jvm.Free.Multi.outerC c N h0 i = arrV c N (fun j => va_rf (if j < i then some (h0 + 1 + j) else none))
  | 0 => by
    show ({ cls := c, slots := Array.replicate N .null, vm := .none } : Cell) = _
    rw [arrV_new]
    refine congrArg (arrV c N) (funext fun j => ?_)
    simp [va_rf]
  | i + 1 => by
    show (Jvm.Free.Multi.outerC c N h0 i).setSlot i (.ref (h0 + 1 + i)) = _
    rw [x_outer c N h0 i, arrV_store]
    refine congrArg (arrV c N) (funext fun j => ?_)
    by_cases e : j = i
    · subst e
      simp [updV, va_rf]
    · by_cases h : j < i
      · simp [updV, e, h, Nat.lt_succ_of_lt h]
      · simp [updV, e, h, show ¬ j < i + 1 by omega]
section Mna
variable {p : Program} {l : Launch} {e : Env} {R : Room} {s : State} {m : MethodId} {args : Array Value} {below : List Frame} {meth : Method} {c : Code} {cells slots : Nat} {Q : State → Prop}
variable {cc : ByteArray} {nL : Nat} {own : String} {Ts : List Cond} {D : va_G} {cA : Nat → ClassId} {b n : Nat} {f : x_I → va_E} {pc : Nat} {lv : List (Nat × Value)} {st : List Value}
theorem x_mnaB {index : Nat} (C : x_C p s m args c cc nL own Ts (x_kn D cA b n)) (hB : va_Nw (.arrayOver (.array .long)) s) (hsz : s.heap.size + cells = b + n) (hb0 : b ≤ s.heap.size) (hcl : Cond.classLink own index "[[J" ∈ Ts) (harr : Cond.arrayClass .long ∈ Ts) (hf : f (n, 0) = .inl (cA 5, 6, .inr (.inr (.inr (.inr (fun i => if i < 6 then some (b + (n + 1 + i)) else none)))))) (hrow : ∀ i, i < 6 → f (n + 1 + i, 0) = .inl (cA 1, 2, .inr (.inl (fun _ => 0)))) (hcells : cells + (1 + 6) ≤ R.cells) (hslots : slots + (6 + 6 * 2) ≤ R.slots) (hd : decode cc pc = .ok (.multianewarray index 2, 4))
    (kk : x_V p l e R s m args below meth c (x_kn D cA b (n + 1 + 6)) nL (cells + 1 + 6) (slots + 6 + 6 * 2) Q f (pc + 4) lv (.ref (b + n) :: st)) : x_V p l e R s m args below meth c (x_kn D cA b n) nL cells slots Q f pc lv (.int 2 :: .int 6 :: st) := by
  intro H locs ls hP hS hl T hT Xs
  have hz : H.size = b + n := x_sz hP hS.1 (by rw [← hT]; exact Xs.heapSize) hsz hb0
  have e6 : (6 : Int32).toNatClampNeg = 6 := by decide
  have e2 : (2 : Int32).toNatClampNeg = 2 := by decide
  obtain ⟨vm₁, k, comp, -, fA, fC, -, -, X', step⟩ := Xs.multianewarray2F C.1.1 (ty := .long) C.1.2.2.2.1 (C.1.2.2.2.2 _ (show Cond.classLink own index ("[" ++ (FieldType.array .long).toString) ∈ Ts from hcl)) hB (C.1.2.2.2.2 _ harr) (g := F0 m pc ls (.int 2 :: .int 6 :: st)) rfl (by rw [C.1.2.1]; exact hd) rfl (by decide) (by decide) (by decide) (by decide) (by decide) rfl rfl (by rw [e6]; exact hcells) (by rw [e6, e2]; exact hslots)
  have hk : k = cA 5 := Option.some.inj (fA.symm.trans (C.2.1.2 5 _ rfl).2)
  have hc : comp = cA 1 := Option.some.inj (fC.symm.trans (C.2.1.2 1 _ rfl).2)
  subst hk
  subst hc
  rw [e6, e2] at X' step
  have hTh : (T.setVm vm₁).heap = H := hT
  obtain ⟨f1, f2, -, -⟩ := Jvm.Free.Multi.fill_facts (T.setVm vm₁) (cA 5) (cA 1) 6 2 (defaultValue .long) 6
  have hold : ∀ x : Nat, x < H.size → (Jvm.Free.Multi.fill (T.setVm vm₁) (cA 5) (cA 1) 6 2 (defaultValue .long) 6).heap[x]? = H[x]? := fun x hx => by
    have := Jvm.Free.Multi.fill_old (T.setVm vm₁) (cA 5) (cA 1) 6 2 (defaultValue .long) (a := x) (by rw [hTh]; exact hx) 6
    rw [hTh] at this
    exact this
  have hin : ∀ j : Nat, j < 6 → (Jvm.Free.Multi.fill (T.setVm vm₁) (cA 5) (cA 1) 6 2 (defaultValue .long) 6).heap[H.size + 1 + j]? = some (vp_cell (cA 1) (2, .inr (.inl (fun _ => 0)))) := fun j hj => by
    have := Jvm.Free.Multi.fill_inner (T.setVm vm₁) (cA 5) (cA 1) 6 2 (defaultValue .long) 6 j hj
    rw [hTh] at this
    rw [this]
    show some ({ cls := cA 1, slots := Array.replicate 2 (.long 0), vm := .none } : Cell) = some (arrV (cA 1) 2 (fun _ => .long 0))
    rw [arrV_new]
  rw [hTh] at f1 f2
  generalize Jvm.Free.Multi.fill (T.setVm vm₁) (cA 5) (cA 1) 6 2 (defaultValue .long) 6 = F at X' step f1 f2 hold hin
  obtain ⟨t, a1, b1⟩ := kk F.heap locs ls (x_growP hP (fun q hq => hold q (by omega)) (fun k h1 h2 => by
      by_cases h9 : k = n
      · subst h9
        rw [hf]
        show F.heap[b + k]? = some (vp_cell _ _)
        rw [← hz, f2, vp_cell_q, x_outer]
        refine congrArg some (congrArg (arrV (cA 5) 6) (funext fun j => ?_))
        by_cases hj : j < 6
        · rw [if_pos hj, if_pos hj]
          exact congrArg (fun z => va_rf (some z)) (by omega)
        · rw [if_neg hj, if_neg hj]
      · have h8 := hrow (k - (n + 1)) (by omega)
        rw [show n + 1 + (k - (n + 1)) = k by omega] at h8
        rw [h8]
        show F.heap[b + k]? = some (vp_cell _ _)
        have h7 := hin (k - (n + 1)) (by omega)
        rwa [show H.size + 1 + (k - (n + 1)) = b + k by omega] at h7)) (x_growS (by omega) hS (by omega) hold) hl F rfl X'
  refine ⟨t, step t ?_, b1⟩
  have hT9 : T.heap.size = b + n := by rw [hT]; exact hz
  rw [hT9]
  exact a1
end Mna
theorem x_dR {b : Nat} {cA : Nat → ClassId} : ∀ i, i < 6 → x_d b cA (133 + 1 + i) = .inl (cA 1, 2, .inr (.inl (fun _ => 0)))
  | 0, _ => rfl
  | 1, _ => rfl
  | 2, _ => rfl
  | 3, _ => rfl
  | 4, _ => rfl
  | 5, _ => rfl
  | i + 6, h => absurd h (by omega)
set_option maxHeartbeats 4000000 in
set_option maxRecDepth 100000 in
theorem c_Rn_init {l : Launch} {D : va_G} {cA : Nat → ClassId} {b : Nat} {f : x_I → va_E} (ho : f (132, 0) = x_d b cA 132) (hf : ∀ k, 133 ≤ k → k < 142 → f (k, 0) = x_d b cA k) : x_MN l y_Rn_init (Cond.code y_Rn_init b_Rn_init 2 none :: x_Wd) { frames := 1, cells := 9, slots := 42, locals := 12 } D cA b 133 142 f (x_up f (132, 0) (.inr (5, [.ref (b + 1), .ref (b + 133), .ref (b + 140), .ref (b + 141), .int 0, .int 0]))) [(.ref (b + 132)), (.ref (b + 1))] 9 42 := by
  refine x_startN (cc := b_Rn_init) (lv0 := [(0, (.ref (b + 132))), (1, (.ref (b + 1)))]) (by decide) rfl (Nat.le_of_ble_eq_true rfl) rfl ?_
  intro p e s m below meth c C hB hs hnm hr hlk
  refine x_aload_n 0 (x_Cn _ C) d_Rn_init_0 rfl rfl ?_
  refine x_objI (x_Cn _ C) q_180 d_Rn_init_1 (Nat.le_of_ble_eq_true rfl) (Nat.le_of_ble_eq_true rfl) ?_
  refine x_aload_n 0 (x_Cn _ C) d_Rn_init_4 rfl rfl ?_
  refine x_aload_n 1 (x_Cn _ C) d_Rn_init_5 rfl rfl ?_
  refine x_putF (i := (132, 0)) (f' := (x_up f (132, 0) (.inr (5, [.ref (b + 1), .null, .null, .null, .int 0, .int 0])))) 0 (x_Cn _ C) hnm (x_mn (by omega)) (ho) rfl i_Rn t_Rn_ok n_Rn (by decide) (List.mem_cons_of_mem _ q_183) rfl rfl rfl rfl (Nat.le_of_ble_eq_true rfl) d_Rn_init_6 rfl ?_
  refine x_aload_n 0 (x_Cn _ C) d_Rn_init_9 rfl rfl ?_
  refine x_bipush (v := 6) (x_Cn _ C) d_Rn_init_10 (by decide) ?_
  refine x_iconst (v := 2) (x_Cn _ C) d_Rn_init_12 (by decide) ?_
  refine x_mnaB (n := 133) (x_Cn _ C) hB.2.2.2.2 (by omega) (by omega) (List.mem_cons_of_mem _ q_181) (List.mem_cons_of_mem _ q_109) ((x_upk (by omega)).trans (hf 133 (by omega) (by omega))) (fun i hi => ((x_upk (by omega)).trans ((hf (133 + 1 + i) (by omega) (by omega)).trans (x_dR i hi)))) (Nat.le_of_ble_eq_true rfl) (Nat.le_of_ble_eq_true rfl) d_Rn_init_13 ?_
  refine x_putF (i := (132, 0)) (f' := (x_up f (132, 0) (.inr (5, [.ref (b + 1), .ref (b + 133), .null, .null, .int 0, .int 0])))) 1 (x_Cn _ C) hnm (x_mn (by omega)) (x_ups) rfl i_Rn t_Rn_ok n_Rn (by decide) (List.mem_cons_of_mem _ q_184) rfl rfl rfl rfl (Nat.le_of_ble_eq_true rfl) d_Rn_init_17 x_upp ?_
  refine x_aload_n 0 (x_Cn _ C) d_Rn_init_20 rfl rfl ?_
  refine x_bipush (v := 12) (x_Cn _ C) d_Rn_init_21 (by decide) ?_
  refine x_newaB (atype := .int) (ty := .int) (t0 := 0) (N' := 12) (x_Cn _ C) (by omega) (by omega) rfl (List.mem_cons_of_mem _ q_108) rfl (fun _ h => h) (fun _ => rfl) (by decide) (by decide) (by decide) ((x_upk (by omega)).trans (hf 140 (by omega) (by omega))) (Nat.le_of_ble_eq_true rfl) (Nat.le_of_ble_eq_true rfl) d_Rn_init_23 ?_
  refine x_putF (i := (132, 0)) (f' := (x_up f (132, 0) (.inr (5, [.ref (b + 1), .ref (b + 133), .ref (b + 140), .null, .int 0, .int 0])))) 2 (x_Cn _ C) hnm (x_mn (by omega)) (x_ups) rfl i_Rn t_Rn_ok n_Rn (by decide) (List.mem_cons_of_mem _ q_185) rfl rfl rfl rfl (Nat.le_of_ble_eq_true rfl) d_Rn_init_25 x_upp ?_
  refine x_aload_n 0 (x_Cn _ C) d_Rn_init_28 rfl rfl ?_
  refine x_bipush (v := 12) (x_Cn _ C) d_Rn_init_29 (by decide) ?_
  refine x_newaB (atype := .long) (ty := .long) (t0 := 1) (N' := 12) (x_Cn _ C) (by omega) (by omega) rfl (List.mem_cons_of_mem _ q_109) rfl (fun _ h => h) (fun _ => rfl) (by decide) (by decide) (by decide) ((x_upk (by omega)).trans (hf 141 (by omega) (by omega))) (Nat.le_of_ble_eq_true rfl) (Nat.le_of_ble_eq_true rfl) d_Rn_init_31 ?_
  refine x_putF (i := (132, 0)) (f' := (x_up f (132, 0) (.inr (5, [.ref (b + 1), .ref (b + 133), .ref (b + 140), .ref (b + 141), .int 0, .int 0])))) 3 (x_Cn _ C) hnm (x_mn (by omega)) (x_ups) rfl i_Rn t_Rn_ok n_Rn (by decide) (List.mem_cons_of_mem _ q_186) rfl rfl rfl rfl (Nat.le_of_ble_eq_true rfl) d_Rn_init_33 x_upp ?_
  refine x_aload_n 0 (x_Cn _ C) d_Rn_init_36 rfl rfl ?_
  refine x_iconst (v := 0) (x_Cn _ C) d_Rn_init_37 (by decide) ?_
  refine x_put (i := (132, 0)) (f' := (x_up f (132, 0) (.inr (5, [.ref (b + 1), .ref (b + 133), .ref (b + 140), .ref (b + 141), .int 0, .int 0])))) 4 (x_Cn _ C) (x_mn (by omega)) (x_ups) rfl i_Rn t_Rn_ok n_Rn (by decide) (List.mem_cons_of_mem _ q_187) rfl rfl rfl (Nat.le_of_ble_eq_true rfl) d_Rn_init_38 x_upp ?_
  refine x_aload_n 0 (x_Cn _ C) d_Rn_init_41 rfl rfl ?_
  refine x_iconst (v := 0) (x_Cn _ C) d_Rn_init_42 (by decide) ?_
  refine x_put (i := (132, 0)) (f' := (x_up f (132, 0) (.inr (5, [.ref (b + 1), .ref (b + 133), .ref (b + 140), .ref (b + 141), .int 0, .int 0])))) 5 (x_Cn _ C) (x_mn (by omega)) (x_ups) rfl i_Rn t_Rn_ok n_Rn (by decide) (List.mem_cons_of_mem _ q_188) rfl rfl rfl (Nat.le_of_ble_eq_true rfl) d_Rn_init_43 x_upp ?_
  exact x_vretN (x_Cn _ C) hs hr hlk d_Rn_init_46
theorem x_vj : ∀ j, j < 24 → vp_in (Int32.ofNat j) 24 ∧ (Int32.ofNat j).toNatClampNeg = j ∧ ¬ (24 : Int32) ≤ Int32.ofNat j ∧ Int32.ofNat j + 1 = Int32.ofNat (j + 1) := by
  unfold vp_in
  decide
def x_sg (b s j : Nat) (st : Nat) : Nat → Option Nat := fun i => if i < j then some (b + (s + st * i)) else none
theorem x_sg0 {b s st : Nat} : x_sg b s 0 st = fun _ => none := by funext i; simp [x_sg]
theorem x_sgS {b s j st : Nat} : va_up (x_sg b s j st) j (some (b + (s + st * j))) = x_sg b s (j + 1) st := by
  funext i
  by_cases h : i = j
  · subst h; simp [va_up, x_sg]
  · by_cases h2 : i < j
    · simp [va_up, x_sg, h, h2, Nat.lt_succ_of_lt h2]
    · simp [va_up, x_sg, h, h2, show ¬ i < j + 1 by omega]
theorem x_upf {f : x_I → va_E} {i : x_I} {e : va_E} (h : f i = e) : x_up f i e = f := by
  funext j
  by_cases hj : j = i
  · subst hj; rw [x_ups, h]
  · rw [x_upn hj]
theorem x_dS {b : Nat} {cA : Nat → ClassId} : ∀ j, j < 24 → x_d b cA (3 + 1 * j) = .inr (6, [.int 0, .int 0, .int 0, .int 0, .int 0])
  | 0, _ => rfl
  | 1, _ => rfl
  | 2, _ => rfl
  | 3, _ => rfl
  | 4, _ => rfl
  | 5, _ => rfl
  | 6, _ => rfl
  | 7, _ => rfl
  | 8, _ => rfl
  | 9, _ => rfl
  | 10, _ => rfl
  | 11, _ => rfl
  | 12, _ => rfl
  | 13, _ => rfl
  | 14, _ => rfl
  | 15, _ => rfl
  | 16, _ => rfl
  | 17, _ => rfl
  | 18, _ => rfl
  | 19, _ => rfl
  | 20, _ => rfl
  | 21, _ => rfl
  | 22, _ => rfl
  | 23, _ => rfl
  | i + 24, h => absurd h (by omega)
def x_fP (b : Nat) (cA : Nat → ClassId) (f : x_I → va_E) : x_I → va_E := x_up (x_up (x_up f (1, 0) (.inr (4, [.ref (b + 2), .int 0]))) (2, 0) (.inl (cA 3, 24, .inr (.inr (.inr (.inr (x_sg b 3 24 1))))))) (1, 0) (.inr (4, [.ref (b + 2), .int 0]))
theorem x_fP_out {b : Nat} {cA : Nat → ClassId} {f : x_I → va_E} {k : Nat} (h : k ≠ 1 ∧ k ≠ 2) : x_fP b cA f (k, 0) = f (k, 0) := (x_upk h.1).trans ((x_upk h.2).trans (x_upk h.1))
set_option maxHeartbeats 4000000 in
set_option maxRecDepth 100000 in
theorem c_Pg_init {l : Launch} {D : va_G} {cA : Nat → ClassId} {b : Nat} {f : x_I → va_E} (ho : f (1, 0) = x_d b cA 1) (hf : ∀ k, 2 ≤ k → k < 27 → f (k, 0) = x_d b cA k) : x_MN l y_Pg_init (Cond.code y_Pg_init b_Pg_init 2 none :: x_Wd) { frames := 2, cells := 25, slots := 144, locals := 32 } D cA b 2 27 f (x_fP b cA f) [(.ref (b + 1))] 25 144 := by
  refine x_startN (cc := b_Pg_init) (lv0 := [(0, (.ref (b + 1)))]) (by decide) rfl (Nat.le_of_ble_eq_true rfl) rfl ?_
  intro p e s m below meth c C hB hs hnm hr hlk
  have loop : ∀ (t j : Nat), j + t = 24 → x_V p l e { frames := 2, cells := 25, slots := 144, locals := 32 } s m ([(.ref (b + 1))] : List Value).toArray below meth c (x_kn D cA b (3 + 1 * j)) 2 (1 + j) (24 + 5 * j) (MQ below (x_RN D cA b 2 27 (x_fP b cA f)) ([(.ref (b + 1))] : List Value).toArray s 25 144 (x_A (x_kn D cA b 2) (b + 2))) (x_up (x_up f (1, 0) (.inr (4, [.ref (b + 2), .int 0]))) (2, 0) (.inl (cA 3, 24, .inr (.inr (.inr (.inr (x_sg b 3 j 1))))))) 15 [(1, (.int (Int32.ofNat j))), (0, (.ref (b + 1)))] [] := by
    intro t
    induction t with
    | zero =>
      intro j hj
      have hj : j = 24 := by omega
      subst hj
      refine x_iload_n 0 (x_Cn _ C) d_Pg_init_15 rfl rfl ?_
      refine x_bipush (v := 24) (x_Cn _ C) d_Pg_init_16 (by decide) ?_
      refine x_icmp_ge_y 40 (x_Cn _ C) d_Pg_init_18 (by decide) (by decide) ?_
      refine x_aload_n 1 (x_Cn _ C) d_Pg_init_40 rfl rfl ?_
      refine x_iconst (v := 0) (x_Cn _ C) d_Pg_init_41 (by decide) ?_
      refine x_put (i := (1, 0)) (f' := x_fP b cA f) 1 (x_Cn _ C) (x_mn (by omega)) ((x_upk (by omega)).trans x_ups) rfl i_Pg t_Pg_ok n_Pg (by decide) (List.mem_cons_of_mem _ q_80) rfl rfl rfl (Nat.le_of_ble_eq_true rfl) d_Pg_init_42 rfl ?_
      exact x_vretN (x_Cn _ C) hs hr hlk d_Pg_init_45
    | succ t ih =>
      intro j hj
      obtain ⟨v1, v2, v3, v4⟩ := x_vj j (by omega)
      refine x_iload_n 0 (x_Cn _ C) d_Pg_init_15 rfl rfl ?_
      refine x_bipush (v := 24) (x_Cn _ C) d_Pg_init_16 (by decide) ?_
      refine x_icmp_ge_n 40 (x_Cn _ C) d_Pg_init_18 (by decide) v3 ?_
      refine x_aload_n 1 (x_Cn _ C) d_Pg_init_21 rfl rfl ?_
      refine x_get (i := (1, 0)) (v := .ref (b + 2)) 0 (x_Cn _ C) (x_mn (by omega)) ((x_upk (by omega)).trans x_ups) rfl i_Pg (by decide) (List.mem_cons_of_mem _ q_79) rfl d_Pg_init_22 ?_
      refine x_iload_n 0 (x_Cn _ C) d_Pg_init_25 rfl rfl ?_
      have hst : (x_up (x_up f (1, 0) (.inr (4, [.ref (b + 2), .int 0]))) (2, 0) (.inl (cA 3, 24, .inr (.inr (.inr (.inr (x_sg b 3 j 1))))))) (3 + 1 * j, 0) = .inr (6, [.int 0, .int 0, .int 0, .int 0, .int 0]) := (x_upk (by omega)).trans ((x_upk (by omega)).trans ((hf (3 + 1 * j) (by omega) (by omega)).trans (x_dS j (by omega))))
      refine x_newB (ci := 6) (fs := [.int 0, .int 0, .int 0, .int 0, .int 0]) (ty := t_St) (x_Cn _ C) (by omega) (by omega) rfl i_St t_St_ok (List.mem_cons_of_mem _ q_34) (List.mem_cons_of_mem _ q_36) (List.mem_cons_of_mem _ q_3) hst (by decide) (show 1 + j + 1 ≤ 25 by omega) (show 24 + 5 * j + 5 ≤ 144 by omega) d_Pg_init_26 ?_
      refine x_dup (x_Cn _ C) d_Pg_init_29 rfl ?_
      refine x_ciN (o := 3 + 1 * j) (n' := 3 + 1 * j + 1) (f' := (x_up (x_up f (1, 0) (.inr (4, [.ref (b + 2), .int 0]))) (2, 0) (.inl (cA 3, 24, .inr (.inr (.inr (.inr (x_sg b 3 j 1)))))))) (As := []) (rest := [(.ref (b + (3 + 1 * j))), (.int (Int32.ofNat j)), (.ref (b + 2))]) (x_Cn _ C) hB (by omega) (by omega) k_St_init hB.2.1 c_St_init (by omega) rfl rfl (Nat.le_of_ble_eq_true rfl) (Nat.le_of_ble_eq_true rfl) rfl rfl (Nat.le_of_ble_eq_true rfl) d_Pg_init_30 ⟨(show 1 + j + 1 + 0 ≤ 25 by omega), (show 24 + 5 * j + 5 + 0 ≤ 144 by omega)⟩ ?_
      refine x_aast (i := (2, 0)) (v := (3 + 1 * j, 0)) (f' := (x_up (x_up f (1, 0) (.inr (4, [.ref (b + 2), .int 0]))) (2, 0) (.inl (cA 3, 24, .inr (.inr (.inr (.inr (x_sg b 3 (j + 1) 1)))))))) 3 (x_Cn _ C) (x_mn (by omega)) (x_mn (by omega)) x_ups hst rfl rfl v1 d_Pg_init_33 (by rw [v2, x_sgS]; exact x_upp) ?_
      refine x_iinc (lv' := [(1, (.int (Int32.ofNat j + 1))), (0, (.ref (b + 1)))]) 0 (x_Cn _ C) d_Pg_init_34 rfl rfl (by decide) rfl ?_
      refine x_goto 15 (x_Cn _ C) d_Pg_init_37 (by decide) ?_
      rw [v4]
      exact x_wid (by omega) (by omega) (ih (j + 1) (by omega))
  refine x_aload_n 0 (x_Cn _ C) d_Pg_init_0 rfl rfl ?_
  refine x_objI (x_Cn _ C) q_33 d_Pg_init_1 (Nat.le_of_ble_eq_true rfl) (Nat.le_of_ble_eq_true rfl) ?_
  refine x_aload_n 0 (x_Cn _ C) d_Pg_init_4 rfl rfl ?_
  refine x_bipush (v := 24) (x_Cn _ C) d_Pg_init_5 (by decide) ?_
  refine x_anewB (t0 := 3) (N' := 24) (x_Cn _ C) (by omega) (by omega) (List.mem_cons_of_mem _ q_34) hB.2.2.1 rfl (by decide) (by decide) (by decide) (hf 2 (by omega) (by omega)) (Nat.le_of_ble_eq_true rfl) (Nat.le_of_ble_eq_true rfl) d_Pg_init_7 ?_
  refine x_putF (i := (1, 0)) (f' := (x_up f (1, 0) (.inr (4, [.ref (b + 2), .int 0])))) 0 (x_Cn _ C) hnm (x_mn (by omega)) (ho) rfl i_Pg t_Pg_ok n_Pg (by decide) (List.mem_cons_of_mem _ q_79) rfl rfl rfl rfl (Nat.le_of_ble_eq_true rfl) d_Pg_init_10 rfl ?_
  refine x_iconst (v := 0) (x_Cn _ C) d_Pg_init_13 (by decide) ?_
  refine x_istore_n (lv' := [(1, (.int 0)), (0, (.ref (b + 1)))]) (x_Cn _ C) d_Pg_init_14 rfl (by decide) rfl ?_
  have e0 : (x_up f (1, 0) (.inr (4, [.ref (b + 2), .int 0]))) = (x_up (x_up f (1, 0) (.inr (4, [.ref (b + 2), .int 0]))) (2, 0) (.inl (cA 3, 24, .inr (.inr (.inr (.inr (x_sg b 3 0 1))))))) := by
    rw [x_sg0]
    exact (x_upf ((x_upk (by omega)).trans (hf 2 (by omega) (by omega)))).symm
  rw [e0]
  exact loop 24 0 (by omega)
