theorem x_conv {p : Program} {l : Launch} {e : Env} {R : Room} {s : State} {m : MethodId} {args : Array Value} {below : List Frame} {meth : Method} {c : Code} {cells slots nL : Nat} {Q : State → Prop} {D : va_G} {cA : Nat → ClassId} {B pc : Nat} {lv : List (Nat × Value)} {st : List Value} (hB : s.heap.size = B)
    (kk : x_V p l e R s m args below meth c (x_k D cA (x_ad0 B)) nL cells slots Q (x_F (x_ad0 B) cA x_st0) pc lv st) : x_V p l e R s m args below meth c (x_kn D cA B 157) nL cells slots Q (x_fE B cA (fun i => x_d B cA i.1)) pc lv st := fun H locs ls hP hS hl => by
  have hA : ∀ q, x_A (x_kn D cA B 157) s.heap.size q → x_A (x_k D cA (x_ad0 B)) s.heap.size q := fun q h => by
    rcases h with ⟨i, -, e⟩ | h
    · have e : B + i.1 = q := e
      exact Or.inr (by omega)
    · exact Or.inr h
  exact kk H locs ls (x_first hP) ⟨hS.1, fun q h1 h2 => hS.2.1 q h1 (fun h => h2 (hA q h)), fun q hq => hA _ (hS.2.2 q hq)⟩ hl
theorem x_fMd {b : Nat} {cA : Nat → ClassId} {k : Nat} (h : 142 ≤ k) : x_fM b cA (fun i => x_d b cA i.1) (k, 0) = x_d b cA k := x_fM_out h
set_option maxHeartbeats 4000000 in
set_option maxRecDepth 100000 in
/-- the law, for an invariant -/
theorem law_start {p : Program} {e : Env} {s : State} {m : MethodId} {below : List Frame} {meth : Method} {c : Code} {l : Launch} (htr : l.stackTraces = false) {b L : Nat} {xs : Nat → Int32} (hL : L ≤ 3584) (C0 : lw_At p s m meth c b L xs) (I : Nat → x_S → Prop) (hI : law_inv I) (h0 : I 0 x_st0) : W p l e room_1 s m #[Value.ref b] below meth c s.heap [] 0 0 (lw_Z below #[Value.ref b] s) (entryFrame m ([Value.ref b] : List Value).toArray 8) := by
  obtain ⟨hB, hg, hj⟩ := x_facts C0
  obtain ⟨hx, hcode, hret, hml, hown, hts, hX, hbl, hlk, hgv⟩ := C0
  have ht : ∀ w ∈ x_Wd, w.before #[Value.ref b] s = true := fun w hw => hts w (List.mem_filter.mp hw).1
  obtain ⟨D, cA, hK⟩ := x_hasK ht hB
  obtain ⟨B, hBs⟩ : ∃ B, s.heap.size = B := ⟨_, rfl⟩
  have hw : ∀ w ∈ (Cond.initialized "CheckedMachineLaw" :: x_Wd), w.before #[Value.ref b] s = true := fun w hw => (List.mem_cons.mp hw).elim (fun e => by rw [e]; exact ht _ q_0) (ht w)
  have C : x_C p s m #[Value.ref b] c b_Lw_law 8 R_Lw (Cond.initialized "CheckedMachineLaw" :: x_Wd) (x_kn D cA B 0) := ⟨⟨hx, hcode, hml, hown, hw⟩, hK, x_okn, hB.1⟩
  have C1 : x_C p s m #[Value.ref b] c b_Lw_law 8 R_Lw (Cond.initialized "CheckedMachineLaw" :: x_Wd) (x_k D cA (x_ad0 B)) := ⟨⟨hx, hcode, hml, hown, hw⟩, hK, x_ok0, hB.1⟩
  have hap : ∀ q : Nat, q < s.heap.size → ¬ x_A (x_k D cA (x_ad0 B)) s.heap.size q := fun q hq h => by
    rcases h with ⟨i, -, e⟩ | h
    · have e : B + x_off i = q := e
      omega
    · omega
  rw [lg_entry_eq]
  have V : x_V p l e room_1 s m #[Value.ref b] below meth c (x_kn D cA B 0) 8 0 0 (lw_Z below #[Value.ref b] s) (fun i => x_d B cA i.1) 0 [(0, (.ref b))] [] := by
    refine x_newB (n := 0) (ci := 7) (fs := [.null, .null, .null, .int 0]) (ty := t_CM) (x_Cn _ C) (by omega) (by omega) rfl i_CM t_CM_ok (List.mem_cons_of_mem _ q_20) (List.mem_cons_of_mem _ q_21) (List.mem_cons_of_mem _ q_1) rfl (by decide) (Nat.le_of_ble_eq_true rfl) (Nat.le_of_ble_eq_true rfl) d_Lw_law_0 ?_
    refine x_dup (x_Cn _ C) d_Lw_law_3 rfl ?_
    refine x_ci (o := 0) (n' := 142) (f' := x_fM B cA (fun i => x_d B cA i.1)) (As := []) (rest := [(.ref (B + 0))]) (x_Cn _ C) hB (by omega) (by omega) k_CM_init q_22 (c_CM_init rfl (fun k _ _ => rfl)) (by omega) rfl rfl (Nat.le_of_ble_eq_true rfl) (Nat.le_of_ble_eq_true rfl) rfl rfl (Nat.le_of_ble_eq_true rfl) d_Lw_law_4 ⟨(Nat.le_of_ble_eq_true rfl), (Nat.le_of_ble_eq_true rfl)⟩ ?_
    refine x_astore_n (lv' := [(1, (.ref (B + 0))), (0, (.ref b))]) (x_Cn _ C) d_Lw_law_7 rfl (by decide) rfl ?_
    refine x_newB (n := 142) (ci := 8) (fs := [.null, .null, .null, .null, .null, .int 0, .int 0, .int 0, .int 0, .int 0, .int 0, .int 0, .int 0, .int 0, .long 0, .long 0, .null, .null, .null, .null, .null, .null, .null, .null, .int 0, .int 0]) (ty := t_Md) (x_Cn _ C) (by omega) (by omega) rfl i_Md t_Md_ok (List.mem_cons_of_mem _ q_785) (List.mem_cons_of_mem _ q_786) (List.mem_cons_of_mem _ q_9) (x_fMd (by omega)) (by decide) (Nat.le_of_ble_eq_true rfl) (Nat.le_of_ble_eq_true rfl) d_Lw_law_8 ?_
    refine x_dup (x_Cn _ C) d_Lw_law_11 rfl ?_
    refine x_ci (o := 142) (n' := 156) (f' := x_fE B cA (fun i => x_d B cA i.1)) (As := []) (rest := [(.ref (B + 142))]) (x_Cn _ C) hB (by omega) (by omega) k_Md_init q_787 (c_Md_init (x_fMd (by omega)) (fun k h1 h2 => x_fMd (by omega))) (by omega) rfl rfl (Nat.le_of_ble_eq_true rfl) (Nat.le_of_ble_eq_true rfl) rfl rfl (Nat.le_of_ble_eq_true rfl) d_Lw_law_12 ⟨(Nat.le_of_ble_eq_true rfl), (Nat.le_of_ble_eq_true rfl)⟩ ?_
    refine x_astore_n (lv' := [(2, (.ref (B + 142))), (1, (.ref (B + 0))), (0, (.ref b))]) (x_Cn _ C) d_Lw_law_15 rfl (by decide) rfl ?_
    refine x_iconst (v := 1) (x_Cn _ C) d_Lw_law_16 (by decide) ?_
    refine x_newaB (atype := .long) (ty := .long) (n := 156) (t0 := 1) (N' := 1) (x_Cn _ C) (by omega) (by omega) rfl (List.mem_cons_of_mem _ q_109) rfl (fun _ h => h) (fun _ => rfl) (by decide) (by decide) (by decide) ((x_fE_out (by omega)).trans (x_fMd (by omega))) (Nat.le_of_ble_eq_true rfl) (Nat.le_of_ble_eq_true rfl) d_Lw_law_17 ?_
    refine x_astore_n (lv' := [(3, (.ref (B + 156))), (2, (.ref (B + 142))), (1, (.ref (B + 0))), (0, (.ref b))]) (x_Cn _ C) d_Lw_law_19 rfl (by decide) rfl ?_
    refine x_iconst (v := 0) (x_Cn _ C) d_Lw_law_20 (by decide) ?_
    refine x_istore (lv' := [(4, (.int 0)), (3, (.ref (B + 156))), (2, (.ref (B + 142))), (1, (.ref (B + 0))), (0, (.ref b))]) (x_Cn _ C) d_Lw_law_21 (by decide) rfl ?_
    refine x_conv hBs ?_
    refine x_loc (lv' := [(0, (.ref b)), (1, (.ref (x_ad0 B (0, 0)))), (2, (.ref (x_ad0 B (18, 0)))), (3, (.ref (x_ad0 B (32, 0)))), (4, (.int (Int32.ofNat (7 * 0))))]) [4, 3, 2, 1, 0] rfl ?_
    exact law_loop htr x_ok0 C1 hret hlk hX hbl hg hj hap hL I hI (L / 7) 0 x_st0 _ _ (by omega) h0 (by show 157 + _ ≤ 601024; omega) (by show 2542 + _ ≤ 7293034; omega)
  have hl := lv_entry [Value.ref b] (n := 8) (Nat.le_of_ble_eq_true rfl)
  exact V s.heap [] _ (fun k q hk => by cases hk) va_S.rf hl
