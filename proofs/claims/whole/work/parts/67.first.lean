/-! the first world -/
theorem x_siteOf {args : Array Value} {s : State} {ik is ic : Nat} {E text : String} {cur : ClassId} (hc : s.vm.findClass "CheckedMachine" = some cur) (ht : ∀ w ∈ lw_tbl, w.before args s = true) (hr1 : (Cond.isRef (.static Bundle.tN "UNASSIGNED_STACK" Bundle.steD)).before args s = true) (hr2 : (Cond.isRef (.static Bundle.tN "SUPPRESSED_SENTINEL" Bundle.listD)).before args s = true) (hl1 : (Cond.laysStatic Bundle.tN "UNASSIGNED_STACK" Bundle.steD).before args s = true) (hl2 : (Cond.laysStatic Bundle.tN "SUPPRESSED_SENTINEL" Bundle.listD).before args s = true)
    (hot : (Cond.classLink "CheckedMachine" ik E :: Cond.initialized E :: x_oa (x_ix E) (x_by E) "CheckedMachine" ic E).all x_wot = true) (hit : (x_oa (x_ix E) (x_by E) "CheckedMachine" ic E).all x_inT = true) (h1 : Cond.classLink "CheckedMachine" ik E ∈ x_Wd) (h2 : Cond.initialized E ∈ x_Wd) (h3 : Cond.stringRef "CheckedMachine" is text ∈ lw_tbl) : x_site ik is ic E text s := by
  intro A
  have hx : ∀ w ∈ x_Wd, w.before A s = true := fun w hw => word_at (State.WarmedH.refl s) (good_of_word (List.mem_filter.mp hw).2) (ht w (List.mem_filter.mp hw).1)
  refine ⟨⟨hx _ h1, hx _ h2, x_strR hc (ht _ h3)⟩, fun w hw => ?_⟩
  have hT := List.all_eq_true.mp hit w hw
  have hO := List.all_eq_true.mp hot w (List.mem_cons_of_mem _ (List.mem_cons_of_mem _ hw))
  have hb : w.before args s = true := by
    simp only [x_inT, x_w4, Bool.or_eq_true, decide_eq_true_eq] at hT
    rcases hT with (((hT | hT) | hT) | hT) | hT
    · rw [hT]; exact hr1
    · rw [hT]; exact hr2
    · rw [hT]; exact hl1
    · rw [hT]; exact hl2
    · exact ht w hT
  simp only [x_wot, x_w4, Bool.or_eq_true, decide_eq_true_eq] at hO
  rcases hO with ((((hO | hO) | hO) | hO) | hO) | hO
  · rw [hO] at hb ⊢; exact hb
  · rw [hO] at hb ⊢; exact hb
  · rw [hO] at hb ⊢; exact hb
  · rw [hO] at hb ⊢; exact hb
  · exact va_any hO hb
  · exact word_at (State.WarmedH.refl s) (good_of_word hO) hb
set_option maxHeartbeats 4000000 in
set_option maxRecDepth 100000 in
theorem x_facts {p : Program} {s : State} {m : MethodId} {meth : Method} {c : Code} {b L : Nat} {xs : Nat → Int32} (C0 : lw_At p s m meth c b L xs) : x_B s ∧ x_G s ∧ x_J s := by
  obtain ⟨hx, hcode, hret, hml, hown, hts, hX, hbl, hlk, hgv⟩ := C0
  have hs := flat_of_before _ hgv
  have hr1 : (Cond.isRef (.static Bundle.tN "UNASSIGNED_STACK" Bundle.steD)).before #[Value.ref b] s = true := hs _ (by decide +kernel)
  have hr2 : (Cond.isRef (.static Bundle.tN "SUPPRESSED_SENTINEL" Bundle.listD)).before #[Value.ref b] s = true := hs _ (by decide +kernel)
  have hl1 : (Cond.laysStatic Bundle.tN "UNASSIGNED_STACK" Bundle.steD).before #[Value.ref b] s = true := hts _ (by decide +kernel)
  have hl2 : (Cond.laysStatic Bundle.tN "SUPPRESSED_SENTINEL" Bundle.listD).before #[Value.ref b] s = true := hts _ (by decide +kernel)
  obtain ⟨cur, k9, hc, -⟩ := Cond.instantiable_spec (hts (Cond.instantiable "CheckedMachine" 4) (by decide +kernel))
  refine ⟨⟨va_Nw.of rfl (hts _ (by decide +kernel)), va_Nw.of rfl (hts _ (by decide +kernel)), va_AO.of (hts _ (by decide +kernel)), va_AO.of (hts _ (by decide +kernel)), hts (Cond.arrayOver (.array .long)) (by decide +kernel)⟩, ?_, va_Nc.of (hs _ (by decide +kernel)), va_Nc.of (hs _ (by decide +kernel)), va_Nc.of (hs _ (by decide +kernel))⟩
  exact ⟨x_siteOf hc hts hr1 hr2 hl1 hl2 x_ot1 x_it1 q_258 q_13 (by decide +kernel), x_siteOf hc hts hr1 hr2 hl1 hl2 x_ot1 x_it1 q_258 q_13 (by decide +kernel), x_siteOf hc hts hr1 hr2 hl1 hl2 x_ot1 x_it1 q_258 q_13 (by decide +kernel), x_siteOf hc hts hr1 hr2 hl1 hl2 x_ot1 x_it1 q_258 q_13 (by decide +kernel), x_siteOf hc hts hr1 hr2 hl1 hl2 x_ot2 x_it2 q_327 q_14 (by decide +kernel), x_siteOf hc hts hr1 hr2 hl1 hl2 x_ot2 x_it2 q_327 q_14 (by decide +kernel), x_siteOf hc hts hr1 hr2 hl1 hl2 x_ot3 x_it3 q_363 q_15 (by decide +kernel), x_siteOf hc hts hr1 hr2 hl1 hl2 x_ot4 x_it4 q_673 q_19 (by decide +kernel)⟩
def x_off (i : x_I) : Nat := match i with
  | (0, _) => 0
  | (1, _) => 1
  | (2, _) => 2
  | (3, j) => 3 + 1 * j
  | (4, _) => 27
  | (5, 0) => 28
  | (6, 0) => 29
  | (7, 0) => 30
  | (8, 0) => 31
  | (5, j + 1) => 35 + 4 * j
  | (6, j + 1) => 35 + 4 * j + 1
  | (7, j + 1) => 35 + 4 * j + 1 + 1
  | (8, j + 1) => 35 + 4 * j + 1 + 2
  | (9, _) => 32
  | (10, _) => 33
  | (11, _) => 34
  | (12, _) => 131
  | (13, _) => 132
  | (14, _) => 133
  | (15, j) => 133 + 1 + j
  | (16, _) => 140
  | (17, _) => 141
  | (18, _) => 142
  | (19, _) => 143
  | (20, _) => 144
  | (21, _) => 145
  | (22, _) => 146
  | (23, _) => 147
  | (24, _) => 148
  | (25, _) => 149
  | (26, _) => 150
  | (27, _) => 151
  | (28, _) => 152
  | (29, _) => 153
  | (30, _) => 154
  | (31, _) => 155
  | _ => 156
def x_ad0 (b : Nat) : x_I → Nat := fun i => b + x_off i
theorem x_offinj : ∀ i ∈ x_idl, ∀ j ∈ x_idl, x_off i = x_off j → i = j := by decide +kernel
theorem x_ok0 {D : va_G} {cA : Nat → ClassId} {b : Nat} : x_ok (x_k D cA (x_ad0 b)) := ⟨x_idl_nd, fun i hi j hj e => x_offinj i hi j hj (by have e : b + x_off i = b + x_off j := e; omega)⟩
def x_st0 : x_S := ((fun _ _ => 0, 0, fun _ _ => 0, fun _ _ => 0, fun _ _ => 0, fun _ => 0, fun _ => 0, fun _ => 0, fun _ _ => 0, fun _ => 0, fun _ => 0, fun _ => 0, 0), (fun _ _ => 0, fun _ => 0, fun _ => 0, fun _ => 0, fun _ => 0, fun _ => 0, fun _ => 0, fun _ => 0, fun _ => 0, fun _ => 0, fun _ => 0), fun _ => 0)
theorem x_idl_all {P : x_I → Prop} (h0 : P (0, 0)) (h1 : P (1, 0)) (h2 : P (2, 0)) (h3 : ∀ j, j < 24 → P (3, j)) (h4 : P (4, 0)) (h5 : ∀ j, j < 25 → P (5, j)) (h6 : ∀ j, j < 25 → P (6, j)) (h7 : ∀ j, j < 25 → P (7, j)) (h8 : ∀ j, j < 25 → P (8, j)) (h9 : P (9, 0)) (h10 : P (10, 0)) (h11 : P (11, 0)) (h12 : P (12, 0)) (h13 : P (13, 0)) (h14 : P (14, 0)) (h15 : ∀ j, j < 6 → P (15, j)) (h16 : P (16, 0)) (h17 : P (17, 0)) (h18 : P (18, 0)) (h19 : P (19, 0)) (h20 : P (20, 0)) (h21 : P (21, 0)) (h22 : P (22, 0)) (h23 : P (23, 0)) (h24 : P (24, 0)) (h25 : P (25, 0)) (h26 : P (26, 0)) (h27 : P (27, 0)) (h28 : P (28, 0)) (h29 : P (29, 0)) (h30 : P (30, 0)) (h31 : P (31, 0)) (h32 : P (32, 0)) : ∀ i ∈ x_idl, P i := (List.forall_mem_append.mpr ⟨(List.forall_mem_append.mpr ⟨(List.forall_mem_append.mpr ⟨(List.forall_mem_append.mpr ⟨(List.forall_mem_append.mpr ⟨(List.forall_mem_append.mpr ⟨(List.forall_mem_append.mpr ⟨(List.forall_mem_append.mpr ⟨(List.forall_mem_append.mpr ⟨(List.forall_mem_append.mpr ⟨(List.forall_mem_append.mpr ⟨(List.forall_mem_append.mpr ⟨(List.forall_mem_append.mpr ⟨(List.forall_mem_append.mpr ⟨(List.forall_mem_append.mpr ⟨(List.forall_mem_append.mpr ⟨(List.forall_mem_append.mpr ⟨(List.forall_mem_append.mpr ⟨(List.forall_mem_append.mpr ⟨(List.forall_mem_append.mpr ⟨(List.forall_mem_append.mpr ⟨(List.forall_mem_append.mpr ⟨(List.forall_mem_append.mpr ⟨(List.forall_mem_append.mpr ⟨(List.forall_mem_append.mpr ⟨(List.forall_mem_append.mpr ⟨(List.forall_mem_append.mpr ⟨(List.forall_mem_append.mpr ⟨(List.forall_mem_append.mpr ⟨(List.forall_mem_append.mpr ⟨(List.forall_mem_append.mpr ⟨(List.forall_mem_append.mpr ⟨(fun _ h => by rw [List.mem_singleton.mp h]; exact h0), (fun _ h => by rw [List.mem_singleton.mp h]; exact h1)⟩), (fun _ h => by rw [List.mem_singleton.mp h]; exact h2)⟩), (fun _ h => by obtain ⟨j, hj, rfl⟩ := List.mem_map.mp h; exact h3 j (List.mem_range.mp hj))⟩), (fun _ h => by rw [List.mem_singleton.mp h]; exact h4)⟩), (fun _ h => by obtain ⟨j, hj, rfl⟩ := List.mem_map.mp h; exact h5 j (List.mem_range.mp hj))⟩), (fun _ h => by obtain ⟨j, hj, rfl⟩ := List.mem_map.mp h; exact h6 j (List.mem_range.mp hj))⟩), (fun _ h => by obtain ⟨j, hj, rfl⟩ := List.mem_map.mp h; exact h7 j (List.mem_range.mp hj))⟩), (fun _ h => by obtain ⟨j, hj, rfl⟩ := List.mem_map.mp h; exact h8 j (List.mem_range.mp hj))⟩), (fun _ h => by rw [List.mem_singleton.mp h]; exact h9)⟩), (fun _ h => by rw [List.mem_singleton.mp h]; exact h10)⟩), (fun _ h => by rw [List.mem_singleton.mp h]; exact h11)⟩), (fun _ h => by rw [List.mem_singleton.mp h]; exact h12)⟩), (fun _ h => by rw [List.mem_singleton.mp h]; exact h13)⟩), (fun _ h => by rw [List.mem_singleton.mp h]; exact h14)⟩), (fun _ h => by obtain ⟨j, hj, rfl⟩ := List.mem_map.mp h; exact h15 j (List.mem_range.mp hj))⟩), (fun _ h => by rw [List.mem_singleton.mp h]; exact h16)⟩), (fun _ h => by rw [List.mem_singleton.mp h]; exact h17)⟩), (fun _ h => by rw [List.mem_singleton.mp h]; exact h18)⟩), (fun _ h => by rw [List.mem_singleton.mp h]; exact h19)⟩), (fun _ h => by rw [List.mem_singleton.mp h]; exact h20)⟩), (fun _ h => by rw [List.mem_singleton.mp h]; exact h21)⟩), (fun _ h => by rw [List.mem_singleton.mp h]; exact h22)⟩), (fun _ h => by rw [List.mem_singleton.mp h]; exact h23)⟩), (fun _ h => by rw [List.mem_singleton.mp h]; exact h24)⟩), (fun _ h => by rw [List.mem_singleton.mp h]; exact h25)⟩), (fun _ h => by rw [List.mem_singleton.mp h]; exact h26)⟩), (fun _ h => by rw [List.mem_singleton.mp h]; exact h27)⟩), (fun _ h => by rw [List.mem_singleton.mp h]; exact h28)⟩), (fun _ h => by rw [List.mem_singleton.mp h]; exact h29)⟩), (fun _ h => by rw [List.mem_singleton.mp h]; exact h30)⟩), (fun _ h => by rw [List.mem_singleton.mp h]; exact h31)⟩), (fun _ h => by rw [List.mem_singleton.mp h]; exact h32)⟩)
theorem x_fM_out {b : Nat} {cA : Nat → ClassId} {f : x_I → va_E} {k : Nat} (h : 142 ≤ k) : x_fM b cA f (k, 0) = f (k, 0) := (x_upk (by omega)).trans ((x_upk (by omega)).trans ((x_upk (by omega)).trans ((x_fC_out (by omega)).trans ((x_upk (by omega)).trans ((x_fP_out (by omega)).trans (rfl))))))
def x_fE (b : Nat) (cA : Nat → ClassId) (f : x_I → va_E) : x_I → va_E := (x_up (x_fM b cA f) (142, 0) (.inr (8, [.ref (b + 143), .ref (b + 144), .ref (b + 145), .ref (b + 146), .ref (b + 147), .int 0, .int 0, .int 0, .int 0, .int 0, .int 0, .int 0, .int 0, .int 0, .long 0, .long 0, .ref (b + 148), .ref (b + 149), .ref (b + 150), .ref (b + 151), .ref (b + 152), .ref (b + 153), .ref (b + 154), .ref (b + 155), .int 0, .int 0])))
theorem x_fE_out {b : Nat} {cA : Nat → ClassId} {f : x_I → va_E} {k : Nat} (h : k ≠ 142) : x_fE b cA f (k, 0) = x_fM b cA f (k, 0) := x_upk h
theorem x_lgI {b j : Nat} {f : x_I → va_E} (h : j < 24) : x_lg b 24 f (35 + 4 * j, 0) = .inr (2, [.ref (b + ((35 + 4 * j) + 1)), .ref (b + ((35 + 4 * j) + 1 + 1)), .ref (b + ((35 + 4 * j) + 1 + 2))]) := if_pos ⟨by show 35 ≤ 35 + 4 * j; omega, by show 35 + 4 * j < 35 + 4 * 24; omega, by show (35 + 4 * j - 35) % 4 = 0; omega, rfl⟩
theorem x_lgN {b j k : Nat} {f : x_I → va_E} (h : (k - 35) % 4 ≠ 0) : x_lg b j f (k, 0) = f (k, 0) := if_neg (fun h9 => h h9.2.2.1)
theorem x_M_gs {b j : Nat} {cA : Nat → ClassId} {f : x_I → va_E} (h : j < 24) : x_fM b cA f (35 + 4 * j, 0) = .inr (2, [.ref (b + ((35 + 4 * j) + 1)), .ref (b + ((35 + 4 * j) + 1 + 1)), .ref (b + ((35 + 4 * j) + 1 + 2))]) := (x_upk (by omega)).trans ((x_upk (by omega)).trans ((x_upk (by omega)).trans ((x_upk (by omega)).trans ((x_upk (by omega)).trans (x_lgI h)))))
theorem x_M_ar {b k : Nat} {cA : Nat → ClassId} {f : x_I → va_E} (h1 : 35 ≤ k) (h2 : k < 131) (h3 : (k - 35) % 4 ≠ 0) : x_fM b cA f (k, 0) = f (k, 0) := (x_upk (by omega)).trans ((x_upk (by omega)).trans ((x_upk (by omega)).trans ((x_upk (by omega)).trans ((x_upk (by omega)).trans ((x_lgN h3).trans ((x_fC1_out (by omega)).trans ((x_upk (by omega)).trans ((x_fP_out (by omega)).trans (rfl)))))))))
theorem x_M_lo {b k : Nat} {cA : Nat → ClassId} {f : x_I → va_E} (h : 3 ≤ k ∧ k < 27 ∨ 133 ≤ k) : x_fM b cA f (k, 0) = f (k, 0) := (x_upk (by omega)).trans ((x_upk (by omega)).trans ((x_upk (by omega)).trans ((x_fC_out (by omega)).trans ((x_upk (by omega)).trans ((x_fP_out (by omega)).trans (rfl))))))
theorem x_atq {D : va_G} {cl : List vw_C} {H : Heap} {a n : Nat} {k : ClassId} {g g' : Nat → Option Nat} (h : va_at D cl (a, .inl (k, n, .inr (.inr (.inr (.inr g))))) H) (hg : ∀ j, j < n → g j = g' j) : va_at D cl (a, .inl (k, n, .inr (.inr (.inr (.inr g'))))) H := by
  have h9 : H[a]? = some (arrV k n (fun j => va_rf (g j))) := h
  show H[a]? = some (arrV k n (fun j => va_rf (g' j)))
  rw [h9]
  unfold arrV
  congr 2
  exact congrArg Array.ofFn (funext fun j => congrArg va_rf (hg j.1 j.2))
set_option maxHeartbeats 4000000 in
set_option maxRecDepth 100000 in
theorem x_first {D : va_G} {cA : Nat → ClassId} {b : Nat} {H : Heap} (hP : va_P D x_classes (x_wd (x_kn D cA b 157) (x_fE b cA (fun i => x_d b cA i.1))) H) : va_P D x_classes (x_wd (x_k D cA (x_ad0 b)) (x_F (x_ad0 b) cA x_st0)) H := by
  have hv : ∀ k, k < 157 → va_at D x_classes (b + k, x_fE b cA (fun i => x_d b cA i.1) (k, 0)) H := fun k hk => by
    obtain ⟨k9, hk9⟩ := x_at (κ := x_kn D cA b 157) (f := x_fE b cA (fun i => x_d b cA i.1)) (x_mn hk)
    exact hP k9 _ hk9
  have hall : ∀ i ∈ x_idl, va_at D x_classes (b + x_off i, x_F (x_ad0 b) cA x_st0 i) H := x_idl_all (hv 0 (by omega)) (hv 1 (by omega)) (x_atq (hv 2 (by omega)) (fun j hj => if_pos hj)) (fun j hj => (by have h9 := hv (3 + 1 * j) (by omega); rw [show x_fE b cA (fun i => x_d b cA i.1) (3 + 1 * j, 0) = _ from (x_fE_out (by omega)).trans ((x_M_lo (by omega)).trans (x_dS j hj))] at h9; exact h9)) (hv 27 (by omega)) (fun j hj => match j, hj with | 0, _ => (hv 28 (by omega)) | j + 1, hj => (by have h9 := hv (35 + 4 * j) (by omega); rw [show x_fE b cA (fun i => x_d b cA i.1) (35 + 4 * j, 0) = _ from (x_fE_out (by omega)).trans (x_M_gs (by omega))] at h9; exact h9)) (fun j hj => match j, hj with | 0, _ => (hv 29 (by omega)) | j + 1, hj => (by have h9 := hv (35 + 4 * j + 1) (by omega); rw [show x_fE b cA (fun i => x_d b cA i.1) (35 + 4 * j + 1, 0) = _ from (x_fE_out (by omega)).trans ((x_M_ar (by omega) (by omega) (by omega)).trans (x_dG1 j (by omega)))] at h9; exact h9)) (fun j hj => match j, hj with | 0, _ => (hv 30 (by omega)) | j + 1, hj => (by have h9 := hv (35 + 4 * j + 1 + 1) (by omega); rw [show x_fE b cA (fun i => x_d b cA i.1) (35 + 4 * j + 1 + 1, 0) = _ from (x_fE_out (by omega)).trans ((x_M_ar (by omega) (by omega) (by omega)).trans (x_dG2 j (by omega)))] at h9; exact h9)) (fun j hj => match j, hj with | 0, _ => (hv 31 (by omega)) | j + 1, hj => (by have h9 := hv (35 + 4 * j + 1 + 2) (by omega); rw [show x_fE b cA (fun i => x_d b cA i.1) (35 + 4 * j + 1 + 2, 0) = _ from (x_fE_out (by omega)).trans ((x_M_ar (by omega) (by omega) (by omega)).trans (x_dG3 j (by omega)))] at h9; exact h9)) (hv 32 (by omega)) (hv 33 (by omega)) (x_atq (hv 34 (by omega)) (fun j hj => if_pos hj)) (hv 131 (by omega)) (hv 132 (by omega)) (x_atq (hv 133 (by omega)) (fun j hj => if_pos hj)) (fun j hj => (by have h9 := hv (133 + 1 + j) (by omega); rw [show x_fE b cA (fun i => x_d b cA i.1) (133 + 1 + j, 0) = _ from (x_fE_out (by omega)).trans ((x_M_lo (by omega)).trans (x_dR j hj))] at h9; exact h9)) (hv 140 (by omega)) (hv 141 (by omega)) (hv 142 (by omega)) (hv 143 (by omega)) (hv 144 (by omega)) (hv 145 (by omega)) (hv 146 (by omega)) (hv 147 (by omega)) (hv 148 (by omega)) (hv 149 (by omega)) (hv 150 (by omega)) (hv 151 (by omega)) (hv 152 (by omega)) (hv 153 (by omega)) (hv 154 (by omega)) (hv 155 (by omega)) (hv 156 (by omega))
  intro k q hk
  obtain ⟨i, -, hi, rfl⟩ := x_nth hk
  exact hall i hi
