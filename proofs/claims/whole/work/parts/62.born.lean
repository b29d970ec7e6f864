/-! CONSTRUCTORS: the world grows, cell by cell, from the address b on -/
def x_idn (n : Nat) : List x_I := (List.range n).map (fun k => (k, 0))
abbrev x_kn (D : va_G) (cA : Nat → ClassId) (b n : Nat) : x_K := (D, x_classes, x_tys cA, x_idn n, fun i => b + i.1)
theorem x_mn {n k : Nat} (h : k < n) : ((k, 0) : x_I) ∈ x_idn n := List.mem_map.mpr ⟨k, List.mem_range.mpr h, rfl⟩
theorem x_mni {n : Nat} {i : x_I} (h : i ∈ x_idn n) : i.1 < n ∧ i.2 = 0 := by
  obtain ⟨k, hk, rfl⟩ := List.mem_map.mp h
  exact ⟨List.mem_range.mp hk, rfl⟩
theorem x_okn {D : va_G} {cA : Nat → ClassId} {b n : Nat} : x_ok (x_kn D cA b n) := by
  refine ⟨?_, fun i hi j hj e => ?_⟩
  · show (x_idn n).Nodup
    unfold x_idn
    exact List.pairwise_map.mpr (List.Pairwise.imp (fun h e => h (congrArg Prod.fst e)) List.nodup_range)
  · have h1 := x_mni hi
    have h2 := x_mni hj
    have e : b + i.1 = b + j.1 := e
    exact Prod.ext (by omega) (h1.2.trans h2.2.symm)
theorem x_upn {f : x_I → va_E} {i j : x_I} {e : va_E} (h : j ≠ i) : x_up f i e j = f j := by simp [x_up, h]
theorem x_ups {f : x_I → va_E} {i : x_I} {e : va_E} : x_up f i e i = e := by simp [x_up]
theorem x_upp {f : x_I → va_E} {i : x_I} {e e' : va_E} : x_up (x_up f i e) i e' = x_up f i e' := by
  funext j
  by_cases h : j = i
  · subst h; rw [x_ups, x_ups]
  · rw [x_upn h, x_upn h, x_upn h]
def x_stI : MethodName := ⟨"CheckedMachine$Step", "<init>", "()V"⟩
/-- words that are no good words, kept by hand -/
def x_B (U : State) : Prop := x_N U ∧ va_Nw (.methodLinkNest "CheckedMachine$Program" 17 x_stI "CheckedMachine") U ∧ va_AO "CheckedMachine$Step" U ∧ va_AO "CheckedMachine$Guesses" U ∧ va_Nw (.arrayOver (.array .long)) U
theorem x_aoW {t : FieldType} {u U : State} (hvm : u.vm.Alike U.vm) (h : va_Nw (.arrayOver t) u) : va_Nw (.arrayOver t) U := by
  have h9 : (Cond.arrayOver t).before #[] (u.setVm U.vm) = true := by rw [Cond.arrayOver_setVmC hvm t]; exact h
  exact h9
theorem x_B.warm {s U : State} (hW : s.WarmedH U.vm) (h : x_B s) : x_B U := ⟨x_N.warm hW h.1, va_Nw.warmM hW h.2.1, va_AO.moved hW.alike h.2.2.1, va_AO.moved hW.alike h.2.2.2.1, x_aoW hW.alike h.2.2.2.2⟩
def x_PN (D : va_G) (cA : Nat → ClassId) (b n : Nat) (f : x_I → va_E) (U : State) : Prop := U.heap.size = b + n ∧ va_P D x_classes (x_wd (x_kn D cA b n) f) U.heap ∧ va_K D x_classes (x_tys cA) U ∧ x_B U
def x_RN (D : va_G) (cA : Nat → ClassId) (b n n' : Nat) (f' : x_I → va_E) : Array Value → State → Outcome → State → Prop := fun _ st o t => o = .returned none ∧ va_P D x_classes (x_wd (x_kn D cA b n') f') t.heap ∧ va_F (x_A (x_kn D cA b n) (b + n)) st t
/-- A CONSTRUCTOR'S CONTRACT: from n cells to n' -/
def x_MN (l : Launch) (y : MethodName) (w : List Cond) (rm : Room) (D : va_G) (cA : Nat → ClassId) (b n n' : Nat) (f f' : x_I → va_E) (vs : List Value) (mc ms : Nat) : Prop :=
  Met l y w rm (va_Pc vs (x_PN D cA b n f)) (x_RN D cA b n n' f') mc ms (x_A (x_kn D cA b n) (b + n))
theorem x_blindN {D : va_G} {cA : Nat → ClassId} {b n : Nat} {f : x_I → va_E} {vs : List Value} : FrameBlind (va_Pc vs (x_PN D cA b n f)) :=
  fun a U g mk q => by
    obtain ⟨q0, q1, q2, q3, q4⟩ := q
    exact ⟨q0, q1, q2, va_K.moved (u := U) (U := U.calling g mk a) (Vm.Alike.refl U.vm) q3, va_tabs (A := #[]) (u := U) rfl rfl q4.1, va_tabs (A := #[]) (u := U) rfl rfl q4.2.1, va_AO.moved (u := U) (U := U.calling g mk a) (Vm.Alike.refl U.vm) q4.2.2.1, va_AO.moved (u := U) (U := U.calling g mk a) (Vm.Alike.refl U.vm) q4.2.2.2.1, x_aoW (u := U) (U := U.calling g mk a) (Vm.Alike.refl U.vm) q4.2.2.2.2⟩
section Born
variable {p : Program} {l : Launch} {e : Env} {R : Room} {s : State} {m : MethodId} {args : Array Value} {below : List Frame} {meth : Method} {c : Code} {cells slots : Nat} {Q : State → Prop}
variable {cc : ByteArray} {nL : Nat} {own : String} {Ts : List Cond} {w0 : Cond} {D : va_G} {cA : Nat → ClassId} {b n n' : Nat} {f f' : x_I → va_E} {pc : Nat} {lv : List (Nat × Value)} {st : List Value}
theorem x_Cn (n' : Nat) (C : x_C p s m args c cc nL own Ts (x_kn D cA b n)) : x_C p s m args c cc nL own Ts (x_kn D cA b n') := ⟨C.1, C.2.1, x_okn, C.2.2.2⟩
theorem x_sz {H : Heap} {sz : Nat} (hP : va_P D x_classes (x_wd (x_kn D cA b n) f) H) (h1 : sz ≤ H.size) (h2 : H.size ≤ sz + cells) (hsz : sz + cells = b + n) (hb0 : b ≤ sz) : H.size = b + n := by
  by_cases h0 : n = 0
  · omega
  · obtain ⟨k, hk⟩ := x_at (κ := x_kn D cA b n) (f := f) (x_mn (show n - 1 < n by omega))
    have h9 : b + (n - 1) < H.size := (hP k _ hk).lt
    omega
theorem x_growP {H H1 : Heap} (hP : va_P D x_classes (x_wd (x_kn D cA b n) f) H) (ho : ∀ q, q < b + n → H1[q]? = H[q]?) (hn : ∀ k, n ≤ k → k < n' → va_at D x_classes (b + k, f (k, 0)) H1) : va_P D x_classes (x_wd (x_kn D cA b n') f) H1 := by
  intro k q hk
  obtain ⟨i, -, hi, rfl⟩ := x_nth hk
  obtain ⟨h1, h2⟩ := x_mni (show i ∈ x_idn n' from hi)
  have hie : i = (i.1, 0) := Prod.ext rfl h2
  by_cases h9 : i.1 < n
  · obtain ⟨k9, hk9⟩ := x_at (κ := x_kn D cA b n) (f := f) (i := i) (by rw [hie]; exact x_mn h9)
    exact (hP k9 _ hk9).kept (ho _ (by show b + i.1 < b + n; omega))
  · have := hn i.1 (by omega) h1
    rw [hie]
    exact this
theorem x_AnI {sz q : Nat} (h : x_A (x_kn D cA b n) sz q) (hn : n ≤ n') : x_A (x_kn D cA b n') sz q := by
  rcases h with ⟨i, hi, e⟩ | h
  · have h2 := x_mni hi
    exact Or.inl ⟨i, by have := x_mn (show i.1 < n' by omega); rwa [show ((i.1, 0) : x_I) = i from Prod.ext rfl h2.2.symm] at this, e⟩
  · exact Or.inr h
theorem x_AnE {q : Nat} (h : x_A (x_kn D cA b n') (b + n) q) : x_A (x_kn D cA b n) (b + n) q := by
  rcases h with ⟨i, hi, e⟩ | h
  · have h2 := x_mni hi
    have e : b + i.1 = q := e
    by_cases h9 : i.1 < n
    · exact Or.inl ⟨i, by have := x_mn h9; rwa [show ((i.1, 0) : x_I) = i from Prod.ext rfl h2.2.symm] at this, e⟩
    · exact Or.inr (by omega)
  · exact Or.inr h
theorem x_growS {H0 H H1 : Heap} {locs : List Loc} {sz : Nat} (hn : n ≤ n') (hS : va_S (x_A (x_kn D cA b n) sz) H0 H locs) (hz : H.size ≤ H1.size) (ho : ∀ q, q < H.size → H1[q]? = H[q]?) : va_S (x_A (x_kn D cA b n') sz) H0 H1 locs :=
  ⟨Nat.le_trans hS.1 hz, fun q h1 h2 => (ho q (Nat.lt_of_lt_of_le h1 hS.1)).trans (hS.2.1 q h1 (fun h => h2 (x_AnI h hn))), fun q hq => x_AnI (hS.2.2 q hq) hn⟩
theorem x_startN {y : MethodName} {w w' : List Cond} {rm : Room} {vs : List Value} {mc ms maxL : Nat} (hy : plainName y.cls = true) (hw : w = Cond.code y cc maxL none :: w') (hlen : (lg_sl vs).length ≤ maxL) {lv0 : List (Nat × Value)} (hlv : lv_args 0 vs = lv0)
    (body : ∀ (p : Program) (e : Env) (s : State) (m : MethodId) (below : List Frame) (meth : Method) (c : Code), x_C p s m vs.toArray c cc maxL y.cls w (x_kn D cA b n) → x_B s → s.heap.size = b + n → meth.name = y.name → meth.sig.returnType = none → meth.locks = false → x_V p l e rm s m vs.toArray below meth c (x_kn D cA b n) maxL 0 0 (MQ below (x_RN D cA b n n' f') vs.toArray s mc ms (x_A (x_kn D cA b n) (b + n))) f 0 lv0 []) : x_MN l y w rm D cA b n n' f f' vs mc ms := by
  refine Met.ofW (cc := cc) (maxL := maxL) (ret := none) hy hw ?_
  intro p e s m args below meth c s₁ B hml hv
  obtain ⟨rfl, hsz, hP, hK, hN⟩ := hv
  have hown : s.vm.findClass y.cls = some m.cls := findClass_of_methodNamed B.named
  have hl := lv_entry vs (n := maxL) hlen
  rw [hlv] at hl
  rw [lg_entry_eq]
  exact body p e s m below meth c ⟨⟨B.exec, B.bytes, hml, hown, atoms_spec (ws := w) B.pre⟩, hK, x_okn, hN.1⟩ hN hsz (name_of_methodNamed B.named B.method).1 B.returns B.notSynchronized s.heap [] _ hP va_S.rf hl
theorem x_vretN (C : x_C p s m args c cc nL own Ts (x_kn D cA b n')) (hsz : s.heap.size = b + n) (hr : meth.sig.returnType = none) (hlocks : meth.locks = false) (hd : decode cc pc = .ok (.return_, 1)) : x_V p l e R s m args below meth c (x_kn D cA b n') nL cells slots (MQ below (x_RN D cA b n n' f) args s cells slots (x_A (x_kn D cA b n) (b + n))) f pc lv [] := fun H locs ls hP hS hl =>
  W.vret C.1.1 C.1.2.1 hr (fun t ht hW => ⟨rfl, by rw [ht]; exact hP, by rw [ht]; exact hS.1, fun q h1 h2 => by rw [ht]; exact hS.2.1 q h1 (fun h => h2 (x_AnE (by rw [← hsz]; exact h)))⟩) (fun q hq => x_AnE (by rw [← hsz]; exact hS.2.2 q hq)) hd hlocks
theorem x_objI {o idx : Nat} {κ : x_K} (C : x_C p s m args c cc nL own (w0 :: x_Wd) κ) (hl : Cond.methodLink own idx Lib.objectInit ∈ x_Wd) (hd : decode cc pc = .ok (.invokespecial idx, 3)) (hframes : 1 ≤ R.frames) (hlo : (st.map fun v => v.category).sum + 12 ≤ R.locals)
    (kk : x_V p l e R s m args below meth c κ nL cells slots Q f (pc + 3) lv st) : x_V p l e R s m args below meth c κ nL cells slots Q f pc lv (.ref o :: st) := fun H locs ls hP hS hl9 =>
  W.objInit C.1.1 C.1.2.1 C.1.2.2.2.1 (C.1.2.2.2.2 _ (List.mem_cons_of_mem _ hl)) (C.1.2.2.2.2 _ (List.mem_cons_of_mem _ q_26)) (C.1.2.2.2.2 _ (List.mem_cons_of_mem _ q_27)) rfl (hl9.1.trans C.1.2.2.1.symm) rfl hd hframes (by show 2 * 0 + _ + 12 ≤ _; omega) (kk H locs ls hP hS hl9)
theorem x_newB {Cn : String} {T : u_T} {N ci index : Nat} {fs : List Value} {ty : Nat → FieldType} (C : x_C p s m args c cc nL own Ts (x_kn D cA b n)) (hsz : s.heap.size + cells = b + n) (hb0 : b ≤ s.heap.size) (hc : x_classes[ci]? = some (Cn, T, N)) (hin : ∀ w ∈ u_ws Cn T N, w ∈ Ts) (hty : ∀ k, k < N → parseFieldDescriptor (T k).2.2.1 = some (ty k)) (hcl : Cond.classLink own index Cn ∈ Ts) (hinst : Cond.instantiable Cn N ∈ Ts) (hini : Cond.initialized Cn ∈ Ts) (hf : f (n, 0) = .inr (ci, fs)) (hfs : ∀ j, j < N → defaultValue (ty j) = vp_V fs j) (hcells : cells + 1 ≤ R.cells) (hslots : slots + N ≤ R.slots) (hd : decode cc pc = .ok (.new index, 3))
    (kk : x_V p l e R s m args below meth c (x_kn D cA b (n + 1)) nL (cells + 1) (slots + N) Q f (pc + 3) lv (.ref (b + n) :: st)) : x_V p l e R s m args below meth c (x_kn D cA b n) nL cells slots Q f pc lv st := by
  intro H locs ls hP hS hl T0 hT X
  have hz : H.size = b + n := x_sz hP hS.1 (by rw [← hT]; exact X.heapSize) hsz hb0
  have hKn := C.2.1.1 ci _ hc
  refine (W.newcK C.1.1 C.1.2.1 C.1.2.2.2.1 (C.1.2.2.2.2 _ hcl) (C.1.2.2.2.2 _ hinst) (C.1.2.2.2.2 _ hini) (g := F0 m pc ls st) rfl hd hcells hslots hKn.2.1 hz (fun H1 kC hkC e1 z1 o1 => ?_)) T0 hT X
  refine kk H1 locs ls (x_growP hP o1 (fun k h1 h2 => ?_)) (x_growS (Nat.le_succ n) hS (by omega) (fun q hq => o1 q (by omega))) hl
  rw [show k = n by omega, hf]
  exact ⟨_, hc, (u_born ty C.1.2.2.2.2 hin hKn hkC e1 hty).to hfs⟩
theorem x_newaB {atype : ArrayType} {ty : FieldType} {t0 N' : Nat} {i : Int32} {a0 : vp_A} (C : x_C p s m args c cc nL own Ts (x_kn D cA b n)) (hsz : s.heap.size + cells = b + n) (hb0 : b ≤ s.heap.size) (hty : newarray.typeOf atype = ty) (harr : Cond.arrayClass ty ∈ Ts) (ht : (x_tys cA)[t0]? = some (cA t0, ty)) (hra : ∀ k, va_RA s k ty → s.vm.findClass ("[" ++ ty.toString) = some k) (ha : ∀ k : ClassId, vp_cell k a0 = arrV k N' (fun _ => defaultValue ty)) (hn : ¬ i < 0) (hN : i.toNatClampNeg = N') (hbytes : N' * componentBytes ty ≤ 536870912) (hf : f (n, 0) = .inl (cA t0, a0)) (hcells : cells + 1 ≤ R.cells) (hslots : slots + N' ≤ R.slots) (hd : decode cc pc = .ok (.newarray atype, 2))
    (kk : x_V p l e R s m args below meth c (x_kn D cA b (n + 1)) nL (cells + 1) (slots + N') Q f (pc + 2) lv (.ref (b + n) :: st)) : x_V p l e R s m args below meth c (x_kn D cA b n) nL cells slots Q f pc lv (.int i :: st) := by
  subst hty
  intro H locs ls hP hS hl T0 hT X
  have hz : H.size = b + n := x_sz hP hS.1 (by rw [← hT]; exact X.heapSize) hsz hb0
  refine (va_newaK C.1.1 C.1.2.1 (C.1.2.2.2.2 _ harr) (g := F0 m pc ls (.int i :: st)) rfl hd rfl hn hN hbytes hcells hslots hz (fun H1 k e1 z1 o1 hAr hNm => ?_)) T0 hT X
  have hk : k = cA t0 := Option.some.inj (hNm.symm.trans (hra _ (C.2.1.2 t0 _ ht).2))
  subst hk
  refine kk H1 locs ls (x_growP hP o1 (fun k h1 h2 => ?_)) (x_growS (Nat.le_succ n) hS (by omega) (fun q hq => o1 q (by omega))) hl
  rw [show k = n by omega, hf]
  show H1[b + n]? = some (vp_cell _ _)
  rw [ha]
  exact e1
theorem x_anewB {E : String} {index t0 N' : Nat} {i : Int32} (C : x_C p s m args c cc nL own Ts (x_kn D cA b n)) (hsz : s.heap.size + cells = b + n) (hb0 : b ≤ s.heap.size) (hcl : Cond.classLink own index E ∈ Ts) (hover : va_AO E s) (ht : (x_tys cA)[t0]? = some (cA t0, .object E)) (hn : ¬ i < 0) (hN : i.toNatClampNeg = N') (hbytes : N' * 4 ≤ 536870912) (hf : f (n, 0) = .inl (cA t0, N', .inr (.inr (.inr (.inr (fun _ => none)))))) (hcells : cells + 1 ≤ R.cells) (hslots : slots + N' ≤ R.slots) (hd : decode cc pc = .ok (.anewarray index, 3))
    (kk : x_V p l e R s m args below meth c (x_kn D cA b (n + 1)) nL (cells + 1) (slots + N') Q f (pc + 3) lv (.ref (b + n) :: st)) : x_V p l e R s m args below meth c (x_kn D cA b n) nL cells slots Q f pc lv (.int i :: st) := by
  subst hN
  intro H locs ls hP hS hl T0 hT X
  have hz : H.size = b + n := x_sz hP hS.1 (by rw [← hT]; exact X.heapSize) hsz hb0
  refine (W.anew C.1.1 C.1.2.1 C.1.2.2.2.1 (C.1.2.2.2.2 _ hcl) (va_AO.use hover) (g := F0 m pc ls (.int i :: st)) rfl hd rfl hn hbytes hcells hslots (fun k kA comp f1 f2 f3 f4 => ?_)) T0 hT X
  obtain ⟨kA', comp', g1, g2, g3, g4⟩ := (C.2.1.2 t0 _ ht).2
  have hk : k = cA t0 := Option.some.inj (f1.symm.trans g4)
  subst hk
  have o1 : ∀ q : Nat, q < H.size → (H.push ({ cls := cA t0, slots := Array.replicate i.toNatClampNeg .null, vm := .none } : Cell))[q]? = H[q]? := fun q hq => by rw [Array.getElem?_push, if_neg (Nat.ne_of_lt hq)]
  have hk9 := kk (H.push ({ cls := cA t0, slots := Array.replicate i.toNatClampNeg .null, vm := .none } : Cell)) locs ls (x_growP hP (fun q hq => o1 q (by omega)) (fun k h1 h2 => by
    rw [show k = n by omega, hf]
    show (H.push _)[b + n]? = some (vp_cell _ _)
    rw [vp_cell_q, ← hz, Array.getElem?_push_size]
    show some _ = some (arrV (cA t0) i.toNatClampNeg (fun _ => .null))
    rw [← arrV_new])) (x_growS (Nat.le_succ n) hS (by rw [Array.size_push]; omega) o1) hl
  rw [← hz] at hk9
  exact hk9
theorem x_aast {κ : x_K} {i v : x_I} {k9 : ClassId} {r : vw_C} {n9 ci : Nat} {vs : List Value} {g : Nat → Option Nat} {j : Int32} (t0 : Nat) (C : x_C p s m args c cc nL own Ts κ) (hi : i ∈ x_ids κ) (hv : v ∈ x_ids κ) (hf : f i = .inl (k9, n9, .inr (.inr (.inr (.inr g))))) (hfv : f v = .inr (ci, vs)) (hc : (x_cl κ)[ci]? = some r) (ht : (x_ty κ)[t0]? = some (k9, .object r.1)) (hin : vp_in j n9) (hd : decode cc pc = .ok (.aastore, 1)) (hF : x_up f i (.inl (k9, n9, .inr (.inr (.inr (.inr (va_up g j.toNatClampNeg (some (x_ad κ v)))))))) = f')
    (kk : x_V p l e R s m args below meth c κ nL cells slots Q f' (pc + 1) lv st) : x_V p l e R s m args below meth c κ nL cells slots Q f pc lv (.ref (x_ad κ v) :: .int j :: .ref (x_ad κ i) :: st) := fun H locs ls hP hS hl => by
  obtain ⟨q, hq⟩ := x_at (f := f) hi
  obtain ⟨q2, hq2⟩ := x_at (f := f) hv
  refine va_astq (A := x_A κ s.heap.size) C.1.1 C.1.2.1 C.2.1 hP (x_D C.2.2.1 f _) hS q t0 q2 ci (hq.trans (by rw [hf])) ht (hq2.trans (by rw [hfv])) hc hin hd (fun H1 locs1 hP1 _ hS1 => ?_)
  rw [x_set C.2.2.1 hi hq, hF] at hP1
  exact kk H1 locs1 ls hP1 hS1 hl
theorem x_putF {κ : x_K} {i : x_I} {ci N index : Nat} {Cn : String} {T : u_T} {ty : Nat → FieldType} {fs : List Value} {v : Value} (k : Nat) (C : x_C p s m args c cc nL own Ts κ) (hnm9 : meth.name = "<init>") (hi : i ∈ x_ids κ) (hf : f i = .inr (ci, fs)) (hc : (x_cl κ)[ci]? = some (Cn, T, N)) (hin : ∀ w ∈ u_ws Cn T N, w ∈ Ts) (hty : ∀ k, k < N → parseFieldDescriptor (T k).2.2.1 = some (ty k)) (hnm : ∀ a, a < N → ∀ b, b < N → a ≠ b → (T a).2.1 ≠ (T b).2.1) (hk : k < N) (hlink : Cond.fieldLink own index (T k).1 (T k).2.1 (T k).2.2.1 ∈ Ts) (hfin : (T k).2.2.2 = true) (hdecl : (T k).1 = own) (hn : narrow (ty k) v = v) (hfit : fits (ty k) v = true) (hl : k < fs.length) (hd : decode cc pc = .ok (.putfield index, 3)) (hF : x_up f i (.inr (ci, fs.set k v)) = f')
    (kk : x_V p l e R s m args below meth c κ nL cells slots Q f' (pc + 3) lv st) : x_V p l e R s m args below meth c κ nL cells slots Q f pc lv (v :: .ref (x_ad κ i) :: st) := fun H locs ls hP hS hl9 => by
  obtain ⟨q, hq⟩ := x_at (f := f) hi
  have hq' : (x_wd κ f)[q]? = some (x_ad κ i, .inr (ci, fs)) := hq.trans (by rw [hf])
  refine va_putF (A := x_A κ s.heap.size) C.1.1 C.1.2.1 C.1.2.2.2.2 hin ty hty hnm C.1.2.2.2.1 C.2.1 hP (x_D C.2.2.1 f _) hS q hq' hc k hk (C.1.2.2.2.2 _ hlink) (fun _ h => h) hfin hnm9 hdecl (hty k hk) hn hfit hl hd (fun H1 locs1 hP1 _ hS1 => ?_)
  rw [x_set C.2.2.1 hi hq, hF] at hP1
  exact kk H1 locs1 ls hP1 hS1 hl9
/-- behind a constructor -/
theorem x_callN {mc ms : Nat} {rest st0 : List Value} {args' : Array Value} (hsz : s.heap.size + cells = b + n) (hb0 : b ≤ s.heap.size) (hnn : n ≤ n')
    (hr : ∀ (H : Heap) (locs : List Loc) (ls : Array Slot), H.size = b + n → va_P D x_classes (x_wd (x_kn D cA b n) f) H → lv_has ls nL lv → va_Run p l e R s m args below meth c H locs cells slots mc ms (F0 m pc ls st0) rest (x_RN D cA b n n' f' args') (x_A (x_kn D cA b n) (b + n)))
    (kk : x_V p l e R s m args below meth c (x_kn D cA b n') nL (cells + mc) (slots + ms) Q f' (pc + 3) lv rest) : x_V p l e R s m args below meth c (x_kn D cA b n) nL cells slots Q f pc lv st0 := by
  intro H locs ls hP hS hl T hT Y
  have hz9 : H.size = b + n := x_sz hP hS.1 (by rw [← hT]; exact Y.heapSize) hsz hb0
  obtain ⟨v, st₀, t, T', L, h0, Y', hL, e1, e2, ⟨hv, hP', hz, hk⟩, go⟩ := hr H locs ls hz9 hP hl T hT Y
  cases hv
  rw [h0] at hz hk
  have hin : ∀ z, z < s.heap.size → x_A (x_kn D cA b n) (b + n) z → x_A (x_kn D cA b n) s.heap.size z := fun z hz1 h => by
    rcases h with h | h
    · exact Or.inl h
    · omega
  have hS' : va_S (x_A (x_kn D cA b n') s.heap.size) s.heap T'.heap (locs ++ L) := by
    refine ⟨Nat.le_trans hS.1 (by rw [e1]; exact hz), fun z h1 h2 => ?_, fun z hz1 => ?_⟩
    · rw [e1, hk z (Nat.lt_of_lt_of_le h1 hS.1) (fun h => h2 (x_AnI (hin z h1 h) hnn))]
      exact hS.2.1 z h1 (fun h => h2 (x_AnI h hnn))
    · rcases List.mem_append.mp hz1 with h | h
      · exact x_AnI (hS.2.2 z h) hnn
      · rcases hL z h with h9 | h9
        · exact x_AnI (Or.inl h9) hnn
        · exact Or.inr (by omega)
  obtain ⟨t2, a1, b1⟩ := kk T'.heap (locs ++ L) ls (by rw [e1]; exact hP') hS' hl T' rfl Y'
  exact ⟨t2, go t2 a1, b1⟩
def x_calI (y : MethodName) (bytes : ByteArray) (maxL n : Nat) : Prop :=
  (Cond.instanceMethod y ∈ x_Wd ∧ Cond.initialized y.cls ∈ x_Wd ∧ Cond.code y bytes maxL none ∈ x_Wd) ∧ y.name = "<init>" ∧ (y.cls ≠ "java/lang/invoke/MethodHandle" ∧ y.cls ≠ "java/lang/invoke/VarHandle" ∧ (parseMethodDescriptor y.desc).map (fun d => d.parameters.length) = some n)
theorem x_ci {y : MethodName} {bytes : ByteArray} {maxL np index mc ms o : Nat} {rm : Room} {As rest st0 : List Value} (C : x_C p s m args c cc nL own (w0 :: x_Wd) (x_kn D cA b n)) (hB : x_B s) (hsz : s.heap.size + cells = b + n) (hb0 : b ≤ s.heap.size) (k : x_calI y bytes maxL np) (hl : Cond.methodLink own index y ∈ x_Wd) (hM : x_MN l y (Cond.code y bytes maxL none :: x_Wd) rm D cA b n n' f f' (.ref (b + o) :: As) mc ms) (hnn : n ≤ n') (hrc : rm.cells = mc) (hrs : rm.slots = ms) (hfr : rm.frames + 1 ≤ R.frames) (hlo : 8 + (maxL + 11) + rm.locals ≤ R.locals)
    (hn : As.length = np) (hst : st0 = As.reverse ++ .ref (b + o) :: rest) (hW : (rest.map fun v => v.category).sum ≤ 8) (hd : decode cc pc = .ok (.invokespecial index, 3)) (hroom : cells + mc ≤ R.cells ∧ slots + ms ≤ R.slots)
    (kk : x_V p l e R s m args below meth c (x_kn D cA b n') nL (cells + mc) (slots + ms) Q f' (pc + 3) lv rest) : x_V p l e R s m args below meth c (x_kn D cA b n) nL cells slots Q f pc lv st0 := by
  refine x_callN (args' := (Value.ref (b + o) :: As).toArray) (rest := rest) hsz hb0 hnn (fun H locs ls hz hP hl9 => ?_) kk
  have cw : CallB R s args own index y bytes maxL none (Cond.code y bytes maxL none :: x_Wd) rm mc ms np := callB_of np C.1.2.2.2.2 (x_good (fun w hw => by
    rcases List.mem_cons.mp hw with rfl | h
    · exact k.1.2.2
    · exact h)) rfl hrc hrs (C.1.2.2.2.2 _ (List.mem_cons_of_mem _ k.1.2.1)) (C.1.2.2.2.2 _ (List.mem_cons_of_mem _ hl)) k.2.2 ⟨hfr, hlo⟩
  exact va_runI (As := As) (rest := rest) C.1 hM ⟨cw, k.2.1, C.1.2.2.2.2 _ (List.mem_cons_of_mem _ k.1.1)⟩ ⟨x_blindN, fun U hU hW9 => ⟨rfl, by rw [hU]; exact hz, by rw [hU]; exact hP, va_K.moved hW9.alike C.2.1, x_B.warm hW9 hB⟩⟩ rfl hn hl9.1 hst (lv_room hW) hd hroom
theorem x_ciN {y : MethodName} {bytes : ByteArray} {maxL np index mc ms o : Nat} {host : String} {rm : Room} {As rest st0 : List Value} (C : x_C p s m args c cc nL own (w0 :: x_Wd) (x_kn D cA b n)) (hB : x_B s) (hsz : s.heap.size + cells = b + n) (hb0 : b ≤ s.heap.size) (k : x_calI y bytes maxL np) (hl : va_Nw (.methodLinkNest own index y host) s) (hM : x_MN l y (Cond.code y bytes maxL none :: x_Wd) rm D cA b n n' f f' (.ref (b + o) :: As) mc ms) (hnn : n ≤ n') (hrc : rm.cells = mc) (hrs : rm.slots = ms) (hfr : rm.frames + 1 ≤ R.frames) (hlo : 8 + (maxL + 11) + rm.locals ≤ R.locals)
    (hn : As.length = np) (hst : st0 = As.reverse ++ .ref (b + o) :: rest) (hW : (rest.map fun v => v.category).sum ≤ 8) (hd : decode cc pc = .ok (.invokespecial index, 3)) (hroom : cells + mc ≤ R.cells ∧ slots + ms ≤ R.slots)
    (kk : x_V p l e R s m args below meth c (x_kn D cA b n') nL (cells + mc) (slots + ms) Q f' (pc + 3) lv rest) : x_V p l e R s m args below meth c (x_kn D cA b n) nL cells slots Q f pc lv st0 := by
  refine x_callN (args' := (Value.ref (b + o) :: As).toArray) (rest := rest) hsz hb0 hnn (fun H locs ls hz hP hl9 => ?_) kk
  have cw : va_CN R s args own index y host bytes maxL none (Cond.code y bytes maxL none :: x_Wd) rm mc ms np := va_cnB np C.1.2.2.2.2 (x_good (fun w hw => by
    rcases List.mem_cons.mp hw with rfl | h
    · exact k.1.2.2
    · exact h)) rfl hrc hrs hl (C.1.2.2.2.2 _ (List.mem_cons_of_mem _ k.1.2.1)) k.2.2 ⟨hfr, hlo⟩
  exact va_runIN (As := As) (rest := rest) C.1 hM ⟨cw, k.2.1, C.1.2.2.2.2 _ (List.mem_cons_of_mem _ k.1.1)⟩ ⟨x_blindN, fun U hU hW9 => ⟨rfl, by rw [hU]; exact hz, by rw [hU]; exact hP, va_K.moved hW9.alike C.2.1, x_B.warm hW9 hB⟩⟩ rfl hn hl9.1 hst (lv_room hW) hd hroom
end Born
