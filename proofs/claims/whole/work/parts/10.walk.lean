/-! THE WALK OVER ONE WORLD OF NUMBERED CELLS. A cell's number is a pair (kind, place); the world's contents are a function of the numbers. -/
abbrev x_I : Type := Nat × Nat
/-- tables' numbers, classes, array classes, the cells' numbers, their addresses -/
abbrev x_K : Type := va_G × List vw_C × List (ClassId × FieldType) × List x_I × (x_I → Nat)
abbrev x_cl (κ : x_K) : List vw_C := κ.2.1
abbrev x_ty (κ : x_K) : List (ClassId × FieldType) := κ.2.2.1
abbrev x_ids (κ : x_K) : List x_I := κ.2.2.2.1
abbrev x_ad (κ : x_K) : x_I → Nat := κ.2.2.2.2
def x_wd (κ : x_K) (f : x_I → va_E) : va_W := (x_ids κ).map (fun i => (x_ad κ i, f i))
def x_up (f : x_I → va_E) (i : x_I) (e : va_E) : x_I → va_E := fun j => if j = i then e else f j
def x_ok (κ : x_K) : Prop := (x_ids κ).Nodup ∧ ∀ i ∈ x_ids κ, ∀ j ∈ x_ids κ, x_ad κ i = x_ad κ j → i = j
def x_A (κ : x_K) (sz : Nat) : Nat → Prop := fun q => (∃ i ∈ x_ids κ, x_ad κ i = q) ∨ sz ≤ q
theorem x_nth {κ : x_K} {f : x_I → va_E} {k : Nat} {q : Nat × va_E} (h : (x_wd κ f)[k]? = some q) : ∃ i, (x_ids κ)[k]? = some i ∧ i ∈ x_ids κ ∧ q = (x_ad κ i, f i) := by
  unfold x_wd at h
  rw [List.getElem?_map] at h
  cases hi : (x_ids κ)[k]? with
  | none => rw [hi] at h; cases h
  | some i => rw [hi] at h; exact ⟨i, rfl, List.mem_of_getElem? hi, (Option.some.inj h).symm⟩
theorem x_at {κ : x_K} {f : x_I → va_E} {i : x_I} (h : i ∈ x_ids κ) : ∃ k : Nat, (x_wd κ f)[k]? = some (x_ad κ i, f i) := by
  obtain ⟨k, hk⟩ := List.getElem?_of_mem h
  exact ⟨k, by unfold x_wd; rw [List.getElem?_map, hk]; rfl⟩
theorem x_D {κ : x_K} (h : x_ok κ) (f : x_I → va_E) (sz : Nat) : va_D (x_A κ sz) (x_wd κ f) := by
  refine ⟨fun i j p q hi hj hpq => ?_, fun k q hk => ?_⟩
  · obtain ⟨a, a1, a2, rfl⟩ := x_nth hi
    obtain ⟨b, b1, b2, rfl⟩ := x_nth hj
    have hab : a = b := h.2 a a2 b b2 hpq
    subst hab
    have hi' := (List.getElem?_eq_some_iff.mp a1).1
    exact (List.getElem?_inj hi' h.1).mp (a1.trans b1.symm)
  · obtain ⟨a, a1, a2, rfl⟩ := x_nth hk
    exact Or.inl ⟨a, a2, rfl⟩
theorem x_set {κ : x_K} (h : x_ok κ) {f : x_I → va_E} {i : x_I} {k : Nat} (hm : i ∈ x_ids κ) (hk : (x_wd κ f)[k]? = some (x_ad κ i, f i)) (e : va_E) : (x_wd κ f).set k (x_ad κ i, e) = x_wd κ (x_up f i e) := by
  obtain ⟨a, a1, a2, he⟩ := x_nth hk
  have hai : a = i := h.2 a a2 i hm (congrArg Prod.fst he).symm
  subst hai
  have hlt := (List.getElem?_eq_some_iff.mp hk).1
  refine List.ext_getElem? fun j => ?_
  by_cases hj : j = k
  · subst hj
    rw [List.getElem?_set_self hlt]
    unfold x_wd
    rw [List.getElem?_map, a1]
    simp [x_up]
  · rw [List.getElem?_set_ne (Ne.symm hj)]
    unfold x_wd
    rw [List.getElem?_map, List.getElem?_map]
    cases hb : (x_ids κ)[j]? with
    | none => rfl
    | some b =>
      have hne : b ≠ a := fun e1 => by
        subst e1
        exact hj ((List.getElem?_inj (List.getElem?_eq_some_iff.mp hb).1 h.1).mp (hb.trans a1.symm))
      simp [x_up, hne]
/-- what the tables say of the one private method that a nest mate calls -/
def x_N (U : State) : Prop := va_Nw (.methodLinkNest "CheckedMachine$Runner" 35 ⟨"CheckedMachine", "isInMap", "(II)Z"⟩ "CheckedMachine") U
theorem x_N.warm {s U : State} (hW : s.WarmedH U.vm) (h : x_N s) : x_N U := va_Nw.warmM hW h
section Walk
variable {p : Program} {l : Launch} {e : Env} {R : Room} {s : State} {m : MethodId} {args : Array Value} {below : List Frame} {meth : Method} {c : Code} {cells slots : Nat} {Q : State → Prop}
variable {cc : ByteArray} {nL : Nat} {own : String} {Ts : List Cond} {κ : x_K} {f : x_I → va_E} {pc : Nat} {lv lv' : List (Nat × Value)} {st : List Value}
/-- what a method's walk stands on -/
def x_C (p : Program) (s : State) (m : MethodId) (args : Array Value) (c : Code) (cc : ByteArray) (nL : Nat) (own : String) (Ts : List Cond) (κ : x_K) : Prop :=
  CallFix p m c cc nL s args Ts own ∧ va_K κ.1 (x_cl κ) (x_ty κ) s ∧ x_ok κ ∧ x_N s
/-- the machine at pc, with these locals and this stack, in any heap that holds the world f -/
def x_V (p : Program) (l : Launch) (e : Env) (R : Room) (s : State) (m : MethodId) (args : Array Value) (below : List Frame) (meth : Method) (c : Code) (κ : x_K) (nL cells slots : Nat) (Q : State → Prop) (f : x_I → va_E) (pc : Nat) (lv : List (Nat × Value)) (st : List Value) : Prop :=
  ∀ (H : Heap) (locs : List Loc) (ls : Array Slot), va_P κ.1 (x_cl κ) (x_wd κ f) H → va_S (x_A κ s.heap.size) s.heap H locs → lv_has ls nL lv → W p l e R s m args below meth c H locs cells slots Q (F0 m pc ls st)
/-- the end of a method: its answer and the world behind it -/
def x_Q {σ : Type} (κ : x_K) (F : σ → x_I → va_E) (X : Option Value × σ) (sz : Nat) : Array Value → State → Outcome → State → Prop := fun _ st o t =>
  o = .returned X.1 ∧ va_P κ.1 (x_cl κ) (x_wd κ (F X.2)) t.heap ∧ va_F (x_A κ sz) st t
/-- A CONTRACT: called with the values vs in the world F a, the method ends with X; mc cells of ms slots may be new -/
def x_M {σ : Type} (l : Launch) (y : MethodName) (w : List Cond) (rm : Room) (κ : x_K) (F : σ → x_I → va_E) (vs : List Value) (a : σ) (X : Option Value × σ) (mc ms : Nat) : Prop :=
  ∀ sz : Nat, Met l y w rm (va_Pc vs (fun U => U.heap.size = sz ∧ va_P κ.1 (x_cl κ) (x_wd κ (F a)) U.heap ∧ va_K κ.1 (x_cl κ) (x_ty κ) U ∧ x_N U)) (x_Q κ F X sz) mc ms (x_A κ sz)
/-- what a walk owes at its end: X is 'wr q' -/
def x_E {σ τ : Type} (below : List Frame) (κ : x_K) (args : Array Value) (s : State) (mc ms : Nat) (F : σ → x_I → va_E) (wr : τ → Option Value × σ) (q : τ) : State → Prop :=
  MQ below (x_Q κ F (wr q) s.heap.size) args s mc ms (x_A κ s.heap.size)
theorem x_start {σ τ : Type} {y : MethodName} {w w' : List Cond} {rm : Room} {F : σ → x_I → va_E} {vs : List Value} {a : σ} {wr : τ → Option Value × σ} {q : τ} {mc ms maxL : Nat} {ret : Option FieldType} (ok : x_ok κ) (hy : plainName y.cls = true) (hw : w = Cond.code y cc maxL ret :: w') (hlen : (lg_sl vs).length ≤ maxL) {lv0 : List (Nat × Value)} (hlv : lv_args 0 vs = lv0)
    (body : ∀ (p : Program) (e : Env) (s : State) (m : MethodId) (below : List Frame) (meth : Method) (c : Code), x_C p s m vs.toArray c cc maxL y.cls w κ → meth.sig.returnType = ret → meth.locks = false → x_V p l e rm s m vs.toArray below meth c κ maxL 0 0 (x_E below κ vs.toArray s mc ms F wr q) (F a) 0 lv0 []) : x_M l y w rm κ F vs a (wr q) mc ms := by
  intro sz
  refine Met.ofW (cc := cc) (maxL := maxL) (ret := ret) hy hw ?_
  intro p e s m args below meth c s₁ B hml hv
  obtain ⟨rfl, hsz, hP, hK, hN⟩ := hv
  subst hsz
  have hown : s.vm.findClass y.cls = some m.cls := findClass_of_methodNamed B.named
  have hl := lv_entry vs (n := maxL) hlen
  rw [hlv] at hl
  rw [lg_entry_eq]
  exact body p e s m below meth c ⟨⟨B.exec, B.bytes, hml, hown, atoms_spec (ws := w) B.pre⟩, hK, ok, hN⟩ B.returns B.notSynchronized s.heap [] _ hP va_S.rf hl
/-- behind a call -/
theorem x_call {σ : Type} {F : σ → x_I → va_E} {a : σ} {X : Option Value × σ} {mc ms : Nat} {rest st0 : List Value} {args' : Array Value}
    (hr : ∀ (H : Heap) (locs : List Loc) (ls : Array Slot), va_P κ.1 (x_cl κ) (x_wd κ (F a)) H → lv_has ls nL lv → va_Run p l e R s m args below meth c H locs cells slots mc ms (F0 m pc ls st0) rest (x_Q κ F X H.size args') (x_A κ H.size))
    (kk : x_V p l e R s m args below meth c κ nL (cells + mc) (slots + ms) Q (F X.2) (pc + 3) lv (X.1.toList ++ rest)) : x_V p l e R s m args below meth c κ nL cells slots Q (F a) pc lv st0 := by
  intro H locs ls hP hS hl T hT Y
  obtain ⟨v, st₀, t, T', L, h0, Y', hL, e1, e2, ⟨hv, hP', hz, hk⟩, go⟩ := hr H locs ls hP hl T hT Y
  cases hv
  rw [h0] at hz hk
  have hin : ∀ z, z < s.heap.size → x_A κ H.size z → x_A κ s.heap.size z := fun z hz1 h => by
    rcases h with h | h
    · exact Or.inl h
    · have := hS.1
      omega
  have hS' : va_S (x_A κ s.heap.size) s.heap T'.heap (locs ++ L) := by
    refine ⟨Nat.le_trans hS.1 (by rw [e1]; exact hz), fun z h1 h2 => ?_, fun z hz1 => ?_⟩
    · rw [e1, hk z (Nat.lt_of_lt_of_le h1 hS.1) (fun h => h2 (hin z h1 h))]
      exact hS.2.1 z h1 h2
    · rcases List.mem_append.mp hz1 with h | h
      · exact hS.2.2 z h
      · rcases hL z h with h9 | h9
        · exact Or.inl h9
        · exact Or.inr (Nat.le_trans hS.1 h9)
  obtain ⟨t2, a1, b1⟩ := kk T'.heap (locs ++ L) ls (by rw [e1]; exact hP') hS' hl T' rfl Y'
  exact ⟨t2, go t2 a1, b1⟩
theorem x_blind {σ : Type} {F : σ → x_I → va_E} {vs : List Value} {a : σ} {sz : Nat} : FrameBlind (va_Pc vs (fun U => U.heap.size = sz ∧ va_P κ.1 (x_cl κ) (x_wd κ (F a)) U.heap ∧ va_K κ.1 (x_cl κ) (x_ty κ) U ∧ x_N U)) :=
  fun a U g mk q => by
    obtain ⟨q0, q1, q2, q3, q4⟩ := q
    exact ⟨q0, q1, q2, va_K.moved (u := U) (U := U.calling g mk a) (Vm.Alike.refl U.vm) q3, va_tabs (A := #[]) (u := U) rfl rfl q4⟩
theorem x_callV {σ : Type} {F : σ → x_I → va_E} {a : σ} {X : Option Value × σ} {mc ms maxL n index ci : Nat} {rest As : List Value} {y : MethodName} {w : List Cond} {rm : Room} {bytes : ByteArray} {ret : Option FieldType} {Cn : String} {i : x_I} {vc : vw_C} {fs : List Value}
    (C : x_C p s m args c cc nL own Ts κ) (hM : x_M l y w rm κ F (.ref (x_ad κ i) :: As) a X mc ms) (cw : CallW R s args own Cn index y bytes maxL ret w rm mc ms n)
    (hi : i ∈ x_ids κ) (hf : F a i = .inr (ci, fs)) (hc : (x_cl κ)[ci]? = some vc) (hcn : vc.1 = Cn) (hn : As.length = n) {st0 : List Value} (hst : st0 = As.reverse ++ .ref (x_ad κ i) :: rest) (hW : (rest.map fun v => v.category).sum ≤ 8) (hd : decode cc pc = .ok (.invokevirtual index, 3)) (hroom : cells + mc ≤ R.cells ∧ slots + ms ≤ R.slots)
    (kk : x_V p l e R s m args below meth c κ nL (cells + mc) (slots + ms) Q (F X.2) (pc + 3) lv (X.1.toList ++ rest)) : x_V p l e R s m args below meth c κ nL cells slots Q (F a) pc lv st0 := by
  refine x_call (X := X) (args' := (Value.ref (x_ad κ i) :: As).toArray) (rest := rest) (fun H locs ls hP hl => ?_) kk
  obtain ⟨k, hk⟩ := x_at (f := F a) hi
  have hrecv := va_recv C.2.1 hP hc (hk.trans (by rw [hf]))
  rw [hcn] at hrecv
  exact va_runV (As := As) (rest := rest) C.1 (hM H.size) cw ⟨x_blind, hrecv, fun U hU hW => ⟨rfl, by rw [hU], by rw [hU]; exact hP, va_K.moved hW.alike C.2.1, x_N.warm hW C.2.2.2⟩⟩ rfl hn hl.1 hst (lv_room hW) hd hroom
theorem x_callS {σ : Type} {F : σ → x_I → va_E} {a : σ} {X : Option Value × σ} {mc ms maxL n index : Nat} {rest As : List Value} {y : MethodName} {w : List Cond} {rm : Room} {bytes : ByteArray} {ret : Option FieldType}
    (C : x_C p s m args c cc nL own Ts κ) (hM : x_M l y w rm κ F As a X mc ms) (cw : CallB R s args own index y bytes maxL ret w rm mc ms n ∧ (Cond.static y).before args s = true)
    (hn : As.length = n) {st0 : List Value} (hst : st0 = As.reverse ++ rest) (hW : (rest.map fun v => v.category).sum ≤ 8) (hd : decode cc pc = .ok (.invokestatic index, 3)) (hroom : cells + mc ≤ R.cells ∧ slots + ms ≤ R.slots)
    (kk : x_V p l e R s m args below meth c κ nL (cells + mc) (slots + ms) Q (F X.2) (pc + 3) lv (X.1.toList ++ rest)) : x_V p l e R s m args below meth c κ nL cells slots Q (F a) pc lv st0 := by
  refine x_call (X := X) (args' := As.toArray) (rest := rest) (fun H locs ls hP hl => ?_) kk
  exact va_runS (As := As) (rest := rest) C.1 (hM H.size) cw ⟨x_blind, fun U hU hW => ⟨rfl, by rw [hU], by rw [hU]; exact hP, va_K.moved hW.alike C.2.1, x_N.warm hW C.2.2.2⟩⟩ rfl hn hl.1 hst (lv_room hW) hd hroom
theorem x_callSN {σ : Type} {F : σ → x_I → va_E} {a a' : σ} {X : Option Value × σ} {v : Value} {maxL n index : Nat} {rest As : List Value} {y : MethodName} {w : List Cond} {rm : Room} {bytes : ByteArray} {ret : Option FieldType} {host : String}
    (C : x_C p s m args c cc nL own Ts κ) (hM : x_M l y w rm κ F As a X 0 0) (hX : X = (some v, a')) (cw : va_CN R s args own index y host bytes maxL ret w rm 0 0 n ∧ (Cond.static y).before args s = true ∧ True)
    (hn : As.length = n) {st0 : List Value} (hst : st0 = As.reverse ++ rest) (hW : (rest.map fun v => v.category).sum ≤ 8) (hd : decode cc pc = .ok (.invokestatic index, 3)) (hroom : cells ≤ R.cells ∧ slots ≤ R.slots)
    (kk : x_V p l e R s m args below meth c κ nL cells slots Q (F a') (pc + 3) lv (v :: rest)) : x_V p l e R s m args below meth c κ nL cells slots Q (F a) pc lv st0 := by
  subst hX
  refine x_call (X := (some v, a')) (mc := 0) (ms := 0) (args' := As.toArray) (rest := rest) (fun H locs ls hP hl => ?_) kk
  exact va_runSN (As := As) (rest := rest) C.1 (hM H.size) cw ⟨x_blind, fun U hU hW => ⟨rfl, by rw [hU], by rw [hU]; exact hP, va_K.moved hW.alike C.2.1, x_N.warm hW C.2.2.2⟩⟩ rfl hn hl.1 hst (lv_room hW) hd hroom
-- the same where nothing is made: with an answer, and without
theorem x_callVv {σ : Type} {F : σ → x_I → va_E} {a a' : σ} {X : Option Value × σ} {v : Value} {maxL n index ci : Nat} {rest As : List Value} {y : MethodName} {w : List Cond} {rm : Room} {bytes : ByteArray} {ret : Option FieldType} {Cn : String} {i : x_I} {vc : vw_C} {fs : List Value}
    (C : x_C p s m args c cc nL own Ts κ) (hM : x_M l y w rm κ F (.ref (x_ad κ i) :: As) a X 0 0) (hX : X = (some v, a')) (cw : CallW R s args own Cn index y bytes maxL ret w rm 0 0 n)
    (hi : i ∈ x_ids κ) (hf : F a i = .inr (ci, fs)) (hc : (x_cl κ)[ci]? = some vc) (hcn : vc.1 = Cn) (hn : As.length = n) {st0 : List Value} (hst : st0 = As.reverse ++ .ref (x_ad κ i) :: rest) (hW : (rest.map fun v => v.category).sum ≤ 8) (hd : decode cc pc = .ok (.invokevirtual index, 3)) (hroom : cells ≤ R.cells ∧ slots ≤ R.slots)
    (kk : x_V p l e R s m args below meth c κ nL cells slots Q (F a') (pc + 3) lv (v :: rest)) : x_V p l e R s m args below meth c κ nL cells slots Q (F a) pc lv st0 := by
  subst hX
  exact x_callV (mc := 0) (ms := 0) C hM cw hi hf hc hcn hn hst hW hd hroom kk
theorem x_callV0 {σ : Type} {F : σ → x_I → va_E} {a a' : σ} {X : Option Value × σ} {maxL n index ci : Nat} {rest As : List Value} {y : MethodName} {w : List Cond} {rm : Room} {bytes : ByteArray} {ret : Option FieldType} {Cn : String} {i : x_I} {vc : vw_C} {fs : List Value}
    (C : x_C p s m args c cc nL own Ts κ) (hM : x_M l y w rm κ F (.ref (x_ad κ i) :: As) a X 0 0) (hX : X = (none, a')) (cw : CallW R s args own Cn index y bytes maxL ret w rm 0 0 n)
    (hi : i ∈ x_ids κ) (hf : F a i = .inr (ci, fs)) (hc : (x_cl κ)[ci]? = some vc) (hcn : vc.1 = Cn) (hn : As.length = n) {st0 : List Value} (hst : st0 = As.reverse ++ .ref (x_ad κ i) :: rest) (hW : (rest.map fun v => v.category).sum ≤ 8) (hd : decode cc pc = .ok (.invokevirtual index, 3)) (hroom : cells ≤ R.cells ∧ slots ≤ R.slots)
    (kk : x_V p l e R s m args below meth c κ nL cells slots Q (F a') (pc + 3) lv rest) : x_V p l e R s m args below meth c κ nL cells slots Q (F a) pc lv st0 := by
  subst hX
  exact x_callV (mc := 0) (ms := 0) C hM cw hi hf hc hcn hn hst hW hd hroom kk
theorem x_callSv {σ : Type} {F : σ → x_I → va_E} {a a' : σ} {X : Option Value × σ} {v : Value} {maxL n index : Nat} {rest As : List Value} {y : MethodName} {w : List Cond} {rm : Room} {bytes : ByteArray} {ret : Option FieldType}
    (C : x_C p s m args c cc nL own Ts κ) (hM : x_M l y w rm κ F As a X 0 0) (hX : X = (some v, a')) (cw : CallB R s args own index y bytes maxL ret w rm 0 0 n ∧ (Cond.static y).before args s = true)
    (hn : As.length = n) {st0 : List Value} (hst : st0 = As.reverse ++ rest) (hW : (rest.map fun v => v.category).sum ≤ 8) (hd : decode cc pc = .ok (.invokestatic index, 3)) (hroom : cells ≤ R.cells ∧ slots ≤ R.slots)
    (kk : x_V p l e R s m args below meth c κ nL cells slots Q (F a') (pc + 3) lv (v :: rest)) : x_V p l e R s m args below meth c κ nL cells slots Q (F a) pc lv st0 := by
  subst hX
  exact x_callS (mc := 0) (ms := 0) C hM cw hn hst hW hd hroom kk
theorem x_callS0 {σ : Type} {F : σ → x_I → va_E} {a a' : σ} {X : Option Value × σ} {maxL n index : Nat} {rest As : List Value} {y : MethodName} {w : List Cond} {rm : Room} {bytes : ByteArray} {ret : Option FieldType}
    (C : x_C p s m args c cc nL own Ts κ) (hM : x_M l y w rm κ F As a X 0 0) (hX : X = (none, a')) (cw : CallB R s args own index y bytes maxL ret w rm 0 0 n ∧ (Cond.static y).before args s = true)
    (hn : As.length = n) {st0 : List Value} (hst : st0 = As.reverse ++ rest) (hW : (rest.map fun v => v.category).sum ≤ 8) (hd : decode cc pc = .ok (.invokestatic index, 3)) (hroom : cells ≤ R.cells ∧ slots ≤ R.slots)
    (kk : x_V p l e R s m args below meth c κ nL cells slots Q (F a') (pc + 3) lv rest) : x_V p l e R s m args below meth c κ nL cells slots Q (F a) pc lv st0 := by
  subst hX
  exact x_callS (mc := 0) (ms := 0) C hM cw hn hst hW hd hroom kk
end Walk
