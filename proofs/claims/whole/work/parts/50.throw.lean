/-! METHODS THAT RETURN OR THROW -/
/-- a method's end: Y says whether it returns (answer, state) or throws (class, state) -/
def x_QT {σ : Type} (κ : x_K) (F : σ → x_I → va_E) (Y : (Option Value × σ) ⊕ (String × σ)) (sz mc ms : Nat) : Array Value → State → Outcome → State → Prop := fun ar st o t =>
  match Y with
  | .inl X => x_Q κ F X sz ar st o t ∧ ∃ L, FrameEnd st o t L mc ms ∧ ∀ q ∈ L, x_A κ sz q.base
  | .inr E => ∃ (q : Addr) (ce : Cell) (L : List Loc), o = .threw q ∧ t.heap[q]? = some ce ∧ ce.vm = .none ∧ st.vm.findClass E.1 = some ce.cls ∧ va_P κ.1 (x_cl κ) (x_wd κ (F E.2)) t.heap ∧ va_F (x_A κ sz) st t ∧ st.WarmedH t.vm ∧ st.sameButNew ({ t with vm := st.vm } : State) L mc ms ∧ ∀ z ∈ L, x_A κ sz z.base
/-- the contract of such a method; G: what else must hold where it's called -/
def x_MT {σ : Type} (G : State → Prop) (l : Launch) (y : MethodName) (w : List Cond) (rm : Room) (κ : x_K) (F : σ → x_I → va_E) (vs : List Value) (a : σ) (Y : (Option Value × σ) ⊕ (String × σ)) (mc ms : Nat) : Prop :=
  ∀ sz : Nat, MetFree l y (headSpec w rm) (va_Pc vs (fun U => U.heap.size = sz ∧ va_P κ.1 (x_cl κ) (x_wd κ (F a)) U.heap ∧ va_K κ.1 (x_cl κ) (x_ty κ) U ∧ x_N U ∧ G U)) (fun _ _ _ _ _ => True) (x_QT κ F Y sz mc ms)
def x_ET {σ : Type} (below : List Frame) (κ : x_K) (args : Array Value) (s : State) (mc ms : Nat) (F : σ → x_I → va_E) (Y : (Option Value × σ) ⊕ (String × σ)) : State → Prop := fun t =>
  ∃ o, t.status = .running ∧ Ended t below o ∧ x_QT κ F Y s.heap.size mc ms args s o t
section Throw
variable {p : Program} {l : Launch} {e : Env} {R : Room} {s : State} {m : MethodId} {args : Array Value} {below : List Frame} {meth : Method} {c : Code} {cells slots : Nat} {Q : State → Prop}
variable {cc : ByteArray} {nL : Nat} {own : String} {Ts : List Cond} {κ : x_K} {f : x_I → va_E} {pc : Nat} {lv : List (Nat × Value)} {st : List Value}
theorem x_mono {Q' : State → Prop} (h : ∀ t, Q t → Q' t) (k : x_V p l e R s m args below meth c κ nL cells slots Q f pc lv st) : x_V p l e R s m args below meth c κ nL cells slots Q' f pc lv st := fun H locs ls hP hS hl T hT X => by
  obtain ⟨t, a, b⟩ := k H locs ls hP hS hl T hT X
  exact ⟨t, a, h t b⟩
/-- a way that returns, in a method that may throw -/
theorem x_toT {σ τ : Type} {F : σ → x_I → va_E} {wr : τ → Option Value × σ} {q : τ} {k n mc ms : Nat} (hc : k ≤ mc) (hs : n ≤ ms) (h : x_V p l e R s m args below meth c κ nL cells slots (x_E below κ args s k n F wr q) f pc lv st) : x_V p l e R s m args below meth c κ nL cells slots (x_ET below κ args s mc ms F (.inl (wr q))) f pc lv st :=
  x_mono (fun t ht => by
    obtain ⟨o, h1, h2, h3, L, h4, h5⟩ := ht
    exact ⟨o, h1, h2, h3, L, ⟨h4.1, h4.2.1, h4.2.2.mono hc hs⟩, h5⟩) h
theorem x_startT {σ : Type} {G : State → Prop} {y : MethodName} {w w' : List Cond} {rm : Room} {F : σ → x_I → va_E} {vs : List Value} {a : σ} {Y : (Option Value × σ) ⊕ (String × σ)} {mc ms maxL : Nat} {ret : Option FieldType} (ok : x_ok κ) (hy : plainName y.cls = true) (hw : w = Cond.code y cc maxL ret :: w') (hlen : (lg_sl vs).length ≤ maxL) {lv0 : List (Nat × Value)} (hlv : lv_args 0 vs = lv0)
    (body : ∀ (p : Program) (e : Env) (s : State) (m : MethodId) (below : List Frame) (meth : Method) (c : Code), x_C p s m vs.toArray c cc maxL y.cls w κ → (∀ x ∈ c.exceptionTable.toList, False) → G s → va_P κ.1 (x_cl κ) (x_wd κ (F a)) s.heap → meth.sig.returnType = ret → meth.locks = false → x_V p l e rm s m vs.toArray below meth c κ maxL 0 0 (x_ET below κ vs.toArray s mc ms F Y) (F a) 0 lv0 []) : x_MT G l y w rm κ F vs a Y mc ms := by
  intro sz
  refine MetFree.of_bodyS (code := cc) (maxLocals := maxL) (ret := ret) hy ?_ ?_
  · intro args s m h hn
    obtain ⟨meth, c, h1, h2, h3, h4, h5, h6, -, -⟩ := Cond.code_spec hn (atoms_spec (ws := w) h _ (by rw [hw]; exact List.mem_cons_self))
    exact ⟨meth, c, h1, h2, h3, h4, h5, h6⟩
  · intro p e s m args below meth c s₁ B hml hv _
    obtain ⟨rfl, hsz, hP, hK, hN, hG⟩ := hv
    subst hsz
    have hh0 : s₁.heap = s.heap := by rw [B.state]; rfl
    have hne : ∀ x ∈ c.exceptionTable.toList, False := by
      obtain ⟨meth9, c9, h1, h2, -, -, -, -, h7, -⟩ := Cond.code_spec B.named (atoms_spec (ws := w) B.pre _ (by rw [hw]; exact List.mem_cons_self))
      cases Option.some.inj (h1.symm.trans B.method)
      cases Option.some.inj (h2.symm.trans (Stand.of_body B).code)
      intro x hx
      rw [Array.isEmpty_iff.mp h7] at hx
      cases hx
    have hown : s.vm.findClass y.cls = some m.cls := findClass_of_methodNamed B.named
    have hl := lv_entry vs (n := maxL) hlen
    rw [hlv] at hl
    have K := body p e s m below meth c ⟨⟨B.exec, B.bytes, hml, hown, atoms_spec (ws := w) B.pre⟩, hK, ok, hN⟩ hne hG hP B.returns B.notSynchronized s.heap [] _ hP va_S.rf hl s₁ hh0 (Stand.of_body B)
    rw [← lg_entry_eq] at K
    obtain ⟨t, a1, o, b1, b2, b3⟩ := K
    exact ⟨t, o, a1, b1, b2, b3⟩
/-- the invocation seen from here: as if it began in this heap -/
theorem x_rb {T : State} {locs : List Loc} (X : Stand p l e R s m args below meth c T locs cells slots) {r : Room} (h1 : r.frames ≤ R.frames) (h2 : r.locals ≤ R.locals) (h3 : cells + r.cells ≤ R.cells) (h4 : slots + r.slots ≤ R.slots) :
    Stand p l e r ((T.setVm s.vm).setFrames (.invoking m args :: below)) m args below meth c T [] 0 0 := by
  have htop : (T.setVm s.vm).topJava?.isSome := X.here.top
  have hF : ((T.setVm s.vm).setFrames (.invoking m args :: below)).frames = .invoking m args :: below := State.frames_setFrames _ (State.cur_lt_of_top htop)
  obtain ⟨g0, hg0⟩ := Option.isSome_iff_exists.mp htop
  obtain ⟨rr, hrr⟩ := State.topJava?_eq_some.mp hg0
  have e1 : e.platform.stackLimits (T.setVm s.vm).me = e.platform.stackLimits s.me := X.limits
  have e2 : (T.setVm s.vm).me.stackBytes = s.me.stackBytes := X.bytes
  have e3 : ((T.setVm s.vm).setFrames (.invoking m args :: below)).localsInUse = s.localsInUse := by
    rw [State.localsInUse_invoking hF (meth := meth) (c := c) X.method X.code, State.localsInUse_invoking X.frames X.method X.code]
  have hroom : ((T.setVm s.vm).setFrames (.invoking m args :: below)).hasRoom e.platform r = true := by
    have h := X.room
    have q1 := X.heapSize
    have q2 := X.used
    have q3 : (T.setVm s.vm).heap.size = T.heap.size := rfl
    have q4 : (T.setVm s.vm).slotsUsed = T.slotsUsed := rfl
    have q5 := X.book
    simp only [State.hasRoom, Bool.and_eq_true, decide_eq_true_eq] at h ⊢
    rw [X.frames, List.length_cons] at h
    simp only [hF, e3, List.length_cons, State.stackLimits_setFrames, State.stackBytes_setFrames, e1, e2]
    have q6 : ((T.setVm s.vm).setFrames (.invoking m args :: below)).heap.size = T.heap.size := rfl
    have q7 : ((T.setVm s.vm).setFrames (.invoking m args :: below)).slotsUsed = T.slotsUsed := rfl
    rw [q6, q7]
    refine ⟨⟨⟨⟨by omega, by omega, by omega, by omega, by omega, by omega⟩, by omega⟩, by omega⟩, q5⟩
  refine ⟨X.admits, X.cas, X.clock, hF, hroom, X.hears, X.method, X.code, X.here, X.tail, X.warmed, ?_, ?_, ?_⟩
  · rw [State.stackLimits_setFrames]; rfl
  · rw [State.stackBytes_setFrames]; rfl
  · have hz : ∀ L : List Cell, L.length ≤ T.heap.size → ((L.drop T.heap.size).map (·.slots.size)).sum = 0 := fun L hL => by rw [List.drop_eq_nil_of_le hL]; rfl
    have hlen : T.heap.toList.length ≤ T.heap.size := Nat.le_of_eq Array.length_toList
    refine ⟨?_, Nat.le_refl _, Nat.le_refl _, ?_, ?_, fun a c9 h9 => ⟨c9, h9, rfl, rfl, fun _ _ => rfl⟩⟩
    · obtain ⟨t, ht, -⟩ := State.frames_cons hrr
      show T.setVm s.vm = { ((T.setVm s.vm).setFrames (.invoking m args :: below)).setFrames (T.setVm s.vm).frames with heap := T.heap, slotsUsed := T.slotsUsed }
      rw [State.setFrames_setFrames, State.setFrames_self ht]
      rfl
    · show T.slotsUsed = T.slotsUsed + ((T.heap.toList.drop T.heap.size).map (·.slots.size)).sum
      rw [hz _ hlen]; rfl
    · show ((T.heap.toList.drop T.heap.size).map (·.slots.size)).sum ≤ 0
      rw [hz _ hlen]; exact Nat.le_refl _
end Throw
