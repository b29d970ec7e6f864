/-! THE LAW'S HELPERS: methods with a table of their own, that return -/
def x_J (U : State) : Prop := va_Nc "java/lang/IllegalStateException" "java/lang/IllegalArgumentException" U ∧ va_Nc "java/util/NoSuchElementException" "java/lang/IllegalArgumentException" U ∧ va_Nc "java/lang/UnsupportedOperationException" "java/lang/IllegalArgumentException" U
theorem x_J.moved {u U : State} (hvm : u.vm.Alike U.vm) (h : x_J u) : x_J U := ⟨h.1.moved hvm, h.2.1.moved hvm, h.2.2.moved hvm⟩
def x_MG {σ : Type} (l : Launch) (y : MethodName) (w : List Cond) (rm : Room) (κ : x_K) (F : σ → x_I → va_E) (vs : List Value) (a : σ) (X : Option Value × σ) (mc ms : Nat) : Prop :=
  ∀ sz : Nat, Met l y w rm (va_Pc vs (fun U => U.heap.size = sz ∧ va_P κ.1 (x_cl κ) (x_wd κ (F a)) U.heap ∧ va_K κ.1 (x_cl κ) (x_ty κ) U ∧ x_N U ∧ x_G U ∧ x_J U)) (x_Q κ F X sz) mc ms (x_A κ sz)
theorem x_tab {L : List ExceptionTableEntry} {hh : List (Nat × Nat × Nat × Nat)} (h : L.map (fun h => (h.startPc, h.endPc, h.handlerPc, h.catchType)) = hh) : L = hh.map (fun q => ⟨q.1, q.2.1, q.2.2.1, q.2.2.2⟩) := by
  rw [← h, List.map_map]
  exact (List.map_id' L).symm
theorem x_startH {l : Launch} {cc : ByteArray} {κ : x_K} {σ τ : Type} {y : MethodName} {w w' : List Cond} {rm : Room} {F : σ → x_I → va_E} {vs : List Value} {a : σ} {wr : τ → Option Value × σ} {q : τ} {mc ms maxL : Nat} {ret : Option FieldType} {hh : List (Nat × Nat × Nat × Nat)} (ok : x_ok κ) (hy : plainName y.cls = true) (hw : w = Cond.codeWith y cc maxL ret hh :: w') (hlen : (lg_sl vs).length ≤ maxL) {lv0 : List (Nat × Value)} (hlv : lv_args 0 vs = lv0)
    (body : ∀ (p : Program) (e : Env) (s : State) (m : MethodId) (below : List Frame) (meth : Method) (c : Code), x_C p s m vs.toArray c cc maxL y.cls w κ → c.exceptionTable.toList = hh.map (fun q => ⟨q.1, q.2.1, q.2.2.1, q.2.2.2⟩) → x_G s → x_J s → va_P κ.1 (x_cl κ) (x_wd κ (F a)) s.heap → meth.sig.returnType = ret → meth.locks = false → x_V p l e rm s m vs.toArray below meth c κ maxL 0 0 (x_E below κ vs.toArray s mc ms F wr q) (F a) 0 lv0 []) : x_MG l y w rm κ F vs a (wr q) mc ms := by
  intro sz
  refine MetFree.of_bodyS (code := cc) (maxLocals := maxL) (ret := ret) hy ?_ ?_
  · intro args s m h hn
    obtain ⟨m9, meth, c, hn9, h1, h2, h3, h4, -, h5, h6, -⟩ := Cond.codeWith_spec (atoms_spec (ws := w) h _ (by rw [hw]; exact List.mem_cons_self))
    cases Option.some.inj (hn9.symm.trans hn)
    exact ⟨meth, c, h1, h2, h3, h4, h5, h6⟩
  · intro p e s m args below meth c s₁ B hml hv _
    obtain ⟨rfl, hsz, hP, hK, hN, hG, hJ⟩ := hv
    subst hsz
    have hh0 : s₁.heap = s.heap := by rw [B.state]; rfl
    have ht : c.exceptionTable.toList = hh.map (fun q => ⟨q.1, q.2.1, q.2.2.1, q.2.2.2⟩) := by
      obtain ⟨m9, meth9, c9, hn9, h1, h2, -, -, h6, -⟩ := Cond.codeWith_spec (atoms_spec (ws := w) B.pre _ (by rw [hw]; exact List.mem_cons_self))
      cases Option.some.inj (hn9.symm.trans B.named)
      cases Option.some.inj (h1.symm.trans B.method)
      cases Option.some.inj (h2.symm.trans (Stand.of_body B).code)
      exact x_tab h6
    have hown : s.vm.findClass y.cls = some m.cls := findClass_of_methodNamed B.named
    have hl := lv_entry vs (n := maxL) hlen
    rw [hlv] at hl
    have K := body p e s m below meth c ⟨⟨B.exec, B.bytes, hml, hown, atoms_spec (ws := w) B.pre⟩, hK, ok, hN⟩ ht hG hJ hP B.returns B.notSynchronized s.heap [] _ hP va_S.rf hl s₁ hh0 (Stand.of_body B)
    rw [← lg_entry_eq] at K
    obtain ⟨t, a1, o, b1, b2, b3⟩ := K
    exact ⟨t, o, a1, b1, b2, b3⟩
section Srch
variable {s : State} {args : Array Value} {d thrown : ClassId} {own E nm : String} {idx : Nat}
theorem x_yes (hown : s.vm.findClass own = some d) (hlink : (Cond.classLink own idx nm).before args s = true) (hcast : (Cond.castable E nm).before args s = true) (pl : Platform) (hpl : pl.magicAccessors = ({} : Platform).magicAccessors) (hth : s.vm.findClass E = some thrown) : ∃ c, s.vm.ClassLinks pl d idx c ∧ s.vm.assignable thrown c = true := by
  obtain ⟨c3, c4, hc3, hc4, hasg⟩ := Cond.castable_spec hcast
  cases Option.some.inj (hc3.symm.trans hth)
  obtain ⟨c5, hc5, hcl5⟩ := Cond.classLink_spec hown hlink pl hpl
  cases Option.some.inj (hc4.symm.trans hc5)
  exact ⟨c4, hcl5, hasg⟩
theorem x_not (hown : s.vm.findClass own = some d) (hlink : (Cond.classLink own idx nm).before args s = true) (hn : va_Nc E nm s) (pl : Platform) (hpl : pl.magicAccessors = ({} : Platform).magicAccessors) (hth : s.vm.findClass E = some thrown) : ∃ c, s.vm.ClassLinks pl d idx c ∧ s.vm.assignable thrown c = false := by
  obtain ⟨a8, b8, h1, h2, h3⟩ := hn
  cases Option.some.inj (h1.symm.trans hth)
  obtain ⟨c6, hc6, hcl6⟩ := Cond.classLink_spec hown hlink pl hpl
  cases Option.some.inj (h2.symm.trans hc6)
  exact ⟨b8, hcl6, h3⟩
theorem x_s1 {pl : Platform} {pc : Nat} {x : ExceptionTableEntry} {t : List ExceptionTableEntry} (hx : covers x pc = true) (h0 : x.catchType ≠ 0) (h : ∃ c, s.vm.ClassLinks pl d x.catchType c ∧ s.vm.assignable thrown c = true) : x_srch pl s d thrown pc (x :: t) x.handlerPc := by
  obtain ⟨c, h1, h2⟩ := h
  exact Or.inr ⟨hx, h0, c, h1, Or.inl ⟨h2, rfl⟩⟩
theorem x_s2 {pl : Platform} {pc h : Nat} {x : ExceptionTableEntry} {t : List ExceptionTableEntry} (hx : covers x pc = true) (h0 : x.catchType ≠ 0) (hn : ∃ c, s.vm.ClassLinks pl d x.catchType c ∧ s.vm.assignable thrown c = false) (ht : x_srch pl s d thrown pc t h) : x_srch pl s d thrown pc (x :: t) h := by
  obtain ⟨c, h1, h2⟩ := hn
  exact Or.inr ⟨hx, h0, c, h1, Or.inr ⟨h2, ht⟩⟩
end Srch
