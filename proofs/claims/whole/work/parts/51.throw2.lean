/-! a constructor of an exception, the pool's entry of its super call as a parameter -/
def x_oa (ix : Nat) (by9 : ByteArray) (own : String) (ic : Nat) (X : String) : List Cond :=
  Bundle.throwableAtoms ++ Bundle.throwableSAtoms ++ (Bundle.passSAtoms X "java/lang/RuntimeException" ix by9 ++ Bundle.chainSAtoms "java/lang/RuntimeException" ["java/lang/Exception"]) ++
  [.methodLink own ic (Bundle.initS X), .instantiable X 6, .castable X X, .selects X Bundle.tFill0 Bundle.tFill0, .selects X Bundle.tFill Bundle.tFill, .lays X Bundle.tN "cause" "Ljava/lang/Throwable;", .lays X Bundle.tN "stackTrace" Bundle.steD, .lays X Bundle.tN "suppressedExceptions" Bundle.listD, .lays X Bundle.tN "detailMessage" "Ljava/lang/String;", .isRef (.static Bundle.tN "UNASSIGNED_STACK" Bundle.steD), .isRef (.static Bundle.tN "SUPPRESSED_SENTINEL" Bundle.listD), .fieldLink Bundle.tN 198 Bundle.tN "backtrace" "Ljava/lang/Object;", .lays Bundle.tN Bundle.tN "backtrace" "Ljava/lang/Object;", .lays X Bundle.tN "backtrace" "Ljava/lang/Object;"]
def x_ix (E : String) : Nat := if E = "java/util/NoSuchElementException" then 13 else 7
def x_by (E : String) : ByteArray := if E = "java/util/NoSuchElementException" then prog_21_method_4_code else Bundle.six
set_option maxHeartbeats 4000000 in
theorem x_ctor {p : Program} {l : Launch} {e : Env} {R : Room} {s : State} {m₀ : MethodId} {args : Array Value} {below : List Frame} {meth : Method} {c : Code} {W : State} {locs : List Loc} {cells slots : Nat} (X : Stand p l e R s m₀ args below meth c W locs cells slots) (hexec : p.tables.exec = Jvm.exec) (htr : e.platform.stackTraces = false) {own cls : String} {ic ix : Nat} {by9 : ByteArray}
    (hown : s.vm.findClass own = some m₀.cls) (hcls : Bundle.fit cls = true) (hby : decode by9 0 = .ok (.aload_n 0, 1) ∧ decode by9 1 = .ok (.aload_n 1, 1) ∧ decode by9 2 = .ok (.invokespecial ix, 3) ∧ decode by9 5 = .ok (.return_, 1)) (h : ∀ a ∈ x_oa ix by9 own ic cls, a.before args s = true) (hlocs : ∀ x ∈ locs, ∀ cell, s.heap[x.base]? = some cell → cell.vm.isStatics = false)
    {a : Addr} {cX : ClassId} {kX : Class} (hfoundX : s.vm.findClass cls = some cX) (hkX : s.vm.classes[cX]? = some kX) (hcell : W.heap[a]? = some (freshCell cX kX)) (hnew : s.heap.size ≤ a) {msg : Value} (hmsg : msg.isRef = true)
    {g : JFrame} (hg : g.method = m₀) (hsize : g.locals.size = c.maxLocals) (hlocked : g.locked = none) (hentered : g.entered = []) {rest : List Value} (hstack : g.stack = msg :: .ref a :: .ref a :: rest)
    (hd6 : decode c.code g.pc = .ok (.invokespecial ic, 3)) (hd9 : decode c.code (g.pc + 3) = .ok (.athrow, 1)) (hout : ∀ x ∈ c.exceptionTable.toList, covers x (g.pc + 3) = false)
    (hRf : 5 < R.frames) (hRl : 2 * g.monitorRoom + ((Value.ref a :: rest).map fun v => v.category).sum + 81 ≤ R.locals) (hlocks : meth.locks = false) :
    ∃ U : State, Steps p.tables e below (W.setTop g) U ∧ U.status = .running ∧ Ended U below (.threw a) ∧ s.WarmedH U.vm ∧ s.sameButNew ({ U with vm := s.vm } : State) locs cells slots ∧ ∃ ce : Cell, U.heap[a]? = some ce ∧ ce.vm = .none ∧ s.vm.findClass cls = some ce.cls := by
  have howns : e.platform.frameOwnsMonitors = true := by rw [X.admits.platform]
  have hfin : e.platform.finalization = false := by rw [X.admits.platform]
  have hpl : e.platform.magicAccessors = ({} : Platform).magicAccessors := by rw [X.admits.platform]
  have a' : ∀ x, x ∈ x_oa ix by9 own ic cls → x.holds args s none s [] = true := fun x hx => h x hx
  obtain ⟨T, Z0, L, -, Y⟩ := ThrowableC.of_atoms (args := args) howns hfin hpl (fun x hx => h x (by simp [x_oa, hx]))
  obtain ⟨Z, M, LZ, LM, hnZ⟩ := Init0T.ofS_atoms (args := args) hpl L Y (fun x hx => h x (by simp [x_oa, hx]))
  obtain ⟨P2, Ps, hlen, L2, hL, hP2m, hlink2, hlink⟩ := Bundle.chainS (args := args) hpl hnZ ["java/lang/Exception"] "java/lang/RuntimeException" (by decide) (by decide) (fun x hx => h x (by simp [x_oa, hx]))
  obtain ⟨P1, L1, hP1m, hs1⟩ := PassC.ofS_atoms (args := args) (s := s) hpl (X := cls) (Y := "java/lang/RuntimeException") (Bundle.fit_spec hcls).1 (by decide) hby.1 hby.2.1 hby.2.2.1 hby.2.2.2 (fun x hx => h x (by simp [x_oa, hx]))
  have hfound : s.vm.findClass cls = some P1.m.cls := findClass_of_methodNamed hP1m
  cases Option.some.inj (hfoundX.symm.trans hfound)
  obtain ⟨c1, kX', hc1, hk, hord, -, -, hn6⟩ := Cond.instantiable_spec (a' (.instantiable cls 6) (by simp [x_oa]))
  cases Option.some.inj (hc1.symm.trans hfound)
  cases Option.some.inj (hkX.symm.trans hk)
  have hsel : ∀ (f : MethodName) (mf : MethodId), Cond.selects cls f f ∈ x_oa ix by9 own ic cls → s.methodNamed? f = some mf → s.methodFound? f.cls f.name f.desc = some mf → selectMethod e.platform s.vm P1.m.cls mf = .method mf := fun f mf hin hn hfd => by
    obtain ⟨c2, r2, m2, q1, q2, q3, q4, -⟩ := Cond.selects_spec (a' _ hin)
    cases Option.some.inj (q1.symm.trans hfound)
    cases Option.some.inj (q2.symm.trans hfd)
    cases Option.some.inj (q3.symm.trans hn)
    rw [Launch.admits_selectMethod X.admits]; exact q4
  have hsel0 : selectMethod e.platform s.vm P1.m.cls T.fill0 = .method T.fill0 := hsel Bundle.tFill0 _ (by simp [x_oa]) Y.fill0 (State.methodFound?_of_named Y.fill0 (by decide))
  have hselF : selectMethod e.platform s.vm P1.m.cls T.fill = .method T.fill := hsel Bundle.tFill _ (by simp [x_oa]) Y.fill (State.methodFound?_of_named Y.fill (by decide))
  obtain ⟨cellS0, hcS0, hiss⟩ := Y.statics
  obtain ⟨u0, hu0⟩ := Cond.staticRefV Y.unassigned L.unassignedStatic L.statics hcS0 hiss (a' (.isRef (.static Bundle.tN "UNASSIGNED_STACK" Bundle.steD)) (by simp [x_oa]))
  obtain ⟨sen, hsen⟩ := Cond.staticRefV Y.sentinel L.sentinelStatic L.statics hcS0 hiss (a' (.isRef (.static Bundle.tN "SUPPRESSED_SENTINEL" Bundle.listD)) (by simp [x_oa]))
  obtain ⟨ci, i9, fB, hk9, hg9, ha9, hsB, -, hnB, htB, hffB⟩ := Cond.ownField (t := .object "java/lang/Object") Y.found L.cls (by decide +kernel) (a' (.fieldLink Bundle.tN 198 Bundle.tN "backtrace" "Ljava/lang/Object;") (by simp [x_oa])) (a' (.lays Bundle.tN Bundle.tN "backtrace" "Ljava/lang/Object;") (by simp [x_oa])) e.platform hpl
  obtain ⟨cellS, hcS', heS, -, hkeep⟩ := X.same.2.2.2.2.2 T.aS cellS0 hcS0
  have hcellS : W.heap[T.aS]? = some cellS := hcS'
  have hout' : ∀ i, (⟨T.aS, i⟩ : Loc) ∉ locs := fun i hmem => by
    have := hlocs _ hmem cellS0 hcS0
    rw [hiss] at this; cases this
  have hknownS : cellS.vm ≠ .unknown := by
    rw [heS]; intro hu
    rw [show cellS0.vm = .unknown from hu] at hiss
    cases hiss
  have hneS : T.aS ≠ a := Nat.ne_of_lt (Nat.lt_of_lt_of_le (Array.getElem?_eq_some_iff.mp hcS0).1 hnew)
  obtain ⟨iM, hffM⟩ := Y.msg
  obtain ⟨tyC, dC, hdC, hdnC⟩ := Cond.laysAt hfound hk Y.cause (a' (.lays cls Bundle.tN "cause" "Ljava/lang/Throwable;") (by simp [x_oa]))
  obtain ⟨tyS, dS, hdS, hdnS⟩ := Cond.laysAt hfound hk Y.stack (a' (.lays cls Bundle.tN "stackTrace" Bundle.steD) (by simp [x_oa]))
  obtain ⟨tyP, dP, hdP, hdnP⟩ := Cond.laysAt hfound hk Y.supp (a' (.lays cls Bundle.tN "suppressedExceptions" Bundle.listD) (by simp [x_oa]))
  obtain ⟨tyM, dM, hdM, hdnM⟩ := Cond.laysAt hfound hk hffM (a' (.lays cls Bundle.tN "detailMessage" "Ljava/lang/String;") (by simp [x_oa]))
  obtain ⟨tyB, dB, hdB, hdnB⟩ := Cond.laysAt hfound hk hffB (a' (.lays cls Bundle.tN "backtrace" "Ljava/lang/Object;") (by simp [x_oa]))
  have bC := Cond.laysApart hdB hdC hdnB hdnC (by rw [hnB, Y.causeName]; decide)
  have bS := Cond.laysApart hdB hdS hdnB hdnS (by rw [hnB, Y.stackName]; decide)
  have bP := Cond.laysApart hdB hdP hdnB hdnP (by rw [hnB, Y.suppName]; decide)
  have hskip : SkipFacts T e.platform s (fun u => u) u0 ((preparedCellV T.toThrowableT (freshCell P1.m.cls kX) a u0 sen).withEntry W.cur) :=
    ⟨{ ci198 := ci, i198 := i9, fBack := fB }, ⟨hk9, hg9, ha9, hsB⟩, by
      have := fresh_default (c := P1.m.cls) tyB
      rw [htB] at this
      simpa [preparedCellV, Cell.setSlot, Cell.withEntry, Array.getElem?_setIfInBounds, bC, bS, bP, bC.symm, bS.symm, bP.symm, defaultValue] using this, fun _ _ => rfl⟩
  obtain ⟨tm, methC, cdC, kC, vm₁, hnC, -, -, -, -, -, -, -, hW₁, st1⟩ := Steps.initColdS (tb := p.tables) (e := e) (below := below) (s := s) (U := W) X.here hexec X.warmed hpl hown (t := Bundle.initS cls) rfl rfl (Bundle.fit_spec hcls).2
    (a' (.methodLink own ic (Bundle.initS cls)) (by simp [x_oa])) (h (.instanceMethod (Bundle.initS cls)) (by simp [x_oa, Bundle.passSAtoms])) (bytes := by9) (maxL := 2) (h (.code (Bundle.initS cls) by9 2 none) (by simp [x_oa, Bundle.passSAtoms]))
    (f := g) hg (a := a) (msg := msg) (rest := .ref a :: rest) hstack hd6
  cases Option.some.inj (hnC.symm.trans hP1m)
  have X₁ := X.noted hW₁
  obtain ⟨vm₂, X₂, st2⟩ := X₁.ctorMessageOffV hexec (g := { g with stack := .ref a :: rest }) hg hsize T L Z LZ M LM (P1 :: P2 :: Ps)
    (fun P hP => by
      rcases List.mem_cons.mp hP with rfl | hP
      · exact L1
      · rcases List.mem_cons.mp hP with rfl | hP
        · exact L2
        · exact hL P hP) ⟨Option.some.inj (hs1.symm.trans hP2m), hlink2, hlink⟩ (u0 := u0) (sen := sen) (self := a) hmsg (cell := freshCell P1.m.cls kX) (cellS := cellS)
    hcell (fun _ => by simp) (by simp) rfl rfl hsel0 hselF hcellS hneS hknownS (by rw [hkeep _ (hout' _)]; exact hu0) (by rw [hkeep _ (hout' _)]; exact hsen)
    (Takes.of_laid hk hord tyC (by rw [Y.causeType]; rfl)) (Takes.of_laid hk hord tyS (by rw [Y.stackType]; exact fits_refV_array _ u0)) (Takes.of_laid hk hord tyP (by rw [Y.suppType]; exact fits_refV_object _ sen))
    (Takes.of_laid hk hord tyM (by rw [Y.msgType]; exact fits_refV_object _ ⟨msg, hmsg⟩)) Y.objLocals hskip htr [] hd6
    (by simp only [List.length_cons, hlen, List.length_nil]; omega) (by simp only [List.length_cons, hlen, List.length_nil]; omega)
  obtain ⟨hwalk, hrun, hended, hWU, hsame⟩ := X₂.athrowLeaves hexec (g := { g with stack := .ref a :: rest, pc := g.pc + 3 }) hg hlocked hentered hout (a := a) (rest := rest) rfl hd9
  have hlt : a < ((W.setVm vm₁).setVm vm₂).heap.size := (Array.getElem?_eq_some_iff.mp hcell).1
  have hU := heapAt_setCell_self (s := (W.setVm vm₁).setVm vm₂) (plainBareV T.toThrowableT (freshCell P1.m.cls kX) a u0 sen msg) hlt
  refine ⟨_, st1 _ (fun acts => ?_), hrun, hended, hWU, hsame.weaken (fun y hy hlt' => ?_) (Nat.le_refl _) (Nat.le_refl _), _, hU, rfl, hfound⟩
  · rw [doInvoke_state]
    exact st2 _ hwalk
  · rcases List.mem_append.mp hy with h1 | h1
    · exact h1
    · exfalso
      have hb : y.base = a := by
        simp only [List.mem_cons, List.not_mem_nil, or_false] at h1
        rcases h1 with rfl | rfl | rfl | rfl | rfl <;> rfl
      rw [hb] at hlt'
      exact Nat.not_lt.mpr hnew hlt'
/-! 'throw new E("text")' -/
section Throw2
variable {p : Program} {l : Launch} {e : Env} {R : Room} {s : State} {m : MethodId} {args : Array Value} {below : List Frame} {meth : Method} {c : Code} {cells slots : Nat}
variable {cc : ByteArray} {nL : Nat} {own : String} {Ts : List Cond} {κ : x_K} {pc : Nat} {lv : List (Nat × Value)}
/-- nothing written: the old cells are as they were -/
theorem x_fr {s U : State} {k n : Nat} (h : s.sameButNew ({ U with vm := s.vm } : State) [] k n) : s.heap.size ≤ U.heap.size ∧ ∀ q : Nat, q < s.heap.size → U.heap[q]? = s.heap[q]? := by
  obtain ⟨-, h2, -, -, -, h6⟩ := h
  refine ⟨h2, fun q hq => ?_⟩
  obtain ⟨c9, e1, e2, e3, e4⟩ := h6 q _ (Array.getElem?_eq_getElem hq)
  have hs : c9.slots = (s.heap[q]).slots := Array.ext_getElem? fun i => e4 i (fun hm => nomatch hm)
  have h9 : c9 = s.heap[q] := by rw [hs] at e2; exact e2
  have e5 : U.heap[q]? = some c9 := e1
  rw [e5, h9, Array.getElem?_eq_getElem hq]
/-- a cell of the world is no cell of statics -/
theorem x_plain {D : va_G} {cl : List vw_C} {q : Nat × va_E} {H : Heap} {cell : Cell} (h : va_at D cl q H) (hc : H[q.1]? = some cell) : cell.vm = .none := by
  obtain ⟨a, e9⟩ := q
  cases e9 with
  | inl x =>
    have h1 : H[a]? = some (vp_cell x.1 x.2) := h
    cases h1.symm.trans hc
    obtain ⟨u, n, v⟩ := x
    rcases v with v | v | v | v | v <;> rfl
  | inr o =>
    obtain ⟨r, h1, cell', h2, h3, h4, h5⟩ := h
    cases h2.symm.trans hc
    exact h4
theorem x_apart {F : x_I → va_E} {H : Heap} (hP : va_P κ.1 (x_cl κ) (x_wd κ F) H) {a : Nat} {cell : Cell} (ha : H[a]? = some cell) (hs : cell.vm.isStatics = true) : ¬ x_A κ H.size a := by
  rintro (⟨i, hi, rfl⟩ | h)
  · obtain ⟨k, hk⟩ := x_at (f := F) hi
    have := x_plain (hP k _ hk) ha
    rw [this] at hs
    cases hs
  · have := (Array.getElem?_eq_some_iff.mp ha).1
    omega
/-- the four words of a throw that look into the heap, in another heap that has the same cells outside the world -/
theorem x_stat {F : x_I → va_E} {s s' : State} (hP : va_P κ.1 (x_cl κ) (x_wd κ F) s.heap) (hvm : s'.vm = s.vm) (hk : ∀ q : Nat, q < s.heap.size → ¬ x_A κ s.heap.size q → s'.heap[q]? = s.heap[q]?) {C n d : String}
    (hl : (Cond.laysStatic C n d).before args s = true) (hr : (Cond.isRef (.static C n d)).before args s = true) : (Cond.laysStatic C n d).before args s' = true ∧ (Cond.isRef (.static C n d)).before args s' = true := by
  obtain ⟨c1, k, i, f, a, cell, h1, h2, h3, h4, h5, h6, h7, h8, h9⟩ := Cond.laysStatic_spec hl
  have hlt : a < s.heap.size := (Array.getElem?_eq_some_iff.mp h5).1
  have h5' : s'.heap[a]? = some cell := by rw [hk a hlt (x_apart hP h5 h6)]; exact h5
  have h1' : s'.vm.findClass C = some c1 := by rw [hvm]; exact h1
  have h2' : s'.fieldFound? C n d = some (c1, k, i, f) := by
    have : s'.fieldFound? C n d = s.fieldFound? C n d := by unfold State.fieldFound?; rw [hvm]
    rw [this]; exact h2
  refine ⟨?_, ?_⟩
  · show (Cond.laysStatic C n d).holds args s' none s' [] = true
    exact Cond.laysStatic_of h1' h2' h3 h4 h5' h6 h7 h8 h9
  · have hev : ∀ (U : State), U.fieldFound? C n d = some (c1, k, i, f) → U.heap[a]? = some cell → (Term.static C n d).eval args U none [] U = cell.slots[f.slot]? := fun U u1 u2 => by
      simp [Term.eval, State.fieldNamed?, u1, h3, h4, u2, h6]
    have e1 := hev s h2 h5
    have e2 := hev s' h2' h5'
    simp only [Cond.before, Cond.holds, Cond.value, e1] at hr
    simp only [Cond.before, Cond.holds, Cond.value, e2]
    exact hr
def x_w4 (w : Cond) : Bool := decide (w = .isRef (.static Bundle.tN "UNASSIGNED_STACK" Bundle.steD)) || decide (w = .isRef (.static Bundle.tN "SUPPRESSED_SENTINEL" Bundle.listD)) || decide (w = .laysStatic Bundle.tN "UNASSIGNED_STACK" Bundle.steD) || decide (w = .laysStatic Bundle.tN "SUPPRESSED_SENTINEL" Bundle.listD)
def x_wot (w : Cond) : Bool := x_w4 w || w.onTables || goodWord w
theorem x_atoms {F : x_I → va_E} {s s' : State} {L : List Cond} (hP : va_P κ.1 (x_cl κ) (x_wd κ F) s.heap) (hvm : s'.vm = s.vm) (hk : ∀ q : Nat, q < s.heap.size → ¬ x_A κ s.heap.size q → s'.heap[q]? = s.heap[q]?)
    (hot : L.all x_wot = true) (h1 : .isRef (.static Bundle.tN "UNASSIGNED_STACK" Bundle.steD) ∈ L) (h2 : .isRef (.static Bundle.tN "SUPPRESSED_SENTINEL" Bundle.listD) ∈ L) (h3 : .laysStatic Bundle.tN "UNASSIGNED_STACK" Bundle.steD ∈ L) (h4 : .laysStatic Bundle.tN "SUPPRESSED_SENTINEL" Bundle.listD ∈ L)
    (h : ∀ w ∈ L, w.before args s = true) : ∀ w ∈ L, w.before args s' = true := by
  intro w hw
  have hg := List.all_eq_true.mp hot w hw
  have hW0 : s.WarmedH s'.vm := by rw [hvm]; exact State.WarmedH.refl s
  obtain ⟨a1, a2⟩ := x_stat (κ := κ) hP hvm hk (h _ h3) (h _ h1)
  obtain ⟨b1, b2⟩ := x_stat (κ := κ) hP hvm hk (h _ h4) (h _ h2)
  simp only [x_wot, x_w4, Bool.or_eq_true, decide_eq_true_eq] at hg
  rcases hg with ((((hg | hg) | hg) | hg) | hg) | hg
  · rw [hg]; exact a2
  · rw [hg]; exact b2
  · rw [hg]; exact a1
  · rw [hg]; exact b1
  · exact va_tabs hg hvm.symm (h w hw)
  · exact word_at hW0 (good_of_word hg) (h w hw)
theorem x_throw {σ : Type} {F : σ → x_I → va_E} {a0 u : σ} {E text : String} {ix : Nat} {by9 : ByteArray} {ik is ic sa mc ms : Nat} (C : x_C p s m args c cc nL own Ts κ) (htr : l.stackTraces = false) (hne : ∀ x ∈ c.exceptionTable.toList, False) (hP0 : va_P κ.1 (x_cl κ) (x_wd κ (F a0)) s.heap) (hcls : Bundle.fit E = true) (hby : decode by9 0 = .ok (.aload_n 0, 1) ∧ decode by9 1 = .ok (.aload_n 1, 1) ∧ decode by9 2 = .ok (.invokespecial ix, 3) ∧ decode by9 5 = .ok (.return_, 1))
    (hk : (Cond.classLink own ik E).before args s = true) (hini : (Cond.initialized E).before args s = true) (hstr : vk_R own is text sa s) (hat : ∀ w ∈ x_oa ix by9 own ic E, w.before args s = true) (hot : (Cond.classLink own ik E :: Cond.initialized E :: x_oa ix by9 own ic E).all x_wot = true)
    (d0 : decode cc pc = .ok (.new ik, 3)) (d3 : decode cc (pc + 3) = .ok (.dup, 1)) (d4 : decode cc (pc + 4) = .ok (.ldc is, 2)) (d6 : decode cc (pc + 6) = .ok (.invokespecial ic, 3)) (d9 : decode cc (pc + 9) = .ok (.athrow, 1))
    (hRf : 5 < R.frames) (hRl : 82 ≤ R.locals) (hRc : cells + 1 ≤ R.cells) (hRs : slots + 6 ≤ R.slots) (hlocks : meth.locks = false) (hmc : cells + 1 ≤ mc) (hms : slots + 6 ≤ ms) :
    x_V p l e R s m args below meth c κ nL cells slots (x_ET below κ args s mc ms F (.inr (E, u))) (F u) pc lv [] := fun H locs ls hP hS hl T hT X => by
  obtain ⟨⟨hexec, hb, hml, hown, hts⟩, hK, hok, hN⟩ := C
  have htr' : e.platform.stackTraces = false := (show e.platform.stackTraces = l.stackTraces by rw [X.admits.platform]).trans htr
  have Y := x_rb X (r := { frames := R.frames, locals := R.locals, cells := 1, slots := 6 }) (Nat.le_refl _) (Nat.le_refl _) hRc hRs
  obtain ⟨s', hA⟩ : ∃ z, z = (T.setVm s.vm).setFrames (.invoking m args :: below) := ⟨_, rfl⟩
  rw [← hA] at Y
  have hvm : s'.vm = s.vm := by rw [hA]; rfl
  have hhp : s'.heap = H := by rw [hA]; exact hT
  have hW0 : s.WarmedH s'.vm := by rw [hvm]; exact State.WarmedH.refl s
  have hat' : ∀ w ∈ x_oa ix by9 own ic E, w.before args s' = true :=
    x_atoms (κ := κ) hP0 hvm (fun q h1 h2 => by rw [hhp]; exact hS.2.1 q h1 h2) (List.all_eq_true.mpr fun w hw => List.all_eq_true.mp hot w (List.mem_cons_of_mem _ (List.mem_cons_of_mem _ hw))) (by simp [x_oa]) (by simp [x_oa]) (by simp [x_oa, Bundle.throwableAtoms]) (by simp [x_oa, Bundle.throwableAtoms]) hat
  have hk' : (Cond.classLink own ik E).before args s' = true := va_tabs rfl hvm.symm hk
  have hini' : (Cond.initialized E).before args s' = true := va_tabs rfl hvm.symm hini
  have hown' : s'.vm.findClass own = some m.cls := by rw [hvm]; exact hown
  have hins : (Cond.instantiable E 6).before args s' = true := hat' _ (by simp [x_oa])
  obtain ⟨vm₁, cX, kX, hfX, hkX, -, -, X₁, st1⟩ := Y.newCold hexec (own := own) (C := E) (index := ik) (n := 6) hown' hk' hins hini' (g := F0 m pc ls []) rfl (by rw [hb]; exact d0) (Nat.le_refl _) (Nat.le_refl _)
  generalize hT1 : (T.setVm vm₁).pushCell { cls := cX, slots := kX.instanceTypes.map defaultValue, vm := .none } = T1 at X₁ st1
  have hcellA : T1.heap[T.heap.size]? = some (freshCell cX kX) := by rw [← hT1]; exact State.heap_pushCell_size _ _
  have d3' : decode c.code (pc + 3) = .ok (.dup, 1) := by rw [hb]; exact d3
  have d4' : decode c.code (pc + 4) = .ok (.ldc is, 2) := by rw [hb]; exact d4
  have hstr' : vk_R own is text sa s' := vk_R.warm hW0 hstr
  have hcat : (Value.ref T.heap.size).category = 1 := rfl
  obtain ⟨U, hsteps, hrun, hend, hW, hsame, ce, hce, hO1, hO2⟩ := x_ctor X₁ hexec htr' (own := own) (cls := E) (ix := ix) (by9 := by9) (ic := ic) hown' hcls hby hat' (fun x hx => nomatch hx) hfX hkX hcellA (by rw [hhp, hT]; exact Nat.le_refl _) (msg := .ref sa) rfl
    (g := { method := m, pc := pc + 6, locals := ls, stack := [.ref sa, .ref T.heap.size, .ref T.heap.size], locked := none }) rfl (by rw [hml]; exact hl.1) rfl rfl (rest := []) rfl
    (by rw [hb]; exact d6) (by rw [hb]; exact d9) (fun x hx => (hne x hx).elim) hRf (by simp only [List.map_cons, List.map_nil, List.sum_cons, List.sum_nil, hcat]; show 2 * 0 + _ + _ ≤ _; omega) hlocks
  obtain ⟨f1, f2⟩ := x_fr hsame
  rw [hhp] at f1 f2
  have hWs : s.WarmedH U.vm := State.WarmedH.trans hW0 hW
  have hcl : s.vm.findClass E = some ce.cls := by
    have h9 := hO2
    rw [hvm] at h9
    exact h9
  have hall : s.sameButNew ({ U with vm := s.vm } : State) locs mc ms := by
    subst hA
    obtain ⟨e1, e2⟩ := hsame
    rw [State.setFrames_setFrames] at e1
    have h2 : (T.setVm s.vm).sameButNew ({ U with vm := s.vm } : State) [] (0 + 1) (0 + 6) := ⟨e1, e2⟩
    have h3 := X.same.trans h2
    rw [List.append_nil] at h3
    exact h3.mono hmc hms
  have hPu : va_P κ.1 (x_cl κ) (x_wd κ (F u)) U.heap := hP.kept (fun k q hq => f2 q.1 ((hP k q hq).lt))
  have hFr : va_F (x_A κ s.heap.size) s U := ⟨Nat.le_trans hS.1 f1, fun q h1 h2 => by rw [f2 q (Nat.lt_of_lt_of_le h1 hS.1)]; exact hS.2.1 q h1 h2⟩
  refine ⟨U, ?_, .threw T.heap.size, hrun, hend, T.heap.size, ce, locs, rfl, hce, hO1, hcl, hPu, hFr, hWs, hall, hS.2.2⟩
  refine st1 _ ?_
  show Steps p.tables e below (T1.setTop { method := m, pc := pc + 3, locals := ls, stack := [.ref T.heap.size], locked := none }) _
  jvm_step X₁.here [X₁.here.top, hexec, d3', Value.category]
  exact X₁.ldcString hexec (own := own) (text := text) (index := is) (a := sa) hown' hstr'.1 hstr'.2
    (g := { method := m, pc := pc + 4, locals := ls, stack := [.ref T.heap.size, .ref T.heap.size], locked := none }) rfl d4' _ hsteps
end Throw2
