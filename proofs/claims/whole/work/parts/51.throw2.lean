/-! 'throw new E("text")' -/
section Throw2
variable {p : Program} {l : Launch} {e : Env} {R : Room} {s : State} {m : MethodId} {args : Array Value} {below : List Frame} {meth : Method} {c : Code} {cells slots : Nat}
variable {cc : ByteArray} {nL : Nat} {own : String} {Ts : List Cond} {κ : x_K} {pc : Nat} {lv : List (Nat × Value)}
/-- nothing written: the old cells are as they were -/
theorem x_fr {s U : State} {k n : Nat} (h : s.sameButNew ({ U with vm := s.vm } : State) [] k n) : s.heap.size ≤ U.heap.size ∧ ∀ q : Nat, q < s.heap.size → U.heap[q]? = s.heap[q]? := by
  obtain ⟨-, h2, -, -, -, h6⟩ := h
  refine ⟨h2, fun q hq => ?_⟩
  obtain ⟨c9, e1, e2, e3, e4⟩ := h6 q _ (Array.getElem?_eq_getElem hq)
  have hs : c9.slots = (s.heap[q]).slots := Array.ext_getElem? fun i => e4 i (fun hm => nomatch hm)
  have h9 : c9 = s.heap[q] := by rw [hs] at e2; exact e2
  have e5 : U.heap[q]? = some c9 := e1
  rw [e5, h9, Array.getElem?_eq_getElem hq]
/-- a cell of the world is no cell of statics -/
theorem x_plain {D : va_G} {cl : List vw_C} {q : Nat × va_E} {H : Heap} {cell : Cell} (h : va_at D cl q H) (hc : H[q.1]? = some cell) : cell.vm = .none := by
  obtain ⟨a, e9⟩ := q
  cases e9 with
  | inl x =>
    have h1 : H[a]? = some (vp_cell x.1 x.2) := h
    cases h1.symm.trans hc
    obtain ⟨u, n, v⟩ := x
    rcases v with v | v | v | v | v <;> rfl
  | inr o =>
    obtain ⟨r, h1, cell', h2, h3, h4, h5⟩ := h
    cases h2.symm.trans hc
    exact h4
theorem x_apart {F : x_I → va_E} {H : Heap} (hP : va_P κ.1 (x_cl κ) (x_wd κ F) H) {a : Nat} {cell : Cell} (ha : H[a]? = some cell) (hs : cell.vm.isStatics = true) : ¬ x_A κ H.size a := by
  rintro (⟨i, hi, rfl⟩ | h)
  · obtain ⟨k, hk⟩ := x_at (f := F) hi
    have := x_plain (hP k _ hk) ha
    rw [this] at hs
    cases hs
  · have := (Array.getElem?_eq_some_iff.mp ha).1
    omega
/-- the four words of a throw that look into the heap, in another heap that has the same cells outside the world -/
theorem x_stat {F : x_I → va_E} {s s' : State} (hP : va_P κ.1 (x_cl κ) (x_wd κ F) s.heap) (hvm : s'.vm = s.vm) (hk : ∀ q : Nat, q < s.heap.size → ¬ x_A κ s.heap.size q → s'.heap[q]? = s.heap[q]?) {C n d : String}
    (hl : (Cond.laysStatic C n d).before args s = true) (hr : (Cond.isRef (.static C n d)).before args s = true) : (Cond.laysStatic C n d).before args s' = true ∧ (Cond.isRef (.static C n d)).before args s' = true := by
  obtain ⟨c1, k, i, f, a, cell, h1, h2, h3, h4, h5, h6, h7, h8, h9⟩ := Cond.laysStatic_spec hl
  have hlt : a < s.heap.size := (Array.getElem?_eq_some_iff.mp h5).1
  have h5' : s'.heap[a]? = some cell := by rw [hk a hlt (x_apart hP h5 h6)]; exact h5
  have h1' : s'.vm.findClass C = some c1 := by rw [hvm]; exact h1
  have h2' : s'.fieldFound? C n d = some (c1, k, i, f) := by
    have : s'.fieldFound? C n d = s.fieldFound? C n d := by unfold State.fieldFound?; rw [hvm]
    rw [this]; exact h2
  refine ⟨?_, ?_⟩
  · show (Cond.laysStatic C n d).holds args s' none s' [] = true
    exact Cond.laysStatic_of h1' h2' h3 h4 h5' h6 h7 h8 h9
  · have hev : ∀ (U : State), U.fieldFound? C n d = some (c1, k, i, f) → U.heap[a]? = some cell → (Term.static C n d).eval args U none [] U = cell.slots[f.slot]? := fun U u1 u2 => by
      simp [Term.eval, State.fieldNamed?, u1, h3, h4, u2, h6]
    have e1 := hev s h2 h5
    have e2 := hev s' h2' h5'
    simp only [Cond.before, Cond.holds, Cond.value, e1] at hr
    simp only [Cond.before, Cond.holds, Cond.value, e2]
    exact hr
def x_w4 (w : Cond) : Bool := decide (w = .isRef (.static Bundle.tN "UNASSIGNED_STACK" Bundle.steD)) || decide (w = .isRef (.static Bundle.tN "SUPPRESSED_SENTINEL" Bundle.listD)) || decide (w = .laysStatic Bundle.tN "UNASSIGNED_STACK" Bundle.steD) || decide (w = .laysStatic Bundle.tN "SUPPRESSED_SENTINEL" Bundle.listD)
def x_wot (w : Cond) : Bool := x_w4 w || w.onTables || goodWord w
theorem x_atoms {F : x_I → va_E} {s s' : State} {L : List Cond} (hP : va_P κ.1 (x_cl κ) (x_wd κ F) s.heap) (hvm : s'.vm = s.vm) (hk : ∀ q : Nat, q < s.heap.size → ¬ x_A κ s.heap.size q → s'.heap[q]? = s.heap[q]?)
    (hot : L.all x_wot = true) (h1 : .isRef (.static Bundle.tN "UNASSIGNED_STACK" Bundle.steD) ∈ L) (h2 : .isRef (.static Bundle.tN "SUPPRESSED_SENTINEL" Bundle.listD) ∈ L) (h3 : .laysStatic Bundle.tN "UNASSIGNED_STACK" Bundle.steD ∈ L) (h4 : .laysStatic Bundle.tN "SUPPRESSED_SENTINEL" Bundle.listD ∈ L)
    (h : ∀ w ∈ L, w.before args s = true) : ∀ w ∈ L, w.before args s' = true := by
  intro w hw
  have hg := List.all_eq_true.mp hot w hw
  have hW0 : s.WarmedH s'.vm := by rw [hvm]; exact State.WarmedH.refl s
  obtain ⟨a1, a2⟩ := x_stat (κ := κ) hP hvm hk (h _ h3) (h _ h1)
  obtain ⟨b1, b2⟩ := x_stat (κ := κ) hP hvm hk (h _ h4) (h _ h2)
  simp only [x_wot, x_w4, Bool.or_eq_true, decide_eq_true_eq] at hg
  rcases hg with ((((hg | hg) | hg) | hg) | hg) | hg
  · rw [hg]; exact a2
  · rw [hg]; exact b2
  · rw [hg]; exact a1
  · rw [hg]; exact b1
  · exact va_tabs hg hvm.symm (h w hw)
  · exact word_at hW0 (good_of_word hg) (h w hw)
theorem x_throw {σ : Type} {F : σ → x_I → va_E} {a0 u : σ} {E text : String} {names : List String} {ik is ic sa mc ms : Nat} (C : x_C p s m args c cc nL own Ts κ) (htr : l.stackTraces = false) (hne : ∀ x ∈ c.exceptionTable.toList, False) (hP0 : va_P κ.1 (x_cl κ) (x_wd κ (F a0)) s.heap) (hcls : Bundle.fit E = true) (hnames : ∀ n ∈ names, Bundle.fit n = true)
    (hk : (Cond.classLink own ik E).before args s = true) (hini : (Cond.initialized E).before args s = true) (hstr : vk_R own is text sa s) (hat : ∀ w ∈ Bundle.ownAtoms own ic E names, w.before args s = true) (hot : (Cond.classLink own ik E :: Cond.initialized E :: Bundle.ownAtoms own ic E names).all x_wot = true)
    (d0 : decode cc pc = .ok (.new ik, 3)) (d3 : decode cc (pc + 3) = .ok (.dup, 1)) (d4 : decode cc (pc + 4) = .ok (.ldc is, 2)) (d6 : decode cc (pc + 6) = .ok (.invokespecial ic, 3)) (d9 : decode cc (pc + 9) = .ok (.athrow, 1))
    (hRf : names.length + 3 < R.frames) (hRl : 13 * (names.length + 1) + 43 ≤ R.locals) (hRc : cells + 1 ≤ R.cells) (hRs : slots + 6 ≤ R.slots) (hlocks : meth.locks = false) (hmc : cells + 1 ≤ mc) (hms : slots + 6 ≤ ms) :
    x_V p l e R s m args below meth c κ nL cells slots (x_ET below κ args s mc ms F (.inr (E, u))) (F u) pc lv [] := fun H locs ls hP hS hl T hT X => by
  obtain ⟨⟨hexec, hb, hml, hown, hts⟩, hK, hok, hN⟩ := C
  have htr' : e.platform.stackTraces = false := (show e.platform.stackTraces = l.stackTraces by rw [X.admits.platform]).trans htr
  have Y := x_rb X (r := { frames := R.frames, locals := R.locals, cells := 1, slots := 6 }) (Nat.le_refl _) (Nat.le_refl _) hRc hRs
  obtain ⟨s', hA⟩ : ∃ z, z = (T.setVm s.vm).setFrames (.invoking m args :: below) := ⟨_, rfl⟩
  rw [← hA] at Y
  have hvm : s'.vm = s.vm := by rw [hA]; rfl
  have hhp : s'.heap = H := by rw [hA]; exact hT
  have hW0 : s.WarmedH s'.vm := by rw [hvm]; exact State.WarmedH.refl s
  have hat' : ∀ w ∈ Bundle.ownAtoms own ic E names, w.before args s' = true :=
    x_atoms (κ := κ) hP0 hvm (fun q h1 h2 => by rw [hhp]; exact hS.2.1 q h1 h2) (List.all_eq_true.mpr fun w hw => List.all_eq_true.mp hot w (List.mem_cons_of_mem _ (List.mem_cons_of_mem _ hw))) (by simp [Bundle.ownAtoms]) (by simp [Bundle.ownAtoms]) (by simp [Bundle.ownAtoms, Bundle.throwableAtoms]) (by simp [Bundle.ownAtoms, Bundle.throwableAtoms]) hat
  have hk' : (Cond.classLink own ik E).before args s' = true := va_tabs rfl hvm.symm hk
  have hini' : (Cond.initialized E).before args s' = true := va_tabs rfl hvm.symm hini
  have hown' : s'.vm.findClass own = some m.cls := by rw [hvm]; exact hown
  have hins : (Cond.instantiable E 6).before args s' = true := hat' _ (by simp [Bundle.ownAtoms])
  obtain ⟨vm₁, cX, kX, hfX, hkX, -, -, X₁, st1⟩ := Y.newCold hexec (own := own) (C := E) (index := ik) (n := 6) hown' hk' hins hini' (g := F0 m pc ls []) rfl (by rw [hb]; exact d0) (Nat.le_refl _) (Nat.le_refl _)
  generalize hT1 : (T.setVm vm₁).pushCell { cls := cX, slots := kX.instanceTypes.map defaultValue, vm := .none } = T1 at X₁ st1
  have hcellA : T1.heap[T.heap.size]? = some (freshCell cX kX) := by rw [← hT1]; exact State.heap_pushCell_size _ _
  have d3' : decode c.code (pc + 3) = .ok (.dup, 1) := by rw [hb]; exact d3
  have d4' : decode c.code (pc + 4) = .ok (.ldc is, 2) := by rw [hb]; exact d4
  have hstr' : vk_R own is text sa s' := vk_R.warm hW0 hstr
  have hcat : (Value.ref T.heap.size).category = 1 := rfl
  obtain ⟨U, hsteps, hrun, hend, hW, hsame, ce, hce, hO⟩ := X₁.ctorThrowS hexec htr' (own := own) (cls := E) (names := names) (ic := ic) hown' hcls hnames hat' (fun x hx => nomatch hx) hfX hkX hcellA (by rw [hhp, hT]; exact Nat.le_refl _) (msg := .ref sa) rfl
    (g := { method := m, pc := pc + 6, locals := ls, stack := [.ref sa, .ref T.heap.size, .ref T.heap.size], locked := none }) rfl (by rw [hml]; exact hl.1) rfl rfl (rest := []) rfl
    (by rw [hb]; exact d6) (by rw [hb]; exact d9) (fun x hx => (hne x hx).elim) hRf (by simp only [List.map_cons, List.map_nil, List.sum_cons, List.sum_nil, hcat]; show 2 * 0 + _ + _ ≤ _; omega) hlocks
  obtain ⟨f1, f2⟩ := x_fr hsame
  rw [hhp] at f1 f2
  have hWs : s.WarmedH U.vm := State.WarmedH.trans hW0 hW
  have hcl : s.vm.findClass E = some ce.cls := by
    have h9 := hO.cls
    rw [hvm] at h9
    exact h9
  have hall : s.sameButNew ({ U with vm := s.vm } : State) locs mc ms := by
    subst hA
    obtain ⟨e1, e2⟩ := hsame
    rw [State.setFrames_setFrames] at e1
    have h2 : (T.setVm s.vm).sameButNew ({ U with vm := s.vm } : State) [] (0 + 1) (0 + 6) := ⟨e1, e2⟩
    have h3 := X.same.trans h2
    rw [List.append_nil] at h3
    exact h3.mono hmc hms
  have hPu : va_P κ.1 (x_cl κ) (x_wd κ (F u)) U.heap := hP.kept (fun k q hq => f2 q.1 ((hP k q hq).lt))
  have hFr : va_F (x_A κ s.heap.size) s U := ⟨Nat.le_trans hS.1 f1, fun q h1 h2 => by rw [f2 q (Nat.lt_of_lt_of_le h1 hS.1)]; exact hS.2.1 q h1 h2⟩
  refine ⟨U, ?_, .threw T.heap.size, hrun, hend, T.heap.size, ce, locs, rfl, hce, hO.vm, hcl, hPu, hFr, hWs, hall, hS.2.2⟩
  refine st1 _ ?_
  show Steps p.tables e below (T1.setTop { method := m, pc := pc + 3, locals := ls, stack := [.ref T.heap.size], locked := none }) _
  jvm_step X₁.here [X₁.here.top, hexec, d3', Value.category]
  exact X₁.ldcString hexec (own := own) (text := text) (index := is) (a := sa) hown' hstr'.1 hstr'.2
    (g := { method := m, pc := pc + 4, locals := ls, stack := [.ref T.heap.size, .ref T.heap.size], locked := none }) rfl d4' _ hsteps
end Throw2
