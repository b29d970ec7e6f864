section CallX
variable {p : Program} {l : Launch} {e : Env} {R : Room} {s : State} {m : MethodId} {args : Array Value} {below : List Frame} {meth : Method} {c : Code} {T : State} {locs : List Loc} {cells slots : Nat} {κ : x_K}
/-- a callee that throws, over this method's frame -/
theorem x_thrown {σ : Type} {G : State → Prop} {F : σ → x_I → va_E} {a u : σ} {E : String} {y : MethodName} {w : List Cond} {rm : Room} {mc ms maxL len : Nat} {bytes : ByteArray} {ret : Option FieldType} {vs : List Value} {U : State} {g : JFrame} {ig : Instr} {mk : MethodId}
    (hM : x_MT G l y w rm κ F vs a (.inr (E, u)) mc ms) (X : Stand p l e R s m args below meth c U locs cells slots) (hg : g.method = m) (hsize : g.locals.size = c.maxLocals) (hdg : decode c.code g.pc = .ok (ig, len)) (hW : 2 * g.monitorRoom + (g.stack.map fun v => v.category).sum ≤ 8) (hn : U.methodNamed? y = some mk)
    (hws : ∀ w9 ∈ w, ∀ (a' : Array Value) (V : State), s.WarmedH V.vm → w9.before a' V = true) (hcode : Cond.code y bytes maxL ret ∈ w) (hini : (Cond.initialized y.cls).before vs.toArray U = true) (hfr : rm.frames + 1 ≤ R.frames) (hlo : 8 + (maxL + 11) + rm.locals ≤ R.locals) (hrc : rm.cells = mc) (hrs : rm.slots = ms) (hroom : cells + mc ≤ R.cells ∧ slots + ms ≤ R.slots)
    (hP : va_P κ.1 (x_cl κ) (x_wd κ (F a)) U.heap) (hK : va_K κ.1 (x_cl κ) (x_ty κ) U) (hN : x_N U) (hG : G (U.calling g mk vs.toArray)) :
    ∃ (q : Addr) (ce : Cell) (T' : State) (L : List Loc), Stand p l e R s m args below meth c T' (locs ++ L) (cells + mc) (slots + ms) ∧ (∀ z ∈ L, x_A κ U.heap.size z.base) ∧ T'.heap[q]? = some ce ∧ ce.vm = .none ∧ s.vm.findClass E = some ce.cls ∧ va_P κ.1 (x_cl κ) (x_wd κ (F u)) T'.heap ∧ U.heap.size ≤ T'.heap.size ∧ (∀ z : Nat, z < U.heap.size → ¬ x_A κ U.heap.size z → T'.heap[z]? = U.heap[z]?) ∧
      Steps p.tables e below (doInvoke e (U.setTop g) [] mk vs.toArray).1 ((T'.setTop g).pushFrame (.throwing q)) := by
  have h1 : (headSpec w rm).pre.before vs.toArray U = true := atoms_intro fun w9 h9 => hws w9 h9 _ _ X.warmed
  have h2 : (Cond.code y bytes maxL ret).before vs.toArray U = true := hws _ hcode _ _ X.warmed
  have h4 : cells + (headSpec w rm).room.cells ≤ R.cells := by rw [show (headSpec w rm).room.cells = mc from hrc]; exact hroom.1
  have h5 : slots + (headSpec w rm).room.slots ≤ R.slots := by rw [show (headSpec w rm).room.slots = ms from hrs]; exact hroom.2
  obtain ⟨methY, cY, hmY, hcY, -, hlY, -, -, -, -⟩ := Cond.code_spec hn h2
  obtain ⟨kY, hkY, -⟩ := className_of_methodNamed hn
  have hinitY : kY.init = .initialized := Cond.initialized_spec (findClass_of_methodNamed hn) hkY hini
  have h : At U g.method c below := by rw [hg]; exact X.here
  have hlo9 : 8 + (maxL + 11) + (headSpec w rm).room.locals ≤ R.locals := hlo
  have happ : (headSpec w rm).appliesLoose y e.platform (U.calling g mk vs.toArray) = true :=
    Spec.appliesLoose_calling (g := g) h hdg hn hkY hinitY (X.room_calling (g := g) (R' := (headSpec w rm).room) hsize hmY hcY hfr (by rw [hlY]; omega) h4 h5) h1
  obtain ⟨mid, hmid⟩ := h.above
  have hfrm : (U.setTop g).frames = (.java g :: mid) ++ below := by rw [State.frames_setTop' g h.top, hmid]; rfl
  have hPc : va_Pc vs (fun U9 => U9.heap.size = U.heap.size ∧ va_P κ.1 (x_cl κ) (x_wd κ (F a)) U9.heap ∧ va_K κ.1 (x_cl κ) (x_ty κ) U9 ∧ x_N U9 ∧ G U9) vs.toArray (U.calling g mk vs.toArray) :=
    ⟨rfl, rfl, hP, va_K.moved (u := U) (U := U.calling g mk vs.toArray) (Vm.Alike.refl U.vm) hK, va_tabs (A := #[]) (u := U) rfl rfl hN, hG⟩
  obtain ⟨o, s₂, hsteps, -, hend, hq⟩ := Steps.callFree (hM U.heap.size) p X.admits X.cas X.clock (acts := []) hfrm happ hPc trivial
  obtain ⟨q, ce, L, rfl, hce, hcv, hcl, hP2, hF2, hW₂, hsm, hL⟩ := (show x_QT κ F (.inr (E, u)) U.heap.size mc ms vs.toArray (U.calling g mk vs.toArray) o s₂ from hq)
  rw [State.frames_setTop' g h.top] at hend
  obtain ⟨g₀, hg0⟩ := Option.isSome_iff_exists.mp h.top
  obtain ⟨r, hr⟩ := State.topJava?_eq_some.mp hg0
  have hr' : (({ U with heap := s₂.heap, slotsUsed := s₂.slotsUsed } : State).setVm s₂.vm).frames = .java g₀ :: r := hr
  obtain ⟨e2, q2, q3, q4, q5, q6⟩ := id hsm
  have e3 : s₂ = ({ (U.calling g mk vs.toArray).setFrames s₂.frames with heap := s₂.heap, slotsUsed := s₂.slotsUsed } : State).setVm s₂.vm := by
    have e9 : s₂ = ({ s₂ with vm := (U.calling g mk vs.toArray).vm } : State).setVm s₂.vm := rfl
    rw [e2] at e9
    exact e9
  have hf₂ : s₂.frames = .throwing q :: .java g :: U.frames.tail := hend
  have hW' : U.WarmedH s₂.vm := hW₂
  have hs₂ : s₂ = ((({ U with heap := s₂.heap, slotsUsed := s₂.slotsUsed } : State).setVm s₂.vm).setTop g).pushFrame (.throwing q) := by
    refine e3.trans ?_
    rw [hf₂, State.calling_eq h.top, State.setFrames_setFrames, State.pushFrame, State.frames_setTop _ hr', State.setTop_of_frames _ hr', State.setFrames_setFrames, hr]
    rfl
  have hsame : U.sameButNew ({ U with heap := s₂.heap, slotsUsed := s₂.slotsUsed } : State) L mc ms := by
    refine ⟨?_, q2, q3, q4, q5, q6⟩
    obtain ⟨t, ht, -⟩ := State.frames_cons hr
    show ({ U with heap := s₂.heap, slotsUsed := s₂.slotsUsed } : State) = { U.setFrames U.frames with heap := s₂.heap, slotsUsed := s₂.slotsUsed }
    rw [State.setFrames_self ht]
  subst hg
  have hclE : s.vm.findClass E = some ce.cls := by
    have h9 : U.vm.findClass E = some ce.cls := hcl
    rw [X.warmed.alike.findClass] at h9
    exact h9
  refine ⟨q, ce, (({ U with heap := s₂.heap, slotsUsed := s₂.slotsUsed } : State).setVm s₂.vm), L,
    ⟨X.admits, X.cas, X.clock, X.frames, X.room, X.hears, X.method, X.code, (X.here.setHeapUsed s₂.heap s₂.slotsUsed).setVm hW'.alike, X.tail, State.WarmedH.trans X.warmed hW', X.limits, X.bytes, X.same.trans (hsame.setVm s.vm)⟩,
    hL, hce, hcv, hclE, hP2, hF2.1, hF2.2, ?_⟩
  have e7 : ((({ U with heap := s₂.heap, slotsUsed := s₂.slotsUsed } : State).setVm s₂.vm).setTop g).pushFrame (.throwing q) = s₂ := hs₂.symm
  rw [e7]
  exact hsteps
end CallX
