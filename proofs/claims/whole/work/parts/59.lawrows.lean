/-! ROWS FOR THE LAW ITSELF: its world is all new -/
section GA
variable {κ : x_K}
theorem x_statA {args : Array Value} {s s' : State} (hap : ∀ q : Nat, q < s.heap.size → ¬ x_A κ s.heap.size q) (hvm : s'.vm = s.vm) (hk : ∀ q : Nat, q < s.heap.size → ¬ x_A κ s.heap.size q → s'.heap[q]? = s.heap[q]?) {C n d : String}
    (hl : (Cond.laysStatic C n d).before args s = true) (hr : (Cond.isRef (.static C n d)).before args s = true) : (Cond.laysStatic C n d).before args s' = true ∧ (Cond.isRef (.static C n d)).before args s' = true := by
  obtain ⟨c1, k, i, f, a, cell, h1, h2, h3, h4, h5, h6, h7, h8, h9⟩ := Cond.laysStatic_spec hl
  have hlt : a < s.heap.size := (Array.getElem?_eq_some_iff.mp h5).1
  have h5' : s'.heap[a]? = some cell := by rw [hk a hlt (hap a hlt)]; exact h5
  have h1' : s'.vm.findClass C = some c1 := by rw [hvm]; exact h1
  have h2' : s'.fieldFound? C n d = some (c1, k, i, f) := by
    have : s'.fieldFound? C n d = s.fieldFound? C n d := by unfold State.fieldFound?; rw [hvm]
    rw [this]; exact h2
  refine ⟨?_, ?_⟩
  · show (Cond.laysStatic C n d).holds args s' none s' [] = true
    exact Cond.laysStatic_of h1' h2' h3 h4 h5' h6 h7 h8 h9
  · have hev : ∀ (U : State), U.fieldFound? C n d = some (c1, k, i, f) → U.heap[a]? = some cell → (Term.static C n d).eval args U none [] U = cell.slots[f.slot]? := fun U u1 u2 => by
      simp [Term.eval, State.fieldNamed?, u1, h3, h4, u2, h6]
    have e1 := hev s h2 h5
    have e2 := hev s' h2' h5'
    simp only [Cond.before, Cond.holds, Cond.value, e1] at hr
    simp only [Cond.before, Cond.holds, Cond.value, e2]
    exact hr
theorem x_siteA {s U : State} {ik is ic : Nat} {E text : String} (hkf : (x_oa (x_ix E) (x_by E) "CheckedMachine" ic E).all Cond.keepsFace = true) (hot : (Cond.classLink "CheckedMachine" ik E :: Cond.initialized E :: x_oa (x_ix E) (x_by E) "CheckedMachine" ic E).all x_wot = true)
    (hap : ∀ q : Nat, q < s.heap.size → ¬ x_A κ s.heap.size q) (hW : s.WarmedH U.vm) (hk : ∀ q : Nat, q < s.heap.size → ¬ x_A κ s.heap.size q → U.heap[q]? = s.heap[q]?) (h : x_site ik is ic E text s) : x_site ik is ic E text U := by
  intro A
  obtain ⟨⟨h1, h2, sa, h3⟩, h4⟩ := h A
  refine ⟨⟨word_at hW (good_of_word rfl) h1, word_at hW (good_of_word rfl) h2, sa, vk_R.warm hW h3⟩, ?_⟩
  have hs1 : ∀ w ∈ x_oa (x_ix E) (x_by E) "CheckedMachine" ic E, w.before A (s.setVm U.vm) = true := fun w hw => Cond.before_shiftedFace (State.Shifted.of_warmed hW) w (List.all_eq_true.mp hkf w hw) (h4 w hw)
  obtain ⟨a1, a2⟩ := x_statA (κ := κ) (args := A) (s := s.setVm U.vm) (s' := U) hap rfl hk (hs1 (.laysStatic Bundle.tN "UNASSIGNED_STACK" Bundle.steD) (by simp [x_oa, Bundle.throwableAtoms])) (hs1 (.isRef (.static Bundle.tN "UNASSIGNED_STACK" Bundle.steD)) (by simp [x_oa]))
  obtain ⟨b1, b2⟩ := x_statA (κ := κ) (args := A) (s := s.setVm U.vm) (s' := U) hap rfl hk (hs1 (.laysStatic Bundle.tN "SUPPRESSED_SENTINEL" Bundle.listD) (by simp [x_oa, Bundle.throwableAtoms])) (hs1 (.isRef (.static Bundle.tN "SUPPRESSED_SENTINEL" Bundle.listD)) (by simp [x_oa]))
  intro w hw
  have hg := List.all_eq_true.mp hot w (List.mem_cons_of_mem _ (List.mem_cons_of_mem _ hw))
  simp only [x_wot, x_w4, Bool.or_eq_true, decide_eq_true_eq] at hg
  rcases hg with ((((hg | hg) | hg) | hg) | hg) | hg
  · rw [hg]; exact a2
  · rw [hg]; exact b2
  · rw [hg]; exact a1
  · rw [hg]; exact b1
  · exact va_tabs (u := s.setVm U.vm) hg rfl (hs1 w hw)
  · exact word_at hW (good_of_word hg) (h4 w hw)
theorem x_GA {s U : State} (hap : ∀ q : Nat, q < s.heap.size → ¬ x_A κ s.heap.size q) (hW : s.WarmedH U.vm) (hk : ∀ q : Nat, q < s.heap.size → ¬ x_A κ s.heap.size q → U.heap[q]? = s.heap[q]?) (h : x_G s) : x_G U := by
  obtain ⟨h1, h2, h3, h4, h5, h6, h7, h8⟩ := h
  exact ⟨x_siteA x_kf1 x_ot1 hap hW hk h1, x_siteA x_kf1 x_ot1 hap hW hk h2, x_siteA x_kf1 x_ot1 hap hW hk h3, x_siteA x_kf1 x_ot1 hap hW hk h4, x_siteA x_kf2 x_ot2 hap hW hk h5, x_siteA x_kf2 x_ot2 hap hW hk h6, x_siteA x_kf3 x_ot3 hap hW hk h7, x_siteA x_kf4 x_ot4 hap hW hk h8⟩
end GA
def x_calH (y : MethodName) (bytes : ByteArray) (maxL : Nat) (ret : Option FieldType) (hh : List (Nat × Nat × Nat × Nat)) (n : Nat) : Prop :=
  (Cond.static y ∈ x_Wd ∧ Cond.initialized y.cls ∈ x_Wd ∧ Cond.codeWith y bytes maxL ret hh ∈ x_Wd) ∧ (y.cls ≠ "java/lang/invoke/MethodHandle" ∧ y.cls ≠ "java/lang/invoke/VarHandle" ∧ (parseMethodDescriptor y.desc).map (fun d => d.parameters.length) = some n)
section LawRows
variable {p : Program} {l : Launch} {e : Env} {R : Room} {s : State} {m : MethodId} {args : Array Value} {below : List Frame} {meth : Method} {c : Code} {cells slots : Nat} {Q : State → Prop}
variable {cc : ByteArray} {nL : Nat} {own : String} {Ts : List Cond} {w0 : Cond} {κ : x_K} {f : x_I → va_E} {pc : Nat} {lv : List (Nat × Value)} {st : List Value}
theorem x_wid {k n : Nat} (h1 : cells ≤ k) (h2 : slots ≤ n) (kk : x_V p l e R s m args below meth c κ nL k n Q f pc lv st) : x_V p l e R s m args below meth c κ nL cells slots Q f pc lv st := fun H locs ls hP hS hl => W.widen h1 h2 (kk H locs ls hP hS hl)
theorem x_sld {b L : Nat} {xs : Nat → Int32} {i : Int32} (C : x_C p s m args c cc nL own Ts κ) (hX : va_X b L xs s s.heap) (hbl : b < s.heap.size) (hbA : ¬ x_A κ s.heap.size b) (hin : vp_in i L) (hd : decode cc pc = .ok (.iaload, 1))
    (kk : x_V p l e R s m args below meth c κ nL cells slots Q f (pc + 1) lv (.int (xs i.toNatClampNeg) :: st)) : x_V p l e R s m args below meth c κ nL cells slots Q f pc lv (.int i :: .ref b :: st) := fun H locs ls hP hS hl =>
  va_sld C.1.1 C.1.2.1 hX hbl hbA hS hin hd (kk H locs ls hP hS hl)
theorem x_slen {b L : Nat} {xs : Nat → Int32} (C : x_C p s m args c cc nL own Ts κ) (hX : va_X b L xs s s.heap) (hbl : b < s.heap.size) (hbA : ¬ x_A κ s.heap.size b) (hd : decode cc pc = .ok (.arraylength, 1))
    (kk : x_V p l e R s m args below meth c κ nL cells slots Q f (pc + 1) lv (.int (Int32.ofNat L) :: st)) : x_V p l e R s m args below meth c κ nL cells slots Q f pc lv (.ref b :: st) := fun H locs ls hP hS hl =>
  va_slen C.1.1 C.1.2.1 hX hbl hbA hS hd (kk H locs ls hP hS hl)
/-- a helper is called -/
theorem x_csH {σ : Type} {F : σ → x_I → va_E} {a a' : σ} {X : Option Value × σ} {v : Value} {maxL n index mc ms : Nat} {hh : List (Nat × Nat × Nat × Nat)} {rest As : List Value} {y : MethodName} {rm : Room} {bytes : ByteArray} {ret : Option FieldType} {st0 : List Value}
    (C : x_C p s m args c cc nL own (w0 :: x_Wd) κ) (k : x_calH y bytes maxL ret hh n) (hl : Cond.methodLink own index y ∈ x_Wd) (hM : x_MG l y (Cond.codeWith y bytes maxL ret hh :: x_Wd) rm κ F As a X mc ms) (hX : X = (some v, a')) (hg : x_G s) (hj : x_J s) (hap : ∀ q : Nat, q < s.heap.size → ¬ x_A κ s.heap.size q) (hrc : rm.cells = mc) (hrs : rm.slots = ms) (hfr : rm.frames + 1 ≤ R.frames) (hlo : 8 + (maxL + 11) + rm.locals ≤ R.locals)
    (hn : As.length = n) (hst : st0 = As.reverse ++ rest) (hW : (rest.map fun v => v.category).sum ≤ 8) (hd : decode cc pc = .ok (.invokestatic index, 3)) (hroom : cells + mc ≤ R.cells ∧ slots + ms ≤ R.slots)
    (kk : x_V p l e R s m args below meth c κ nL (cells + mc) (slots + ms) Q (F a') (pc + 3) lv (v :: rest)) : x_V p l e R s m args below meth c κ nL cells slots Q (F a) pc lv st0 := by
  subst hX
  intro H locs ls hP hS hl9 T hT X
  have hin : ∀ w ∈ x_Wd, w.before args s = true := fun w hw => C.1.2.2.2.2 w (List.mem_cons_of_mem _ hw)
  have hcode := hin _ k.1.2.2
  have hini := hin _ k.1.2.1
  obtain ⟨mk, methM, cM, hnamed, hmethM, -, -, -, -, -, -, hsigM⟩ := Cond.codeWith_spec hcode
  have hstatic : methM.isStatic = true := Cond.static_spec hnamed hmethM (hin _ k.1.1)
  obtain ⟨kP, hkP, -⟩ := className_of_methodNamed hnamed
  have hinitP : kP.init = .initialized := Cond.initialized_spec (findClass_of_methodNamed hnamed) hkP hini
  have hlen : As.length = _ := hn.trans (Option.some.inj (k.2.2.2.symm.trans (by rw [hsigM]; rfl)))
  obtain ⟨vm₁, X₁, hstep₁⟩ := X.invokestatic C.1.1 C.1.2.2.2.1 (hin _ hl) hnamed hmethM hstatic hkP hinitP ⟨k.2.1, k.2.2.1⟩ (g := F0 m pc ls st0) rfl (argsL := As) (rest := rest) hlen hst (by rw [C.1.2.1]; exact hd)
  have hblind : FrameBlind (va_Pc As (fun U => U.heap.size = H.size ∧ va_P κ.1 (x_cl κ) (x_wd κ (F a)) U.heap ∧ va_K κ.1 (x_cl κ) (x_ty κ) U ∧ x_N U ∧ x_G U ∧ x_J U)) := fun a U g mk q => by
    obtain ⟨q0, q1, q2, q3, q4, q5, q6⟩ := q
    exact ⟨q0, q1, q2, va_K.moved (u := U) (U := U.calling g mk a) (Vm.Alike.refl U.vm) q3, va_tabs (A := #[]) (u := U) rfl rfl q4, x_GM (κ := κ) (U := U.calling g mk a) q2 (State.WarmedH.refl U) (fun _ _ _ => rfl) q5, q6.moved (u := U) (U := U.calling g mk a) (Vm.Alike.refl U.vm)⟩
  have hws : ∀ w ∈ (Cond.codeWith y bytes maxL ret hh :: x_Wd), ∀ (a' : Array Value) (U : State), s.WarmedH U.vm → w.before a' U = true := fun w hw a' U hW9 => by
    have hw' : w ∈ x_Wd := by
      rcases List.mem_cons.mp hw with rfl | h
      · exact k.1.2.2
      · exact h
    exact word_at hW9 (good_of_word (List.mem_filter.mp hw').2) (hin w hw')
  have hK : Back l R p e below s args y 3 8 (PreOf R mc ms (va_Pc As (fun U => U.heap.size = H.size ∧ va_P κ.1 (x_cl κ) (x_wd κ (F a)) U.heap ∧ va_K κ.1 (x_cl κ) (x_ty κ) U ∧ x_N U ∧ x_G U ∧ x_J U))) (PostOf (x_Q κ F (some v, a') H.size) mc ms (x_A κ H.size)) :=
    va_backW (hh := hh) (bytes := bytes) (maxL := maxL) (ret := ret) (hM H.size) hblind hrc hrs hfr hlo hws List.mem_cons_self (fun a' U hW9 => word_at hW9 (good_of_word rfl) hini)
  have hsz : (T.setVm vm₁).heap = H := hT
  obtain ⟨v9, ⟨U', l2, c2, s2⟩, X', ⟨g', mk', t, L, e1, e2, ⟨hv, hP', hz, hk⟩, h1, hL, h2, h3⟩, hsteps⟩ := hK m meth c ⟨T.setVm vm₁, locs, cells, slots⟩ { F0 m pc ls st0 with stack := rest } (.invokestatic index) mk As.toArray X₁ rfl (hl9.1.trans C.1.2.2.1.symm) (by rw [C.1.2.1]; exact hd) (by show 2 * 0 + (rest.map fun v => v.category).sum ≤ 8; omega) (X₁.named hnamed)
    ⟨hroom.1, hroom.2, rfl, by show (T.setVm vm₁).heap.size = H.size; rw [hsz], by show va_P _ _ _ (T.setVm vm₁).heap; rw [hsz]; exact hP, va_K.moved X₁.warmed.alike C.2.1, x_N.warm X₁.warmed C.2.2.2, x_GA (κ := κ) hap X₁.warmed (fun q h1 h2 => by show (T.setVm vm₁).heap[q]? = s.heap[q]?; rw [hsz]; exact hS.2.1 q h1 h2) hg, hj.moved X₁.warmed.alike⟩
  cases hv
  dsimp only [Pt.U, Pt.locs, Pt.cells, Pt.slots] at X' e1 e2 h1 h2 h3 hsteps hz hk
  subst h1; subst h2; subst h3
  have hz' : H.size ≤ U'.heap.size := by rw [e1, ← hsz]; exact hz
  have hk' : ∀ q : Nat, q < H.size → ¬ x_A κ H.size q → U'.heap[q]? = H[q]? := fun q h1 h2 => by
    have h9 := hk q (by show q < (T.setVm vm₁).heap.size; rw [hsz]; exact h1) h2
    rw [e1]
    refine h9.trans ?_
    show (T.setVm vm₁).heap[q]? = H[q]?
    rw [hsz]
  have hS' : va_S (x_A κ s.heap.size) s.heap U'.heap (locs ++ L) := by
    refine ⟨Nat.le_trans hS.1 hz', fun z h1 h2 => ?_, fun z hz1 => ?_⟩
    · rw [hk' z (Nat.lt_of_lt_of_le h1 hS.1) (fun h => h2 (h.elim Or.inl (fun h9 => absurd h9 (by have := hS.1; omega))))]
      exact hS.2.1 z h1 h2
    · rcases List.mem_append.mp hz1 with h | h
      · exact hS.2.2 z h
      · rcases hL z h with h9 | h9
        · exact Or.inl h9
        · exact Or.inr (Nat.le_trans hS.1 h9)
  obtain ⟨t2, a1, b1⟩ := kk U'.heap (locs ++ L) ls (by rw [e1]; exact hP') hS' hl9 U' rfl X'
  refine ⟨t2, ?_, b1⟩
  refine hstep₁ _ fun acts => ?_
  rw [doInvoke_state]
  exact hsteps.trans a1
end LawRows
