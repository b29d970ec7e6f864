section SiteM
variable {κ : x_K}
theorem x_siteM {F : x_I → va_E} {s U : State} {ik is ic : Nat} {E text : String} (hkf : (x_oa (x_ix E) (x_by E) "CheckedMachine" ic E).all Cond.keepsFace = true) (hot : (Cond.classLink "CheckedMachine" ik E :: Cond.initialized E :: x_oa (x_ix E) (x_by E) "CheckedMachine" ic E).all x_wot = true)
    (hP : va_P κ.1 (x_cl κ) (x_wd κ F) s.heap) (hW : s.WarmedH U.vm) (hk : ∀ q : Nat, q < s.heap.size → ¬ x_A κ s.heap.size q → U.heap[q]? = s.heap[q]?) (h : x_site ik is ic E text s) : x_site ik is ic E text U := by
  intro A
  obtain ⟨⟨h1, h2, sa, h3⟩, h4⟩ := h A
  refine ⟨⟨word_at hW (good_of_word rfl) h1, word_at hW (good_of_word rfl) h2, sa, vk_R.warm hW h3⟩, ?_⟩
  have hs1 : ∀ w ∈ x_oa (x_ix E) (x_by E) "CheckedMachine" ic E, w.before A (s.setVm U.vm) = true := fun w hw => Cond.before_shiftedFace (State.Shifted.of_warmed hW) w (List.all_eq_true.mp hkf w hw) (h4 w hw)
  exact x_atoms (κ := κ) (s := s.setVm U.vm) (s' := U) hP rfl hk (List.all_eq_true.mpr fun w hw => List.all_eq_true.mp hot w (List.mem_cons_of_mem _ (List.mem_cons_of_mem _ hw))) (by simp [x_oa]) (by simp [x_oa]) (by simp [x_oa, Bundle.throwableAtoms]) (by simp [x_oa, Bundle.throwableAtoms]) hs1
theorem x_GM {F : x_I → va_E} {s U : State} (hP : va_P κ.1 (x_cl κ) (x_wd κ F) s.heap) (hW : s.WarmedH U.vm) (hk : ∀ q : Nat, q < s.heap.size → ¬ x_A κ s.heap.size q → U.heap[q]? = s.heap[q]?) (h : x_G s) : x_G U := by
  obtain ⟨h1, h2, h3, h4, h5, h6, h7, h8⟩ := h
  exact ⟨x_siteM x_kf1 x_ot1 hP hW hk h1, x_siteM x_kf1 x_ot1 hP hW hk h2, x_siteM x_kf1 x_ot1 hP hW hk h3, x_siteM x_kf1 x_ot1 hP hW hk h4, x_siteM x_kf2 x_ot2 hP hW hk h5, x_siteM x_kf2 x_ot2 hP hW hk h6, x_siteM x_kf3 x_ot3 hP hW hk h7, x_siteM x_kf4 x_ot4 hP hW hk h8⟩
end SiteM
section CallV
variable {p : Program} {l : Launch} {e : Env} {R : Room} {s : State} {m : MethodId} {args : Array Value} {below : List Frame} {meth : Method} {c : Code} {cells slots : Nat} {Q : State → Prop}
variable {cc : ByteArray} {nL : Nat} {own : String} {w0 : Cond} {κ : x_K} {pc : Nat} {lv : List (Nat × Value)}
theorem x_blindG {σ : Type} {F : σ → x_I → va_E} {vs : List Value} {a : σ} {sz : Nat} : FrameBlind (va_Pc vs (fun U => U.heap.size = sz ∧ va_P κ.1 (x_cl κ) (x_wd κ (F a)) U.heap ∧ va_K κ.1 (x_cl κ) (x_ty κ) U ∧ x_N U ∧ x_G U)) :=
  fun a U g mk q => by
    obtain ⟨q0, q1, q2, q3, q4, q5⟩ := q
    exact ⟨q0, q1, q2, va_K.moved (u := U) (U := U.calling g mk a) (Vm.Alike.refl U.vm) q3, va_tabs (A := #[]) (u := U) rfl rfl q4, x_GM (κ := κ) (U := U.calling g mk a) q2 (State.WarmedH.refl U) (fun _ _ _ => rfl) q5⟩
/-- the call returns -/
theorem x_cvR {σ : Type} {F : σ → x_I → va_E} {a a0 : σ} {Y : (Option Value × σ) ⊕ (String × σ)} {X : Option Value × σ} {maxL n index ci mc ms : Nat} {rest As : List Value} {y : MethodName} {rm : Room} {bytes : ByteArray} {ret : Option FieldType} {i : x_I} {vc : vw_C} {fs : List Value} {st0 : List Value}
    (C : x_C p s m args c cc nL own (w0 :: x_Wd) κ) (k : x_cal y bytes maxL ret n) (hl : Cond.methodLink own index y ∈ x_Wd) (hM : x_MT x_G l y (Cond.code y bytes maxL ret :: x_Wd) rm κ F (.ref (x_ad κ i) :: As) a Y mc ms) (hY : Y = .inl X) (hg0 : x_G s) (hP0 : va_P κ.1 (x_cl κ) (x_wd κ (F a0)) s.heap) (hrc : rm.cells = mc) (hrs : rm.slots = ms) (hfr : rm.frames + 1 ≤ R.frames) (hlo : 8 + (maxL + 11) + rm.locals ≤ R.locals)
    (hi : i ∈ x_ids κ) (hf : F a i = .inr (ci, fs)) (hc : (x_cl κ)[ci]? = some vc) (hcn : vc.1 = y.cls) (hn : As.length = n) (hst : st0 = As.reverse ++ .ref (x_ad κ i) :: rest) (hW : (rest.map fun v => v.category).sum ≤ 8) (hd : decode cc pc = .ok (.invokevirtual index, 3)) (hroom : cells + mc ≤ R.cells ∧ slots + ms ≤ R.slots)
    (kk : x_V p l e R s m args below meth c κ nL (cells + mc) (slots + ms) Q (F X.2) (pc + 3) lv (X.1.toList ++ rest)) : x_V p l e R s m args below meth c κ nL cells slots Q (F a) pc lv st0 := by
  subst hY
  intro H locs ls hP hS hl9
  have hMet : Met l y (Cond.code y bytes maxL ret :: x_Wd) rm (va_Pc (.ref (x_ad κ i) :: As) (fun U => U.heap.size = H.size ∧ va_P κ.1 (x_cl κ) (x_wd κ (F a)) U.heap ∧ va_K κ.1 (x_cl κ) (x_ty κ) U ∧ x_N U ∧ x_G U)) (x_Q κ F X H.size) mc ms (x_A κ H.size) := hM H.size
  obtain ⟨k9, hk9⟩ := x_at (f := F a) hi
  have hrecv := va_recv C.2.1 hP hc (hk9.trans (by rw [hf]))
  rw [hcn] at hrecv
  have hrun := va_runV (l := l) (e := e) (below := below) (meth := meth) (H := H) (locs := locs) (cells := cells) (slots := slots) (As := As) (rest := rest) (g := F0 m pc ls st0) C.1 hMet (x_cwV C k hl hrc hrs hfr hlo) ⟨x_blindG, hrecv, fun U hU hW => ⟨rfl, by rw [hU], by rw [hU]; exact hP, va_K.moved hW.alike C.2.1, x_N.warm hW C.2.2.2, x_GM (κ := κ) hP0 hW (fun q h1 h2 => by rw [hU]; exact hS.2.1 q h1 h2) hg0⟩⟩ rfl hn hl9.1 hst (lv_room hW) hd hroom
  intro T hT Y9
  obtain ⟨v, st₀, t, T', L, h0, Y', hL, e1, e2, ⟨hv, hP', hz, hk⟩, go⟩ := hrun T hT Y9
  cases hv
  rw [h0] at hz hk
  have hS' : va_S (x_A κ s.heap.size) s.heap T'.heap (locs ++ L) := by
    refine ⟨Nat.le_trans hS.1 (by rw [e1]; exact hz), fun z h1 h2 => ?_, fun z hz1 => ?_⟩
    · rw [e1, hk z (Nat.lt_of_lt_of_le h1 hS.1) (fun h => h2 (h.elim Or.inl (fun h9 => absurd h9 (by have := hS.1; omega))))]
      exact hS.2.1 z h1 h2
    · rcases List.mem_append.mp hz1 with h | h
      · exact hS.2.2 z h
      · rcases hL z h with h9 | h9
        · exact Or.inl h9
        · exact Or.inr (Nat.le_trans hS.1 h9)
  obtain ⟨t2, a1, b1⟩ := kk T'.heap (locs ++ L) ls (by rw [e1]; exact hP') hS' hl9 T' rfl Y'
  exact ⟨t2, go t2 a1, b1⟩
/-- the call throws; a row of this method's table takes it -/
theorem x_cvX {σ : Type} {F : σ → x_I → va_E} {a a0 u : σ} {Y : (Option Value × σ) ⊕ (String × σ)} {E : String} {maxL n index ci mc ms h : Nat} {rest As : List Value} {y : MethodName} {rm : Room} {bytes : ByteArray} {ret : Option FieldType} {i : x_I} {vc : vw_C} {fs : List Value} {st0 : List Value}
    (C : x_C p s m args c cc nL own (w0 :: x_Wd) κ) (k : x_cal y bytes maxL ret n) (hl : Cond.methodLink own index y ∈ x_Wd) (hM : x_MT x_G l y (Cond.code y bytes maxL ret :: x_Wd) rm κ F (.ref (x_ad κ i) :: As) a Y mc ms) (hY : Y = .inr (E, u)) (hg0 : x_G s) (hP0 : va_P κ.1 (x_cl κ) (x_wd κ (F a0)) s.heap) (hrc : rm.cells = mc) (hrs : rm.slots = ms) (hfr : rm.frames + 1 ≤ R.frames) (hlo : 8 + (maxL + 11) + rm.locals ≤ R.locals)
    (hi : i ∈ x_ids κ) (hf : F a i = .inr (ci, fs)) (hc : (x_cl κ)[ci]? = some vc) (hcn : vc.1 = y.cls) (hn : As.length = n) (hst : st0 = As.reverse ++ .ref (x_ad κ i) :: rest) (hW : (rest.map fun v => v.category).sum ≤ 8) (hd : decode cc pc = .ok (.invokevirtual index, 3)) (hroom : cells + mc ≤ R.cells ∧ slots + ms ≤ R.slots)
    (hs : ∀ (pl : Platform), pl.magicAccessors = ({} : Platform).magicAccessors → ∀ thrown, s.vm.findClass E = some thrown → x_srch pl s m.cls thrown pc c.exceptionTable.toList h)
    (kk : ∀ q : Nat, x_V p l e R s m args below meth c κ nL (cells + mc) (slots + ms) Q (F u) h lv [.ref q]) : x_V p l e R s m args below meth c κ nL cells slots Q (F a) pc lv st0 := by
  subst hY
  intro H locs ls hP hS hl9 T hT X
  obtain ⟨⟨-, -, -, -, hws, hcw, hcode, hini, hy, hlen, hlk⟩, hin, hse⟩ := x_cwV (R := R) (mc := mc) (ms := ms) C k hl hrc hrs hfr hlo
  obtain ⟨k9, hk9⟩ := x_at (f := F a) hi
  have hrecv := va_recv C.2.1 hP hc (hk9.trans (by rw [hf]))
  rw [hcn] at hrecv
  obtain ⟨cellB, hcell, hobj, hcls⟩ := hrecv
  obtain ⟨mk, methM, hnamed, hmethM, hstM, habM⟩ := Cond.instanceMethod_spec hin
  obtain ⟨methM', cM, hmethM', -, -, -, -, -, -, hsigM⟩ := Cond.code_spec hnamed hcode
  cases hmethM.symm.trans hmethM'
  obtain ⟨c2, r2, m2, q1, q2, q3, q4, kP, hkP, hkPi⟩ := Cond.selects_spec hse
  cases hcls.symm.trans q1
  cases (State.methodFound?_of_named hnamed hy).symm.trans q2
  cases hnamed.symm.trans q3
  have hselP : selectMethod e.platform s.vm cellB.cls mk = .method mk := by rw [Launch.admits_selectMethod X.admits]; exact q4
  obtain ⟨vm₁, X₁, hstep₁⟩ := X.invokevirtual C.1.1 C.1.2.2.2.1 hlk hnamed hmethM hstM hkP hkPi hy (a := x_ad κ i) (cell := cellB) (by rw [hT]; exact hcell)
    (fun z h => by rw [h] at hobj; cases hobj) hselP hmethM habM hkP hkPi (g := F0 m pc ls st0) rfl (argsL := As) (rest := rest) (hn.trans (hlen _ hsigM)) hst (by rw [C.1.2.1]; exact hd)
  have hsz : (T.setVm vm₁).heap = H := hT
  have hGc : x_G ((T.setVm vm₁).calling { F0 m pc ls st0 with stack := rest } mk (Value.ref (x_ad κ i) :: As).toArray) :=
    x_GM (κ := κ) (U := (T.setVm vm₁).calling { F0 m pc ls st0 with stack := rest } mk (Value.ref (x_ad κ i) :: As).toArray) hP0 X₁.warmed (fun q h1 h2 => (show (T.setVm vm₁).heap[q]? = s.heap[q]? by rw [hsz]; exact hS.2.1 q h1 h2)) hg0
  obtain ⟨q, ce, T', L, X', hL, hce, hcv, hcl, hP', hz, hk, st⟩ := x_thrown (κ := κ) (g := { F0 m pc ls st0 with stack := rest }) (ig := .invokevirtual index) (len := 3) hM X₁ rfl (hl9.1.trans C.1.2.2.1.symm) (by rw [C.1.2.1]; exact hd) (by show 2 * 0 + (rest.map fun v => v.category).sum ≤ 8; omega) (X₁.named hnamed) hws hcw
    (word_at X₁.warmed (good_of_word rfl) hini) hfr hlo hrc hrs hroom (by rw [hsz]; exact hP) (va_K.moved X₁.warmed.alike C.2.1) (x_N.warm X₁.warmed C.2.2.2) hGc
  rw [hsz] at hL hz hk
  have hpl : e.platform.magicAccessors = ({} : Platform).magicAccessors := by rw [X.admits.platform]
  obtain ⟨vm', X'', fin⟩ := x_caught X' q (g := { F0 m pc ls st0 with stack := rest }) rfl hce hcv (by obtain ⟨k9, h9, -⟩ := Vm.findClass_spec hcl; exact ⟨k9, h9⟩) (hs e.platform hpl _ hcl)
  have hS' : va_S (x_A κ s.heap.size) s.heap T'.heap (locs ++ L) := by
    refine ⟨Nat.le_trans hS.1 hz, fun z h1 h2 => ?_, fun z hz1 => ?_⟩
    · rw [hk z (Nat.lt_of_lt_of_le h1 hS.1) (fun h => h2 (h.elim Or.inl (fun h9 => absurd h9 (by have := hS.1; omega))))]
      exact hS.2.1 z h1 h2
    · rcases List.mem_append.mp hz1 with h | h
      · exact hS.2.2 z h
      · rcases hL z h with h9 | h9
        · exact Or.inl h9
        · exact Or.inr (Nat.le_trans hS.1 h9)
  obtain ⟨t2, a1, b1⟩ := kk q T'.heap (locs ++ L) ls hP' hS' hl9 (T'.setVm vm') rfl X''
  refine ⟨t2, ?_, b1⟩
  refine hstep₁ _ fun acts => ?_
  rw [doInvoke_state]
  exact st.trans (fin _ a1)
end CallV
