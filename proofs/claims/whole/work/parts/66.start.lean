/-! THE LAW'S START: classes, sites of throws, the first world -/
def x_inT (w : Cond) : Bool := x_w4 w || decide (w ∈ lw_tbl)
theorem x_it1 : (x_oa (x_ix "java/lang/IllegalArgumentException") (x_by "java/lang/IllegalArgumentException") "CheckedMachine" 44 "java/lang/IllegalArgumentException").all x_inT = true := by decide +kernel
theorem x_it2 : (x_oa (x_ix "java/lang/IllegalStateException") (x_by "java/lang/IllegalStateException") "CheckedMachine" 55 "java/lang/IllegalStateException").all x_inT = true := by decide +kernel
theorem x_it3 : (x_oa (x_ix "java/util/NoSuchElementException") (x_by "java/util/NoSuchElementException") "CheckedMachine" 67 "java/util/NoSuchElementException").all x_inT = true := by decide +kernel
theorem x_it4 : (x_oa (x_ix "java/lang/UnsupportedOperationException") (x_by "java/lang/UnsupportedOperationException") "CheckedMachine" 83 "java/lang/UnsupportedOperationException").all x_inT = true := by decide +kernel
theorem x_arrP {args : Array Value} {s : State} {ty : FieldType} (h : (Cond.arrayClass ty).before args s = true) (hra : ∀ c, s.vm.findClass ("[" ++ ty.toString) = some c → va_RA s c ty) : ∃ c : ClassId, ArrOfT s c ty ∧ va_RA s c ty := by
  obtain ⟨c, k, comp, h1, h2, h3⟩ := Cond.arrayClass_spec h
  exact ⟨c, fun N z => ⟨(fun q hq => by cases hq), k, h2, comp, h3⟩, hra c h1⟩
theorem x_arrO {s : State} {E : String} (h : va_AO E s) : ∃ c : ClassId, ArrOfT s c (.object E) ∧ va_RA s c (.object E) := by
  obtain ⟨comp, c, k, h1, h2, h3, h4, h5⟩ := Cond.arrayOver_spec h
  exact ⟨c, fun N z => ⟨(fun q hq => by cases hq), k, h3, comp, h4⟩, k, comp, h3, h4, h1, h5⟩
theorem x_arrA {s : State} (h : va_Nw (.arrayOver (.array .long)) s) : ∃ c : ClassId, ArrOfT s c (.array .long) ∧ va_RA s c (.array .long) := by
  obtain ⟨comp, c, k, h1, h3, h4, h5⟩ := Cond.arrayOver_specA h
  exact ⟨c, fun N z => ⟨(fun q hq => by cases hq), k, h3, comp, h4⟩, h5⟩
set_option maxHeartbeats 4000000 in
theorem x_hasK {args : Array Value} {s : State} (ht : ∀ w ∈ x_Wd, w.before args s = true) (hB : x_B s) : ∃ (D : va_G) (cA : Nat → ClassId), va_K D x_classes (x_tys cA) s := by
  have hts : ∀ w ∈ (Cond.initialized "CheckedMachineLaw" :: x_Wd), w.before args s = true := fun w hw => (List.mem_cons.mp hw).elim (fun e => by rw [e]; exact ht _ q_0) (ht w)
  obtain ⟨c0, i0, k0⟩ := u_known hts i_Ck (ht _ q_87)
  obtain ⟨c1, i1, k1⟩ := u_known hts i_Ef (ht _ q_124)
  obtain ⟨c2, i2, k2⟩ := u_known hts i_Gs (ht _ q_93)
  obtain ⟨c3, i3, k3⟩ := u_known hts i_Jg (ht _ q_111)
  obtain ⟨c4, i4, k4⟩ := u_known hts i_Pg (ht _ q_29)
  obtain ⟨c5, i5, k5⟩ := u_known hts i_Rn (ht _ q_176)
  obtain ⟨c6, i6, k6⟩ := u_known hts i_St (ht _ q_36)
  obtain ⟨c7, i7, k7⟩ := u_known hts i_CM (ht _ q_21)
  obtain ⟨c8, i8, k8⟩ := u_known hts i_Md (ht _ q_786)
  obtain ⟨a0, g0⟩ := x_arrP (ht _ q_108) (fun _ h => h)
  obtain ⟨a1, g1⟩ := x_arrP (ht _ q_109) (fun _ h => h)
  obtain ⟨a2, g2⟩ := x_arrP (ht _ q_174) (fun _ h => h)
  obtain ⟨a3, g3⟩ := x_arrO hB.2.2.1
  obtain ⟨a4, g4⟩ := x_arrO hB.2.2.2.1
  obtain ⟨a5, g5⟩ := x_arrA hB.2.2.2.2
  refine ⟨(fun k => match k with | 0 => c0 | 1 => c1 | 2 => c2 | 3 => c3 | 4 => c4 | 5 => c5 | 6 => c6 | 7 => c7 | _ => c8, fun k => match k with | 0 => i0 | 1 => i1 | 2 => i2 | 3 => i3 | 4 => i4 | 5 => i5 | 6 => i6 | 7 => i7 | _ => i8), (fun k => match k with | 0 => a0 | 1 => a1 | 2 => a2 | 3 => a3 | 4 => a4 | _ => a5), ?_, ?_⟩
  · intro c q hq
    match c, hq with
    | 0, hq => cases hq; exact k0
    | 1, hq => cases hq; exact k1
    | 2, hq => cases hq; exact k2
    | 3, hq => cases hq; exact k3
    | 4, hq => cases hq; exact k4
    | 5, hq => cases hq; exact k5
    | 6, hq => cases hq; exact k6
    | 7, hq => cases hq; exact k7
    | 8, hq => cases hq; exact k8
    | n + 9, hq => cases hq
  · intro c q hq
    match c, hq with
    | 0, hq => cases hq; exact g0
    | 1, hq => cases hq; exact g1
    | 2, hq => cases hq; exact g2
    | 3, hq => cases hq; exact g3
    | 4, hq => cases hq; exact g4
    | 5, hq => cases hq; exact g5
    | n + 6, hq => cases hq
theorem x_strR {args : Array Value} {s : State} {k : Nat} {tx : String} {cur : ClassId} (hc : s.vm.findClass "CheckedMachine" = some cur) (h : (Cond.stringRef "CheckedMachine" k tx).before args s = true) : ∃ sa, vk_R "CheckedMachine" k tx sa s := by
  obtain ⟨-, -, -, sa, -, -, -, -, -, hev⟩ := Cond.stringRef_spec hc h
  exact ⟨sa, vk_R.of h hev⟩
