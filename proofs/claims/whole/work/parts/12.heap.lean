section HeapRows
variable {p : Program} {l : Launch} {e : Env} {R : Room} {s : State} {m : MethodId} {args : Array Value} {below : List Frame} {meth : Method} {c : Code} {cells slots : Nat} {Q : State → Prop}
variable {cc : ByteArray} {nL : Nat} {own : String} {Ts : List Cond} {κ : x_K} {f f' : x_I → va_E} {pc : Nat} {lv lv' : List (Nat × Value)} {st : List Value}
theorem x_get {i : x_I} {ci N index : Nat} {Cn : String} {T : u_T} {fs : List Value} {v : Value} (k : Nat) (C : x_C p s m args c cc nL own Ts κ) (hi : i ∈ x_ids κ) (hf : f i = .inr (ci, fs)) (hc : (x_cl κ)[ci]? = some (Cn, T, N)) (hin : ∀ w ∈ u_ws Cn T N, w ∈ Ts) (hk : k < N) (hlink : Cond.fieldLink own index (T k).1 (T k).2.1 (T k).2.2.1 ∈ Ts) (hv : fs[k]? = some v) (hd : decode cc pc = .ok (.getfield index, 3))
    (kk : x_V p l e R s m args below meth c κ nL cells slots Q f (pc + 3) lv (v :: st)) : x_V p l e R s m args below meth c κ nL cells slots Q f pc lv (.ref (x_ad κ i) :: st) := fun H locs ls hP hS hl => by
  obtain ⟨q, hq⟩ := x_at (f := f) hi
  exact va_get C.1.1 C.1.2.1 C.1.2.2.2.2 hin C.1.2.2.2.1 C.2.1 hP q (hq.trans (by rw [hf])) hc k hk (C.1.2.2.2.2 _ hlink) (fun _ h => h) hv hd (kk H locs ls hP hS hl)
theorem x_put {i : x_I} {ci N index : Nat} {Cn : String} {T : u_T} {ty : Nat → FieldType} {fs : List Value} {v : Value} (k : Nat) (C : x_C p s m args c cc nL own Ts κ) (hi : i ∈ x_ids κ) (hf : f i = .inr (ci, fs)) (hc : (x_cl κ)[ci]? = some (Cn, T, N)) (hin : ∀ w ∈ u_ws Cn T N, w ∈ Ts) (hty : ∀ k, k < N → parseFieldDescriptor (T k).2.2.1 = some (ty k)) (hnm : ∀ a, a < N → ∀ b, b < N → a ≠ b → (T a).2.1 ≠ (T b).2.1) (hk : k < N) (hlink : Cond.fieldLink own index (T k).1 (T k).2.1 (T k).2.2.1 ∈ Ts) (hfin : (T k).2.2.2 = false) (hn : narrow (ty k) v = v) (hfit : fits (ty k) v = true) (hl : k < fs.length) (hd : decode cc pc = .ok (.putfield index, 3)) (hF : x_up f i (.inr (ci, fs.set k v)) = f')
    (kk : x_V p l e R s m args below meth c κ nL cells slots Q f' (pc + 3) lv st) : x_V p l e R s m args below meth c κ nL cells slots Q f pc lv (v :: .ref (x_ad κ i) :: st) := fun H locs ls hP hS hl9 => by
  obtain ⟨q, hq⟩ := x_at (f := f) hi
  have hq' : (x_wd κ f)[q]? = some (x_ad κ i, .inr (ci, fs)) := hq.trans (by rw [hf])
  refine va_put (A := x_A κ s.heap.size) C.1.1 C.1.2.1 C.1.2.2.2.2 hin ty hty hnm C.1.2.2.2.1 C.2.1 hP (x_D C.2.2.1 f _) hS q hq' hc k hk (C.1.2.2.2.2 _ hlink) (fun _ h => h) hfin (hty k hk) hn hfit hl hd (fun H1 locs1 hP1 _ hS1 => ?_)
  rw [x_set C.2.2.1 hi hq, hF] at hP1
  exact kk H1 locs1 ls hP1 hS1 hl9
theorem x_iald {i : x_I} {cA : ClassId} {n : Nat} {g : Nat → Int32} {j : Int32} (t0 : Nat) (C : x_C p s m args c cc nL own Ts κ) (hi : i ∈ x_ids κ) (hf : f i = .inl (cA, n, .inl g)) (ht : (x_ty κ)[t0]? = some (cA, .int)) (hin : vp_in j n) (hd : decode cc pc = .ok (.iaload, 1))
    (kk : x_V p l e R s m args below meth c κ nL cells slots Q f (pc + 1) lv (.int (g j.toNatClampNeg) :: st)) : x_V p l e R s m args below meth c κ nL cells slots Q f pc lv (.int j :: .ref (x_ad κ i) :: st) := fun H locs ls hP hS hl => by
  obtain ⟨q, hq⟩ := x_at (f := f) hi
  exact va_iald C.1.1 C.1.2.1 C.2.1 hP q t0 (hq.trans (by rw [hf])) ht hin hd (kk H locs ls hP hS hl)
theorem x_zald {i : x_I} {cA : ClassId} {n : Nat} {g : Nat → Int32} {j : Int32} (t0 : Nat) (C : x_C p s m args c cc nL own Ts κ) (hi : i ∈ x_ids κ) (hf : f i = .inl (cA, n, .inl g)) (ht : (x_ty κ)[t0]? = some (cA, .boolean)) (hin : vp_in j n) (hd : decode cc pc = .ok (.baload, 1))
    (kk : x_V p l e R s m args below meth c κ nL cells slots Q f (pc + 1) lv (.int (g j.toNatClampNeg) :: st)) : x_V p l e R s m args below meth c κ nL cells slots Q f pc lv (.int j :: .ref (x_ad κ i) :: st) := fun H locs ls hP hS hl => by
  obtain ⟨q, hq⟩ := x_at (f := f) hi
  exact va_zald C.1.1 C.1.2.1 C.2.1 hP q t0 (hq.trans (by rw [hf])) ht hin hd (kk H locs ls hP hS hl)
theorem x_lald {i : x_I} {cA : ClassId} {n : Nat} {g : Nat → Int64} {j : Int32} (t0 : Nat) (C : x_C p s m args c cc nL own Ts κ) (hi : i ∈ x_ids κ) (hf : f i = .inl (cA, n, .inr (.inl g))) (ht : (x_ty κ)[t0]? = some (cA, .long)) (hin : vp_in j n) (hd : decode cc pc = .ok (.laload, 1))
    (kk : x_V p l e R s m args below meth c κ nL cells slots Q f (pc + 1) lv (.long (g j.toNatClampNeg) :: st)) : x_V p l e R s m args below meth c κ nL cells slots Q f pc lv (.int j :: .ref (x_ad κ i) :: st) := fun H locs ls hP hS hl => by
  obtain ⟨q, hq⟩ := x_at (f := f) hi
  exact va_lald C.1.1 C.1.2.1 C.2.1 hP q t0 (hq.trans (by rw [hf])) ht hin hd (kk H locs ls hP hS hl)
theorem x_aald {i : x_I} {cA : ClassId} {C9 : String} {n : Nat} {g : Nat → Option Nat} {j : Int32} (t0 : Nat) (C : x_C p s m args c cc nL own Ts κ) (hi : i ∈ x_ids κ) (hf : f i = .inl (cA, n, .inr (.inr (.inr (.inr g))))) (ht : (x_ty κ)[t0]? = some (cA, .object C9)) (hin : vp_in j n) (hd : decode cc pc = .ok (.aaload, 1))
    (kk : x_V p l e R s m args below meth c κ nL cells slots Q f (pc + 1) lv (va_rf (g j.toNatClampNeg) :: st)) : x_V p l e R s m args below meth c κ nL cells slots Q f pc lv (.int j :: .ref (x_ad κ i) :: st) := fun H locs ls hP hS hl => by
  obtain ⟨q, hq⟩ := x_at (f := f) hi
  exact va_aldq C.1.1 C.1.2.1 C.2.1 hP q t0 (hq.trans (by rw [hf])) ht hin hd (kk H locs ls hP hS hl)
theorem x_iast {i : x_I} {cA : ClassId} {n : Nat} {g : Nat → Int32} {j x : Int32} (t0 : Nat) (C : x_C p s m args c cc nL own Ts κ) (hi : i ∈ x_ids κ) (hf : f i = .inl (cA, n, .inl g)) (ht : (x_ty κ)[t0]? = some (cA, .int)) (hin : vp_in j n) (hd : decode cc pc = .ok (.iastore, 1)) (hF : x_up f i (.inl (cA, n, .inl (upd g j.toNatClampNeg x))) = f')
    (kk : x_V p l e R s m args below meth c κ nL cells slots Q f' (pc + 1) lv st) : x_V p l e R s m args below meth c κ nL cells slots Q f pc lv (.int x :: .int j :: .ref (x_ad κ i) :: st) := fun H locs ls hP hS hl => by
  obtain ⟨q, hq⟩ := x_at (f := f) hi
  refine va_iast (A := x_A κ s.heap.size) C.1.1 C.1.2.1 C.2.1 hP (x_D C.2.2.1 f _) hS q t0 (hq.trans (by rw [hf])) ht hin hd (fun H1 locs1 hP1 _ hS1 => ?_)
  rw [x_set C.2.2.1 hi hq, hF] at hP1
  exact kk H1 locs1 ls hP1 hS1 hl
theorem x_zast {i : x_I} {cA : ClassId} {n : Nat} {g : Nat → Int32} {j x : Int32} (t0 : Nat) (C : x_C p s m args c cc nL own Ts κ) (hi : i ∈ x_ids κ) (hf : f i = .inl (cA, n, .inl g)) (ht : (x_ty κ)[t0]? = some (cA, .boolean)) (hin : vp_in j n) (hd : decode cc pc = .ok (.bastore, 1)) (hF : x_up f i (.inl (cA, n, .inl (upd g j.toNatClampNeg (vp_nar .boolean x)))) = f')
    (kk : x_V p l e R s m args below meth c κ nL cells slots Q f' (pc + 1) lv st) : x_V p l e R s m args below meth c κ nL cells slots Q f pc lv (.int x :: .int j :: .ref (x_ad κ i) :: st) := fun H locs ls hP hS hl => by
  obtain ⟨q, hq⟩ := x_at (f := f) hi
  refine va_zast (A := x_A κ s.heap.size) C.1.1 C.1.2.1 C.2.1 hP (x_D C.2.2.1 f _) hS q t0 (hq.trans (by rw [hf])) ht hin hd (fun H1 locs1 hP1 _ hS1 => ?_)
  rw [x_set C.2.2.1 hi hq, hF] at hP1
  exact kk H1 locs1 ls hP1 hS1 hl
theorem x_last {i : x_I} {cA : ClassId} {n : Nat} {g : Nat → Int64} {j : Int32} {x : Int64} (t0 : Nat) (C : x_C p s m args c cc nL own Ts κ) (hi : i ∈ x_ids κ) (hf : f i = .inl (cA, n, .inr (.inl g))) (ht : (x_ty κ)[t0]? = some (cA, .long)) (hin : vp_in j n) (hd : decode cc pc = .ok (.lastore, 1)) (hF : x_up f i (.inl (cA, n, .inr (.inl (vp_updL g j.toNatClampNeg x)))) = f')
    (kk : x_V p l e R s m args below meth c κ nL cells slots Q f' (pc + 1) lv st) : x_V p l e R s m args below meth c κ nL cells slots Q f pc lv (.long x :: .int j :: .ref (x_ad κ i) :: st) := fun H locs ls hP hS hl => by
  obtain ⟨q, hq⟩ := x_at (f := f) hi
  refine va_last (A := x_A κ s.heap.size) C.1.1 C.1.2.1 C.2.1 hP (x_D C.2.2.1 f _) hS q t0 (hq.trans (by rw [hf])) ht hin hd (fun H1 locs1 hP1 _ hS1 => ?_)
  rw [x_set C.2.2.1 hi hq, hF] at hP1
  exact kk H1 locs1 ls hP1 hS1 hl
theorem x_alen {i : x_I} {cA : ClassId} {x : vp_A} {ty : FieldType} {v : Int32} (t0 : Nat) (C : x_C p s m args c cc nL own Ts κ) (hi : i ∈ x_ids κ) (hf : f i = .inl (cA, x)) (ht : (x_ty κ)[t0]? = some (cA, ty)) (hv : Int32.ofNat x.1 = v) (hd : decode cc pc = .ok (.arraylength, 1))
    (kk : x_V p l e R s m args below meth c κ nL cells slots Q f (pc + 1) lv (.int v :: st)) : x_V p l e R s m args below meth c κ nL cells slots Q f pc lv (.ref (x_ad κ i) :: st) := fun H locs ls hP hS hl => by
  obtain ⟨q, hq⟩ := x_at (f := f) hi
  exact va_alen C.1.1 C.1.2.1 C.2.1 hP q t0 (hq.trans (by rw [hf])) ht hv hd (kk H locs ls hP hS hl)
theorem x_aaldA {i : x_I} {cA : ClassId} {t9 : FieldType} {n : Nat} {g : Nat → Option Nat} {j : Int32} (t0 : Nat) (C : x_C p s m args c cc nL own Ts κ) (hi : i ∈ x_ids κ) (hf : f i = .inl (cA, n, .inr (.inr (.inr (.inr g))))) (ht : (x_ty κ)[t0]? = some (cA, .array t9)) (hin : vp_in j n) (hd : decode cc pc = .ok (.aaload, 1))
    (kk : x_V p l e R s m args below meth c κ nL cells slots Q f (pc + 1) lv (va_rf (g j.toNatClampNeg) :: st)) : x_V p l e R s m args below meth c κ nL cells slots Q f pc lv (.int j :: .ref (x_ad κ i) :: st) := fun H locs ls hP hS hl => by
  obtain ⟨q, hq⟩ := x_at (f := f) hi
  have hlt : j.toNatClampNeg < n := Nat.not_le.mp fun q => hin (Or.inr q)
  have hat : H[x_ad κ i]? = some (vp_cell cA (n, .inr (.inr (.inr (.inr g))))) := hP q (x_ad κ i, .inl (cA, n, .inr (.inr (.inr (.inr g))))) (hq.trans (by rw [hf]))
  exact W.aald (v := va_rf (g j.toNatClampNeg)) (ty := .array t9) C.1.1 C.1.2.1 hat ((C.2.1.2 t0 _ ht).1 n (fun j => va_rf (g j))) rfl (fun q => by cases q) (by show ¬ (j < 0 ∨ (arrV _ _ _).slots.size ≤ _); rw [arrV_size]; exact hin) (by show (arrV _ _ _).slots[_]? = _; rw [arrV_read _ _ hlt]) rfl rfl hd (kk H locs ls hP hS hl)
theorem x_copyi {i i' : x_I} {cA : ClassId} {n : Nat} {g g' : Nat → Int32} {index : Nat} {k : Int32} (t0 : Nat) (C : x_C p s m args c cc nL own Ts κ) (hlink : Cond.methodLink own index arraycopyName ∈ Ts) (hnat : Cond.native arraycopyName ∈ Ts) (hstat : Cond.static arraycopyName ∈ Ts) (hini : Cond.initialized "java/lang/System" ∈ Ts) (hi : i ∈ x_ids κ) (hi' : i' ∈ x_ids κ) (hf : f i = .inl (cA, n, .inl g)) (hf2 : f i' = .inl (cA, n, .inl g')) (ht : (x_ty κ)[t0]? = some (cA, .int)) (hk : ¬ k < 0) (hkn : (0 : Int32).toNatClampNeg + k.toNatClampNeg ≤ n) (hframes : 1 ≤ R.frames) (hlocals : (st.map fun v => v.category).sum + (nativeFrameWords "java/lang/System" "arraycopy" 5 + 11) ≤ R.locals) (hd : decode cc pc = .ok (.invokestatic index, 3)) (hF : x_up f i' (.inl (cA, n, .inl (va_cpy g g' 0 0 k.toNatClampNeg))) = f')
    (kk : x_V p l e R s m args below meth c κ nL cells slots Q f' (pc + 3) lv st) : x_V p l e R s m args below meth c κ nL cells slots Q f pc lv (.int k :: .int 0 :: .ref (x_ad κ i') :: .int 0 :: .ref (x_ad κ i) :: st) := fun H locs ls hP hS hl => by
  obtain ⟨q, hq⟩ := x_at (f := f) hi
  obtain ⟨q', hq'⟩ := x_at (f := f) hi'
  refine va_copyi (A := x_A κ s.heap.size) C.1.1 C.1.2.1 (C.1.2.2.1.trans hl.1.symm) C.1.2.2.2.1 (C.1.2.2.2.2 _ hlink) (C.1.2.2.2.2 _ hnat) (C.1.2.2.2.2 _ hstat) (C.1.2.2.2.2 _ hini) C.2.1 hP (x_D C.2.2.1 f _) hS q q' t0 t0 (hq.trans (by rw [hf])) (hq'.trans (by rw [hf2])) ht ht rfl (by decide) (by decide) hk hkn hkn (fun _ _ => rfl) hframes hlocals hd (fun H1 locs1 hP1 _ hS1 => ?_)
  rw [x_set C.2.2.1 hi' hq'] at hP1
  have hP2 : va_P κ.1 (x_cl κ) (x_wd κ f') H1 := by rw [← hF]; exact hP1
  exact kk H1 locs1 ls hP2 hS1 hl
theorem x_copyl {i i' : x_I} {cA : ClassId} {n : Nat} {g g' : Nat → Int64} {index : Nat} {k : Int32} (t0 : Nat) (C : x_C p s m args c cc nL own Ts κ) (hlink : Cond.methodLink own index arraycopyName ∈ Ts) (hnat : Cond.native arraycopyName ∈ Ts) (hstat : Cond.static arraycopyName ∈ Ts) (hini : Cond.initialized "java/lang/System" ∈ Ts) (hi : i ∈ x_ids κ) (hi' : i' ∈ x_ids κ) (hf : f i = .inl (cA, n, .inr (.inl g))) (hf2 : f i' = .inl (cA, n, .inr (.inl g'))) (ht : (x_ty κ)[t0]? = some (cA, .long)) (hk : ¬ k < 0) (hkn : (0 : Int32).toNatClampNeg + k.toNatClampNeg ≤ n) (hframes : 1 ≤ R.frames) (hlocals : (st.map fun v => v.category).sum + (nativeFrameWords "java/lang/System" "arraycopy" 5 + 11) ≤ R.locals) (hd : decode cc pc = .ok (.invokestatic index, 3)) (hF : x_up f i' (.inl (cA, n, .inr (.inl (va_cpy g g' 0 0 k.toNatClampNeg)))) = f')
    (kk : x_V p l e R s m args below meth c κ nL cells slots Q f' (pc + 3) lv st) : x_V p l e R s m args below meth c κ nL cells slots Q f pc lv (.int k :: .int 0 :: .ref (x_ad κ i') :: .int 0 :: .ref (x_ad κ i) :: st) := fun H locs ls hP hS hl => by
  obtain ⟨q, hq⟩ := x_at (f := f) hi
  obtain ⟨q', hq'⟩ := x_at (f := f) hi'
  refine va_copyl (A := x_A κ s.heap.size) C.1.1 C.1.2.1 (C.1.2.2.1.trans hl.1.symm) C.1.2.2.2.1 (C.1.2.2.2.2 _ hlink) (C.1.2.2.2.2 _ hnat) (C.1.2.2.2.2 _ hstat) (C.1.2.2.2.2 _ hini) C.2.1 hP (x_D C.2.2.1 f _) hS q q' t0 t0 (hq.trans (by rw [hf])) (hq'.trans (by rw [hf2])) ht ht rfl (by decide) (by decide) hk hkn hkn (fun _ _ => rfl) hframes hlocals hd (fun H1 locs1 hP1 _ hS1 => ?_)
  rw [x_set C.2.2.1 hi' hq'] at hP1
  have hP2 : va_P κ.1 (x_cl κ) (x_wd κ f') H1 := by rw [← hF]; exact hP1
  exact kk H1 locs1 ls hP2 hS1 hl
-- switches
theorem x_tsw {dflt lo hi : Int} {offs : Array Int} {len : Nat} {x : Int32} {off : Int} (tgt : Nat) (C : x_C p s m args c cc nL own Ts κ) (hd : decode cc pc = .ok (.tableswitch dflt lo hi offs, len)) (h1 : ¬ x.toInt < lo) (h2 : ¬ hi < x.toInt) (ho : offs[(x.toInt - lo).toNat]? = some off) (ht : (pc : Int) + off = (tgt : Int))
    (k : x_V p l e R s m args below meth c κ nL cells slots Q f tgt lv st) : x_V p l e R s m args below meth c κ nL cells slots Q f pc lv (.int x :: st) := fun H locs ls hP hS hl => lv_tableIn C.1.1 C.1.2.1 hd h1 h2 ho ht (k H locs ls hP hS hl)
theorem x_tswD {dflt lo hi : Int} {offs : Array Int} {len : Nat} {x : Int32} (tgt : Nat) (C : x_C p s m args c cc nL own Ts κ) (hd : decode cc pc = .ok (.tableswitch dflt lo hi offs, len)) (h : x.toInt < lo ∨ hi < x.toInt) (ht : (pc : Int) + dflt = (tgt : Int))
    (k : x_V p l e R s m args below meth c κ nL cells slots Q f tgt lv st) : x_V p l e R s m args below meth c κ nL cells slots Q f pc lv (.int x :: st) := fun H locs ls hP hS hl => lv_tableOut C.1.1 C.1.2.1 hd h ht (k H locs ls hP hS hl)
theorem x_lsw {dflt : Int} {ps : Array (Int × Int)} {len : Nat} {x : Int32} {off : Int} (tgt : Nat) (C : x_C p s m args c cc nL own Ts κ) (hd : decode cc pc = .ok (.lookupswitch dflt ps, len)) (hp : (ps.toList.zip (ps.toList.drop 1)).all (fun (a, next) => a.1 < next.1) = true) (ho : Op.lookupswitch.offset ps.toList dflt x.toInt = off) (ht : (pc : Int) + off = (tgt : Int))
    (k : x_V p l e R s m args below meth c κ nL cells slots Q f tgt lv st) : x_V p l e R s m args below meth c κ nL cells slots Q f pc lv (.int x :: st) := fun H locs ls hP hS hl => lv_lookup C.1.1 C.1.2.1 hd hp ho ht (k H locs ls hP hS hl)
-- answers
theorem x_iret {σ τ : Type} {F : σ → x_I → va_E} {wr : τ → Option Value × σ} {q : τ} {a : σ} {v : Int32} (C : x_C p s m args c cc nL own Ts κ) (hr : meth.sig.returnType = some .int) (hlocks : meth.locks = false) (hX : wr q = (some (.int v), a)) (hd : decode cc pc = .ok (.ireturn, 1)) : x_V p l e R s m args below meth c κ nL cells slots (x_E below κ args s cells slots F wr q) (F a) pc lv [.int v] := fun H locs ls hP hS hl => by
  unfold x_E
  rw [hX]
  exact W.iret C.1.1 C.1.2.1 hr (fun t ht hW => ⟨rfl, by rw [ht]; exact hP, hS.F ht⟩) hS.2.2 hd hlocks
theorem x_zret {σ τ : Type} {F : σ → x_I → va_E} {wr : τ → Option Value × σ} {q : τ} {a : σ} {v : Int32} {ty : FieldType} (C : x_C p s m args c cc nL own Ts κ) (hr : meth.sig.returnType = some ty) (hlocks : meth.locks = false) (hn : narrow ty (.int v) = .int v) (hX : wr q = (some (.int v), a)) (hd : decode cc pc = .ok (.ireturn, 1)) : x_V p l e R s m args below meth c κ nL cells slots (x_E below κ args s cells slots F wr q) (F a) pc lv [.int v] := fun H locs ls hP hS hl => by
  unfold x_E
  rw [hX]
  exact W.zret C.1.1 C.1.2.1 hr hn (fun t ht hW => ⟨rfl, by rw [ht]; exact hP, hS.F ht⟩) hS.2.2 hd hlocks
theorem x_lret {σ τ : Type} {F : σ → x_I → va_E} {wr : τ → Option Value × σ} {q : τ} {a : σ} {v : Int64} (C : x_C p s m args c cc nL own Ts κ) (hr : meth.sig.returnType = some .long) (hlocks : meth.locks = false) (hX : wr q = (some (.long v), a)) (hd : decode cc pc = .ok (.lreturn, 1)) : x_V p l e R s m args below meth c κ nL cells slots (x_E below κ args s cells slots F wr q) (F a) pc lv [.long v] := fun H locs ls hP hS hl => by
  unfold x_E
  rw [hX]
  exact W.lret C.1.1 C.1.2.1 hr (fun t ht hW => ⟨rfl, by rw [ht]; exact hP, hS.F ht⟩) hS.2.2 hd hlocks
theorem x_vret {σ τ : Type} {F : σ → x_I → va_E} {wr : τ → Option Value × σ} {q : τ} {a : σ} (C : x_C p s m args c cc nL own Ts κ) (hr : meth.sig.returnType = none) (hlocks : meth.locks = false) (hX : wr q = (none, a)) (hd : decode cc pc = .ok (.return_, 1)) : x_V p l e R s m args below meth c κ nL cells slots (x_E below κ args s cells slots F wr q) (F a) pc lv [] := fun H locs ls hP hS hl => by
  unfold x_E
  rw [hX]
  exact W.vret C.1.1 C.1.2.1 hr (fun t ht hW => ⟨rfl, by rw [ht]; exact hP, hS.F ht⟩) hS.2.2 hd hlocks
theorem x_aret {σ τ : Type} {F : σ → x_I → va_E} {wr : τ → Option Value × σ} {q : τ} {a : σ} {v : Value} {n : String} (C : x_C p s m args c cc nL own Ts κ) (hr : meth.sig.returnType = some (.object n)) (hlocks : meth.locks = false) (hv : v = .null ∨ ∃ a, v = .ref a) (hX : wr q = (some v, a)) (hd : decode cc pc = .ok (.areturn, 1)) : x_V p l e R s m args below meth c κ nL cells slots (x_E below κ args s cells slots F wr q) (F a) pc lv [v] := fun H locs ls hP hS hl => by
  unfold x_E
  rw [hX]
  exact W.aret C.1.1 C.1.2.1 hr (Or.inl ⟨n, rfl⟩) hv (fun t ht hW => ⟨rfl, by rw [ht]; exact hP, hS.F ht⟩) hS.2.2 hd hlocks
-- Math.max and min of longs
theorem x_maxl {index : Nat} {x y : Int64} (C : x_C p s m args c cc nL own Ts κ) (hlink : Cond.methodLink own index Lib.MathLoose.max_long.x ∈ Ts) (hstat : Cond.static Lib.MathLoose.max_long.x ∈ Ts) (hini : Cond.initialized "java/lang/Math" ∈ Ts) (hcode : Cond.code Lib.MathLoose.max_long.x Lib.MathLoose.max_long.code 4 (some .long) ∈ Ts) (hframes : 1 ≤ R.frames) (hlocals : (st.map fun v => v.category).sum + 15 ≤ R.locals) (hc : cells ≤ R.cells) (hs : slots ≤ R.slots) (hd : decode cc pc = .ok (.invokestatic index, 3))
    (kk : x_V p l e R s m args below meth c κ nL cells slots Q f (pc + 3) lv (.long (if y < x then x else y) :: st)) : x_V p l e R s m args below meth c κ nL cells slots Q f pc lv (.long y :: .long x :: st) := fun H locs ls hP hS hl =>
  va_mmax_long C.1.1 C.1.2.1 (C.1.2.2.1.trans hl.1.symm) C.1.2.2.2.1 (C.1.2.2.2.2 _ hlink) (C.1.2.2.2.2 _ hstat) (C.1.2.2.2.2 _ hini) (C.1.2.2.2.2 _ hcode) hframes hlocals hc hs hd (kk H locs ls hP hS hl)
theorem x_minl {index : Nat} {x y : Int64} (C : x_C p s m args c cc nL own Ts κ) (hlink : Cond.methodLink own index Lib.MathLoose.min_long.x ∈ Ts) (hstat : Cond.static Lib.MathLoose.min_long.x ∈ Ts) (hini : Cond.initialized "java/lang/Math" ∈ Ts) (hcode : Cond.code Lib.MathLoose.min_long.x Lib.MathLoose.min_long.code 4 (some .long) ∈ Ts) (hframes : 1 ≤ R.frames) (hlocals : (st.map fun v => v.category).sum + 15 ≤ R.locals) (hc : cells ≤ R.cells) (hs : slots ≤ R.slots) (hd : decode cc pc = .ok (.invokestatic index, 3))
    (kk : x_V p l e R s m args below meth c κ nL cells slots Q f (pc + 3) lv (.long (if y < x then y else x) :: st)) : x_V p l e R s m args below meth c κ nL cells slots Q f pc lv (.long y :: .long x :: st) := fun H locs ls hP hS hl =>
  va_mmin_long C.1.1 C.1.2.1 (C.1.2.2.1.trans hl.1.symm) C.1.2.2.2.1 (C.1.2.2.2.2 _ hlink) (C.1.2.2.2.2 _ hstat) (C.1.2.2.2.2 _ hini) (C.1.2.2.2.2 _ hcode) hframes hlocals hc hs hd (kk H locs ls hP hS hl)
end HeapRows
