/-! GLUE: calls by the one list of words; names for what comes of a call; small facts -/
def x_let {α τ : Type} (v : α) (k : α → τ) : τ := k v
def x_rv (ad : x_I → Nat) (n : Nat) (o : Option Nat) : Value := match o with
  | none => .null
  | some j => .ref (ad (n, j))
/-- what a callee's words are -/
def x_cal (y : MethodName) (bytes : ByteArray) (maxL : Nat) (ret : Option FieldType) (n : Nat) : Prop :=
  (Cond.instanceMethod y ∈ x_Wd ∧ Cond.selects y.cls y y ∈ x_Wd ∧ Cond.initialized y.cls ∈ x_Wd ∧ Cond.code y bytes maxL ret ∈ x_Wd) ∧ (y.cls ≠ "java/lang/invoke/MethodHandle" ∧ y.cls ≠ "java/lang/invoke/VarHandle" ∧ (parseMethodDescriptor y.desc).map (fun d => d.parameters.length) = some n)
def x_calS (y : MethodName) (bytes : ByteArray) (maxL : Nat) (ret : Option FieldType) (n : Nat) : Prop :=
  (Cond.static y ∈ x_Wd ∧ Cond.initialized y.cls ∈ x_Wd ∧ Cond.code y bytes maxL ret ∈ x_Wd) ∧ (y.cls ≠ "java/lang/invoke/MethodHandle" ∧ y.cls ≠ "java/lang/invoke/VarHandle" ∧ (parseMethodDescriptor y.desc).map (fun d => d.parameters.length) = some n)
theorem x_good {w0 : Cond} {L : List Cond} (h : ∀ w ∈ L, w ∈ x_Wd) : GoodIn (w0 :: x_Wd) L := fun w hw => ⟨List.mem_cons_of_mem _ (h w hw), good_of_word (List.mem_filter.mp (h w hw)).2⟩
section Glue
variable {p : Program} {l : Launch} {e : Env} {R : Room} {s : State} {m : MethodId} {args : Array Value} {below : List Frame} {meth : Method} {c : Code} {cells slots : Nat} {Q : State → Prop}
variable {cc : ByteArray} {nL : Nat} {own : String} {w0 : Cond} {κ : x_K} {pc : Nat} {lv : List (Nat × Value)}
theorem x_cwV {y : MethodName} {bytes : ByteArray} {maxL n index mc ms : Nat} {ret : Option FieldType} {rm : Room} (C : x_C p s m args c cc nL own (w0 :: x_Wd) κ) (k : x_cal y bytes maxL ret n) (hl : Cond.methodLink own index y ∈ x_Wd) (hrc : rm.cells = mc) (hrs : rm.slots = ms) (hf : rm.frames + 1 ≤ R.frames) (hlo : 8 + (maxL + 11) + rm.locals ≤ R.locals) : CallW R s args own y.cls index y bytes maxL ret (Cond.code y bytes maxL ret :: x_Wd) rm mc ms n := by
  refine cwV n C.1.2.2.2.2 (x_good (fun w hw => ?_)) rfl hrc hrs ⟨rfl, k.2⟩ ⟨hf, hlo⟩
  simp only [wsV, List.cons_append, List.nil_append, List.mem_cons] at hw
  rcases hw with rfl | rfl | rfl | rfl | rfl | hw
  · exact hl
  · exact k.1.1
  · exact k.1.2.1
  · exact k.1.2.2.1
  · exact k.1.2.2.2
  · exact hw
theorem x_cwS {y : MethodName} {bytes : ByteArray} {maxL n index mc ms : Nat} {ret : Option FieldType} {rm : Room} (C : x_C p s m args c cc nL own (w0 :: x_Wd) κ) (k : x_calS y bytes maxL ret n) (hl : Cond.methodLink own index y ∈ x_Wd) (hrc : rm.cells = mc) (hrs : rm.slots = ms) (hf : rm.frames + 1 ≤ R.frames) (hlo : 8 + (maxL + 11) + rm.locals ≤ R.locals) : CallB R s args own index y bytes maxL ret (Cond.code y bytes maxL ret :: x_Wd) rm mc ms n ∧ (Cond.static y).before args s = true := by
  refine va_cwS n C.1.2.2.2.2 (x_good (fun w hw => ?_)) rfl hrc hrs k.2 ⟨hf, hlo⟩
  simp only [va_wsS, List.cons_append, List.nil_append, List.mem_cons] at hw
  rcases hw with rfl | rfl | rfl | rfl | hw
  · exact hl
  · exact k.1.1
  · exact k.1.2.1
  · exact k.1.2.2
  · exact hw
theorem x_cv {σ : Type} {F : σ → x_I → va_E} {a a' : σ} {X : Option Value × σ} {v : Value} {maxL n index ci : Nat} {rest As : List Value} {y : MethodName} {rm : Room} {bytes : ByteArray} {ret : Option FieldType} {i : x_I} {vc : vw_C} {fs : List Value} {st0 : List Value}
    (C : x_C p s m args c cc nL own (w0 :: x_Wd) κ) (k : x_cal y bytes maxL ret n) (hl : Cond.methodLink own index y ∈ x_Wd) (hM : x_M l y (Cond.code y bytes maxL ret :: x_Wd) rm κ F (.ref (x_ad κ i) :: As) a X 0 0) (hX : X = (some v, a')) (hrc : rm.cells = 0) (hrs : rm.slots = 0) (hfr : rm.frames + 1 ≤ R.frames) (hlo : 8 + (maxL + 11) + rm.locals ≤ R.locals)
    (hi : i ∈ x_ids κ) (hf : F a i = .inr (ci, fs)) (hc : (x_cl κ)[ci]? = some vc) (hcn : vc.1 = y.cls) (hn : As.length = n) (hst : st0 = As.reverse ++ .ref (x_ad κ i) :: rest) (hW : (rest.map fun v => v.category).sum ≤ 8) (hd : decode cc pc = .ok (.invokevirtual index, 3)) (hroom : cells ≤ R.cells ∧ slots ≤ R.slots)
    (kk : x_V p l e R s m args below meth c κ nL cells slots Q (F a') (pc + 3) lv (v :: rest)) : x_V p l e R s m args below meth c κ nL cells slots Q (F a) pc lv st0 :=
  x_callVv C hM hX (x_cwV C k hl hrc hrs hfr hlo) hi hf hc hcn hn hst hW hd hroom kk
theorem x_cv0 {σ : Type} {F : σ → x_I → va_E} {a a' : σ} {X : Option Value × σ} {maxL n index ci : Nat} {rest As : List Value} {y : MethodName} {rm : Room} {bytes : ByteArray} {ret : Option FieldType} {i : x_I} {vc : vw_C} {fs : List Value} {st0 : List Value}
    (C : x_C p s m args c cc nL own (w0 :: x_Wd) κ) (k : x_cal y bytes maxL ret n) (hl : Cond.methodLink own index y ∈ x_Wd) (hM : x_M l y (Cond.code y bytes maxL ret :: x_Wd) rm κ F (.ref (x_ad κ i) :: As) a X 0 0) (hX : X = (none, a')) (hrc : rm.cells = 0) (hrs : rm.slots = 0) (hfr : rm.frames + 1 ≤ R.frames) (hlo : 8 + (maxL + 11) + rm.locals ≤ R.locals)
    (hi : i ∈ x_ids κ) (hf : F a i = .inr (ci, fs)) (hc : (x_cl κ)[ci]? = some vc) (hcn : vc.1 = y.cls) (hn : As.length = n) (hst : st0 = As.reverse ++ .ref (x_ad κ i) :: rest) (hW : (rest.map fun v => v.category).sum ≤ 8) (hd : decode cc pc = .ok (.invokevirtual index, 3)) (hroom : cells ≤ R.cells ∧ slots ≤ R.slots)
    (kk : x_V p l e R s m args below meth c κ nL cells slots Q (F a') (pc + 3) lv rest) : x_V p l e R s m args below meth c κ nL cells slots Q (F a) pc lv st0 :=
  x_callV0 C hM hX (x_cwV C k hl hrc hrs hfr hlo) hi hf hc hcn hn hst hW hd hroom kk
theorem x_cs {σ : Type} {F : σ → x_I → va_E} {a a' : σ} {X : Option Value × σ} {v : Value} {maxL n index : Nat} {rest As : List Value} {y : MethodName} {rm : Room} {bytes : ByteArray} {ret : Option FieldType} {st0 : List Value}
    (C : x_C p s m args c cc nL own (w0 :: x_Wd) κ) (k : x_calS y bytes maxL ret n) (hl : Cond.methodLink own index y ∈ x_Wd) (hM : x_M l y (Cond.code y bytes maxL ret :: x_Wd) rm κ F As a X 0 0) (hX : X = (some v, a')) (hrc : rm.cells = 0) (hrs : rm.slots = 0) (hfr : rm.frames + 1 ≤ R.frames) (hlo : 8 + (maxL + 11) + rm.locals ≤ R.locals)
    (hn : As.length = n) (hst : st0 = As.reverse ++ rest) (hW : (rest.map fun v => v.category).sum ≤ 8) (hd : decode cc pc = .ok (.invokestatic index, 3)) (hroom : cells ≤ R.cells ∧ slots ≤ R.slots)
    (kk : x_V p l e R s m args below meth c κ nL cells slots Q (F a') (pc + 3) lv (v :: rest)) : x_V p l e R s m args below meth c κ nL cells slots Q (F a) pc lv st0 :=
  x_callSv C hM hX (x_cwS C k hl hrc hrs hfr hlo) hn hst hW hd hroom kk
theorem x_cs0 {σ : Type} {F : σ → x_I → va_E} {a a' : σ} {X : Option Value × σ} {maxL n index : Nat} {rest As : List Value} {y : MethodName} {rm : Room} {bytes : ByteArray} {ret : Option FieldType} {st0 : List Value}
    (C : x_C p s m args c cc nL own (w0 :: x_Wd) κ) (k : x_calS y bytes maxL ret n) (hl : Cond.methodLink own index y ∈ x_Wd) (hM : x_M l y (Cond.code y bytes maxL ret :: x_Wd) rm κ F As a X 0 0) (hX : X = (none, a')) (hrc : rm.cells = 0) (hrs : rm.slots = 0) (hfr : rm.frames + 1 ≤ R.frames) (hlo : 8 + (maxL + 11) + rm.locals ≤ R.locals)
    (hn : As.length = n) (hst : st0 = As.reverse ++ rest) (hW : (rest.map fun v => v.category).sum ≤ 8) (hd : decode cc pc = .ok (.invokestatic index, 3)) (hroom : cells ≤ R.cells ∧ slots ≤ R.slots)
    (kk : x_V p l e R s m args below meth c κ nL cells slots Q (F a') (pc + 3) lv rest) : x_V p l e R s m args below meth c κ nL cells slots Q (F a) pc lv st0 :=
  x_callS0 C hM hX (x_cwS C k hl hrc hrs hfr hlo) hn hst hW hd hroom kk
end Glue
theorem x_vin {x : Int32} {n : Nat} (h : 0 ≤ x.toInt ∧ x.toInt < n) : vp_in x n := vp_in_iff.mpr h
theorem x_vmono {x : Int32} {n k : Nat} (h : vp_in x n) (hk : n ≤ k) : vp_in x k := by
  rw [vp_in_iff] at h ⊢
  omega
/-- the program's steps name registers and places that are there -/
def x_wf (stp : Nat → Nat → Int32) : Prop := ∀ j, j < 24 → vp_in (stp j 1) 6 ∧ vp_in (stp j 2) 6 ∧ vp_in (stp j 4) 24
theorem x_wfd {stp : Nat → Nat → Int32} (h : x_wf stp) {j : Nat} (hj : j < 24) : vp_in (stp j 1) 12 := x_vmono (h j hj).1 (by decide)
theorem x_wfs {stp : Nat → Nat → Int32} (h : x_wf stp) {j : Nat} (hj : j < 24) : vp_in (stp j 2) 12 := x_vmono (h j hj).2.1 (by decide)
theorem x_ni {x k : Int32} (h : ¬ x = k) : x.toInt ≠ k.toInt := fun e => h (Int32.toInt_inj.mp e)
theorem x_rng {i n : Int32} {k : Nat} (h0 : ¬ i < 0) (h1 : ¬ n ≤ i) (hn : n.toInt = k) : vp_in i k := by
  rw [vp_in_iff]
  rw [Int32.lt_iff_toInt_lt, Int32.toInt_zero] at h0
  rw [Int32.le_iff_toInt_le, hn] at h1
  omega
/-- a counter that goes up to B -/
def x_lp (i : Int32) (B n : Nat) : Prop := 0 ≤ i.toInt ∧ i.toInt ≤ B ∧ (B : Int) < i.toInt + n
theorem x_inc {i : Int32} (h0 : 0 ≤ i.toInt) (h1 : i.toInt < 1000000) : (i + 1).toInt = i.toInt + 1 := by
  rw [Int32.toInt_add]
  have : (1 : Int32).toInt = 1 := rfl
  rw [this]
  exact Int.bmod_eq_of_le (by omega) (by omega)
theorem x_lp0 {i : Int32} {B : Nat} : ¬ x_lp i B 0 := fun h => by
  obtain ⟨h1, h2, h3⟩ := h
  omega
theorem x_lpS {i b : Int32} {B n : Nat} (h : x_lp i B (n + 1)) (z : ¬ b ≤ i) (hb : b.toInt = B) (hB : B < 1000000) : x_lp (i + 1) B n := by
  obtain ⟨h1, h2, h3⟩ := h
  rw [Int32.le_iff_toInt_le, hb] at z
  unfold x_lp
  rw [x_inc h1 (by omega)]
  omega
theorem x_lpI {i b : Int32} {B n : Nat} (h : x_lp i B n) (z : ¬ b ≤ i) (hb : b.toInt = B) : vp_in i B := by
  obtain ⟨h1, h2, h3⟩ := h
  rw [Int32.le_iff_toInt_le, hb] at z
  rw [vp_in_iff]
  omega
theorem x_lp6 {i b : Int32} {n : Nat} (h : x_lp i 6 n) (z : ¬ b ≤ i) (hb : b.toInt = 6) : vp_in (6 + i) 12 := by
  obtain ⟨h1, h2, h3⟩ := h
  rw [Int32.le_iff_toInt_le, hb] at z
  rw [vp_in_iff, Int32.toInt_add]
  have : (6 : Int32).toInt = 6 := rfl
  rw [this, Int.bmod_eq_of_le (by omega) (by omega)]
  omega
theorem x_nik {x k : Int32} {v : Int} (h : ¬ x = k) (hk : k.toInt = v) : x.toInt ≠ v := fun e => h (Int32.toInt_inj.mp (e.trans hk.symm))
section Sw
variable {p : Program} {l : Launch} {e : Env} {R : Room} {s : State} {m : MethodId} {args : Array Value} {below : List Frame} {meth : Method} {c : Code} {cells slots : Nat} {Q : State → Prop}
variable {cc : ByteArray} {nL : Nat} {own : String} {Ts : List Cond} {κ : x_K} {f : x_I → va_E} {pc : Nat} {lv lv' : List (Nat × Value)} {st : List Value}
theorem x_tswE {dflt lo hi : Int} {offs : Array Int} {len : Nat} {x : Int32} (tgt : Nat) (keys : List Int) (C : x_C p s m args c cc nL own Ts κ) (hd : decode cc pc = .ok (.tableswitch dflt lo hi offs, len)) (hall : ∀ k : Nat, k < (hi - lo + 1).toNat → (offs[k]? = some dflt ∨ (lo + k) ∈ keys)) (hne : ∀ v ∈ keys, x.toInt ≠ v) (ht : (pc : Int) + dflt = (tgt : Int))
    (k : x_V p l e R s m args below meth c κ nL cells slots Q f tgt lv st) : x_V p l e R s m args below meth c κ nL cells slots Q f pc lv (.int x :: st) := by
  by_cases h1 : x.toInt < lo
  · exact x_tswD tgt C hd (Or.inl h1) ht k
  · by_cases h2 : hi < x.toInt
    · exact x_tswD tgt C hd (Or.inr h2) ht k
    · have e9 : lo + ((x.toInt - lo).toNat : Int) = x.toInt := by omega
      rcases hall (x.toInt - lo).toNat (by omega) with h | h
      · exact x_tsw tgt C hd h1 h2 h ht k
      · rw [e9] at h
        exact absurd rfl (hne _ h)
theorem x_lswO {ps : List (Int × Int)} {dflt x : Int} (h : ∀ q ∈ ps, x ≠ q.1) : Op.lookupswitch.offset ps dflt x = dflt := by
  induction ps with
  | nil => rfl
  | cons a t ih =>
    have h1 := h a List.mem_cons_self
    have h2 := ih (fun q hq => h q (List.mem_cons_of_mem _ hq))
    obtain ⟨u, v⟩ := a
    rw [Op.lookupswitch.offset_cons, if_neg (fun e => h1 e.symm), h2]
theorem x_lswE {dflt : Int} {ps : Array (Int × Int)} {len : Nat} {x : Int32} (tgt : Nat) (keys : List Int) (C : x_C p s m args c cc nL own Ts κ) (hd : decode cc pc = .ok (.lookupswitch dflt ps, len)) (hall : (ps.toList.zip (ps.toList.drop 1)).all (fun (a, next) => a.1 < next.1) = true ∧ ∀ q ∈ ps.toList, q.1 ∈ keys) (hne : ∀ v ∈ keys, x.toInt ≠ v) (ht : (pc : Int) + dflt = (tgt : Int))
    (k : x_V p l e R s m args below meth c κ nL cells slots Q f tgt lv st) : x_V p l e R s m args below meth c κ nL cells slots Q f pc lv (.int x :: st) :=
  x_lsw tgt C hd hall.1 (x_lswO (fun q hq => hne _ (hall.2 q hq))) ht k
theorem x_lets {σ τ α : Type} {F : σ → x_I → va_E} {wr : τ → Option Value × σ} {mc ms : Nat} {v : α} {g : α → τ} (k : x_V p l e R s m args below meth c κ nL cells slots (x_E below κ args s mc ms F wr (g v)) f pc lv st) : x_V p l e R s m args below meth c κ nL cells slots (x_E below κ args s mc ms F wr (x_let v g)) f pc lv st := k
/-- fewer locals, in another order -/
theorem x_loc (ks : List Nat) (h : lv_pick lv ks = lv') (k : x_V p l e R s m args below meth c κ nL cells slots Q f pc lv' st) : x_V p l e R s m args below meth c κ nL cells slots Q f pc lv st := fun H locs ls hP hS hl => k H locs ls hP hS (lv_sub hl ks h)
end Sw
theorem x_ltn {x : Int32} {n : Nat} (h : vp_in x n) : x.toNatClampNeg < n := Nat.not_le.mp fun q => h (Or.inr q)
theorem x_lt1 {x : Int32} {n : Nat} (h : vp_in x n) : x.toNatClampNeg + 1 < n + 1 := Nat.succ_lt_succ (x_ltn h)
/-- a counter that goes down from 23 -/
def x_ld (i : Int32) (n : Nat) : Prop := -1 ≤ i.toInt ∧ i.toInt < 24 ∧ i.toInt + 1 < n
theorem x_ld0 {i : Int32} : ¬ x_ld i 0 := fun h => by
  obtain ⟨h1, h2, h3⟩ := h
  omega
theorem x_ldI {i : Int32} {n : Nat} (h : x_ld i n) (z : ¬ i < 0) : vp_in i 24 := by
  obtain ⟨h1, h2, h3⟩ := h
  rw [Int32.lt_iff_toInt_lt, Int32.toInt_zero] at z
  rw [vp_in_iff]
  omega
theorem x_ldS {i : Int32} {n : Nat} (h : x_ld i (n + 1)) (z : ¬ i < 0) : x_ld (i + (-1)) n := by
  obtain ⟨h1, h2, h3⟩ := h
  rw [Int32.lt_iff_toInt_lt, Int32.toInt_zero] at z
  unfold x_ld
  rw [Int32.toInt_add]
  have : (-1 : Int32).toInt = -1 := rfl
  rw [this, Int.bmod_eq_of_le (by omega) (by omega)]
  omega
theorem x_ci6 {a : Int64} (h0 : ¬ a < 0) (h1 : ¬ 6 ≤ a) : vp_in (6 + Int64.toInt32 a) 12 := by
  rw [Int64.lt_iff_toInt_lt, Int64.toInt_zero] at h0
  rw [Int64.le_iff_toInt_le] at h1
  have e6 : (6 : Int64).toInt = 6 := rfl
  rw [e6] at h1
  have e7 : (6 : Int32).toInt = 6 := rfl
  have hc : (Int64.toInt32 a).toInt = a.toInt := by
    rw [Int64.toInt_toInt32]
    exact Int.bmod_eq_of_le (by omega) (by omega)
  rw [vp_in_iff, Int32.toInt_add, e7, hc, Int.bmod_eq_of_le (by omega) (by omega)]
  omega
section GlueN
variable {p : Program} {l : Launch} {e : Env} {R : Room} {s : State} {m : MethodId} {args : Array Value} {below : List Frame} {meth : Method} {c : Code} {cells slots : Nat} {Q : State → Prop}
variable {cc : ByteArray} {nL : Nat} {w0 : Cond} {κ : x_K} {pc : Nat} {lv : List (Nat × Value)}
/-- Runner calls isInMap -/
theorem x_csN {σ : Type} {F : σ → x_I → va_E} {a a' : σ} {X : Option Value × σ} {v : Value} {maxL n : Nat} {rest As : List Value} {rm : Room} {bytes : ByteArray} {ret : Option FieldType} {st0 : List Value}
    (C : x_C p s m args c cc nL "CheckedMachine$Runner" (w0 :: x_Wd) κ) (k : x_calS ⟨"CheckedMachine", "isInMap", "(II)Z"⟩ bytes maxL ret n) (hM : x_M l ⟨"CheckedMachine", "isInMap", "(II)Z"⟩ (Cond.code ⟨"CheckedMachine", "isInMap", "(II)Z"⟩ bytes maxL ret :: x_Wd) rm κ F As a X 0 0) (hX : X = (some v, a')) (hrc : rm.cells = 0) (hrs : rm.slots = 0) (hfr : rm.frames + 1 ≤ R.frames) (hlo : 8 + (maxL + 11) + rm.locals ≤ R.locals)
    (hn : As.length = n) (hst : st0 = As.reverse ++ rest) (hW : (rest.map fun v => v.category).sum ≤ 8) (hd : decode cc pc = .ok (.invokestatic 35, 3)) (hroom : cells ≤ R.cells ∧ slots ≤ R.slots)
    (kk : x_V p l e R s m args below meth c κ nL cells slots Q (F a') (pc + 3) lv (v :: rest)) : x_V p l e R s m args below meth c κ nL cells slots Q (F a) pc lv st0 := by
  have hg : ∀ w ∈ x_Wd, w.before args s = true := fun w hw => C.1.2.2.2.2 w (List.mem_cons_of_mem _ hw)
  refine x_callSN C hM hX ⟨va_cnB n C.1.2.2.2.2 (x_good (fun w hw => ?_)) rfl hrc hrs C.2.2.2 (hg _ k.1.2.1) k.2 ⟨hfr, hlo⟩, hg _ k.1.1, trivial⟩ hn hst hW hd hroom kk
  rcases List.mem_cons.mp hw with rfl | hw
  · exact k.1.2.2
  · exact hw
end GlueN
