/-! THE CLAIM OUT OF ONE WALK OF THE LAW'S BODY. Your part is whole_start (and what it stands on); all else here is the same for every law, but numbers. -/
def R_law : String := "CheckedMachineLaw"
def lw_P (b : Addr) (xs : List Int32) (args : Array Value) (s : State) : Prop := args = #[.ref b] ∧ s.IntsAt b xs ∧ xs.length ≤ 3584 ∧ (Jvm.Cond.and given_1 narrow_1).before args s = true
def lw_Q (_ : Array Value) (s : State) (o : Outcome) (t : State) : Prop := o = .returned (some (.int 1)) ∧ Framed s o t [] 601024 7293034
def lw_Z (below : List Frame) (a : Array Value) (s : State) : State → Prop := fun t => ∃ o, t.status = .running ∧ Ended t below o ∧ lw_Q a s o t
/-- the law's own end, with 1 on the stack, nothing written that was there before, its room as the claim has it -/
theorem lw_ret {p : Program} {l : Launch} {e : Env} {s : State} {m : MethodId} {below : List Frame} {meth : Method} {c : Code} {b : Nat} (hx : p.tables.exec = Jvm.exec) (hb : c.code = code) (hr : meth.sig.returnType = ret) (hlocks : meth.locks = false) {pc : Nat} {H : Heap} {ls : Array Slot} (hdg : decode code pc = .ok (.ireturn, 1)) : W p l e room_1 s m #[Value.ref b] below meth c H [] 601024 7293034 (lw_Z below #[Value.ref b] s) (F0 m pc ls [.int 1]) := by
  intro T hT X
  obtain ⟨fs, hret, hrun, hended, hW, hframe⟩ := X.leave (v := some (.int 1)) (hlocks := hlocks) (fun h => by rw [hr] at h; cases h)
  have hmeth' : T.vm.method? m = some meth := X.method'
  refine ⟨T.setFrames fs, ?_, .returned (some (.int 1)), hrun, hended, rfl, ⟨_, rfl⟩, hW, hframe⟩
  jvm_step X.here [X.here.top, hx, hb, hdg, hmeth', hr, ret, narrow_b1]
  (try refine ⟨rfl, ?_⟩); (try refine ⟨rfl, ?_⟩)
  first | (intro acts; rw [hret _ acts rfl rfl rfl]) | rw [hret _ _ rfl rfl rfl]
  exact Steps.refl _
/-- what holds at the law's entry: the machine, the code, the tables' words (any of lw_tbl by 'hts w (by decide +kernel)'), the script of L ints xs at the cell b, what the Statement gives of the start (any of its parts by flat_of_before) -/
def lw_At (p : Program) (s : State) (m : MethodId) (meth : Method) (c : Code) (b L : Nat) (xs : Nat → Int32) : Prop :=
  p.tables.exec = Jvm.exec ∧ c.code = code ∧ meth.sig.returnType = ret ∧ c.maxLocals = 8 ∧ s.vm.findClass R_law = some m.cls ∧ (∀ w ∈ lw_tbl, w.before #[Value.ref b] s = true) ∧ va_X b L xs s s.heap ∧ b < s.heap.size ∧ meth.locks = false ∧ (Jvm.Cond.and given_1 narrow_1).before #[Value.ref b] s = true


/-- what the law's loop asks of an invariant -/
def law_inv1 (I J : x_S → Prop) : Prop :=
  (∀ (stp : Nat → Nat → Int32) (psz : Int32) (gk : Nat → Nat → Int32) (gl : Nat → Nat → Int64) (gh : Nat → Nat → Int64) (opn : Nat → Int32) (cki : Nat → Int32) (ckl : Nat → Int64) (mp : Nat → Nat → Int64) (rk : Nat → Int32) (rv : Nat → Int64) (ri : Nat → Int32) (chk : Int32) (mo : Nat → Nat → Int32) (mi : Nat → Int32) (ml : Nat → Int64) (mk : Nat → Int32) (mlo : Nat → Int64) (mhi : Nat → Int64) (pk : Nat → Int32) (ps : Nat → Int32) (pl : Nat → Int64) (ph : Nat → Int64) (mm : Nat → Int64) (out : Nat → Int64) (a1 : Int32) (a2 : Int32) (a3 : Int32) (a4 : Int32) (a5 : Int32), I ((stp, psz, gk, gl, gh, opn, cki, ckl, mp, rk, rv, ri, chk), (mo, mi, ml, mk, mlo, mhi, pk, ps, pl, ph, mm), out) → law_ok_0 J stp psz gk gl gh opn cki ckl mp rk rv ri chk mo mi ml mk mlo mhi pk ps pl ph mm out a1 a2 a3 a4 a5) ∧
  (∀ (stp : Nat → Nat → Int32) (psz : Int32) (gk : Nat → Nat → Int32) (gl : Nat → Nat → Int64) (gh : Nat → Nat → Int64) (opn : Nat → Int32) (cki : Nat → Int32) (ckl : Nat → Int64) (mp : Nat → Nat → Int64) (rk : Nat → Int32) (rv : Nat → Int64) (ri : Nat → Int32) (chk : Int32) (mo : Nat → Nat → Int32) (mi : Nat → Int32) (ml : Nat → Int64) (mk : Nat → Int32) (mlo : Nat → Int64) (mhi : Nat → Int64) (pk : Nat → Int32) (ps : Nat → Int32) (pl : Nat → Int64) (ph : Nat → Int64) (mm : Nat → Int64) (out : Nat → Int64) (a1 : Int32) (a2 : Int32) (a3 : Int32) (a4 : Int32) (a5 : Int32) (a6 : Int32), I ((stp, psz, gk, gl, gh, opn, cki, ckl, mp, rk, rv, ri, chk), (mo, mi, ml, mk, mlo, mhi, pk, ps, pl, ph, mm), out) → law_ok_1 J stp psz gk gl gh opn cki ckl mp rk rv ri chk mo mi ml mk mlo mhi pk ps pl ph mm out a1 a2 a3 a4 a5 a6) ∧
  (∀ (stp : Nat → Nat → Int32) (psz : Int32) (gk : Nat → Nat → Int32) (gl : Nat → Nat → Int64) (gh : Nat → Nat → Int64) (opn : Nat → Int32) (cki : Nat → Int32) (ckl : Nat → Int64) (mp : Nat → Nat → Int64) (rk : Nat → Int32) (rv : Nat → Int64) (ri : Nat → Int32) (chk : Int32) (mo : Nat → Nat → Int32) (mi : Nat → Int32) (ml : Nat → Int64) (mk : Nat → Int32) (mlo : Nat → Int64) (mhi : Nat → Int64) (pk : Nat → Int32) (ps : Nat → Int32) (pl : Nat → Int64) (ph : Nat → Int64) (mm : Nat → Int64) (out : Nat → Int64) (a1 : Int32), I ((stp, psz, gk, gl, gh, opn, cki, ckl, mp, rk, rv, ri, chk), (mo, mi, ml, mk, mlo, mhi, pk, ps, pl, ph, mm), out) → law_ok_2 J stp psz gk gl gh opn cki ckl mp rk rv ri chk mo mi ml mk mlo mhi pk ps pl ph mm out a1) ∧
  (∀ (stp : Nat → Nat → Int32) (psz : Int32) (gk : Nat → Nat → Int32) (gl : Nat → Nat → Int64) (gh : Nat → Nat → Int64) (opn : Nat → Int32) (cki : Nat → Int32) (ckl : Nat → Int64) (mp : Nat → Nat → Int64) (rk : Nat → Int32) (rv : Nat → Int64) (ri : Nat → Int32) (chk : Int32) (mo : Nat → Nat → Int32) (mi : Nat → Int32) (ml : Nat → Int64) (mk : Nat → Int32) (mlo : Nat → Int64) (mhi : Nat → Int64) (pk : Nat → Int32) (ps : Nat → Int32) (pl : Nat → Int64) (ph : Nat → Int64) (mm : Nat → Int64) (out : Nat → Int64) , I ((stp, psz, gk, gl, gh, opn, cki, ckl, mp, rk, rv, ri, chk), (mo, mi, ml, mk, mlo, mhi, pk, ps, pl, ph, mm), out) → law_ok_3 J stp psz gk gl gh opn cki ckl mp rk rv ri chk mo mi ml mk mlo mhi pk ps pl ph mm out ) ∧
  (∀ (stp : Nat → Nat → Int32) (psz : Int32) (gk : Nat → Nat → Int32) (gl : Nat → Nat → Int64) (gh : Nat → Nat → Int64) (opn : Nat → Int32) (cki : Nat → Int32) (ckl : Nat → Int64) (mp : Nat → Nat → Int64) (rk : Nat → Int32) (rv : Nat → Int64) (ri : Nat → Int32) (chk : Int32) (mo : Nat → Nat → Int32) (mi : Nat → Int32) (ml : Nat → Int64) (mk : Nat → Int32) (mlo : Nat → Int64) (mhi : Nat → Int64) (pk : Nat → Int32) (ps : Nat → Int32) (pl : Nat → Int64) (ph : Nat → Int64) (mm : Nat → Int64) (out : Nat → Int64) (a1 : Int32) (a2 : Int32), I ((stp, psz, gk, gl, gh, opn, cki, ckl, mp, rk, rv, ri, chk), (mo, mi, ml, mk, mlo, mhi, pk, ps, pl, ph, mm), out) → law_ok_4 J stp psz gk gl gh opn cki ckl mp rk rv ri chk mo mi ml mk mlo mhi pk ps pl ph mm out a1 a2) ∧
  (∀ (stp : Nat → Nat → Int32) (psz : Int32) (gk : Nat → Nat → Int32) (gl : Nat → Nat → Int64) (gh : Nat → Nat → Int64) (opn : Nat → Int32) (cki : Nat → Int32) (ckl : Nat → Int64) (mp : Nat → Nat → Int64) (rk : Nat → Int32) (rv : Nat → Int64) (ri : Nat → Int32) (chk : Int32) (mo : Nat → Nat → Int32) (mi : Nat → Int32) (ml : Nat → Int64) (mk : Nat → Int32) (mlo : Nat → Int64) (mhi : Nat → Int64) (pk : Nat → Int32) (ps : Nat → Int32) (pl : Nat → Int64) (ph : Nat → Int64) (mm : Nat → Int64) (out : Nat → Int64) (a1 : Int32) (a2 : Int32), I ((stp, psz, gk, gl, gh, opn, cki, ckl, mp, rk, rv, ri, chk), (mo, mi, ml, mk, mlo, mhi, pk, ps, pl, ph, mm), out) → law_ok_5 J stp psz gk gl gh opn cki ckl mp rk rv ri chk mo mi ml mk mlo mhi pk ps pl ph mm out a1 a2) ∧
  (∀ (stp : Nat → Nat → Int32) (psz : Int32) (gk : Nat → Nat → Int32) (gl : Nat → Nat → Int64) (gh : Nat → Nat → Int64) (opn : Nat → Int32) (cki : Nat → Int32) (ckl : Nat → Int64) (mp : Nat → Nat → Int64) (rk : Nat → Int32) (rv : Nat → Int64) (ri : Nat → Int32) (chk : Int32) (mo : Nat → Nat → Int32) (mi : Nat → Int32) (ml : Nat → Int64) (mk : Nat → Int32) (mlo : Nat → Int64) (mhi : Nat → Int64) (pk : Nat → Int32) (ps : Nat → Int32) (pl : Nat → Int64) (ph : Nat → Int64) (mm : Nat → Int64) (out : Nat → Int64) (a1 : Int32) (a2 : Int32) (a3 : Int32) (a4 : Int32), I ((stp, psz, gk, gl, gh, opn, cki, ckl, mp, rk, rv, ri, chk), (mo, mi, ml, mk, mlo, mhi, pk, ps, pl, ph, mm), out) → law_ok_6 J stp psz gk gl gh opn cki ckl mp rk rv ri chk mo mi ml mk mlo mhi pk ps pl ph mm out a1 a2 a3 a4) ∧
  (∀ (stp : Nat → Nat → Int32) (psz : Int32) (gk : Nat → Nat → Int32) (gl : Nat → Nat → Int64) (gh : Nat → Nat → Int64) (opn : Nat → Int32) (cki : Nat → Int32) (ckl : Nat → Int64) (mp : Nat → Nat → Int64) (rk : Nat → Int32) (rv : Nat → Int64) (ri : Nat → Int32) (chk : Int32) (mo : Nat → Nat → Int32) (mi : Nat → Int32) (ml : Nat → Int64) (mk : Nat → Int32) (mlo : Nat → Int64) (mhi : Nat → Int64) (pk : Nat → Int32) (ps : Nat → Int32) (pl : Nat → Int64) (ph : Nat → Int64) (mm : Nat → Int64) (out : Nat → Int64) (a1 : Int32), I ((stp, psz, gk, gl, gh, opn, cki, ckl, mp, rk, rv, ri, chk), (mo, mi, ml, mk, mlo, mhi, pk, ps, pl, ph, mm), out) → law_ok_7 J stp psz gk gl gh opn cki ckl mp rk rv ri chk mo mi ml mk mlo mhi pk ps pl ph mm out a1) ∧
  (∀ (stp : Nat → Nat → Int32) (psz : Int32) (gk : Nat → Nat → Int32) (gl : Nat → Nat → Int64) (gh : Nat → Nat → Int64) (opn : Nat → Int32) (cki : Nat → Int32) (ckl : Nat → Int64) (mp : Nat → Nat → Int64) (rk : Nat → Int32) (rv : Nat → Int64) (ri : Nat → Int32) (chk : Int32) (mo : Nat → Nat → Int32) (mi : Nat → Int32) (ml : Nat → Int64) (mk : Nat → Int32) (mlo : Nat → Int64) (mhi : Nat → Int64) (pk : Nat → Int32) (ps : Nat → Int32) (pl : Nat → Int64) (ph : Nat → Int64) (mm : Nat → Int64) (out : Nat → Int64) (a1 : Int32), I ((stp, psz, gk, gl, gh, opn, cki, ckl, mp, rk, rv, ri, chk), (mo, mi, ml, mk, mlo, mhi, pk, ps, pl, ph, mm), out) → law_ok_8 J stp psz gk gl gh opn cki ckl mp rk rv ri chk mo mi ml mk mlo mhi pk ps pl ph mm out a1)
/-- an invariant that may know how many rounds are over -/
def law_inv (I : Nat → x_S → Prop) : Prop := (∀ (j : Nat) (st : x_S), I j st → I (j + 1) st) ∧ ∀ j : Nat, j < 512 → law_inv1 (I j) (I (j + 1))
section LawLoop
variable {p : Program} {l : Launch} {e : Env} {s : State} {m : MethodId} {below : List Frame} {meth : Method} {c : Code} {cells slots : Nat} {b L : Nat} {xs : Nat → Int32}
theorem x_lawret {κ : x_K} {Ts : List Cond} {f : x_I → va_E} {lv : List (Nat × Value)} (C : x_C p s m #[Value.ref b] c b_Lw_law 8 R_Lw Ts κ) (hr : meth.sig.returnType = ret) (hlk : meth.locks = false) (hap : ∀ q : Nat, q < s.heap.size → ¬ x_A κ s.heap.size q) (hc : cells ≤ 601024) (hs : slots ≤ 7293034) :
    x_V p l e room_1 s m #[Value.ref b] below meth c κ 8 cells slots (lw_Z below #[Value.ref b] s) f 723 lv [.int 1] := fun H locs ls hP hS hl =>
  W.widen hc hs (va_forget (fun q hq => Nat.not_lt.mp fun h => hap _ h (hS.2.2 q hq)) (lw_ret C.1.1 C.1.2.1 hr hlk d_Lw_law_723))
theorem law_num {j n L : Nat} (hL : L ≤ 3584) (hj : j + n = L / 7) : (Int32.ofNat (7 * j)).toInt = 7 * j ∧ (Int32.ofNat L - 7).toInt = (L : Int) - 7 := by
  have h1 : 7 * j ≤ 3584 := by omega
  have e1 : (Int32.ofNat (7 * j)).toInt = 7 * j := by
    rw [Int32.toInt_ofNat_of_lt (by show 7 * j < 2147483648; omega)]; simp
  have e2 : (Int32.ofNat L).toInt = (L : Int) := Int32.toInt_ofNat_of_lt (by show L < 2147483648; omega)
  refine ⟨e1, ?_⟩
  rw [Int32.toInt_sub, e2, show (7 : Int32).toInt = 7 from rfl, Int.bmod_def]
  omega
theorem law_in {j n L : Nat} (hL : L ≤ 3584) (hj : j + (n + 1) = L / 7) (k : Nat) (hk : k < 7) : vp_in (Int32.ofNat (7 * j) + Int32.ofNat k) L := by
  have h1 : 7 * j + k < L := by omega
  have e : (Int32.ofNat (7 * j) + Int32.ofNat k) = Int32.ofNat (7 * j + k) := (Int32.ofNat_add _ _).symm
  have e2 : (Int32.ofNat (7 * j + k)).toInt = ((7 * j + k : Nat) : Int) := Int32.toInt_ofNat_of_lt (by show 7 * j + k < 2147483648; omega)
  rw [e]
  intro h
  rcases h with h | h
  · have h9 := Int32.lt_iff_toInt_lt.mp h
    rw [e2, show (0 : Int32).toInt = 0 from rfl] at h9
    omega
  · have h9 : (Int32.ofNat (7 * j + k)).toNatClampNeg = 7 * j + k := by
      show (Int32.ofNat (7 * j + k)).toInt.toNat = _
      rw [e2]; rfl
    omega
set_option maxHeartbeats 4000000 in
set_option maxRecDepth 100000 in
theorem law_loop (htr : l.stackTraces = false) {D : va_G} {cA : Nat → ClassId} {ad : x_I → Nat} (ok : x_ok (x_k D cA ad)) {w0 : Cond} (C : x_C p s m #[Value.ref b] c b_Lw_law 8 R_Lw (w0 :: x_Wd) (x_k D cA ad)) (hr : meth.sig.returnType = ret) (hlk : meth.locks = false) (hX : va_X b L xs s s.heap) (hbl : b < s.heap.size) (hg : x_G s) (hj : x_J s) (hap : ∀ q : Nat, q < s.heap.size → ¬ x_A (x_k D cA ad) s.heap.size q) (hL : L ≤ 3584) (I : Nat → x_S → Prop) (hI : law_inv I) :
    ∀ (n j : Nat) (st : x_S) (cells slots : Nat), j + n = L / 7 → I j st → cells + n ≤ 601024 → slots + 6 * n ≤ 7293034 → x_V p l e room_1 s m #[Value.ref b] below meth c (x_k D cA ad) 8 cells slots (lw_Z below #[Value.ref b] s) (x_F ad cA st) 23 [(0, (.ref b)), (1, (.ref (ad (0, 0)))), (2, (.ref (ad (18, 0)))), (3, (.ref (ad (32, 0)))), (4, (.int (Int32.ofNat (7 * j))))] [] := by
  have hbA : ¬ x_A (x_k D cA ad) s.heap.size b := hap b hbl
  intro n
  induction n with
  | zero =>
    intro j st cells slots hjn hst hc hs
    obtain ⟨e1, e2⟩ := law_num (n := 0) hL hjn
    refine x_iload 4 C d_Lw_law_23 rfl ?_
    refine x_aload_n 0 C d_Lw_law_25 rfl rfl ?_
    refine x_slen C hX hbl hbA d_Lw_law_26 ?_
    refine x_bipush (v := 7) C d_Lw_law_27 (by decide) ?_
    refine x_isub C d_Lw_law_29 ?_
    refine x_icmp_gt_y 722 C d_Lw_law_30 (by decide) (Int32.lt_iff_toInt_lt.mpr (by rw [e1, e2]; omega)) ?_
    refine x_iconst (v := 1) C d_Lw_law_722 (by decide) ?_
    exact x_lawret C hr hlk hap (by omega) (by omega)
  | succ n ih =>
    intro j st cells slots hjn hst hc hs
    obtain ⟨e1, e2⟩ := law_num (n := n + 1) hL hjn
    have hin := law_in hL hjn
    have hJ := hI.2 j (by omega)
    have hi7 : Int32.ofNat (7 * j) + 7 = Int32.ofNat (7 * (j + 1)) := by
      rw [show 7 * (j + 1) = 7 * j + 7 by omega, Int32.ofNat_add]; rfl
    have K : ∀ (cells' slots' : Nat), cells' ≤ cells + 1 → slots' ≤ slots + 6 → ∀ st : x_S, I (j + 1) st → x_V p l e room_1 s m #[Value.ref b] below meth c (x_k D cA ad) 8 cells' slots' (lw_Z below #[Value.ref b] s) (x_F ad cA st) 716 [(0, (.ref b)), (1, (.ref (ad (0, 0)))), (2, (.ref (ad (18, 0)))), (3, (.ref (ad (32, 0)))), (4, (.int (Int32.ofNat (7 * j))))] [] := by
      intro cells' slots' h1 h2 st hst
      refine x_iinc (lv' := [(4, (.int (Int32.ofNat (7 * j) + 7))), (0, (.ref b)), (1, (.ref (ad (0, 0)))), (2, (.ref (ad (18, 0)))), (3, (.ref (ad (32, 0))))]) 4 C d_Lw_law_716 rfl rfl (by decide) rfl ?_
      refine x_goto 23 C d_Lw_law_719 (by decide) ?_
      refine x_loc (lv' := [(0, (.ref b)), (1, (.ref (ad (0, 0)))), (2, (.ref (ad (18, 0)))), (3, (.ref (ad (32, 0)))), (4, (.int (Int32.ofNat (7 * j) + 7)))]) [1, 2, 3, 4, 0] rfl ?_
      rw [hi7]
      exact ih (j + 1) st cells' slots' (by omega) hst (by omega) (by omega)
    have K1 := K (cells + 1) (slots + 6) (Nat.le_refl _) (Nat.le_refl _)
    have K0 := K cells slots (by omega) (by omega)
    have hrm : cells + 1 ≤ room_1.cells ∧ slots + 6 ≤ room_1.slots := ⟨(show cells + 1 ≤ 601024 by omega), (show slots + 6 ≤ 7293034 by omega)⟩
    generalize hi : Int32.ofNat (7 * j) = i at *
    refine x_iload 4 C d_Lw_law_23 rfl ?_
    refine x_aload_n 0 C d_Lw_law_25 rfl rfl ?_
    refine x_slen C hX hbl hbA d_Lw_law_26 ?_
    refine x_bipush (v := 7) C d_Lw_law_27 (by decide) ?_
    refine x_isub C d_Lw_law_29 ?_
    refine x_icmp_gt_n 722 C d_Lw_law_30 (by decide) (fun h9 => by have h9 := Int32.lt_iff_toInt_lt.mp h9; rw [e1, e2] at h9; omega) ?_
    refine x_aload_n 0 C d_Lw_law_33 rfl rfl ?_
    refine x_iload 4 C d_Lw_law_34 rfl ?_
    refine x_sldE C hX hbl hbA (by have := hin 0 (by decide); rwa [show i + Int32.ofNat 0 = i from Int32.add_zero i] at this) rfl d_Lw_law_36 ?_
    refine x_bipush (v := 15) C d_Lw_law_37 (by decide) ?_
    refine x_iand C d_Lw_law_39 ?_
    generalize hq : xs i.toNatClampNeg &&& 15 = q
    obtain ⟨⟨stp, psz, gk, gl, gh, opn, cki, ckl, mp, rk, rv, ri, chk⟩, ⟨mo, mi, ml, mk, mlo, mhi, pk, ps, pl, ph, mm⟩, out⟩ := st
    by_cases z0 : q = 0
    · refine x_tsw 92 C d_Lw_law_40 (by rw [z0]; decide) (by rw [z0]; decide) (by rw [z0]; rfl) (by decide) ?_
      exact law_arm_0 htr ok C hX hbl hbA hg hj hap hrm (I (j + 1)) _ _ _ _ _ _ _ _ _ _ _ _ _ _ _ _ _ _ _ _ _ _ _ _ _ _ _ _ _ _ (hin 1 (by decide)) rfl (hin 2 (by decide)) rfl (hin 3 (by decide)) rfl (hin 4 (by decide)) rfl (hin 5 (by decide)) rfl K1 (hJ.1 _ _ _ _ _ _ _ _ _ _ _ _ _ _ _ _ _ _ _ _ _ _ _ _ _ _ _ _ _ _ hst)
    by_cases z1 : q = 1
    · refine x_tsw 196 C d_Lw_law_40 (by rw [z1]; decide) (by rw [z1]; decide) (by rw [z1]; rfl) (by decide) ?_
      exact law_arm_1 htr ok C hX hbl hbA hg hj hap hrm (I (j + 1)) _ _ _ _ _ _ _ _ _ _ _ _ _ _ _ _ _ _ _ _ _ _ _ _ _ _ _ _ _ _ _ (hin 1 (by decide)) rfl (hin 2 (by decide)) rfl (hin 3 (by decide)) rfl (hin 4 (by decide)) rfl (hin 5 (by decide)) rfl (hin 6 (by decide)) rfl K1 (hJ.2.1 _ _ _ _ _ _ _ _ _ _ _ _ _ _ _ _ _ _ _ _ _ _ _ _ _ _ _ _ _ _ _ hst)
    by_cases z2 : q = 2
    · refine x_tsw 294 C d_Lw_law_40 (by rw [z2]; decide) (by rw [z2]; decide) (by rw [z2]; rfl) (by decide) ?_
      exact law_arm_2 htr ok C hX hbl hbA hg hj hap hrm (I (j + 1)) _ _ _ _ _ _ _ _ _ _ _ _ _ _ _ _ _ _ _ _ _ _ _ _ _ _ (hin 1 (by decide)) rfl K1 (hJ.2.2.1 _ _ _ _ _ _ _ _ _ _ _ _ _ _ _ _ _ _ _ _ _ _ _ _ _ _ hst)
    by_cases z3 : q = 3
    · refine x_tsw 330 C d_Lw_law_40 (by rw [z3]; decide) (by rw [z3]; decide) (by rw [z3]; rfl) (by decide) ?_
      exact law_arm_3 htr ok C hX hbl hbA hg hj hap hrm (I (j + 1)) _ _ _ _ _ _ _ _ _ _ _ _ _ _ _ _ _ _ _ _ _ _ _ _ _   K1 (hJ.2.2.2.1 _ _ _ _ _ _ _ _ _ _ _ _ _ _ _ _ _ _ _ _ _ _ _ _ _  hst)
    by_cases z4 : q = 4
    · refine x_tsw 374 C d_Lw_law_40 (by rw [z4]; decide) (by rw [z4]; decide) (by rw [z4]; rfl) (by decide) ?_
      exact law_arm_4 htr ok C hX hbl hbA hg hj hap hrm (I (j + 1)) _ _ _ _ _ _ _ _ _ _ _ _ _ _ _ _ _ _ _ _ _ _ _ _ _ _ _ (hin 1 (by decide)) rfl (hin 2 (by decide)) rfl K1 (hJ.2.2.2.2.1 _ _ _ _ _ _ _ _ _ _ _ _ _ _ _ _ _ _ _ _ _ _ _ _ _ _ _ hst)
    by_cases z5 : q = 5
    · refine x_tsw 461 C d_Lw_law_40 (by rw [z5]; decide) (by rw [z5]; decide) (by rw [z5]; rfl) (by decide) ?_
      exact law_arm_5 htr ok C hX hbl hbA hg hj hap hrm (I (j + 1)) _ _ _ _ _ _ _ _ _ _ _ _ _ _ _ _ _ _ _ _ _ _ _ _ _ _ _ (hin 1 (by decide)) rfl (hin 2 (by decide)) rfl K1 (hJ.2.2.2.2.2.1 _ _ _ _ _ _ _ _ _ _ _ _ _ _ _ _ _ _ _ _ _ _ _ _ _ _ _ hst)
    by_cases z6 : q = 6
    · refine x_tsw 528 C d_Lw_law_40 (by rw [z6]; decide) (by rw [z6]; decide) (by rw [z6]; rfl) (by decide) ?_
      exact law_arm_6 htr ok C hX hbl hbA hg hj hap hrm (I (j + 1)) _ _ _ _ _ _ _ _ _ _ _ _ _ _ _ _ _ _ _ _ _ _ _ _ _ _ _ _ _ (hin 1 (by decide)) rfl (hin 2 (by decide)) rfl (hin 3 (by decide)) rfl (hin 4 (by decide)) rfl K1 (hJ.2.2.2.2.2.2.1 _ _ _ _ _ _ _ _ _ _ _ _ _ _ _ _ _ _ _ _ _ _ _ _ _ _ _ _ _ hst)
    by_cases z7 : q = 7
    · refine x_tsw 620 C d_Lw_law_40 (by rw [z7]; decide) (by rw [z7]; decide) (by rw [z7]; rfl) (by decide) ?_
      exact law_arm_7 htr ok C hX hbl hbA hg hj hap hrm (I (j + 1)) _ _ _ _ _ _ _ _ _ _ _ _ _ _ _ _ _ _ _ _ _ _ _ _ _ _ (hin 1 (by decide)) rfl K1 (hJ.2.2.2.2.2.2.2.1 _ _ _ _ _ _ _ _ _ _ _ _ _ _ _ _ _ _ _ _ _ _ _ _ _ _ hst)
    by_cases z8 : q = 8
    · refine x_tsw 691 C d_Lw_law_40 (by rw [z8]; decide) (by rw [z8]; decide) (by rw [z8]; rfl) (by decide) ?_
      exact law_arm_8 htr ok C hX hbl hbA hg hj hap hrm (I (j + 1)) _ _ _ _ _ _ _ _ _ _ _ _ _ _ _ _ _ _ _ _ _ _ _ _ _ _ (hin 1 (by decide)) rfl K0 (hJ.2.2.2.2.2.2.2.2 _ _ _ _ _ _ _ _ _ _ _ _ _ _ _ _ _ _ _ _ _ _ _ _ _ _ hst)
    refine x_tswE 716 [0, 1, 2, 3, 4, 5, 6, 7, 8] C d_Lw_law_40 (by decide) (List.forall_mem_cons.mpr ⟨x_nik z0 (by decide), List.forall_mem_cons.mpr ⟨x_nik z1 (by decide), List.forall_mem_cons.mpr ⟨x_nik z2 (by decide), List.forall_mem_cons.mpr ⟨x_nik z3 (by decide), List.forall_mem_cons.mpr ⟨x_nik z4 (by decide), List.forall_mem_cons.mpr ⟨x_nik z5 (by decide), List.forall_mem_cons.mpr ⟨x_nik z6 (by decide), List.forall_mem_cons.mpr ⟨x_nik z7 (by decide), List.forall_mem_cons.mpr ⟨x_nik z8 (by decide), fun _ h => absurd h List.not_mem_nil⟩⟩⟩⟩⟩⟩⟩⟩⟩) (by decide) ?_
    exact K0 _ (hI.1 _ _ hst)
end LawLoop
