/-! the checker's loop, in both -/
/-- both are done, and agree -/
def p_post (mi : Nat → Int32) (C : Int32 × (Nat → Nat → Int32) × (Nat → Nat → Int64) × (Nat → Nat → Int64) × (Nat → Int32) × (Nat → Int32) × (Nat → Int64)) (M : Int32 × (Nat → Int32) × (Nat → Int64) × (Nat → Int32) × (Nat → Int64) × (Nat → Int64) × (Nat → Int32) × (Nat → Int32) × (Nat → Int64) × (Nat → Int64)) : Prop :=
  p_zero C.2.1 C.2.2.1 C.2.2.2.1 ∧ p_z M.2.2.2.1 M.2.2.2.2.1 M.2.2.2.2.2.1 ∧
  (C.2.2.2.2.2.1 2 = M.2.1 1 ∧ C.2.2.2.2.2.1 3 = M.2.1 2 ∧ C.2.2.2.2.2.1 1 = M.2.1 3 ∧ C.2.2.2.2.2.2 0 = M.2.2.1 0 ∧ C.2.2.2.2.2.2 1 = M.2.2.1 1) ∧
  (M.2.1 0 = mi 0 ∧ M.2.1 4 = mi 4 ∧ M.2.1 5 = mi 5) ∧
  ((C.1 = 0 ∧ M.2.1 6 = 0 ∧ M.2.1 7 = 1 ∧ M.1 = C.2.2.2.2.2.1 1) ∨ (C.1 = 1 ∧ M.2.1 6 = 1 ∧ M.2.1 7 = 0) ∨ (C.1 = 2 ∧ M.2.1 6 = 2 ∧ M.2.1 7 = 0))
theorem p_post_mi {mi mi' : Nat → Int32} {C : Int32 × (Nat → Nat → Int32) × (Nat → Nat → Int64) × (Nat → Nat → Int64) × (Nat → Int32) × (Nat → Int32) × (Nat → Int64)} {M : Int32 × (Nat → Int32) × (Nat → Int64) × (Nat → Int32) × (Nat → Int64) × (Nat → Int64) × (Nat → Int32) × (Nat → Int32) × (Nat → Int64) × (Nat → Int64)} (h : p_post mi C M) (h0 : mi 0 = mi' 0) (h4 : mi 4 = mi' 4) (h5 : mi 5 = mi' 5) : p_post mi' C M := by
  obtain ⟨a, b, c, d, e⟩ := h
  exact ⟨a, b, c, ⟨d.1.trans h0, d.2.1.trans h4, d.2.2.trans h5⟩, e⟩
section Loop
variable (mo : Nat → Nat → Int32) (sz : Int32)
theorem p_done (gk : Nat → Nat → Int32) (gl gh : Nat → Nat → Int64) (opn cki : Nat → Int32) (ckl : Nat → Int64) (n : Nat) (x : Int32) : lp_Ck_goDownAllWays_8 (n + 1) (fun j k => mo k j) sz gk gl gh opn cki ckl (-1) x = (cki 0, gk, gl, gh, opn, cki, ckl) := by
  unfold lp_Ck_goDownAllWays_8
  simp only [if_true]
  split <;> rfl
theorem p_cstep (gk : Nat → Nat → Int32) (gl gh : Nat → Nat → Int64) (opn cki : Nat → Int32) (ckl : Nat → Int64) (n c : Nat) (hc : c < 300) (i : Int32) (hi : 0 ≤ i.toInt) (h1 : cki 1 = Int32.ofNat c) : lp_Ck_goDownAllWays_8 (n + 1) (fun j k => mo k j) sz gk gl gh opn cki ckl i (Int32.ofNat c) = (x_let (s_Ck_lookAt (fun j k => mo k j) sz gk gl gh opn (upd cki 1 (Int32.ofNat (c + 1))) ckl i) fun (r6, gk6, gl6, gh6, opn6, cki6, ckl6) => lp_Ck_goDownAllWays_8 n (fun j k => mo k j) sz gk6 gl6 gh6 opn6 cki6 ckl6 r6 (Int32.ofNat (c + 1))) := by
  conv => lhs; unfold lp_Ck_goDownAllWays_8
  rw [if_neg (by rw [Int32.le_iff_toInt_le, p_c32 (by omega), show (300 : Int32).toInt = 300 from rfl]; omega), if_neg (fun h => by rw [h] at hi; exact absurd hi (by decide)), h1, p_c1]
theorem p_mstep (mi : Nat → Int32) (ml : Nat → Int64) (K : Nat → Int32) (Lo Hi : Nat → Int64) (pk ps : Nat → Int32) (pl ph : Nat → Int64) (n c : Nat) (hc : c < 300) (h3 : mi 3 = Int32.ofNat c) : lp_Md_check_67 (n + 1) mo mi ml K Lo Hi pk ps pl ph 1 = (x_let (s_Md_reasonAt mo (upd mi 3 (Int32.ofNat (c + 1))) K Lo Hi (mi 10)) fun r9 => (if r9 ≤ 0 then (x_let (s_Md_goOn mo (upd mi 3 (Int32.ofNat (c + 1))) ml K Lo Hi pk ps pl ph (mi 10)) fun (r12, mi12, ml12, mk12, mlo12, mhi12, pk12, ps12, pl12, ph12) => lp_Md_check_67 n mo mi12 ml12 mk12 mlo12 mhi12 pk12 ps12 pl12 ph12 r12) else (0, upd (upd (upd (upd mi 3 (Int32.ofNat (c + 1))) 1 r9) 2 (mi 10)) 6 1, ml, K, Lo, Hi, pk, ps, pl, ph))) ∧
    (k_ok_Md_reasonAt mo (upd mi 3 (Int32.ofNat (c + 1))) K Lo Hi (mi 10) → (s_Md_reasonAt mo (upd mi 3 (Int32.ofNat (c + 1))) K Lo Hi (mi 10) = 0 → k_ok_Md_goOn mo (upd mi 3 (Int32.ofNat (c + 1))) ml K Lo Hi pk ps pl ph (mi 10) ∧ (x_let (s_Md_goOn mo (upd mi 3 (Int32.ofNat (c + 1))) ml K Lo Hi pk ps pl ph (mi 10)) fun (r12, mi12, ml12, mk12, mlo12, mhi12, pk12, ps12, pl12, ph12) => lp_ok_Md_check_67 n mo mi12 ml12 mk12 mlo12 mhi12 pk12 ps12 pl12 ph12 r12)) → lp_ok_Md_check_67 (n + 1) mo mi ml K Lo Hi pk ps pl ph 1) := by
  have ne : ¬ mi 3 = 300 := by
    rw [h3]; intro h
    have := congrArg Int32.toInt h
    rw [p_c32 (by omega), show (300 : Int32).toInt = 300 from rfl] at this; omega
  have e : mi 3 + 1 = Int32.ofNat (c + 1) := by rw [h3, p_c1]
  have e10 : upd mi 3 (Int32.ofNat (c + 1)) 10 = mi 10 := p_upd_ne _ _ (by decide)
  constructor
  · conv => lhs; unfold lp_Md_check_67
    rw [if_neg (by decide), if_neg ne, e, e10]
    rfl
  · intro k1 k2
    unfold lp_ok_Md_check_67
    rw [if_neg (by decide), if_neg ne, e, e10]
    refine ⟨k1, ?_⟩
    simp only [x_let]
    split
    · next h => exact k2 ((j_range _ _ _ _ _ _).mp h)
    · trivial
set_option maxHeartbeats 1000000 in
theorem p_loop (hwf : p_wf mo sz) : ∀ (n c : Nat) (gk : Nat → Nat → Int32) (gl gh : Nat → Nat → Int64) (opn cki : Nat → Int32) (ckl : Nat → Int64) (i : Int32) (mi : Nat → Int32) (ml : Nat → Int64) (pk ps : Nat → Int32) (pl ph : Nat → Int64) (L : List Nat), c + n = 301 → c ≤ 300 →
    (cki 1 = Int32.ofNat c ∧ cki 0 = 0 ∧ mi 3 = Int32.ofNat c ∧ mi 0 = sz ∧ mi 6 = 0 ∧ mi 7 = 0 ∧ mi 10 = i ∧ mi 9 = Int32.ofNat L.length) → (cki 4 = mi 8 ∧ cki 2 = mi 1 ∧ cki 3 = mi 2 ∧ ckl 0 = ml 0 ∧ ckl 1 = ml 1) →
    p_zero gk gl gh → p_gd (gk 0) (gl 0) (gh 0) → (0 ≤ i.toInt ∧ i.toInt ≤ sz.toInt) → p_open mo sz gk gl gh pk ps pl ph L → (∀ j, j < 24 → (opn j = 0 ↔ j ∉ L)) → (∀ e ∈ L, (e : Int) < i.toInt) →
    lp_ok_Md_check_67 (n + 1) mo mi ml (gk 0) (gl 0) (gh 0) pk ps pl ph 1 ∧ p_post mi (lp_Ck_goDownAllWays_8 n (fun j k => mo k j) sz gk gl gh opn cki ckl i (Int32.ofNat c)) (lp_Md_check_67 (n + 1) mo mi ml (gk 0) (gl 0) (gh 0) pk ps pl ph 1) ∧
    ((lp_Ck_goDownAllWays_8 n (fun j k => mo k j) sz gk gl gh opn cki ckl i (Int32.ofNat c)).1 = 0 → (∃ k, p_safe mo sz k (gk 0) (gl 0) (gh 0) i) ∧ ∀ j ∈ L, ∃ k, p_safe mo sz k (gk (j + 1)) (gl (j + 1)) (gh (j + 1)) (mo 4 j)) := by
  have hsz := hwf.2
  intro n
  induction n with
  | zero => intro c gk gl gh opn cki ckl i mi ml pk ps pl ph L h1 h2; omega
  | succ n ih =>
    intro c gk gl gh opn cki ckl i mi ml pk ps pl ph L hcn hc3 hA hB hz hg hi hO hF hLi
    obtain ⟨a1, a2, a3, a4, a5, a6, a7, a8⟩ := hA
    obtain ⟨b1, b2, b3, b4, b5⟩ := hB
    have hpz : p_z (gk 0) (gl 0) (gh 0) := fun k hk => hz 0 k hk
    by_cases hc : c = 300
    · -- too long
      subst hc
      have a3' : mi 3 = 300 := a3
      have eC : lp_Ck_goDownAllWays_8 (n + 1) (fun j k => mo k j) sz gk gl gh opn cki ckl i (Int32.ofNat 300) = (2, gk, gl, gh, opn, upd cki 0 2, ckl) := by
        unfold lp_Ck_goDownAllWays_8
        rw [if_pos (by decide), if_neg (fun h => by rw [h] at hi; exact absurd hi.1 (by decide)), p_upd_self]
      have eM : lp_Md_check_67 (n + 1 + 1) mo mi ml (gk 0) (gl 0) (gh 0) pk ps pl ph 1 = (0, upd mi 6 2, ml, gk 0, gl 0, gh 0, pk, ps, pl, ph) := by
        unfold lp_Md_check_67
        rw [if_neg (by decide), if_pos a3']
      rw [eC, eM]
      refine ⟨?_, ⟨hz, hpz, ⟨?_, ?_, ?_, b4, b5⟩, ⟨?_, ?_, ?_⟩, Or.inr (Or.inr ⟨rfl, (show upd mi 6 2 6 = 2 from p_upd_self _ _ _), ?_⟩)⟩, fun h => absurd (show (2 : Int32) = 0 from h) (by decide)⟩
      · unfold lp_ok_Md_check_67
        rw [if_neg (by decide), if_pos a3']; trivial
      · simpa [upd] using b2
      · simpa [upd] using b3
      · simp [upd, a1, a3]
      · simp [upd]
      · simp [upd]
      · simp [upd]
      · simpa [upd] using a6
    have hc : c < 300 := by omega
    obtain ⟨m, rfl⟩ : ∃ m, n = m + 1 := ⟨n - 1, by omega⟩
    obtain ⟨M1, M2⟩ := p_mstep mo mi ml (gk 0) (gl 0) (gh 0) pk ps pl ph (m + 1 + 1) c hc a3
    rw [a7] at M1 M2
    rw [M1, p_cstep mo sz gk gl gh opn cki ckl (m + 1) c hc i hi.1 a1]
    have m0 : upd mi 3 (Int32.ofNat (c + 1)) 0 = sz := by rw [p_upd_ne _ _ (by decide), a4]
    -- a step that is not let through
    have REJ : ∀ r : Int32, ¬ r = 0 → s_Md_reasonAt mo (upd mi 3 (Int32.ofNat (c + 1))) (gk 0) (gl 0) (gh 0) i = r → k_ok_Md_reasonAt mo (upd mi 3 (Int32.ofNat (c + 1))) (gk 0) (gl 0) (gh 0) i → s_Ck_lookAt (fun j k => mo k j) sz gk gl gh opn (upd cki 1 (Int32.ofNat (c + 1))) ckl i = (-1, gk, gl, gh, opn, upd (upd (upd (upd cki 1 (Int32.ofNat (c + 1))) 0 1) 2 r) 3 i, ckl) → lp_ok_Md_check_67 (m + 1 + 1 + 1) mo mi ml (gk 0) (gl 0) (gh 0) pk ps pl ph 1 ∧ p_post mi (x_let (s_Ck_lookAt (fun j k => mo k j) sz gk gl gh opn (upd cki 1 (Int32.ofNat (c + 1))) ckl i) fun (r6, gk6, gl6, gh6, opn6, cki6, ckl6) => lp_Ck_goDownAllWays_8 (m + 1) (fun j k => mo k j) sz gk6 gl6 gh6 opn6 cki6 ckl6 r6 (Int32.ofNat (c + 1))) (x_let (s_Md_reasonAt mo (upd mi 3 (Int32.ofNat (c + 1))) (gk 0) (gl 0) (gh 0) i) fun r9 => (if r9 ≤ 0 then (x_let (s_Md_goOn mo (upd mi 3 (Int32.ofNat (c + 1))) ml (gk 0) (gl 0) (gh 0) pk ps pl ph i) fun (r12, mi12, ml12, mk12, mlo12, mhi12, pk12, ps12, pl12, ph12) => lp_Md_check_67 (m + 1 + 1) mo mi12 ml12 mk12 mlo12 mhi12 pk12 ps12 pl12 ph12 r12) else (0, upd (upd (upd (upd mi 3 (Int32.ofNat (c + 1))) 1 r9) 2 i) 6 1, ml, gk 0, gl 0, gh 0, pk, ps, pl, ph))) ∧ ((x_let (s_Ck_lookAt (fun j k => mo k j) sz gk gl gh opn (upd cki 1 (Int32.ofNat (c + 1))) ckl i) fun (r6, gk6, gl6, gh6, opn6, cki6, ckl6) => lp_Ck_goDownAllWays_8 (m + 1) (fun j k => mo k j) sz gk6 gl6 gh6 opn6 cki6 ckl6 r6 (Int32.ofNat (c + 1))).1 = 0 → (∃ k, p_safe mo sz k (gk 0) (gl 0) (gh 0) i) ∧ ∀ j ∈ L, ∃ k, p_safe mo sz k (gk (j + 1)) (gl (j + 1)) (gh (j + 1)) (mo 4 j)) := by
      intro r hr0 hr hk hlook
      have hrn : ¬ s_Md_reasonAt mo (upd mi 3 (Int32.ofNat (c + 1))) (gk 0) (gl 0) (gh 0) i ≤ 0 := fun h => hr0 (by rw [← hr]; exact (j_range _ _ _ _ _ _).mp h)
      rw [hlook]
      simp only [x_let, hrn, if_false, p_done]
      rw [hr]
      refine ⟨M2 hk (fun h => absurd (hr.symm.trans h) hr0), ⟨hz, hpz, ⟨?_, ?_, ?_, b4, b5⟩, ⟨?_, ?_, ?_⟩, Or.inr (Or.inl ⟨?_, ?_, ?_⟩)⟩, fun h => ?_⟩
      · simp [upd]
      · simp [upd]
      · simp [upd]
      · simp [upd]
      · simp [upd]
      · simp [upd]
      · simp [upd]
      · simp [upd]
      · simp [upd, a6]
      · simp [upd] at h
    by_cases his : i.toInt = sz.toInt
    · have hr : s_Md_reasonAt mo (upd mi 3 (Int32.ofNat (c + 1))) (gk 0) (gl 0) (gh 0) i = 1 := by
        unfold s_Md_reasonAt
        rw [if_pos (by rw [m0, Int32.le_iff_toInt_le]; omega)]
      have hk : k_ok_Md_reasonAt mo (upd mi 3 (Int32.ofNat (c + 1))) (gk 0) (gl 0) (gh 0) i := by
        unfold k_ok_Md_reasonAt
        rw [if_pos (by rw [m0, Int32.le_iff_toInt_le]; omega)]
        trivial
      exact REJ 1 (by decide) hr hk (look_none mo sz gk gl gh opn _ ckl i hi.1 (by omega))
    have his : i.toInt < sz.toInt := by omega
    have h24 : vp_in i 24 := vp_in_iff.mpr (by omega)
    obtain ⟨J1, J2⟩ := j_reason mo gk gl gh i sz (upd mi 3 (Int32.ofNat (c + 1))) m0 hwf hi.1 his hg
    by_cases hr : s_Md_reasonAt mo (upd mi 3 (Int32.ofNat (c + 1))) (gk 0) (gl 0) (gh 0) i = 0
    case neg => exact REJ _ hr rfl J2 (look_rej mo sz gk gl gh opn _ ckl i hi.1 his hsz.2 _ J1 hr)
    clear REJ
    rw [hr] at J1
    have hl : p_let mo i sz (gk 0) (gl 0) (gh 0) := by
      have := j_let mo i _ _ _ _ hr
      rwa [m0] at this
    have hsafe0 : 0 ≤ i.toInt ∧ s_Md_reasonAt mo (fun _ => sz) (gk 0) (gl 0) (gh 0) i = 0 := ⟨hi.1, by rw [← hr]; unfold s_Md_reasonAt; rw [m0]⟩
    have hLlen : L.length ≤ 24 := p_open_len L 24 hO (fun e he => by have := hLi e he; omega)
    have e1 : (i + 1).toInt = i.toInt + 1 := by
      rw [Int32.toInt_add, show (1 : Int32).toInt = 1 from rfl, Int.bmod_def]; omega
    have hin : (i.toNatClampNeg : Int) = i.toInt := by
      show (i.toInt.toNat : Int) = i.toInt
      omega
    have cntC : ∀ cki' : Nat → Int32, cki' = upd cki 1 (Int32.ofNat (c + 1)) → cki' 1 = Int32.ofNat (c + 1) ∧ cki' 0 = 0 ∧ cki' 4 = mi 8 ∧ cki' 2 = mi 1 ∧ cki' 3 = mi 2 := by
      intro cki' h; subst h; simp [upd, a2, b1, b2, b3]
    obtain ⟨hop, hd, hs, ht⟩ := hwf.1 i.toNatClampNeg
    by_cases h17 : mo 0 i.toNatClampNeg = 17
    · -- the end of a way
      obtain ⟨ml', ckl', E1, E2, E3, E4⟩ := p_leave (upd (upd mi 3 (Int32.ofNat (c + 1))) 10 (i + 1)) ml (gl 0) (gh 0) (upd cki 1 (Int32.ofNat (c + 1))) ckl (by simp [upd, b1]) b4 b5
      rw [look_exit mo sz gk gl gh opn (upd cki 1 (Int32.ofNat (c + 1))) ckl i hi.1 his hsz.2 J1 h17, E2]
      have hgo : s_Md_goOn mo (upd mi 3 (Int32.ofNat (c + 1))) ml (gk 0) (gl 0) (gh 0) pk ps pl ph i = (if (upd (upd (upd mi 3 (Int32.ofNat (c + 1))) 10 (i + 1)) 8 1) 9 = 0 then ((0 : Int32), upd (upd (upd mi 3 (Int32.ofNat (c + 1))) 10 (i + 1)) 8 1, ml', gk 0, gl 0, gh 0, pk, ps, pl, ph) else (x_let (s_Md_pop (upd (upd (upd mi 3 (Int32.ofNat (c + 1))) 10 (i + 1)) 8 1) (gk 0) (gl 0) (gh 0) pk ps pl ph) fun (mi40, mk40, mlo40, mhi40) => (1, mi40, ml', mk40, mlo40, mhi40, pk, ps, pl, ph))) := by
        rw [g_exit mo i _ _ _ _ _ _ _ _ _ h17]
        unfold bk_Md_goOn_228
        rw [if_pos rfl, E1]
        rfl
      have hgok : ((upd (upd (upd mi 3 (Int32.ofNat (c + 1))) 10 (i + 1)) 8 1) 9 = 0 ∨ k_ok_Md_pop (upd (upd (upd mi 3 (Int32.ofNat (c + 1))) 10 (i + 1)) 8 1) (gk 0) (gl 0) (gh 0) pk ps pl ph) → k_ok_Md_goOn mo (upd mi 3 (Int32.ofNat (c + 1))) ml (gk 0) (gl 0) (gh 0) pk ps pl ph i := by
        intro h
        refine gk_exit mo i _ _ _ _ _ _ _ _ _ h17 h24 ?_
        unfold bk_ok_Md_goOn_228
        rw [if_pos rfl, E1]
        simp only [x_let]
        rcases h with h | h
        · rw [if_pos h]; trivial
        · split
          · trivial
          · exact ⟨h, trivial⟩
      have n9 : (upd (upd (upd mi 3 (Int32.ofNat (c + 1))) 10 (i + 1)) 8 1) 9 = Int32.ofNat L.length := by simp [upd, a8]
      have hsafe : ∀ k, p_safe mo sz (k + 1) (gk 0) (gl 0) (gh 0) i := by
        intro k; unfold p_safe; refine ⟨hsafe0, ?_⟩; rw [if_pos h17]; trivial
      cases L with
      | nil =>
        have t0 : s_Ck_takeUpLatest (fun j k => mo k j) sz gk gl gh opn = (-1, gk, gl, gh, opn) := p_take_nil mo sz gk gl gh opn 24 (by omega) (fun j hj => (hF j hj).mpr (List.not_mem_nil))
        have z9 : (upd (upd (upd mi 3 (Int32.ofNat (c + 1))) 10 (i + 1)) 8 1) 9 = 0 := n9
        rw [if_pos z9] at hgo
        rw [t0]
        simp only [x_let, hr, p_done]
        rw [if_pos (show (0 : Int32) ≤ 0 by decide), hgo]
        have eM : lp_Md_check_67 (m + 1 + 1) mo (upd (upd (upd mi 3 (Int32.ofNat (c + 1))) 10 (i + 1)) 8 1) ml' (gk 0) (gl 0) (gh 0) pk ps pl ph 0 = ((upd (upd (upd (upd mi 3 (Int32.ofNat (c + 1))) 10 (i + 1)) 8 1) 7 1) 3, upd (upd (upd (upd mi 3 (Int32.ofNat (c + 1))) 10 (i + 1)) 8 1) 7 1, ml', gk 0, gl 0, gh 0, pk, ps, pl, ph) := by
          unfold lp_Md_check_67; rw [if_pos rfl]
        have eO : lp_ok_Md_check_67 (m + 1 + 1) mo (upd (upd (upd mi 3 (Int32.ofNat (c + 1))) 10 (i + 1)) 8 1) ml' (gk 0) (gl 0) (gh 0) pk ps pl ph 0 := by
          unfold lp_ok_Md_check_67; rw [if_pos rfl]; trivial
        simp only [eM]
        refine ⟨M2 J2 (fun _ => ⟨hgok (Or.inl z9), by rw [hgo]; exact eO⟩), ⟨hz, hpz, ⟨?_, ?_, ?_, E3, E4⟩, ⟨?_, ?_, ?_⟩, Or.inl ⟨?_, ?_, ?_, ?_⟩⟩, fun _ => ⟨⟨1, hsafe 0⟩, fun j hj => absurd hj List.not_mem_nil⟩⟩
        · simpa [upd] using b2
        · simpa [upd] using b3
        · simp [upd]
        · simp [upd]
        · simp [upd]
        · simp [upd]
        · simpa [upd] using a2
        · simpa [upd] using a5
        · simp [upd]
        · simp [upd]
      | cons j L' =>
        obtain ⟨⟨o1, o2, o3, o4, o5⟩, o6⟩ := hO
        have hji := hLi j List.mem_cons_self
        simp only [List.length_cons] at n9 hLlen
        have t0 : s_Ck_takeUpLatest (fun j k => mo k j) sz gk gl gh opn = (mo 4 j, va_up gk 0 (gk (j + 1)), va_up gl 0 (gl (j + 1)), va_up gh 0 (gh (j + 1)), upd opn j 0) := by
          refine p_take_cons mo sz gk gl gh opn hz hsz.2 j (by omega) (fun h => (hF j (by omega)).mp h List.mem_cons_self) 24 (by omega) (by omega) (fun e h1 h2 => (hF e h2).mpr (fun h => ?_))
          rcases List.mem_cons.mp h with h | h
          · omega
          · have := o5 e h; omega
        obtain ⟨Q1, Q2⟩ := p_pop (upd (upd (upd mi 3 (Int32.ofNat (c + 1))) 10 (i + 1)) 8 1) L'.length (by omega) n9 pk ps pl ph (gk 0) (gk (j + 1)) (gl 0) (gh 0) (gl (j + 1)) (gh (j + 1)) hpz (fun k hk => hz (j + 1) k hk) o1
        have z9 : ¬ (upd (upd (upd mi 3 (Int32.ofNat (c + 1))) 10 (i + 1)) 8 1) 9 = 0 := by
          rw [n9]; intro h
          have := congrArg Int32.toInt h
          rw [p_c32 (by omega), show (0 : Int32).toInt = 0 from rfl] at this; omega
        rw [if_neg z9, Q2, o2] at hgo
        simp only [x_let] at hgo
        rw [t0]
        simp only [x_let, hr]
        rw [if_pos (show (0 : Int32) ≤ 0 by decide), hgo]
        have IH := ih (c + 1) (va_up gk 0 (gk (j + 1))) (va_up gl 0 (gl (j + 1))) (va_up gh 0 (gh (j + 1))) (upd opn j 0) (upd (upd cki 1 (Int32.ofNat (c + 1))) 4 1) ckl' (mo 4 j) (upd (upd (upd (upd (upd mi 3 (Int32.ofNat (c + 1))) 10 (i + 1)) 8 1) 9 (Int32.ofNat L'.length)) 10 (mo 4 j)) ml' pk ps pl ph L' (by omega) (by omega)
          ⟨by simp [upd], by simp [upd, a2], by simp [upd], by simp [upd, a4], by simp [upd, a5], by simp [upd, a6], by simp [upd], by simp [upd]⟩
          ⟨by simp [upd], by simp [upd, b2], by simp [upd, b3], E3, E4⟩
          (fun a k hk => by
            simp only [va_up]
            split
            · exact hz _ k hk
            · exact hz a k hk)
          (by simp only [p_va_self]; exact o3) ⟨by omega, by omega⟩
          (p_open_ext L' o6 (fun e he => by simp only [p_va_ne _ _ (show e + 1 ≠ 0 by omega)]; exact ⟨trivial, trivial, trivial⟩) (fun q _ => ⟨rfl, rfl, rfl⟩) (fun q _ => rfl))
          (fun e he => by
            by_cases hej : e = j
            · subst hej; simp only [p_upd_self, true_iff]; exact fun h => by have := o5 e h; omega
            · rw [p_upd_ne _ _ hej, hF e he]
              constructor
              · intro h1 h2; exact h1 (List.mem_cons_of_mem _ h2)
              · intro h1 h2; rcases List.mem_cons.mp h2 with h2 | h2; exact hej h2; exact h1 h2)
          (fun e he => by have := o5 e he; omega)
        simp only [p_va_self] at IH
        obtain ⟨I1, I2, I3⟩ := IH
        refine ⟨M2 J2 (fun _ => ⟨hgok (Or.inr Q1), by rw [hgo]; exact I1⟩), p_post_mi I2 (by simp [upd]) (by simp [upd]) (by simp [upd]), fun h => ?_⟩
        obtain ⟨⟨k1, s1⟩, s2⟩ := I3 h
        refine ⟨⟨1, hsafe 0⟩, fun e he => ?_⟩
        rcases List.mem_cons.mp he with he | he
        · subst he; exact ⟨k1, s1⟩
        · have := s2 e he
          simp only [p_va_ne _ _ (show e + 1 ≠ 0 by omega)] at this
          exact this
    -- a way goes on from here, with nothing left open anew
    have GO : ∀ (G : (Nat → Int32) × (Nat → Int64) × (Nat → Int64)) (t : Int32) (mi' : Nat → Int32) (pk' ps' : Nat → Int32) (pl' ph' : Nat → Int64), p_gdG G → p_zG G → (i.toInt < t.toInt ∧ t.toInt ≤ sz.toInt) → s_Ck_lookAt (fun j k => mo k j) sz gk gl gh opn (upd cki 1 (Int32.ofNat (c + 1))) ckl i = (t, va_up gk 0 G.1, va_up gl 0 G.2.1, va_up gh 0 G.2.2, opn, upd cki 1 (Int32.ofNat (c + 1)), ckl) → s_Md_goOn mo (upd mi 3 (Int32.ofNat (c + 1))) ml (gk 0) (gl 0) (gh 0) pk ps pl ph i = (1, upd (upd mi 3 (Int32.ofNat (c + 1))) 10 t, ml, G.1, G.2.1, G.2.2, pk', ps', pl', ph') → k_ok_Md_goOn mo (upd mi 3 (Int32.ofNat (c + 1))) ml (gk 0) (gl 0) (gh 0) pk ps pl ph i → (∀ q, q < 12 * L.length → pk' q = pk q ∧ pl' q = pl q ∧ ph' q = ph q) → (∀ q, q < L.length → ps' q = ps q) → ((∃ k, p_safe mo sz k G.1 G.2.1 G.2.2 t) → ∃ k, p_safe mo sz k (gk 0) (gl 0) (gh 0) i) →
        lp_ok_Md_check_67 (m + 1 + 1 + 1) mo mi ml (gk 0) (gl 0) (gh 0) pk ps pl ph 1 ∧ p_post mi (x_let (s_Ck_lookAt (fun j k => mo k j) sz gk gl gh opn (upd cki 1 (Int32.ofNat (c + 1))) ckl i) fun (r6, gk6, gl6, gh6, opn6, cki6, ckl6) => lp_Ck_goDownAllWays_8 (m + 1) (fun j k => mo k j) sz gk6 gl6 gh6 opn6 cki6 ckl6 r6 (Int32.ofNat (c + 1))) (x_let (s_Md_reasonAt mo (upd mi 3 (Int32.ofNat (c + 1))) (gk 0) (gl 0) (gh 0) i) fun r9 => (if r9 ≤ 0 then (x_let (s_Md_goOn mo (upd mi 3 (Int32.ofNat (c + 1))) ml (gk 0) (gl 0) (gh 0) pk ps pl ph i) fun (r12, mi12, ml12, mk12, mlo12, mhi12, pk12, ps12, pl12, ph12) => lp_Md_check_67 (m + 1 + 1) mo mi12 ml12 mk12 mlo12 mhi12 pk12 ps12 pl12 ph12 r12) else (0, upd (upd (upd (upd mi 3 (Int32.ofNat (c + 1))) 1 r9) 2 i) 6 1, ml, gk 0, gl 0, gh 0, pk, ps, pl, ph))) ∧ ((x_let (s_Ck_lookAt (fun j k => mo k j) sz gk gl gh opn (upd cki 1 (Int32.ofNat (c + 1))) ckl i) fun (r6, gk6, gl6, gh6, opn6, cki6, ckl6) => lp_Ck_goDownAllWays_8 (m + 1) (fun j k => mo k j) sz gk6 gl6 gh6 opn6 cki6 ckl6 r6 (Int32.ofNat (c + 1))).1 = 0 → (∃ k, p_safe mo sz k (gk 0) (gl 0) (gh 0) i) ∧ ∀ j ∈ L, ∃ k, p_safe mo sz k (gk (j + 1)) (gl (j + 1)) (gh (j + 1)) (mo 4 j)) := by
      intro G t _ pk' ps' pl' ph' gG zG ht hlook hgo hgok hpk hps hsf
      obtain ⟨c1, c2, c3, c4, c5⟩ := cntC _ rfl
      have IH := ih (c + 1) (va_up gk 0 G.1) (va_up gl 0 G.2.1) (va_up gh 0 G.2.2) opn (upd cki 1 (Int32.ofNat (c + 1))) ckl t (upd (upd mi 3 (Int32.ofNat (c + 1))) 10 t) ml pk' ps' pl' ph' L (by omega) (by omega)
        ⟨c1, c2, by simp [upd], by simp [upd, a4], by simp [upd, a5], by simp [upd, a6], by simp [upd], by simp [upd, a8]⟩
        ⟨by simp [upd, b1], by simp [upd, b2], by simp [upd, b3], b4, b5⟩
        (fun a k hk => by
          simp only [va_up]
          by_cases h : a = 0
          · simp only [h, if_true]; exact zG k hk
          · simp only [h, if_false]; exact hz a k hk)
        (by simp only [p_va_self]; exact gG) ⟨by omega, ht.2⟩
        (p_open_ext L hO (fun e he => by simp only [p_va_ne _ _ (show e + 1 ≠ 0 by omega)]; exact ⟨trivial, trivial, trivial⟩) hpk hps)
        hF (fun e he => by have := hLi e he; omega)
      simp only [p_va_self] at IH
      obtain ⟨I1, I2, I3⟩ := IH
      rw [hlook]
      simp only [x_let, hr]
      rw [if_pos (show (0 : Int32) ≤ 0 by decide), hgo]
      refine ⟨M2 J2 (fun _ => ⟨hgok, by rw [hgo]; exact I1⟩), p_post_mi I2 (by simp [upd]) (by simp [upd]) (by simp [upd]), fun h => ?_⟩
      obtain ⟨s1, s2⟩ := I3 h
      refine ⟨hsf s1, fun e he => ?_⟩
      have := s2 e he
      simp only [p_va_ne _ _ (show e + 1 ≠ 0 by omega)] at this
      exact this
    by_cases hj : mo 0 i.toNatClampNeg < 10 ∨ 13 < mo 0 i.toNatClampNeg
    · -- a step that doesn't jump
      refine GO (p_fol mo (gk 0) (gl 0) (gh 0) i) (i + 1) mi pk ps pl ph (g_fol mo i _ _ _ sz hwf hi.1 hg hl h17 hj) (z_fol mo i _ _ _ sz hwf hg hl h17 hj hpz) ⟨by omega, by omega⟩ (look_follow mo sz gk gl gh opn _ ckl i hi.1 his hsz.2 J1 h17 hj _ (e_follow mo i gk gl gh sz hwf hi.1 hg hl h17 hj)) (e_goOn mo i _ _ _ _ _ _ _ _ _ hop h17 hj) (k_goOn mo i _ _ _ _ _ _ _ _ _ sz hwf hi.1 hg hl h17 hj) (fun q _ => ⟨rfl, rfl, rfl⟩) (fun q _ => rfl) (fun ⟨k, hk⟩ => ⟨k + 1, ?_⟩)
      unfold p_safe
      refine ⟨hsafe0, ?_⟩
      rw [if_neg h17, if_pos hj]
      exact hk
    have hlook := look_fork mo sz gk gl gh opn (upd cki 1 (Int32.ofNat (c + 1))) ckl i hi.1 his hsz.2 J1 h17 hj
    rw [f_fork mo gk gl gh hz opn i] at hlook
    have htg : i.toInt < (mo 4 i.toNatClampNeg).toInt ∧ (mo 4 i.toNatClampNeg).toInt < sz.toInt := hl.2.1 (by
      have h1 : ¬ (mo 0 i.toNatClampNeg).toInt < 10 := fun h => hj (Or.inl (Int32.lt_iff_toInt_lt.mpr h))
      have h2 : ¬ 13 < (mo 0 i.toNatClampNeg).toInt := fun h => hj (Or.inr (Int32.lt_iff_toInt_lt.mpr h))
      omega)
    have zT := z_tgt mo i (gk 0) (gl 0) (gh 0) sz hwf hpz
    have zO := z_on mo i (gk 0) (gl 0) (gh 0) sz hwf hpz
    by_cases h13 : mo 0 i.toNatClampNeg = 13
    · have cO := p_cO13 mo i (gk 0) (gl 0) (gh 0) h13
      have cT := p_cT13 mo i (gk 0) (gl 0) (gh 0) h13
      have eT : p_tgt mo (gk 0) (gl 0) (gh 0) i.toNatClampNeg = (gk 0, gl 0, gh 0) := by
        unfold p_tgt; simp [h13]
      rw [if_pos cO] at hlook
      simp only [x_let] at hlook
      refine GO (p_tgt mo (gk 0) (gl 0) (gh 0) i.toNatClampNeg) (mo 4 i.toNatClampNeg) mi pk ps pl ph (by rw [eT]; exact hg) zT ⟨by omega, by omega⟩ hlook ?_ (gk_go mo i _ _ _ _ _ _ _ _ _ h13 h24) (fun q _ => ⟨rfl, rfl, rfl⟩) (fun q _ => rfl) (fun ⟨k, hk⟩ => ⟨k + 1, ?_⟩)
      · rw [g_go mo i _ _ _ _ _ _ _ _ _ h13, eT, p_upd_upd]
      · unfold p_safe
        refine ⟨hsafe0, ?_⟩
        rw [if_neg h17, if_neg hj]
        exact ⟨fun _ => hk, fun h => absurd cO h⟩
    have hop3 : mo 0 i.toNatClampNeg = 10 ∨ mo 0 i.toNatClampNeg = 11 ∨ mo 0 i.toNatClampNeg = 12 := by
      rcases p_op18 hop with h | h | h | h | h | h | h | h | h | h | h | h | h | h | h | h | h | h
      all_goals first | (exfalso; apply hj; rw [h]; decide) | (exact Or.inl h) | (exact Or.inr (Or.inl h)) | (exact Or.inr (Or.inr h)) | (exact absurd h h13)
    have a9 : (upd (upd mi 3 (Int32.ofNat (c + 1))) 10 (i + 1)) 9 = Int32.ofNat L.length := by simp [upd, a8]
    obtain ⟨Bk, B⟩ := b_branch mo i (gk 0) (gl 0) (gh 0) (upd (upd mi 3 (Int32.ofNat (c + 1))) 10 (i + 1)) L.length (by omega) a9 pk ps pl ph sz hwf hi.1 hpz zT hg hl hop3
    have hgok := gk_jump mo i (upd mi 3 (Int32.ofNat (c + 1))) ml (gk 0) (gl 0) (gh 0) pk ps pl ph hop3 h24 Bk
    have hgo := g_jump mo i (upd mi 3 (Int32.ofNat (c + 1))) ml (gk 0) (gl 0) (gh 0) pk ps pl ph hop3
    rcases B with ⟨cO, cT, eB⟩ | ⟨cO, cT, pk', pl', ph', eB, hH, hP⟩ | ⟨cO, cT, pk', pl', ph', eB, hP⟩
    · rw [if_neg cO, if_pos cT] at hlook
      simp only [x_let] at hlook
      rw [eB] at hgo
      simp only [x_let, p_upd_upd] at hgo
      refine GO (p_on mo (gk 0) (gl 0) (gh 0) i.toNatClampNeg) (i + 1) mi pk ps pl ph (g_on mo i _ _ _ sz hwf hg hl hj cO) zO ⟨by omega, by omega⟩ hlook hgo hgok (fun q _ => ⟨rfl, rfl, rfl⟩) (fun q _ => rfl) (fun ⟨k, hk⟩ => ⟨k + 1, ?_⟩)
      unfold p_safe
      refine ⟨hsafe0, ?_⟩
      rw [if_neg h17, if_neg hj]
      exact ⟨fun h => absurd cT h, fun _ => hk⟩
    · -- a way is left open here
      rw [if_neg cO, if_neg cT] at hlook
      simp only [x_let] at hlook
      rw [eB] at hgo
      simp only [x_let] at hgo
      have gT := g_tgt mo i (gk 0) (gl 0) (gh 0) sz hwf hg hl hj cT
      have gO := g_on mo i (gk 0) (gl 0) (gh 0) sz hwf hg hl hj cO
      obtain ⟨c1, c2, c3, c4, c5⟩ := cntC _ rfl
      have n0 : ∀ e : Nat, e + 1 ≠ 0 := fun e => by omega
      have IH := ih (c + 1) (va_up (va_up gk (i.toNatClampNeg + 1) (p_tgt mo (gk 0) (gl 0) (gh 0) i.toNatClampNeg).1) 0 (p_on mo (gk 0) (gl 0) (gh 0) i.toNatClampNeg).1) (va_up (va_up gl (i.toNatClampNeg + 1) (p_tgt mo (gk 0) (gl 0) (gh 0) i.toNatClampNeg).2.1) 0 (p_on mo (gk 0) (gl 0) (gh 0) i.toNatClampNeg).2.1) (va_up (va_up gh (i.toNatClampNeg + 1) (p_tgt mo (gk 0) (gl 0) (gh 0) i.toNatClampNeg).2.2) 0 (p_on mo (gk 0) (gl 0) (gh 0) i.toNatClampNeg).2.2) (upd opn i.toNatClampNeg 1) (upd cki 1 (Int32.ofNat (c + 1))) ckl (i + 1) (upd (upd (upd (upd mi 3 (Int32.ofNat (c + 1))) 10 (i + 1)) 9 (Int32.ofNat (L.length + 1))) 10 (i + 1)) ml pk' (upd ps L.length (mo 4 i.toNatClampNeg)) pl' ph' (i.toNatClampNeg :: L) (by omega) (by omega)
        ⟨c1, c2, by simp [upd], by simp [upd, a4], by simp [upd, a5], by simp [upd, a6], by simp [upd], by simp [upd]⟩
        ⟨by simp [upd, b1], by simp [upd, b2], by simp [upd, b3], b4, b5⟩
        (fun a k hk => by
          simp only [va_up]
          by_cases h : a = 0
          · simp only [h, if_true]; exact zO k hk
          · by_cases h2 : a = i.toNatClampNeg + 1
            · simp only [h2, n0, if_true, if_false]; exact zT k hk
            · simp only [h, h2, if_false]; exact hz a k hk)
        (by simp only [p_va_self]; exact gO) ⟨by omega, by omega⟩
        ⟨⟨by simp only [p_va_ne _ _ (n0 _), p_va_self]; exact hH, p_upd_self _ _ _, by simp only [p_va_ne _ _ (n0 _), p_va_self]; exact gT, ⟨by omega, htg.2⟩, fun e he => by have := hLi e he; omega⟩,
          p_open_ext L hO (fun e he => by
            have hne : e + 1 ≠ i.toNatClampNeg + 1 := by have := hLi e he; omega
            simp only [p_va_ne _ _ (n0 _), p_va_ne _ _ hne]; exact ⟨trivial, trivial, trivial⟩) hP (fun q hq => p_upd_ne _ _ (by omega))⟩
        (fun e he => by
          by_cases hej : e = i.toNatClampNeg
          · subst hej; simp [p_upd_self]
          · rw [p_upd_ne _ _ hej, hF e he]
            constructor
            · intro h1 h2; rcases List.mem_cons.mp h2 with h2 | h2; exact hej h2; exact h1 h2
            · intro h1 h2; exact h1 (List.mem_cons_of_mem _ h2))
        (fun e he => by
          rcases List.mem_cons.mp he with he | he
          · subst he; omega
          · have := hLi e he; omega)
      simp only [p_va_self] at IH
      obtain ⟨I1, I2, I3⟩ := IH
      rw [hlook]
      simp only [x_let, hr]
      rw [if_pos (show (0 : Int32) ≤ 0 by decide), hgo]
      refine ⟨M2 J2 (fun _ => ⟨hgok, by rw [hgo]; exact I1⟩), p_post_mi I2 (by simp [upd]) (by simp [upd]) (by simp [upd]), fun h => ?_⟩
      obtain ⟨⟨k1, s1⟩, s2⟩ := I3 h
      obtain ⟨k2, s3⟩ := s2 i.toNatClampNeg List.mem_cons_self
      simp only [p_va_ne _ _ (n0 _), p_va_self] at s3
      refine ⟨⟨k1 + k2 + 1, ?_⟩, fun e he => ?_⟩
      · unfold p_safe
        refine ⟨hsafe0, ?_⟩
        rw [if_neg h17, if_neg hj]
        exact ⟨fun _ => p_safe_le mo sz (by omega) _ _ _ _ s3, fun _ => p_safe_le mo sz (by omega) _ _ _ _ s1⟩
      · have hne : e + 1 ≠ i.toNatClampNeg + 1 := by have := hLi e he; omega
        have := s2 e (List.mem_cons_of_mem _ he)
        simp only [p_va_ne _ _ (n0 _), p_va_ne _ _ hne] at this
        exact this
    · rw [if_pos cO] at hlook
      simp only [x_let] at hlook
      rw [eB] at hgo
      simp only [x_let, p_upd_upd] at hgo
      refine GO (p_tgt mo (gk 0) (gl 0) (gh 0) i.toNatClampNeg) (mo 4 i.toNatClampNeg) mi pk' (upd ps L.length (mo 4 i.toNatClampNeg)) pl' ph' (g_tgt mo i _ _ _ sz hwf hg hl hj cT) zT ⟨by omega, by omega⟩ hlook hgo hgok hP (fun q hq => p_upd_ne _ _ (by omega)) (fun ⟨k, hk⟩ => ⟨k + 1, ?_⟩)
      unfold p_safe
      refine ⟨hsafe0, ?_⟩
      rw [if_neg h17, if_neg hj]
      exact ⟨fun _ => hk, fun h => absurd cO h⟩
end Loop
