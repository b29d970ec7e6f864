/-! run, to its end -/
def p_rpost (B : Nat) (mi : Nat → Int32) (C : Int64 × (Nat → Nat → Int64) × (Nat → Int32) × (Nat → Int64) × (Nat → Int32)) (M : Int64 × (Nat → Int32) × (Nat → Int32) × (Nat → Int64) × (Nat → Int64) × (Nat → Int64)) : Prop :=
  C.1 = M.1 ∧ (∀ r c, r < 6 → c < 2 → C.2.1 r c = M.2.2.2.2.2 (2 * r + c)) ∧ (C.2.2.2.2 0 = M.2.1 4 ∧ C.2.2.2.2 1 = M.2.1 5) ∧ p_z M.2.2.1 M.2.2.2.1 M.2.2.2.2.1 ∧ (∀ k, k ≠ 4 → k ≠ 5 → M.2.1 k = mi k) ∧ (0 ≤ (M.2.1 5).toInt ∧ (M.2.1 5).toInt ≤ (B : Int) + 24)
theorem p_rpost_mi {B : Nat} {mi mi' : Nat → Int32} {C : Int64 × (Nat → Nat → Int64) × (Nat → Int32) × (Nat → Int64) × (Nat → Int32)} {M : Int64 × (Nat → Int32) × (Nat → Int32) × (Nat → Int64) × (Nat → Int64) × (Nat → Int64)} (h : p_rpost B mi C M) (hm : ∀ k, k ≠ 4 → k ≠ 5 → mi k = mi' k) : p_rpost B mi' C M := by
  obtain ⟨a, b, c, d, e, f⟩ := h
  exact ⟨a, b, c, d, fun k h1 h2 => (e k h1 h2).trans (hm k h1 h2), f⟩
section Run
variable (mo : Nat → Nat → Int32) (sz : Int32)
theorem p_rdone (mp : Nat → Nat → Int64) (rk : Nat → Int32) (rv : Nat → Int64) (ri : Nat → Int32) (a1 : Int64) (n : Nat) (x : Int32) : lp_Rn_runThrough_45 (n + 1) (fun j k => mo k j) sz mp rk rv ri a1 (-1) x = (rv 0, mp, rk, rv, ri) := by
  unfold lp_Rn_runThrough_45
  rw [if_pos (show (-1 : Int32) = -1 from rfl)]
  split <;> rfl
theorem p_rcstep (mp : Nat → Nat → Int64) (rk : Nat → Int32) (rv : Nat → Int64) (ri : Nat → Int32) (a1 : Int64) (n c : Nat) (hc : c < 24) (i : Int32) (hi : 0 ≤ i.toInt) : lp_Rn_runThrough_45 (n + 1) (fun j k => mo k j) sz mp rk rv ri a1 i (Int32.ofNat c) = (x_let (s_Rn_runStep (fun j k => mo k j) sz mp rk rv (upd ri 0 (ri 0 + 1)) i) fun (r6, mp6, rk6, rv6, ri6) => lp_Rn_runThrough_45 n (fun j k => mo k j) sz mp6 rk6 rv6 ri6 a1 r6 (Int32.ofNat (c + 1))) := by
  conv => lhs; unfold lp_Rn_runThrough_45
  rw [if_neg (by rw [p_le24 (by omega)]; omega), if_neg (fun h => by rw [h] at hi; exact absurd hi (by decide)), p_c1]
theorem p_run (hwf : p_wf mo sz) (a1 : Int64) (B : Nat) (hB : B ≤ 20000) : ∀ (n c : Nat) (i : Int32) (K : Nat → Int32) (Lo Hi : Nat → Int64) (rk : Nat → Int32) (rv : Nat → Int64) (mp : Nat → Nat → Int64) (ri mi mk : Nat → Int32) (mlo mhi mm : Nat → Int64) (s : Nat), c + n = 25 → (c : Int) ≤ i.toInt → p_safe mo sz s K Lo Hi i → p_gd K Lo Hi → p_gam K Lo Hi rk rv → p_cc rk rv mk mlo mhi → p_z mk mlo mhi → (∀ r c, r < 6 → c < 2 → mp r c = mm (2 * r + c)) → ri 0 + 1 = mi 4 → ri 1 = mi 5 → (0 ≤ (mi 5).toInt ∧ (mi 5).toInt ≤ (B : Int) + c) →
    lp_ok_Md_run_70 n mo mi mk mlo mhi mm a1 i ∧ p_rpost B mi (lp_Rn_runThrough_45 n (fun j k => mo k j) sz mp rk rv ri a1 i (Int32.ofNat c)) (lp_Md_run_70 n mo mi mk mlo mhi mm a1 i) := by
  have hsz := hwf.2
  intro n
  induction n with
  | zero =>
    intro c i K Lo Hi rk rv mp ri mi mk mlo mhi mm s hcn hci hsafe
    exfalso
    cases s with
    | zero => exact hsafe
    | succ s =>
      have hl := j_let mo i _ _ _ _ hsafe.1.2
      have := hl.1
      omega
  | succ n ih =>
    intro c i K Lo Hi rk rv mp ri mi mk mlo mhi mm s hcn hci hsafe hg hgam hcc hz hm h4 h5 hn
    obtain ⟨s, rfl⟩ : ∃ t, s = t + 1 := by
      cases s with
      | zero => exact hsafe.elim
      | succ t => exact ⟨t, rfl⟩
    unfold p_safe at hsafe
    obtain ⟨⟨hi0, hr⟩, hs⟩ := hsafe
    have hl : p_let mo i sz K Lo Hi := j_let mo i _ _ _ _ hr
    have his := hl.1
    have h24 : vp_in i 24 := vp_in_iff.mpr (by omega)
    obtain ⟨hop, hd, hsr, ht⟩ := hwf.1 i.toNatClampNeg
    have e1 : (i + 1).toInt = i.toInt + 1 := by
      rw [Int32.toInt_add, show (1 : Int32).toInt = 1 from rfl, Int.bmod_def]; omega
    have N := j_number0 mo i hl.2.2.2.1
    rw [p_rcstep mo sz mp rk rv ri a1 n c (by omega) i hi0, rs_some mo i sz mp rk rv _ hi0 his hsz.2]
    obtain ⟨m, rfl⟩ : ∃ m, n = m + 1 := ⟨n - 1, by omega⟩
    have z4 : ∀ mi' : Nat → Int32, (∀ k, k ≠ 5 → mi' k = mi k) → ∀ k, k ≠ 4 → k ≠ 5 → (upd mi' 4 (mi' 4 + 1)) k = mi k := by
      intro mi' h k h1 h2; rw [p_upd_ne _ _ h1]; exact h k h2
    by_cases h17 : mo 0 i.toNatClampNeg = 17
    · obtain ⟨q1, q2⟩ := r_17 mo i mi mk mlo mhi mm a1 (m + 1) h17 h24
      rw [if_pos h17]
      simp only [x_let, p_rdone]
      rw [q1]
      refine ⟨q2, (cc_lo hcc (by omega)).symm, hm, ⟨?_, ?_⟩, hz, fun _ _ _ => rfl, hn.1, ?_⟩
      · show upd ri 0 (ri 0 + 1) 0 = mi 4
        rw [p_upd_self]; exact h4
      · show upd ri 0 (ri 0 + 1) 1 = mi 5
        rw [p_upd_ne _ _ (by decide)]; exact h5
      · show (mi 5).toInt ≤ (B : Int) + 24
        omega
    rw [if_neg h17] at hs ⊢
    by_cases hj : mo 0 i.toNatClampNeg < 10 ∨ 13 < mo 0 i.toNatClampNeg
    · rw [if_pos hj] at hs ⊢
      have hs : p_safe mo sz s (p_fol mo K Lo Hi i).1 (p_fol mo K Lo Hi i).2.1 (p_fol mo K Lo Hi i).2.2 (i + 1) := hs
      have gF : p_gdG (p_fol mo K Lo Hi i) := g_fol mo i K Lo Hi sz hwf hi0 hg hl h17 hj
      -- one round, and then the rest
      have GO : ∀ (mp' : Nat → Nat → Int64) (rk' : Nat → Int32) (rv' : Nat → Int64) (ri' mi' mk' : Nat → Int32) (mlo' mhi' mm' : Nat → Int64), p_gamG (p_fol mo K Lo Hi i) rk' rv' → p_cc rk' rv' mk' mlo' mhi' → p_z mk' mlo' mhi' → (∀ r c, r < 6 → c < 2 → mp' r c = mm' (2 * r + c)) → ri' 0 = ri 0 + 1 → ri' 1 = mi' 5 → (∀ k, k ≠ 5 → mi' k = mi k) → (0 ≤ (mi' 5).toInt ∧ (mi' 5).toInt ≤ (mi 5).toInt + 1) → (lp_Md_run_70 (m + 1 + 1) mo mi mk mlo mhi mm a1 i = lp_Md_run_70 (m + 1) mo (upd mi' 4 (mi' 4 + 1)) mk' mlo' mhi' mm' a1 (i + 1) ∧ (lp_ok_Md_run_70 (m + 1) mo (upd mi' 4 (mi' 4 + 1)) mk' mlo' mhi' mm' a1 (i + 1) → lp_ok_Md_run_70 (m + 1 + 1) mo mi mk mlo mhi mm a1 i)) → lp_ok_Md_run_70 (m + 1 + 1) mo mi mk mlo mhi mm a1 i ∧ p_rpost B mi (lp_Rn_runThrough_45 (m + 1) (fun j k => mo k j) sz mp' rk' rv' ri' a1 (i + 1) (Int32.ofNat (c + 1))) (lp_Md_run_70 (m + 1 + 1) mo mi mk mlo mhi mm a1 i) := by
        intro mp' rk' rv' ri' mi' mk' mlo' mhi' mm' g1 g2 g3 g4 g5 g6 g7 g8 g9
        obtain ⟨i1, i2⟩ := ih (c + 1) (i + 1) _ _ _ rk' rv' mp' ri' (upd mi' 4 (mi' 4 + 1)) mk' mlo' mhi' mm' s (by omega) (by omega) hs gF g1 g2 g3 g4 (by rw [p_upd_self, g5, h4, g7 4 (by decide)]) (by rw [p_upd_ne _ _ (by decide)]; exact g6) (by rw [p_upd_ne _ _ (by decide)]; omega)
        rw [g9.1]
        exact ⟨g9.2 i1, p_rpost_mi i2 (z4 mi' g7)⟩
      by_cases h10 : mo 0 i.toNatClampNeg < 10
      · have h14 : mo 0 i.toNatClampNeg < 14 := by
          rw [Int32.lt_iff_toInt_lt] at h10 ⊢
          rw [show (10 : Int32).toInt = 10 from rfl] at h10
          rw [show (14 : Int32).toInt = 14 from rfl]; omega
        rw [if_pos h14]
        obtain ⟨mk', mlo', mhi', q1, q2, q3⟩ := m_reckon mo i sz rk rv mi mk mlo mhi mm a1 hwf h24 N.2.1 h10 hcc hz
        exact GO mp _ _ (upd ri 0 (ri 0 + 1)) mi mk' mlo' mhi' mm (s_reckon mo i sz K Lo Hi rk rv hwf hg hl h10 hgam) q2 q3 hm (p_upd_self _ _ _) (by rw [p_upd_ne _ _ (by decide)]; exact h5) (fun _ _ => rfl) ⟨hn.1, by omega⟩ (q1 (m + 1))
      · have h13 : 13 < mo 0 i.toNatClampNeg := hj.elim (fun h => absurd h h10) id
        have h14 : ¬ mo 0 i.toNatClampNeg < 14 := by
          rw [Int32.lt_iff_toInt_lt] at h13 ⊢
          rw [show (13 : Int32).toInt = 13 from rfl] at h13
          rw [show (14 : Int32).toInt = 14 from rfl]; omega
        rw [if_neg h14]
        rcases p_op18 hop with h | h | h | h | h | h | h | h | h | h | h | h | h | h | h | h | h | h
        all_goals first | (exfalso; rw [h] at h13; exact absurd h13 (by decide)) | (exact absurd h h17) | skip
        · obtain ⟨rk', rv', mk', mlo', mhi', q1, q2, q3, q4, q5, q6⟩ := s_load mo i sz K Lo Hi rk rv mk mlo mhi mm mp (upd ri 0 (ri 0 + 1)) a1 hwf hi0 hg hl h hgam hcc hz hm
          have R := r_14 mo i mi mk mlo mhi mm a1 (m + 1) h h24 q2
          rw [q3] at R
          rw [q1]
          exact GO mp rk' rv' (upd ri 0 (ri 0 + 1)) mi mk' mlo' mhi' mm q4 q5 q6 hm (p_upd_self _ _ _) (by rw [p_upd_ne _ _ (by decide)]; exact h5) (fun _ _ => rfl) ⟨hn.1, by omega⟩ R
        · obtain ⟨mp', rk', rv', mk', mlo', mhi', mm', q1, q2, q3, q4, q5, q6, q7⟩ := s_stor mo i sz K Lo Hi rk rv mk mlo mhi mm mp (upd ri 0 (ri 0 + 1)) a1 hwf hi0 hg hl h hgam hcc hz hm
          have R := r_15 mo i mi mk mlo mhi mm a1 (m + 1) h h24 q2
          rw [q3] at R
          rw [q1]
          exact GO mp' rk' rv' (upd ri 0 (ri 0 + 1)) mi mk' mlo' mhi' mm' q4 q5 q6 q7 (p_upd_self _ _ _) (by rw [p_upd_ne _ _ (by decide)]; exact h5) (fun _ _ => rfl) ⟨hn.1, by omega⟩ R
        · obtain ⟨rk', rv', ri', mi', mk', mlo', mhi', q1, q2, q3, q4, q5, q6, q7, q8, q9⟩ := s_calln mo i sz K Lo Hi rk rv mi mk mlo mhi mp (upd ri 0 (ri 0 + 1)) hwf hi0 hg hl h hgam hcc hz (by rw [p_upd_ne _ _ (by decide)]; exact h5) ⟨hn.1, by omega⟩
          have R := r_16 mo i mi mk mlo mhi mm a1 (m + 1) h h24 q2
          rw [q3] at R
          rw [q1]
          exact GO mp rk' rv' ri' mi' mk' mlo' mhi' mm q4 q5 q6 hm (by rw [q7.1, p_upd_self]) q7.2 q8 q9 R
    · rw [if_neg hj] at hs ⊢
      have htg : i.toInt < (mo 4 i.toNatClampNeg).toInt ∧ (mo 4 i.toNatClampNeg).toInt < sz.toInt := hl.2.1 (by
        have h1 : ¬ (mo 0 i.toNatClampNeg).toInt < 10 := fun h => hj (Or.inl (Int32.lt_iff_toInt_lt.mpr h))
        have h2 : ¬ 13 < (mo 0 i.toNatClampNeg).toInt := fun h => hj (Or.inr (Int32.lt_iff_toInt_lt.mpr h))
        omega)
      have hd6 := p_reg hd
      have hs6 := p_reg hsr
      have hd12 : vp_in (mo 1 i.toNatClampNeg) 12 := vp_in_iff.mpr (by omega)
      have hs12 : vp_in (mo 2 i.toNatClampNeg) 12 := vp_in_iff.mpr (by omega)
      have R : ∃ t, (t = if s_Rn_jumps (fun j k => mo k j) rk rv i.toNatClampNeg = 0 then i + 1 else mo 4 i.toNatClampNeg) ∧ lp_Md_run_70 (m + 1 + 1) mo mi mk mlo mhi mm a1 i = lp_Md_run_70 (m + 1) mo (upd mi 4 (mi 4 + 1)) mk mlo mhi mm a1 t ∧ (lp_ok_Md_run_70 (m + 1) mo (upd mi 4 (mi 4 + 1)) mk mlo mhi mm a1 t → lp_ok_Md_run_70 (m + 1 + 1) mo mi mk mlo mhi mm a1 i) := by
        by_cases h13 : mo 0 i.toNatClampNeg = 13
        · refine ⟨_, rfl, ?_⟩
          rw [if_neg (by simp [s_Rn_jumps, h13])]
          exact r_13 mo i mi mk mlo mhi mm a1 (m + 1) h13 h24
        have hop3 : mo 0 i.toNatClampNeg = 10 ∨ mo 0 i.toNatClampNeg = 11 ∨ mo 0 i.toNatClampNeg = 12 := by
          rcases p_op18 hop with h | h | h | h | h | h | h | h | h | h | h | h | h | h | h | h | h | h
          all_goals first | (exfalso; apply hj; rw [h]; decide) | (exact Or.inl h) | (exact Or.inr (Or.inl h)) | (exact Or.inr (Or.inr h)) | (exact absurd h h13)
        have ka : k_ok_Md_above mo mk mlo i := by
          unfold k_ok_Md_above
          refine ⟨h24, hd12, ?_⟩
          split
          · trivial
          · split
            · trivial
            · exact ⟨hs12, trivial⟩
        have ea : s_Md_above mo mk mlo i = s_Rn_jumps (fun j k => mo k j) rk rv i.toNatClampNeg := by
          have ed : mlo (mo 1 i.toNatClampNeg).toNatClampNeg = rv (mo 1 i.toNatClampNeg).toNatClampNeg := cc_lo hcc (by omega)
          have es : mlo (mo 2 i.toNatClampNeg).toNatClampNeg = rv (mo 2 i.toNatClampNeg).toNatClampNeg := cc_lo hcc (by omega)
          have k1 := cc_1 hcc (show (mo 1 i.toNatClampNeg).toNatClampNeg < 12 by omega)
          unfold s_Md_above s_Rn_jumps
          simp only [ed, es]
          rcases hop3 with h | h | h
          · rw [if_pos h, if_pos h]
            by_cases c1 : rk (mo 1 i.toNatClampNeg).toNatClampNeg = 1
            · rw [if_pos (k1.mpr c1), if_pos c1]
            · rw [if_neg (fun x => c1 (k1.mp x)), if_neg c1]
          · simp only [h, if_true, if_false, show ¬ (11 : Int32) = 10 by decide]
          · simp only [h, if_true, if_false, show ¬ (12 : Int32) = 10 by decide, show ¬ (12 : Int32) = 11 by decide]
        refine ⟨_, rfl, ?_⟩
        rw [← ea]
        exact r_1012 mo i mi mk mlo mhi mm a1 (m + 1) hop3 h24 ka
      obtain ⟨t, et, R1, R2⟩ := R
      rw [R1]
      by_cases hjump : s_Rn_jumps (fun j k => mo k j) rk rv i.toNatClampNeg = 0
      · rw [if_pos hjump] at et ⊢
        obtain ⟨p1, p2⟩ := s_pass mo i K Lo Hi rk rv sz hwf hl hj hgam hjump
        obtain ⟨i1, i2⟩ := ih (c + 1) t _ _ _ rk rv mp (upd ri 0 (ri 0 + 1)) (upd mi 4 (mi 4 + 1)) mk mlo mhi mm s (by omega) (by rw [et]; omega) (by rw [et]; exact hs.2 p1) (g_on mo i K Lo Hi sz hwf hg hl hj p1) p2 hcc hz hm (by rw [p_upd_self, p_upd_self, h4]) (by rw [p_upd_ne _ _ (by decide), p_upd_ne _ _ (by decide)]; exact h5) (by rw [p_upd_ne _ _ (by decide)]; omega)
        refine ⟨R2 i1, ?_⟩
        rw [et] at i2 ⊢
        exact p_rpost_mi i2 (z4 mi (fun _ _ => rfl))
      · rw [if_neg hjump] at et ⊢
        obtain ⟨p1, p2⟩ := s_jump mo i K Lo Hi rk rv sz hwf hl hj hgam hjump
        obtain ⟨i1, i2⟩ := ih (c + 1) t _ _ _ rk rv mp (upd ri 0 (ri 0 + 1)) (upd mi 4 (mi 4 + 1)) mk mlo mhi mm s (by omega) (by rw [et]; omega) (by rw [et]; exact hs.1 p1) (g_tgt mo i K Lo Hi sz hwf hg hl hj p1) p2 hcc hz hm (by rw [p_upd_self, p_upd_self, h4]) (by rw [p_upd_ne _ _ (by decide), p_upd_ne _ _ (by decide)]; exact h5) (by rw [p_upd_ne _ _ (by decide)]; omega)
        refine ⟨R2 i1, ?_⟩
        rw [et] at i2 ⊢
        exact p_rpost_mi i2 (z4 mi (fun _ _ => rfl))
end Run
