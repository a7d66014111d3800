/-! ===== the law's helper methods over a table: all is refused, nothing changes ===== -/
theorem q_rb80 {μ : gx_M} {nb : Nat} (hb5 : μ 8 5 = nI nb) (hnb : nb ≤ 10) (k : gx_M → Int32 → Option (Int32 × gx_M)) (n : Nat) : lf_L_refusesBowls_80 gl_kd 6 (nI nb) k (n + 3) μ 0 = k μ (0 + 1 + 1) := by
  have hs := phas_self nb (by omega)
  have hm := phas_m1 nb
  rw [lf_L_refusesBowls_80, if_neg (show ¬ (2 : Int32) ≤ 0 by decide), if_pos rfl, r_remove hb5 hs, pb_s, if_pos rfl, r_pour hb5 hs, pb_s, if_pos rfl, r_spill hb5 hs, pb_s, if_pos rfl, r_crack hb5 hs, pb_s, if_pos rfl, r_mark hb5 hs, pb_s, if_pos rfl, r_bowlOf hb5 hs, pb_s, if_pos rfl, r_levelFor hb5 hs, pb_s, if_pos rfl, r_pitchAt hb5 hs, pb_s, if_pos rfl]
  rw [lf_L_refusesBowls_80, if_neg (show ¬ (2 : Int32) ≤ 0 + 1 by decide), if_neg (show ¬ (0 : Int32) + 1 = 0 by decide), r_remove hb5 hm, pb_s, if_pos rfl, r_pour hb5 hm, pb_s, if_pos rfl, r_spill hb5 hm, pb_s, if_pos rfl, r_crack hb5 hm, pb_s, if_pos rfl, r_mark hb5 hm, pb_s, if_pos rfl, r_bowlOf hb5 hm, pb_s, if_pos rfl, r_levelFor hb5 hm, pb_s, if_pos rfl, r_pitchAt hb5 hm, pb_s, if_pos rfl]
  rw [lf_L_refusesBowls_80, if_pos (show (2 : Int32) ≤ 0 + 1 + 1 by decide)]
theorem q_near0 {μ : gx_M} (hb5 : μ 8 5 = nI 0) : fn_X6_nearest gl_kd μ 6 0 = some (-100004, μ) := by
  unfold fn_X6_nearest fn_X6_orNotFound
  simp only [Nat.reduceAdd]
  rw [pg_within, pb_s, if_neg (by decide), pg_near pKB_8 hb5 (by decide), pb_s]
  rfl
theorem q_refB {μ : gx_M} (hT : RT μ 7 (μ 1)) : ∃ κ', fn_L_refusesBowls gl_kd μ 6 = some (1, κ') ∧ ∀ a, (a < 32 ∨ 57 ≤ a) → κ' a = μ a := by
  obtain ⟨nb, nn, hB, hN, hS⟩ := id hT
  have hnb := hB.1
  have hb5 : μ 8 5 = nI nb := hB.2.1.1
  have c1 : fn_X6_count gl_kd μ 6 1 = some (nI nb, μ) := (c_count hT 1 (by decide) (by decide) (by decide)).trans (by rw [show ck (μ 1) 1 = nI nb from hB.2.1.2])
  obtain ⟨t0, ht0, h00⟩ := hS.2.1
  have h73 : μ 7 3 = nI t0 := hS.1.trans h00
  have c0 : fn_X6_count gl_kd μ 6 0 = some (μ 7 3, μ) := (c_count hT 0 (by decide) (by decide) (by decide)).trans (by rw [show ck (μ 1) 0 = μ 7 3 from hS.1.symm])
  unfold fn_L_refusesBowls
  rw [c1, pb_s, r_bowl1 (by decide), pb_s, if_pos rfl, r_bowl1 (by decide), pb_s, if_pos rfl, r_bowl2 (by decide) (by decide), pb_s, if_pos rfl, r_bowl2 (by decide) (by decide), pb_s, if_pos rfl, r_near (by decide), pb_s, if_pos rfl, r_near (by decide), pb_s, if_pos rfl, show gx_F = 4997 + 3 from rfl, q_rb80 hb5 hnb]
  by_cases hz : nb = 0
  · subst hz
    obtain ⟨κ1, f1, f2⟩ := q_ff0 hB hN hS
    have w1 : κ1 1 = μ 1 := f2 1 (by decide)
    obtain ⟨κ2, g1, g2⟩ := q_lt0 (μ := κ1) (nn := nn) (by rw [w1]; exact rB_c hB (fun a h1 h2 => f2 a (by omega)) (fun _ _ _ => rfl)) (by rw [w1]; exact rN_c hN (fun a h1 h2 => f2 a (by omega)) (fun _ _ _ => rfl)) (by rw [w1]; exact rS_c hS (by rw [f2 7 (by omega)]) (f2 31 (by omega)) (fun _ _ _ => rfl))
    refine ⟨κ2, ?_, fun a ha => by rw [g2 a ha, f2 a ha]⟩
    rw [if_pos (show nI 0 ≤ 0 by decide), if_neg (show ¬ 0 < nI 0 by decide), q_near0 hb5, pb_s, if_pos rfl, f1, pb_s, if_pos rfl, g1, pb_s, if_pos rfl]
  · have h0 : ¬ phas 0 nb = 0 := phas_0 (by omega) (by omega)
    obtain ⟨κ1, f1, f2⟩ := q_pitchNow hB hN hS (by omega)
    have w1 : κ1 1 = μ 1 := f2 1 (by decide)
    have b1 := c_bowlOf (μ := κ1) (s := μ 1) (nb := nb) (b := 0) (w := 5) (rB_c hB (fun a h1 h2 => f2 a (by omega)) (fun _ _ _ => rfl)) (by omega) (by decide)
    have b1' : fn_X6_bowlOf gl_kd κ1 6 0 5 = some (bk (μ 1) 0 5, κ1) := b1
    obtain ⟨g1, g2, g3, _⟩ := hB.2.2.2 0 (by omega)
    have eq : ppt (μ 10 0) (μ 12 0) (μ 14 0) = bk (μ 1) 0 5 := by
      show ppt (μ (8 + 2) 0) (μ (8 + 4) 0) (μ (8 + 6) 0) = _
      rw [g1, g2, g3]
      rfl
    refine ⟨κ1, ?_, f2⟩
    rw [if_neg (show ¬ nI nb ≤ 0 from nI_nle (by omega) (by omega)), r_pour2 hb5 h0 (by decide), pb_s, if_pos rfl, r_pour2 hb5 h0 (by decide), pb_s, if_pos rfl, r_spill2 hb5 h0 (by decide), pb_s, if_pos rfl, r_spill2 hb5 h0 (by decide), pb_s, if_pos rfl, r_crack2 hb5 h0 (by decide), pb_s, if_pos rfl, r_crack2 hb5 h0 (by decide), pb_s, if_pos rfl, r_mark2 hb5 h0 (by decide), pb_s, if_pos rfl, r_mark2 hb5 h0 (by decide), pb_s, if_pos rfl, r_bowlOf2 hb5 h0 (by decide), pb_s, if_pos rfl, r_bowlOf2 hb5 h0 (by decide), pb_s, if_pos rfl, r_levelFor2 hb5 h0 (by decide), pb_s, if_pos rfl, r_levelFor2 hb5 h0 (by decide), pb_s, if_pos rfl, r_pitchAt2 hb5 h0 (pwi_hi (by decide)), pb_s, if_pos rfl]
    rw [c0, pb_s, r_pitchAt2 hb5 h0 (pwi_lo (by rw [h73]; exact i_pred (by omega))), pb_s, if_pos rfl, c0, pb_s, f1, pb_s, b1', pb_s, if_pos eq, if_pos (show 0 < nI nb from Int32.not_le.1 (nI_nle (by omega) (by omega)))]
theorem q_rn103 {μ : gx_M} {nn : Nat} (hn5 : μ 19 5 = nI nn) (hnn : nn ≤ 40) (k : gx_M → Int32 → Option (Int32 × gx_M)) (n : Nat) : lf_L_refusesNotes_103 gl_kd 6 (nI nn) k (n + 3) μ 0 = k μ (0 + 1 + 1) := by
  have hs := phas_self nn (by omega)
  have hm := phas_m1 nn
  rw [lf_L_refusesNotes_103, if_neg (show ¬ (2 : Int32) ≤ 0 by decide), if_pos rfl, r_drop hn5 hs, pb_s, if_pos rfl, r_noteOf hn5 hs, pb_s, if_pos rfl, r_wouldBe hn5 hs, pb_s, if_pos rfl]
  rw [lf_L_refusesNotes_103, if_neg (show ¬ (2 : Int32) ≤ 0 + 1 by decide), if_neg (show ¬ (0 : Int32) + 1 = 0 by decide), r_drop hn5 hm, pb_s, if_pos rfl, r_noteOf hn5 hm, pb_s, if_pos rfl, r_wouldBe hn5 hm, pb_s, if_pos rfl]
  rw [lf_L_refusesNotes_103, if_pos (show (2 : Int32) ≤ 0 + 1 + 1 by decide)]
theorem r_worst1 {μ : gx_M} : fn_X6_worst gl_kd μ 6 (-1) = some (-100001, μ) := by
  unfold fn_X6_worst
  rw [if_neg (by decide)]
theorem r_taken {μ : gx_M} {nn : Nat} {v : Int32} (hN : rN μ 19 (μ 1) nn) (h1 : ¬ pwi v 0 3600 = 0) (hat : pAt (μ (19 + 2)) nn v) : fn_X6_note gl_kd μ 6 v 0 = some (-100002, μ) := by
  unfold fn_X6_note
  simp only [Nat.reduceAdd]
  rcases pg_hasAt (μ := μ) (c := 19) (v := v) pKN_19 hN.2.1.1 hN.1 (rN_so hN) with ⟨g1, g2⟩ | ⟨g1, g2⟩
  · rw [pg_within, pb_s, if_neg h1, pg_within, pb_s, if_neg (by decide), g2, pb_s, if_neg (by decide)]
  · exact absurd hat g1
theorem pwi_in {n : Nat} (h : n ≤ 6000) : ¬ pwi (nI n) (-6000) 6000 = 0 := by
  unfold pwi
  have h0 := nI_nn (n := n) (by omega)
  have h1 : ¬ nI n < (-6000 : Int32) := by
    rw [Int32.lt_iff_toInt_lt, nI_toInt (by omega), show (-6000 : Int32).toInt = -6000 by decide]
    omega
  rw [if_neg h1, if_neg (show ¬ (6000 : Int32) < nI n from nI_nlt (a := 6000) h (by omega))]
  decide
theorem q_refN {μ : gx_M} (hT : RT μ 7 (μ 1)) : fn_L_refusesNotes gl_kd μ 6 = some (1, μ) := by
  obtain ⟨nb, nn, hB, hN, hS⟩ := id hT
  have hnn := hN.1
  have hn5 : μ 19 5 = nI nn := hN.2.1.1
  have c2 : fn_X6_count gl_kd μ 6 2 = some (nI nn, μ) := (c_count hT 2 (by decide) (by decide) (by decide)).trans (by rw [show ck (μ 1) 2 = nI nn from hN.2.1.2])
  unfold fn_L_refusesNotes
  rw [c2, pb_s, r_note1 (by decide), pb_s, if_pos rfl, r_note1 (by decide), pb_s, if_pos rfl, r_note2 (by decide) (by decide), pb_s, if_pos rfl, r_note2 (by decide) (by decide), pb_s, if_pos rfl, r_trans1 hn5 (Or.inr (phas_self nn (by omega))), pb_s, if_pos rfl, r_trans1 hn5 (Or.inl (phas_m1 nn)), pb_s, if_pos rfl, r_worst1, pb_s, if_pos rfl, q_worst40 hT, pb_s, if_pos rfl, show gx_F = 4997 + 3 from rfl, q_rn103 hn5 hnn]
  by_cases h2 : nn < 2
  · rw [if_pos (show nI nn < 2 from nI_lt (b := 2) h2 (by decide))]
  · have p0 : ¬ phas 0 nn = 0 := phas_0 (by omega) (by omega)
    have p1 : ¬ phas 1 nn = 0 := phas_1 (by omega) (by omega)
    obtain ⟨q1, q2, q3, ⟨T, hT1, hT2⟩, ⟨V, hV1, hV2⟩⟩ := hN.2.2.1 0 (by omega)
    have n0 : fn_X6_noteOf gl_kd μ 6 0 0 = some (μ 1 61, μ) := c_noteOf (μ := μ) (s := μ 1) (i := 0) (w := 0) hN hS (by omega) (by decide)
    have n1 : fn_X6_noteOf gl_kd μ 6 0 1 = some (nI V, μ) := (c_noteOf (μ := μ) (s := μ 1) (i := 0) (w := 1) hN hS (by omega) (by decide)).trans (by rw [show nk (μ 1) 0 1 = nI V from hV2])
    have e61 : μ 1 61 = nI T := hT2
    have e23 : μ 23 0 = nI V := q2.trans hV2
    rw [if_neg (show ¬ nI nn < 2 from nI_nlt (b := 2) (by omega) (by omega)), r_trans2 hn5 p1 p0 (by decide), pb_s, if_pos rfl, r_trans3 hn5 p0 p0 (by decide) (Or.inr rfl), pb_s, if_pos rfl, r_trans3 hn5 p0 p0 (by decide) (Or.inl (by decide)), pb_s, if_pos rfl, r_trans3 hn5 p0 p0 (by decide) (Or.inl (by decide)), pb_s, if_pos rfl, r_noteOf2 hn5 p0 (by decide), pb_s, if_pos rfl, r_noteOf2 hn5 p0 (by decide), pb_s, if_pos rfl, n0, pb_s, r_taken hN (by rw [e61, show (0 : Int32) = nI 0 from rfl, show (3600 : Int32) = nI 3600 from rfl, pwi_t (by omega) hT1 (by decide)]; decide) ⟨0, by omega, q1⟩, pb_s, if_pos rfl, n1, pb_s]
    by_cases hv : V = 0
    · subst hv
      rw [if_pos (show nI 0 ≤ 0 by decide), show (1 : Int32) = nI 1 from rfl, r_trans4 hn5 hnn (by omega) (by decide) (by decide) (by rw [e23]; decide), pb_s, if_pos rfl]
    · have eV : (6001 : Int32) - nI V = nI (6001 - V) := pk_sub (a := 6001) (by omega)
      rw [if_neg (show ¬ nI V ≤ 0 from nI_nle (by omega) (by omega)), n1, pb_s, eV]
      have t4 := r_trans4 (μ := μ) (j := 0) (c := nI (6001 - V)) hn5 hnn (by omega) (pwi_in (by omega)) (nI_ne0 (by omega) (by omega)) (by rw [e23, nI_add, show V + (6001 - V) = 6001 by omega]; decide)
      rw [show (nI 0 : Int32) = 0 from rfl] at t4
      rw [t4, pb_s, if_pos rfl]
theorem r_set {μ : gx_M} {a v : Int32} (h : fn_X6_isSetting gl_kd μ a v = some (0, μ)) : fn_X6_set gl_kd μ 6 a v = some (-100001, μ) := by
  unfold fn_X6_set
  simp only [Nat.reduceAdd]
  rw [h, pb_s, if_pos rfl]
theorem r_run {μ : gx_M} {a : Int32} (h : pwi a 1 600 = 0) : fn_X6_run gl_kd μ 6 a = some (-100001, μ) := by
  unfold fn_X6_run
  simp only [Nat.reduceAdd]
  rw [pg_within, pb_s, if_pos h]
theorem r_type {μ : gx_M} {a : Int32} (h : pwi a 32 126 = 0) : fn_X6_type gl_kd μ 6 a = some (-100001, μ) := by
  unfold fn_X6_type
  simp only [Nat.reduceAdd]
  rw [pg_within, pb_s, if_pos h]
theorem r_fault {μ : gx_M} {a : Int32} (h : pwi a 0 1 = 0) : fn_X6_fault gl_kd μ 6 a = some (-100001, μ) := by
  unfold fn_X6_fault
  simp only [Nat.reduceAdd]
  rw [pg_within, pb_s, if_pos h]
theorem r_count1 {μ : gx_M} : fn_X6_count gl_kd μ 6 (-1) = some (-100001, μ) := by
  unfold fn_X6_count
  simp only [Nat.reduceAdd]
  rw [pg_within, pb_s, if_pos (show pwi (-1) 10 13 = 0 by decide), pg_within, pb_s, if_pos (show pwi (-1) 20 24 = 0 by decide), if_neg (show ¬ (-1 : Int32) = 0 by decide), if_neg (show ¬ (-1 : Int32) = 1 by decide), if_neg (show ¬ (-1 : Int32) = 2 by decide), if_neg (show ¬ (-1 : Int32) = 3 by decide), if_neg (show ¬ (-1 : Int32) = 4 by decide), if_neg (show ¬ (-1 : Int32) = 5 by decide), if_neg (show ¬ (-1 : Int32) = 6 by decide), if_neg (show ¬ (-1 : Int32) = 7 by decide), if_neg (show ¬ (-1 : Int32) = 8 by decide)]
theorem q_c7 {μ : gx_M} : fn_X6_count gl_kd μ 6 7 = some (μ 57 2, μ) := by
  unfold fn_X6_count fn_X1_size
  simp only [Nat.reduceAdd]
  rw [pg_within, pb_s, if_pos (show pwi 7 10 13 = 0 by decide), pg_within, pb_s, if_pos (show pwi 7 20 24 = 0 by decide), if_neg (show ¬ (7 : Int32) = 0 by decide), if_neg (show ¬ (7 : Int32) = 1 by decide), if_neg (show ¬ (7 : Int32) = 2 by decide), if_neg (show ¬ (7 : Int32) = 3 by decide), if_neg (show ¬ (7 : Int32) = 4 by decide), if_neg (show ¬ (7 : Int32) = 5 by decide), if_neg (show ¬ (7 : Int32) = 6 by decide), if_pos trivial, pb_s]
theorem q_c8 {μ : gx_M} : fn_X6_count gl_kd μ 6 8 = some (μ 184 1, μ) := by
  unfold fn_X6_count fn_X5_length
  simp only [Nat.reduceAdd]
  rw [pg_within, pb_s, if_pos (show pwi 8 10 13 = 0 by decide), pg_within, pb_s, if_pos (show pwi 8 20 24 = 0 by decide), if_neg (show ¬ (8 : Int32) = 0 by decide), if_neg (show ¬ (8 : Int32) = 1 by decide), if_neg (show ¬ (8 : Int32) = 2 by decide), if_neg (show ¬ (8 : Int32) = 3 by decide), if_neg (show ¬ (8 : Int32) = 4 by decide), if_neg (show ¬ (8 : Int32) = 5 by decide), if_neg (show ¬ (8 : Int32) = 6 by decide), if_neg (show ¬ (8 : Int32) = 7 by decide), if_pos trivial, pb_s]
theorem lg_cmp_self (x : Int64) : lg_cmp x x = 0 := by
  simp [lg_cmp]
theorem q_refused {μ : gx_M} (hT : RT μ 7 (μ 1)) : ∃ κ', fn_L_refused gl_kd μ 6 = some (1, κ') ∧ ∀ a, (a < 32 ∨ 57 ≤ a) → κ' a = μ a := by
  obtain ⟨κ1, f1, f2⟩ := q_refB hT
  have w1 : κ1 1 = μ 1 := f2 1 (by decide)
  have hT1 : RT κ1 7 (κ1 1) := by rw [w1]; exact RT_c hT (fun a h1 h2 => f2 a (by omega)) (fun _ _ => rfl)
  have hT2 : RT κ1 7 (μ 1) := RT_c hT (fun a h1 h2 => f2 a (by omega)) (fun _ _ => rfl)
  have cc : ∀ w, (w = 9 ∨ w = 14 ∨ w = 19 ∨ w = 25) → fn_X6_count gl_kd κ1 6 (nI w) = some (-100001, κ1) := fun w hw => by
    rw [c_count hT2 w (by omega) (by omega) (by omega)]
    rcases hw with rfl | rfl | rfl | rfl <;> rfl
  refine ⟨κ1, ?_, f2⟩
  unfold fn_L_refused fn_L_mixed
  rw [q_state hT, pL_s, q_c7, pb_s, pL_s, q_c8, pb_s, pL_s, f1, pb_s, if_neg (show ¬ (1 : Int32) = 0 by decide), q_refN hT1, pb_s, if_neg (show ¬ (1 : Int32) = 0 by decide), r_set (a := (-1)) (v := 1) rfl, pb_s, if_pos rfl, r_set (a := 4) (v := 1) rfl, pb_s, if_pos rfl, r_set (a := 0) (v := 0) rfl, pb_s, if_pos rfl, r_set (a := 0) (v := 601) rfl, pb_s, if_pos rfl, r_set (a := 1) (v := 0) rfl, pb_s, if_pos rfl, r_set (a := 1) (v := 601) rfl, pb_s, if_pos rfl, r_set (a := 2) (v := (-1)) rfl, pb_s, if_pos rfl, r_set (a := 2) (v := 601) rfl, pb_s, if_pos rfl, r_set (a := 3) (v := 2) rfl, pb_s, if_pos rfl, r_set (a := 3) (v := (-1)) rfl, pb_s, if_pos rfl]
  rw [r_count1, pb_s, if_pos rfl, show fn_X6_count gl_kd κ1 6 9 = some (-100001, κ1) from cc 9 (by omega), pb_s, if_pos rfl, show fn_X6_count gl_kd κ1 6 14 = some (-100001, κ1) from cc 14 (by omega), pb_s, if_pos rfl, show fn_X6_count gl_kd κ1 6 19 = some (-100001, κ1) from cc 19 (by omega), pb_s, if_pos rfl, show fn_X6_count gl_kd κ1 6 25 = some (-100001, κ1) from cc 25 (by omega), pb_s, if_pos rfl, r_run (by decide), pb_s, if_pos rfl, r_run (by decide), pb_s, if_pos rfl, r_type (by decide), pb_s, if_pos rfl, r_type (by decide), pb_s, if_pos rfl, r_fault (by decide), pb_s, if_pos rfl, r_fault (by decide), pb_s, if_pos rfl]
  rw [q_state hT2, pL_s, q_c7, pb_s, pL_s, q_c8, pb_s, pL_s, f2 57 (by decide), f2 184 (by decide), if_pos (lg_cmp_self _)]
