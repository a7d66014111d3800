/-! ===== the calls on bowls ===== -/
theorem RT_at {κ : gx_M} {t nb nn : Nat} {s : Nat → Int32} (h : RT κ t s) (h1 : s 1 = nI nb) (h1n : nb ≤ 10) (h2 : s 2 = nI nn) (h2n : nn ≤ 40) : rB κ (t + 1) s nb ∧ rN κ (t + 12) s nn ∧ rS κ t s := by
  obtain ⟨nb2, nn2, hB2, hN2, hS2⟩ := h
  have e1 : nb2 = nb := (nI_eq (by have := hB2.1; omega) (by omega)).1 (hB2.2.1.2.symm.trans h1)
  have e2 : nn2 = nn := (nI_eq (by have := hN2.1; omega) (by omega)).1 (hN2.2.1.2.symm.trans h2)
  subst e1 e2
  exact ⟨hB2, hN2, hS2⟩
theorem upd_sw {f : Nat → Int32} {i j : Nat} {x y : Int32} (h : i ≠ j) : upd (upd f i x) j y = upd (upd f j y) i x := by
  funext k
  by_cases e1 : k = j
  · subst e1
    rw [pu_s, pu_n (by omega), pu_s]
  · rw [pu_n e1]
    by_cases e2 : k = i
    · subst e2
      rw [pu_s, pu_s]
    · rw [pu_n e2, pu_n e2, pu_n e1]
theorem nI_adn {a b : Nat} (h : b ≤ a) : nI a + -nI b = nI (a - b) := by rw [← Int32.sub_eq_add_neg, pk_sub h]
theorem t_takeW {κ : gx_M} {s : Nat → Int32} {t nb nn b L p : Nat} (hk : pKT t) (hB : rB κ (t + 1) s nb) (hN : rN κ (t + 12) s nn) (hS : rS κ t s) (hb : b < nb) (hL : s (11 + 5 * b + 2) = nI L) (h1 : L ≤ 1000) (h3 : p ≤ L) :
    ∃ κ1, fn_X0_takeWater gl_kd κ (t + 1) (nI b) (nI p) = some (0, κ1) ∧ (∀ a, (a < t + 1 ∨ t + 12 ≤ a) → κ1 a = κ a) ∧ κ1 (t + 1 + 6) b = nI (L - p) ∧ RT κ1 t (upd (upd s 6 (s 6 + nI p)) (11 + 5 * b + 2) (nI (L - p))) := by
  obtain ⟨hb10, _⟩ := rB_b hB hb
  obtain ⟨g1, g2, g3, g4, g5, _⟩ := hB.2.2.2 b hb
  unfold fn_X0_takeWater
  rw [pg_add (t + 1 + 6) 10 rfl hk.1.2.2.1 hb10 (by decide), pb_s, pw_n (Or.inl (by omega)), g3, hL, nI_adn h3]
  refine ⟨_, rfl, fun a ha => by simp (disch := omega) only [gx_u_n], pw_s _ _ _ _, ?_⟩
  have := rB_lv (b := b) (x := nI (L - p)) (rB_f9 (x := s 6 + nI p) hB) ⟨L - p, by omega, rfl⟩
  rw [hB.2.2.1.2.2.2]
  exact RT_B this hN hS (fun a ha => by simp (disch := omega) only [gx_u_n]) (fun j hj => by simp (disch := omega) only [pu_n])
theorem t_ck {κ : gx_M} {s : Nat → Int32} {t nb nn b L v : Nat} (hk : pKT t) (hB : rB κ (t + 1) s nb) (hN : rN κ (t + 12) s nn) (hS : rS κ t s) (hb : b < nb) (hL : s (11 + 5 * b + 2) = nI L) (h1 : L ≤ 1000) (h3 : v ≤ 1000) :
    ∃ κ1, fn_X0_moveCrack gl_kd κ (t + 1) (nI b) (nI v) = some (0, κ1) ∧ (∀ a, (a < t + 1 ∨ t + 12 ≤ a) → κ1 a = κ a) ∧ κ1 (t + 1 + 6) b = nI (min L v) ∧ RT κ1 t (upd (upd (upd s (11 + 5 * b + 4) (nI v)) 5 (s 5 + nI (L - v))) (11 + 5 * b + 2) (nI (min L v))) := by
  obtain ⟨hb10, _⟩ := rB_b hB hb
  obtain ⟨g1, g2, g3, g4, g5, _⟩ := hB.2.2.2 b hb
  unfold fn_X0_moveCrack
  rw [pg_put (t + 1 + 10) 10 rfl hk.1.2.2.2.2 hb10 (by decide), pb_s, pg_get (t + 1 + 6) 10 rfl hk.1.2.2.1 hb10 (by decide), pb_s, pw_n (Or.inl (by omega)), g3, hL, pg_hold (C := v) hk.1 hb10 (pw_s _ _ _ _) (by omega) (by omega), pb_s, pw_n (Or.inl (by omega))]
  refine ⟨_, rfl, fun a ha => by simp (disch := omega) only [gx_u_n], pw_s _ _ _ _, ?_⟩
  have := rB_lv (b := b) (x := nI (min L v)) (rB_f8 (x := s 5 + nI (L - v)) (rB_ck (b := b) (x := nI v) hB ⟨v, h3, rfl⟩)) ⟨min L v, by omega, rfl⟩
  rw [hB.2.2.1.2.2.1]
  exact RT_B this hN hS (fun a ha => by simp (disch := omega) only [gx_u_n]) (fun j hj => by simp (disch := omega) only [pu_n])
theorem t_mk {κ : gx_M} {s : Nat → Int32} {t nb nn b M v : Nat} (hk : pKT t) (hB : rB κ (t + 1) s nb) (hN : rN κ (t + 12) s nn) (hS : rS κ t s) (hb : b < nb) (hM : s (11 + 5 * b + 3) = nI M) (h3 : v ≤ 1000) :
    ∃ κ1, fn_X0_moveMark gl_kd κ (t + 1) (nI b) (nI v) = some (nI M, κ1) ∧ (∀ a, (a < t + 1 ∨ t + 12 ≤ a) → κ1 a = κ a) ∧ RT κ1 t (upd s (11 + 5 * b + 3) (nI v)) := by
  obtain ⟨hb10, _⟩ := rB_b hB hb
  obtain ⟨g1, g2, g3, g4, g5, _⟩ := hB.2.2.2 b hb
  unfold fn_X0_moveMark
  rw [pg_get (t + 1 + 8) 10 rfl hk.1.2.2.2.1 hb10 (by decide), pb_s, pg_put (t + 1 + 8) 10 rfl hk.1.2.2.2.1 hb10 (by decide), pb_s, g4, hM]
  refine ⟨_, rfl, fun a ha => by simp (disch := omega) only [gx_u_n], ?_⟩
  have := rB_mk (b := b) (x := nI v) hB ⟨v, h3, rfl⟩
  exact RT_B this hN hS (fun a ha => by simp (disch := omega) only [gx_u_n]) (fun j hj => by simp (disch := omega) only [pu_n])
/-- spill -/
theorem s_spill (a1 a2 : Int32) : chg (fun μ => fn_X6_spill gl_kd μ 6 a1 a2) := by
  intro μ h
  obtain ⟨nb, nn, hB, hN, hS⟩ := h.1
  have hb5 : μ 8 5 = nI nb := hB.2.1.1
  have hb1 : μ 1 1 = nI nb := hB.2.1.2
  have hn2 : μ 1 2 = nI nn := hN.2.1.2
  unfold fn_X6_spill
  simp only [Nat.reduceAdd]
  by_cases h1 : phas a1 nb = 0
  · exact ch_err h (by rw [pg_hasB hb5, pb_s, if_pos h1]) (by decide)
  · obtain ⟨b, hb, rfl⟩ := phas_n (by have := hB.1; omega) h1
    by_cases h2 : pwi a2 1 1000 = 0
    · exact ch_err h (by rw [pg_hasB hb5, pb_s, if_neg h1, pg_within, pb_s, if_pos h2]) (by decide)
    · obtain ⟨p, hp1, hp2, rfl⟩ := pwi_n (a := 1) (b := 1000) (by decide) (by decide) h2
      obtain ⟨hb10, L, M, C, hL1, hM1, hC1, kL, kM, kC, hL, hM, hC⟩ := rB_b hB hb
      by_cases h3 : p ≤ L
      · refine k_recd h (fun κ e hT => ?_)
        obtain ⟨hB2, hN2, hS2⟩ := RT_at hT hb1 hB.1 hn2 hN.1
        obtain ⟨κ1, x1, x2, x3, x4⟩ := t_takeW (t := 7) (p := p) pKT_7 hB2 hN2 hS2 hb hL hL1 h3
        refine ⟨nI (L - p), κ1, _, ?_, fun a ha => x2 a (by omega), x4, fun hs ha => ⟨nI_nn (by omega), ?_, SNN_c hs (fun j h1 h2 => by simp (disch := omega) only [pu_n])⟩⟩
        · rw [pg_hasB hb5, pb_s, if_neg h1, pg_within, pb_s, if_neg h2, pg_lvIn pKB_8 hb10, pb_s, kL, if_pos (nI_le h3 (by omega)), e, pb_s, x1, pb_s, pg_lvIn pKB_8 hb10, pb_s, x3]
        · refine Acc_lv ha hb1 hB.1 hb (by simp (disch := omega) only [pu_n]) (fun x hx => by simp (disch := omega) only [pu_n]) ?_
          simp (disch := omega) only [pu_s, pu_n]
          rw [hL, show nI L = nI (L - p) + nI p by rw [nI_add, show L - p + p = L by omega]]
          ac_rfl
      · exact ch_err h (by rw [pg_hasB hb5, pb_s, if_neg h1, pg_within, pb_s, if_neg h2, pg_lvIn pKB_8 hb10, pb_s, kL, if_neg (nI_ge (by omega) (by omega))]) (by decide)
/-- crack -/
theorem s_crack (a1 a2 : Int32) : chg (fun μ => fn_X6_crack gl_kd μ 6 a1 a2) := by
  intro μ h
  obtain ⟨nb, nn, hB, hN, hS⟩ := h.1
  have hb5 : μ 8 5 = nI nb := hB.2.1.1
  have hb1 : μ 1 1 = nI nb := hB.2.1.2
  have hn2 : μ 1 2 = nI nn := hN.2.1.2
  unfold fn_X6_crack
  simp only [Nat.reduceAdd]
  by_cases h1 : phas a1 nb = 0
  · exact ch_err h (by rw [pg_hasB hb5, pb_s, if_pos h1]) (by decide)
  · obtain ⟨b, hb, rfl⟩ := phas_n (by have := hB.1; omega) h1
    by_cases h2 : pwi a2 0 1000 = 0
    · exact ch_err h (by rw [pg_hasB hb5, pb_s, if_neg h1, pg_within, pb_s, if_pos h2]) (by decide)
    · obtain ⟨p, hp1, hp2, rfl⟩ := pwi_n (a := 0) (b := 1000) (by decide) (by decide) h2
      obtain ⟨hb10, L, M, C, hL1, hM1, hC1, kL, kM, kC, hL, hM, hC⟩ := rB_b hB hb
      refine k_recd h (fun κ e hT => ?_)
      obtain ⟨hB2, hN2, hS2⟩ := RT_at hT hb1 hB.1 hn2 hN.1
      obtain ⟨κ1, x1, x2, x3, x4⟩ := t_ck (t := 7) (v := p) pKT_7 hB2 hN2 hS2 hb hL hL1 hp2
      have kL2 : κ (8 + 6) b = nI L := (hB2.2.2.2 b hb).2.2.1.trans hL
      refine ⟨nI (L - p), κ1, _, ?_, fun a ha => x2 a (by omega), x4, fun hs ha => ⟨nI_nn (by omega), ?_, SNN_c hs (fun j h1 h2 => by simp (disch := omega) only [pu_n])⟩⟩
      · rw [pg_hasB hb5, pb_s, if_neg h1, pg_within, pb_s, if_neg h2, e, pb_s, pg_lvIn pKB_8 hb10, pb_s, kL2, x1, pb_s, pg_lvIn pKB_8 hb10, pb_s, x3, pk_sub (by omega), show L - min L p = L - p by omega]
      · refine Acc_lv ha hb1 hB.1 hb (by simp (disch := omega) only [pu_n]) (fun x hx => by simp (disch := omega) only [pu_n]) ?_
        simp (disch := omega) only [pu_s, pu_n]
        rw [hL, show nI L = nI (min L p) + nI (L - p) by rw [nI_add, show min L p + (L - p) = L by omega]]
        ac_rfl
/-- mark -/
theorem s_mark (a1 a2 : Int32) : chg (fun μ => fn_X6_mark gl_kd μ 6 a1 a2) := by
  intro μ h
  obtain ⟨nb, nn, hB, hN, hS⟩ := h.1
  have hb5 : μ 8 5 = nI nb := hB.2.1.1
  have hb1 : μ 1 1 = nI nb := hB.2.1.2
  have hn2 : μ 1 2 = nI nn := hN.2.1.2
  unfold fn_X6_mark
  simp only [Nat.reduceAdd]
  by_cases h1 : phas a1 nb = 0
  · exact ch_err h (by rw [pg_hasB hb5, pb_s, if_pos h1]) (by decide)
  · obtain ⟨b, hb, rfl⟩ := phas_n (by have := hB.1; omega) h1
    by_cases h2 : pwi a2 0 1000 = 0
    · exact ch_err h (by rw [pg_hasB hb5, pb_s, if_neg h1, pg_within, pb_s, if_pos h2]) (by decide)
    · obtain ⟨p, hp1, hp2, rfl⟩ := pwi_n (a := 0) (b := 1000) (by decide) (by decide) h2
      obtain ⟨hb10, L, M, C, hL1, hM1, hC1, kL, kM, kC, hL, hM, hC⟩ := rB_b hB hb
      refine k_recd h (fun κ e hT => ?_)
      obtain ⟨hB2, hN2, hS2⟩ := RT_at hT hb1 hB.1 hn2 hN.1
      obtain ⟨κ1, x1, x2, x4⟩ := t_mk (t := 7) (v := p) pKT_7 hB2 hN2 hS2 hb hM hp2
      refine ⟨nI M, κ1, _, ?_, fun a ha => x2 a (by omega), x4, fun hs ha => ⟨nI_nn (by omega), ?_, SNN_c hs (fun j h1 h2 => by simp (disch := omega) only [pu_n])⟩⟩
      · rw [pg_hasB hb5, pb_s, if_neg h1, pg_within, pb_s, if_neg h2, e, pb_s, x1, pb_s]
      · exact Acc_lv ha hb1 hB.1 hb (by simp (disch := omega) only [pu_n]) (fun x hx => by simp (disch := omega) only [pu_n]) (by simp (disch := omega) only [pu_n])
theorem rB_app {μ : gx_M} {c nb : Nat} {s : Nat → Int32} {p q : Int32} (h : rB μ c s nb) (hn : nb < 10) (hp : sm p 6000) (hq : sm q 2400) : rB (gx_u (gx_u (gx_u (gx_u (gx_u (gx_u μ (c + 2) nb p) (c + 4) nb q) (c + 6) nb 0) (c + 8) nb 0) (c + 10) nb 1000) c 5 (nI (nb + 1))) c (upd (upd (upd (upd (upd (upd s (11 + 5 * nb) p) (11 + 5 * nb + 1) q) (11 + 5 * nb + 2) 0) (11 + 5 * nb + 3) 0) (11 + 5 * nb + 4) 1000) 1 (nI (nb + 1))) (nb + 1) := by
  obtain ⟨h1, ⟨h2, h3⟩, ⟨h4, h5, h6, h7⟩, h8⟩ := h
  refine ⟨by omega, ⟨pw_s _ _ _ _, pu_s _ _ _⟩, ⟨?_, ?_, ?_, ?_⟩, fun d hd => ?_⟩
  rotate_right
  · by_cases e : d = nb
    · subst e
      refine ⟨?_, ?_, ?_, ?_, ?_, ?_, ?_, ?_⟩
      · simp (disch := omega) only [pw_s, pw_n, pu_s, pu_n]
      · simp (disch := omega) only [pw_s, pw_n, pu_s, pu_n]
      · simp (disch := omega) only [pw_s, pw_n, pu_s, pu_n]
      · simp (disch := omega) only [pw_s, pw_n, pu_s, pu_n]
      · simp (disch := omega) only [pw_s, pw_n, pu_s, pu_n]
      · simp (disch := omega) only [pu_s, pu_n]
        exact ⟨0, by omega, rfl⟩
      · simp (disch := omega) only [pu_s, pu_n]
        exact ⟨0, by omega, rfl⟩
      · simp (disch := omega) only [pu_s, pu_n]
        exact ⟨⟨1000, by omega, rfl⟩, hp, hq⟩
    · exact rb_c (h8 d (by omega)) (fun a ha hb => by simp (disch := omega) only [pw_n]) (fun j hj hk => by simp (disch := omega) only [pu_n])
  all_goals simp (disch := omega) only [pw_s, pw_n, pu_s, pu_n, h2, h3, h4, h5, h6, h7]
theorem pg_app {μ : gx_M} {c nb : Nat} {p q : Int32} (hk : pKB c) (h5 : μ c 5 = nI nb) (hn : nb < 10) : fn_X0_append gl_kd μ c p q = some (0, gx_u (gx_u (gx_u (gx_u (gx_u (gx_u μ (c + 2) nb p) (c + 4) nb q) (c + 6) nb 0) (c + 8) nb 0) (c + 10) nb 1000) c 5 (nI (nb + 1))) := by
  unfold fn_X0_append
  have w : ∀ (m : gx_M) (a : Nat) (x : Int32), a ≠ c → gx_u m a nb x c 5 = m c 5 := fun m a x h => pw_n (Or.inl (Ne.symm h))
  rw [h5, pg_put (c + 2) 10 rfl hk.1 hn (by decide), pb_s, w _ _ _ (by omega), h5, pg_put (c + 4) 10 rfl hk.2.1 hn (by decide), pb_s, w _ _ _ (by omega), w _ _ _ (by omega), h5, pg_put (c + 6) 10 rfl hk.2.2.1 hn (by decide), pb_s, w _ _ _ (by omega), w _ _ _ (by omega), w _ _ _ (by omega), h5, pg_put (c + 8) 10 rfl hk.2.2.2.1 hn (by decide), pb_s, w _ _ _ (by omega), w _ _ _ (by omega), w _ _ _ (by omega), w _ _ _ (by omega), h5, pg_put (c + 10) 10 rfl hk.2.2.2.2 hn (by decide), pb_s, w _ _ _ (by omega), w _ _ _ (by omega), w _ _ _ (by omega), w _ _ _ (by omega), w _ _ _ (by omega), h5, nI_1]
theorem psf_end (f : Nat → Int32) : ∀ (m i : Nat), psf f i (m + 1) = psf f i m + f (i + m)
  | 0, i => by
    show f i + 0 = 0 + f i
    rw [Int32.zero_add, Int32.add_zero]
  | m + 1, i => by
    show f i + psf f (i + 1) (m + 1) = f i + psf f (i + 1) m + f (i + (m + 1))
    rw [psf_end f m (i + 1), Int32.add_assoc, show i + 1 + m = i + (m + 1) by omega]
theorem s_bowl (a1 a2 : Int32) : chg (fun μ => fn_X6_bowl gl_kd μ 6 a1 a2) := by
  intro μ h
  obtain ⟨nb, nn, hB, hN, hS⟩ := h.1
  have hb5 : μ 8 5 = nI nb := hB.2.1.1
  have hb1 : μ 1 1 = nI nb := hB.2.1.2
  have hn2 : μ 1 2 = nI nn := hN.2.1.2
  unfold fn_X6_bowl fn_X0_size
  simp only [Nat.reduceAdd]
  by_cases h1 : pwi a1 0 6000 = 0
  · exact ch_err h (by rw [pg_within, pb_s, if_pos h1]) (by decide)
  · by_cases h2 : pwi a2 1 2400 = 0
    · exact ch_err h (by rw [pg_within, pb_s, if_neg h1, pg_within, pb_s, if_pos h2]) (by decide)
    · by_cases h3 : nb < 10
      · refine k_recd h (fun κ e hT => ?_)
        obtain ⟨hB2, hN2, hS2⟩ := RT_at hT hb1 hB.1 hn2 hN.1
        have x1 := pg_app (μ := κ) (c := 8) (p := a1) (q := a2) pKB_8 hB2.2.1.1 h3
        have x2 := rB_app (p := a1) (q := a2) hB2 h3 (by obtain ⟨j, _, h6, h7⟩ := pwi_n (a := 0) (b := 6000) (by decide) (by decide) h1; exact ⟨j, h6, h7⟩) (by obtain ⟨j, _, h6, h7⟩ := pwi_n (a := 1) (b := 2400) (by decide) (by decide) h2; exact ⟨j, h6, h7⟩)
        refine ⟨nI nb, _, _, by rw [pg_within, pb_s, if_neg h1, pg_within, pb_s, if_neg h2, pb_s, hb5, if_pos (show nI nb < 10 from nI_lt (b := 10) h3 (by decide)), e, pb_s, x1, pb_s, pb_s, pw_s, nI_pred], fun a ha => by simp (disch := omega) only [gx_u_n], RT_B (t := 7) x2 hN2 hS2 (fun a ha => by simp (disch := omega) only [gx_u_n]) (fun j hj => by simp (disch := omega) only [pu_n]), fun hs ha => ⟨nI_nn (by omega), ?_, SNN_c hs (fun j h1 h2 => by simp (disch := omega) only [pu_n])⟩⟩
        obtain ⟨n, g1, g2, g3⟩ := ha
        have e : n = nb := (nI_eq (by omega) (by omega)).1 (g2.symm.trans hb1)
        subst e
        refine ⟨n + 1, by omega, by simp (disch := omega) only [pu_s], ?_⟩
        rw [psf_end]
        simp (disch := omega) only [pu_s, pu_n, Nat.zero_add]
        rw [psf_c (g := fun b => μ 1 (11 + 5 * b + 2)) n 0 (fun b _ hb => by simp (disch := omega) only [pu_n]), g3, Int32.add_zero]
      · have e10 : nb = 10 := by have := hB.1; omega
        subst e10
        exact ch_err h (by rw [pg_within, pb_s, if_neg h1, pg_within, pb_s, if_neg h2, pb_s, hb5, if_neg (show ¬ nI 10 < 10 by decide)]) (by decide)
