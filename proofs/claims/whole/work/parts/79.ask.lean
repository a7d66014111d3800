/-! ===== run, and the questions about what is to come ===== -/
theorem pl_run {p : Nat} {k : gx_M → Int32 → Int32 → Option (Int32 × gx_M)} (hp : p ≤ 600) : ∀ (d n i : Nat) (ρ : gx_M) (a : Int32) (ρ' : gx_M) (a' : Int32), i + d = p → d < n → pGo (fun (a : Int32) r _ => if r < 0 then a else a + 1) d ρ a ρ' a' → lf_X7_run_39 gl_kd 0 (nI p) k n ρ a (nI i) = k ρ' a' (nI p) := by
  intro d
  induction d with
  | zero =>
    intro n i ρ a ρ' a' hi hn h
    obtain ⟨n, rfl⟩ : ∃ q, n = q + 1 := ⟨n - 1, by omega⟩
    obtain ⟨rfl, rfl⟩ : ρ' = ρ ∧ a' = a := h
    have e : i = p := by omega
    subst e
    rw [lf_X7_run_39, if_pos (nI_le (Nat.le_refl _) (by omega))]
  | succ d ih =>
    intro n i ρ a ρ' a' hi hn h
    obtain ⟨n, rfl⟩ : ∃ q, n = q + 1 := ⟨n - 1, by omega⟩
    obtain ⟨r, m, q1, q2, q3, q4, q5, q6⟩ := h
    rw [lf_X7_run_39, if_neg (nI_ge (by omega) (by omega)), q1, pb_s, nI_1]
    by_cases e : r < 0
    · rw [if_pos e, Int32.add_zero]
      dsimp only at q6
      rw [if_pos e] at q6
      exact ih n (i + 1) m a ρ' a' (by omega) (by omega) q6
    · rw [if_neg e]
      dsimp only at q6
      rw [if_neg e] at q6
      exact ih n (i + 1) m (a + 1) ρ' a' (by omega) (by omega) q6
theorem s_run (a1 : Int32) : gl_ok Sim (fun μ => fn_X6_run gl_kd μ 6 a1) (fun μ => fn_X7_run gl_kd μ 0 a1) := by
  intro μ h
  obtain ⟨nb, nn, hB, hN, hS⟩ := h.1
  have hb1 : μ 1 1 = nI nb := hB.2.1.2
  have hn2 : μ 1 2 = nI nn := hN.2.1.2
  obtain ⟨t0, ht0, h00⟩ := hS.2.1
  have h73 : μ 7 3 = nI t0 := hS.1.trans h00
  unfold fn_X6_run fn_X7_run fn_X4_time
  simp only [Nat.reduceAdd]
  by_cases h1 : pwi a1 1 600 = 0
  · exact ⟨_, μ, μ, by rw [pg_within, pb_s, if_pos h1], by rw [pm_in, pb_s, if_pos h1], h⟩
  obtain ⟨p, hp1, hp2, rfl⟩ := pwi_n (a := 1) (b := 600) (by decide) (by decide) h1
  by_cases h2 : t0 + p ≤ 3600
  · refine s_recd (fx := fun μ => _) (fm := fun μ => _) h (fun κ e hT => ?_)
    obtain ⟨hB2, hN2, hS2⟩ := RT_at hT hb1 hB.1 hn2 hN.1
    have adv := fun (ρ : gx_M) (r2 : ρ 1 = μ 1) => ADVt (κ := κ) (ρ := ρ) (t := 7) (T := t0 + p) (nb := nb) (nn := nn) (t0 := t0) (fun (a : Int32) r _ => if r < 0 then a else a + 1) (fun a _ _ => a + 1) 0 pKT_7 (fun a m => if_pos (by decide)) (fun a x m hx => if_neg (nI_pos (by omega))) (fun _ _ _ _ _ => rfl) h2 (by rw [r2]; exact hB2) (by rw [r2]; exact hN2) (by rw [r2]; exact hS2) (by rw [r2]; exact h00) (by omega)
    obtain ⟨κ1, ρ0, x1, x2, x3, x4, x5, x6, x7, x8, x9, x10⟩ := adv μ rfl
    refine ⟨pfold (fun a _ _ => a + 1) (ptn (μ 1)) t0 (t0 + p) (ρ0 1) 0 0 nn, κ1, ?_, fun a ha => x7 a (by omega), fun ν q ρ r1 r2 => ?_⟩
    · rw [pg_within, pb_s, if_neg h1, pb_s, h73, nI_add, if_pos (show nI (t0 + p) ≤ 3600 from nI_le (b := 3600) h2 (by decide)), e, pb_s, x1, pb_s]
    · have q1 : ν 1 = μ 1 := q 1 (by decide)
      obtain ⟨κ1', ρ2, y1, y2, y3, y4, y5, y6, y7, y8, y9, y10⟩ := adv ρ r2
      rw [x1] at y1
      have z := Option.some.inj y1
      have z1 := congrArg Prod.fst z
      have z2 : κ1 = κ1' := congrArg Prod.snd z
      dsimp only at z1
      subst z2
      refine ⟨ρ2, ?_, y8, nb, nn, y3, y4, y5⟩
      have lo := pl_run (k := fun m11 y12 y13 => some (y12, m11)) hp2 p gx_F 0 ρ 0 ρ2 _ (by omega) (by unfold gx_F; omega) (by
        rw [show t0 + p - t0 = p by omega] at y2
        exact y2)
      rw [pm_in, pb_s, if_neg h1]
      simp only [Nat.zero_add, pk1, px0, pt0, if_true, eq_self, q1, h00]
      rw [nI_add, if_pos (show nI (t0 + p) ≤ 3600 from nI_le (b := 3600) h2 (by decide)), r1, pb_s, z1]
      exact lo
  · refine ⟨-100003, μ, μ, by rw [pg_within, pb_s, if_neg h1, pb_s, h73, nI_add, if_neg (show ¬ nI (t0 + p) ≤ 3600 from nI_ge (a := 3600) (by omega) (by omega))], ?_, h⟩
    rw [pm_in, pb_s, if_neg h1]
    simp only [Nat.zero_add, pk1, px0, pt0, if_true, eq_self, h00]
    rw [nI_add, if_neg (show ¬ nI (t0 + p) ≤ 3600 from nI_ge (a := 3600) (by omega) (by omega))]
/-- a trial -/
theorem p_aside (κ : gx_M) : ∃ ρ1, fn_X7_laysAside gl_kd κ 0 = some (0, ρ1) ∧ (∀ a, a ≠ 3 → ρ1 a = κ a) ∧ ∀ q, q < 301 → ρ1 3 q = κ 1 q := by
  unfold fn_X7_laysAside
  obtain ⟨m, e1, e2, e3, e4⟩ := pl_lay (k := fun m2 y3 => some (0, m2)) 301 gx_F 0 κ (by omega) (by unfold gx_F; omega)
  exact ⟨m, e1, e2, fun q hq => e3 q (by omega) hq⟩
theorem p_back (ρ : gx_M) : ∃ ρ3, fn_X7_bringsBack gl_kd ρ 0 = some (0, ρ3) ∧ (∀ a, a ≠ 1 → ρ3 a = ρ a) ∧ ∀ q, q < 301 → ρ3 1 q = ρ 3 q := by
  unfold fn_X7_bringsBack
  obtain ⟨m, e1, e2, e3, e4⟩ := pl_brb (k := fun m2 y3 => some (0, m2)) 301 gx_F 0 ρ (by omega) (by unfold gx_F; omega)
  exact ⟨m, e1, e2, fun q hq => e3 q (by omega) hq⟩
theorem Sim_try {μ ρ3 : gx_M} (h : Sim μ) (hm : ∀ a, a ≠ 1 → a ≠ 3 → (a < 32 ∨ 57 ≤ a) → ρ3 a = μ a) (h1 : ∀ q, q < 301 → ρ3 1 q = μ 1 q) : Sim ρ3 := by
  refine ⟨RT_c h.1 (fun a h1 h2 => hm a (by omega) (by omega) (by omega)) h1, ?_, ?_⟩
  · rw [hm 2 (by decide) (by decide) (by decide), hm 0 (by decide) (by decide) (by decide)]
    exact SH_c h.2.1 (fun a h1 h2 => hm a (by omega) (by omega) (by omega)) (fun _ _ => rfl)
  · rw [hm 4 (by decide) (by decide) (by decide), hm 0 (by decide) (by decide) (by decide)]
    exact SX_c h.2.2 (by rw [hm 184 (by decide) (by decide) (by decide)]) (by rw [hm 186 (by decide) (by decide) (by decide)]) (fun _ _ => rfl)
theorem p_try {μ : gx_M} {nb nn t0 T : Nat} (hB : rB μ 8 (μ 1) nb) (hN : rN μ 19 (μ 1) nn) (hS : rS μ 7 (μ 1)) (h0 : μ 1 0 = nI t0) (ht : t0 ≤ T) (hT : T ≤ 3600) : ∃ κ', fn_X6_tryOut gl_kd μ 6 (nI T) = some (0, κ') ∧ (∀ a, (a < 32 ∨ 57 ≤ a) → κ' a = μ a) ∧ ∀ (f : Int32 → Int32 → gx_M → Int32) (g : Int32 → Nat → (Nat → Int32) → Int32) (acc : Int32), (∀ a m, f a (-1) m = a) → (∀ a x m, x < 40 → f a (nI x) m = g a x (m 1)) → (∀ a x s s', (∀ w, w < 6 → s (61 + 6 * x + w) = s' (61 + 6 * x + w)) → g a x s = g a x s') → ∀ ρ1 : gx_M, ρ1 1 = μ 1 → ∃ ρ', pGo f (T - t0) ρ1 acc ρ' (pfold g (ptn (μ 1)) t0 T (ρ' 1) acc 0 nn) ∧ rB κ' 33 (ρ' 1) nb ∧ rN κ' 44 (ρ' 1) nn ∧ (∀ a, a ≠ 1 → ρ' a = ρ1 a) ∧ (∀ x, x < nn → ρ' 1 (61 + 6 * x) = nI (ptn (μ 1) x)) ∧ (∀ x, x < nn → t0 < ptn (μ 1) x → ptn (μ 1) x ≤ T → ρ' 1 (61 + 6 * x + 2) = 1 ∧ (0 < nb ↔ ¬ ρ' 1 (61 + 6 * x + 3) = -1)) := by
  obtain ⟨κ, e, f1, hT2⟩ := pg_cpyT (μ := μ) (c := 32) (c1 := 7) pKT_32 pKT_7 (by omega) ⟨nb, nn, hB, hN, hS⟩
  obtain ⟨hB2, hN2, hS2⟩ := RT_at hT2 hB.2.1.2 hB.1 hN.2.1.2 hN.1
  obtain ⟨κ', ρ0, x1, x2, x3, x4, x5, x6, x7, x8, x9, x10⟩ := ADVt (κ := κ) (ρ := μ) (t := 32) (T := T) (fun (a : Int32) _ _ => a) (fun a _ _ => a) 0 pKT_32 (fun _ _ => rfl) (fun _ _ _ _ => rfl) (fun _ _ _ _ _ => rfl) hT hB2 hN2 hS2 h0 ht
  refine ⟨κ', ?_, fun a ha => by rw [x7 a (by omega), f1 a (by omega)], fun f g acc hf0 hf hg ρ1 r1 => ?_⟩
  · unfold fn_X6_tryOut
    simp only [Nat.reduceAdd]
    rw [e, pb_s, x1, pb_s]
  · obtain ⟨κ2, ρ', y1, y2, y3, y4, y5, y6, y7, y8, y9, y10⟩ := ADVt (κ := κ) (ρ := ρ1) (t := 32) (T := T) f g acc pKT_32 hf0 hf hg hT (by rw [r1]; exact hB2) (by rw [r1]; exact hN2) (by rw [r1]; exact hS2) (by rw [r1]; exact h0) ht
    rw [x1] at y1
    have z2 : κ' = κ2 := congrArg Prod.snd (Option.some.inj y1)
    subst z2
    rw [r1] at y2 y9 y10
    exact ⟨ρ', y2, y3, y4, y8, y9, y10⟩
theorem pl_gos {T : Nat} {k : gx_M → Option (Int32 × gx_M)} {f : Int32 → Int32 → gx_M → Int32} (hT : T ≤ 3600) : ∀ (d n : Nat) (ρ : gx_M) (tc : Nat) (a : Int32) (ρ' : gx_M) (a' : Int32), ρ 1 0 = nI tc → tc + d = T → d < n → pGo f d ρ a ρ' a' → lf_X7_goesTo_0 gl_kd 0 (nI T) k n ρ = k ρ' := by
  intro d
  induction d with
  | zero =>
    intro n ρ tc a ρ' a' h0 hi hn h
    obtain ⟨n, rfl⟩ : ∃ q, n = q + 1 := ⟨n - 1, by omega⟩
    obtain ⟨rfl, rfl⟩ : ρ' = ρ ∧ a' = a := h
    rw [lf_X7_goesTo_0]
    simp only [Nat.zero_add, pk1, px0, pt0, if_true, eq_self, h0]
    rw [if_pos (nI_le (by omega) (by omega))]
  | succ d ih =>
    intro n ρ tc a ρ' a' h0 hi hn h
    obtain ⟨n, rfl⟩ : ∃ q, n = q + 1 := ⟨n - 1, by omega⟩
    obtain ⟨r, m, q1, q2, q3, q4, q5, q6⟩ := h
    rw [lf_X7_goesTo_0]
    simp only [Nat.zero_add, pk1, px0, pt0, if_true, eq_self, h0]
    rw [if_neg (nI_ge (by omega) (by omega)), q1, pb_s]
    exact ih n m (tc + 1) _ ρ' a' (by rw [q2, h0, nI_1]) (by omega) (by omega) q6
theorem p_gos {T tc : Nat} {ρ ρ' : gx_M} {f : Int32 → Int32 → gx_M → Int32} {a a' : Int32} (hT : T ≤ 3600) (h0 : ρ 1 0 = nI tc) (ht : tc ≤ T) (h : pGo f (T - tc) ρ a ρ' a') : fn_X7_goesTo gl_kd ρ 0 (nI T) = some (0, ρ') := by
  unfold fn_X7_goesTo
  exact pl_gos (k := fun m4 => some (0, m4)) hT (T - tc) gx_F ρ tc a ρ' a' h0 (by omega) (by unfold gx_F; omega) h
theorem s_pitchAt (a1 a2 : Int32) : gl_ok Sim (fun μ => fn_X6_pitchAt gl_kd μ 6 a1 a2) (fun μ => fn_X7_pitchAt gl_kd μ 0 a1 a2) := by
  intro μ h
  obtain ⟨nb, nn, hB, hN, hS⟩ := h.1
  have hb5 : μ 8 5 = nI nb := hB.2.1.1
  have hb1 : μ 1 1 = nI nb := hB.2.1.2
  obtain ⟨t0, ht0, h00⟩ := hS.2.1
  have h73 : μ 7 3 = nI t0 := hS.1.trans h00
  unfold fn_X6_pitchAt fn_X7_pitchAt fn_X4_time
  simp only [Nat.reduceAdd]
  by_cases h1 : phas a1 nb = 0
  · exact ⟨_, μ, μ, by rw [pg_hasB hb5, pb_s, if_pos h1], by rw [pm_isBowl hb1 hB.1, pb_s, if_pos h1], h⟩
  obtain ⟨b, hb, rfl⟩ := phas_n (by have := hB.1; omega) h1
  have hb10 : b < 10 := by have := hB.1; omega
  by_cases h2 : pwi a2 (nI t0) 3600 = 0
  · refine ⟨-100001, μ, μ, by rw [pg_hasB hb5, pb_s, if_neg h1, pb_s, h73, pg_within, pb_s, if_pos h2], ?_, h⟩
    rw [pm_isBowl hb1 hB.1, pb_s, if_neg h1]
    simp only [Nat.zero_add, pk1, px0, pt0, if_true, eq_self, h00]
    rw [pm_in, pb_s, if_pos h2]
  obtain ⟨T, hT1, hT2, rfl⟩ := pwi_n (a := t0) (b := 3600) (by omega) (by decide) h2
  obtain ⟨κ', x1, x2, x3⟩ := p_try hB hN hS h00 hT1 hT2
  obtain ⟨ρ1, y1, y2, y3⟩ := p_aside κ'
  have w1 : κ' 1 = μ 1 := x2 1 (by decide)
  obtain ⟨ρ2, z1, z2, z3, z4, z5, z6⟩ := x3 (fun a _ _ => a) (fun a _ _ => a) 0 (fun _ _ => rfl) (fun _ _ _ _ => rfl) (fun _ _ _ _ _ => rfl) ρ1 (by rw [y2 1 (by decide), w1])
  obtain ⟨ρ3, u1, u2, u3⟩ := p_back ρ2
  have hgo := p_gos hT2 (show ρ1 1 0 = nI t0 by rw [y2 1 (by decide), w1]; exact h00) hT1 z1
  obtain ⟨g1, g2, g3, _⟩ := z2.2.2.2 b hb
  refine ⟨ppt (ρ2 1 (11 + 5 * b)) (ρ2 1 (11 + 5 * b + 1)) (ρ2 1 (11 + 5 * b + 2)), κ', ρ3, ?_, ?_, Sim_try h (fun a h1 h3 ha => by rw [u2 a h1, z4 a h1, y2 a h3, x2 a ha]) (fun q hq => by rw [u3 q hq, z4 3 (by decide), y3 q hq, w1])⟩
  · rw [pg_hasB hb5, pb_s, if_neg h1, pb_s, h73, pg_within, pb_s, if_neg h2, x1, pb_s, pg_po (c := 33) pKT_32.1 hb10, pb_s, g1, g2, g3]
  · rw [pm_isBowl (by rw [w1]; exact hb1) hB.1, pb_s, if_neg h1]
    simp only [Nat.zero_add, pk1, px0, pt0, if_true, eq_self, w1, h00]
    rw [pm_in, pb_s, if_neg h2, y1, pb_s, hgo, pb_s, pm_po hb10, pb_s, u1, pb_s]
theorem s_wouldBe (a1 : Int32) : gl_ok Sim (fun μ => fn_X6_wouldBe gl_kd μ 6 a1) (fun μ => fn_X7_wouldBe gl_kd μ 0 a1) := by
  intro μ h
  obtain ⟨nb, nn, hB, hN, hS⟩ := h.1
  have hb5 : μ 8 5 = nI nb := hB.2.1.1
  have hb1 : μ 1 1 = nI nb := hB.2.1.2
  have hn5 : μ 19 5 = nI nn := hN.2.1.1
  have hn2 : μ 1 2 = nI nn := hN.2.1.2
  have hnn := hN.1
  have hnb := hB.1
  obtain ⟨t0, ht0, h00⟩ := hS.2.1
  have h73 : μ 7 3 = nI t0 := hS.1.trans h00
  obtain ⟨tn1, tn2, tn3⟩ := rN_tn hN
  unfold fn_X6_wouldBe fn_X7_wouldBe fn_X4_time fn_X7_isToCome fn_X0_size fn_X2_timeOf fn_X2_errorOf
  simp only [Nat.reduceAdd]
  by_cases h1 : phas a1 nn = 0
  · exact ⟨_, μ, μ, by rw [pg_hasN hn5, pb_s, if_pos h1], by rw [pm_isNote hn2 hN.1, pb_s, if_pos h1], h⟩
  obtain ⟨i, hi, rfl⟩ := phas_n (by omega) h1
  have hi4 : i < 40 := by omega
  have hti : μ (19 + 2) i = nI (ptn (μ 1) i) := (hN.2.2.1 i hi).1.trans (tn1 i hi)
  have b2 := tn2 i hi
  by_cases h2 : t0 < ptn (μ 1) i
  · by_cases h3 : nb = 0
    · subst h3
      refine ⟨-100004, μ, μ, by rw [pg_hasN hn5, pb_s, if_neg h1, pg_get (c := 20) (19 + 2) 40 rfl pKN_19.1 hi4 (by decide), pb_s, pb_s, hti, pb_s, h73, if_pos (nI_lt h2 (by omega)), pb_s, hb5, if_pos (show nI 0 = 0 from rfl)], ?_, h⟩
      rw [pm_isNote hn2 hN.1, pb_s, if_neg h1, pm_has0 hi4, pb_s]
      simp only [Nat.zero_add, pk1, px0, px1, pt0, pt1, if_true, eq_self, h00]
      rw [tn1 i hi, if_neg (nI_ge h2 (by omega)), pb_s, if_neg (by decide), hb1, if_pos (show nI 0 = 0 from rfl)]
    · obtain ⟨κ', x1, x2, x3⟩ := p_try hB hN hS h00 (Nat.le_of_lt h2) b2
      obtain ⟨ρ1, y1, y2, y3⟩ := p_aside κ'
      have w1 : κ' 1 = μ 1 := x2 1 (by decide)
      obtain ⟨ρ2, z1, z2, z3, z4, z5, z6⟩ := x3 (fun a _ _ => a) (fun a _ _ => a) 0 (fun _ _ => rfl) (fun _ _ _ _ => rfl) (fun _ _ _ _ _ => rfl) ρ1 (by rw [y2 1 (by decide), w1])
      obtain ⟨ρ3, u1, u2, u3⟩ := p_back ρ2
      have hgo := p_gos b2 (show ρ1 1 0 = nI t0 by rw [y2 1 (by decide), w1]; exact h00) (Nat.le_of_lt h2) z1
      obtain ⟨v1, v2⟩ := z6 i hi h2 (Nat.le_refl _)
      have verr : κ' (44 + 10) i = ρ2 1 (61 + 6 * i + 4) := by
        rcases (z3.2.2.1 i hi).2.2.1 with ⟨_, a2⟩ | ⟨_, _, a2, _⟩ | ⟨_, _, _, a2, _⟩
        · rw [v1] at a2
          exact absurd a2 (by decide)
        · exact absurd a2 (v2.1 (by omega))
        · exact a2
      refine ⟨ρ2 1 (61 + 6 * i + 4), κ', ρ3, ?_, ?_, Sim_try h (fun a h1 h3 ha => by rw [u2 a h1, z4 a h1, y2 a h3, x2 a ha]) (fun q hq => by rw [u3 q hq, z4 3 (by decide), y3 q hq, w1])⟩
      · rw [pg_hasN hn5, pb_s, if_neg h1, pg_get (c := 20) (19 + 2) 40 rfl pKN_19.1 hi4 (by decide), pb_s, pb_s, hti, pb_s, h73, if_pos (nI_lt h2 (by omega)), pb_s, hb5, if_neg (nI_ne0 (by omega) (by omega)), x1, pb_s, pg_get (c := 53) (44 + 10) 40 rfl pKT_32.2.1.2.2.2.2 hi4 (by decide), pb_s, pb_s, verr]
      · rw [pm_isNote (by rw [w1]; exact hn2) hN.1, pb_s, if_neg h1, pm_has0 hi4, pb_s]
        simp only [Nat.zero_add, pk1, px0, px1, pt0, pt1, if_true, eq_self, w1, h00]
        rw [tn1 i hi, if_neg (nI_ge h2 (by omega)), pb_s, if_neg (by decide), w1, hb1, if_neg (nI_ne0 (by omega) (by omega)), y1, pb_s, pm_has0 hi4, pb_s, y2 1 (by decide), w1, tn1 i hi, hgo, pb_s, pm_has4 hi4, pb_s, u1, pb_s]
  · refine ⟨-100002, μ, μ, by rw [pg_hasN hn5, pb_s, if_neg h1, pg_get (c := 20) (19 + 2) 40 rfl pKN_19.1 hi4 (by decide), pb_s, pb_s, hti, pb_s, h73, if_neg (nI_nlt (by omega) (by omega))], ?_, h⟩
    rw [pm_isNote hn2 hN.1, pb_s, if_neg h1, pm_has0 hi4, pb_s]
    simp only [Nat.zero_add, pk1, px0, px1, pt0, pt1, if_true, eq_self, h00]
    rw [tn1 i hi, if_pos (nI_le (by omega) (by omega)), pb_s, if_pos rfl]
