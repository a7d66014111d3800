/-! ===== run, trials, questions: the class alone ===== -/
theorem NR_e {o bw er p y e cl : Int32} (h : NR o bw er p y e cl) (hs : ¬ psnd o = 0) : er = e ∧ 0 ≤ pab e ∧ p = 1 ∧ y = bw ∧ ¬ y = -1 := by
  rcases h with ⟨rfl, rfl⟩ | ⟨rfl, rfl, rfl, rfl⟩ | ⟨_, h1, h2, h3, h4, h5⟩
  · exact absurd (by decide) hs
  · exact absurd (by decide) hs
  · exact ⟨h3, h5, h1, h2, h4⟩
theorem psf_01 {f : Nat → Int32} {j : Nat} (h0 : f j = 0) : ∀ (m i : Nat), i + m < 100000 → (∀ b, i ≤ b → b < i + m → f b = 0 ∨ f b = 1) → ∃ k, psf f i m = nI k ∧ k ≤ m ∧ (i ≤ j → j < i + m → k + 1 ≤ m)
  | 0, i, _, _ => ⟨0, rfl, Nat.le_refl _, fun h1 h2 => by omega⟩
  | m + 1, i, hm, h => by
    obtain ⟨k, h1, h2, h3⟩ := psf_01 h0 m (i + 1) (by omega) (fun b x y => h b (by omega) (by omega))
    rw [psf_s, h1]
    by_cases e : i = j
    · subst e
      exact ⟨k, by rw [h0, Int32.zero_add], by omega, fun _ _ => by omega⟩
    · rcases h i (Nat.le_refl _) (by omega) with q | q
      · exact ⟨k, by rw [q, Int32.zero_add], by omega, fun x y => by have := h3 (by omega) (by omega); omega⟩
      · exact ⟨k + 1, by rw [q, Int32.add_comm, nI_1], by omega, fun x y => by have := h3 (by omega) (by omega); omega⟩
theorem prk_01 (sd ab : Nat → Int32) (j b : Nat) : prk sd ab j b = 0 ∨ prk sd ab j b = 1 := by
  unfold prk
  repeat' split
  all_goals first | exact Or.inl rfl | exact Or.inr rfl
theorem prk_j (sd ab : Nat → Int32) (j : Nat) : prk sd ab j j = 0 := by
  unfold prk
  split
  · rfl
  · rw [if_pos (Int32.le_refl _), if_pos rfl, if_pos (Nat.le_refl _)]
theorem pl_w40 {μ : gx_M} {nn : Nat} (h5 : μ 19 5 = nI nn) (hn : nn ≤ 40) : ∀ (m n i : Nat), i + m = nn → m < n → lf_X2_noteAtRank_2 gl_kd 19 40 (fun m8 y9 => some (-1, m8)) n μ (nI i) = some (-1, μ) := by
  intro m
  induction m with
  | zero =>
    intro n i hi hm
    obtain ⟨n, rfl⟩ : ∃ q, n = q + 1 := ⟨n - 1, by omega⟩
    rw [lf_X2_noteAtRank_2, h5, if_pos (nI_le (by omega) (by omega))]
  | succ m ih =>
    intro n i hi hm
    obtain ⟨n, rfl⟩ : ∃ q, n = q + 1 := ⟨n - 1, by omega⟩
    have hi4 : i < 40 := by omega
    have hi5 : i < nn := by omega
    rw [lf_X2_noteAtRank_2, h5, if_neg (nI_ge (by omega) (by omega)), pg_snd pKN_19 hi4, pb_s, nI_1]
    by_cases h1 : psnd (μ (19 + 6) i) = 0
    · rw [if_pos h1]
      exact ih n (i + 1) (by omega) (by omega)
    · rw [if_neg h1]
      have a1 := pl_rkG (μ := μ) (c := 19) (k := fun m46 y47 y48 => some (y47, m46)) pKN_19 h5 hn hi5 nn gx_F 0 0 (by omega) (by unfold gx_F; omega)
      have a1' : fn_X2_rankOf gl_kd μ 19 (nI i) = _ := a1
      obtain ⟨k, k1, k2, k3⟩ := psf_01 (f := prk (fun b => psnd (μ (19 + 6) b)) (fun b => pab (μ (19 + 10) b)) i) (j := i) (prk_j _ _ _) nn 0 (by omega) (fun b _ _ => prk_01 _ _ _ _)
      have k4 := k3 (by omega) (by omega)
      rw [a1', pb_s, Int32.zero_add, k1, if_neg (show ¬ nI k = 40 from fun q => absurd ((nI_eq (b := 40) (by omega) (by decide)).1 q) (by omega))]
      exact ih n (i + 1) (by omega) (by omega)
theorem q_worst40 {μ : gx_M} {s : Nat → Int32} (h : RT μ 7 s) : fn_X6_worst gl_kd μ 6 40 = some (-100004, μ) := by
  obtain ⟨nb, nn, hB, hN, hS⟩ := h
  have hnn := hN.1
  unfold fn_X6_worst fn_X2_noteAtRank fn_X6_orNotFound
  simp only [Nat.reduceAdd]
  have r1' : lf_X2_noteAtRank_2 gl_kd 19 40 (fun m8 y9 => some (-1, m8)) gx_F μ 0 = some (-1, μ) := pl_w40 hN.2.1.1 hnn nn gx_F 0 (by omega) (by unfold gx_F; omega)
  rw [if_pos (by decide), r1', pb_s, if_pos rfl, pb_s]
theorem pfold_n {tn : Nat → Nat} {t0 T : Nat} {s : Nat → Int32} : ∀ (m i a : Nat), ∃ k, k ≤ a + m ∧ pfold (fun (x : Int32) _ _ => x + 1) tn t0 T s (nI a) i m = nI k
  | 0, i, a => ⟨a, by omega, rfl⟩
  | m + 1, i, a => by
    rw [pfold_s]
    by_cases h : t0 < tn i ∧ tn i ≤ T
    · rw [if_pos h, nI_1]
      obtain ⟨k, h1, h2⟩ := pfold_n (tn := tn) (t0 := t0) (T := T) (s := s) m (i + 1) (a + 1)
      exact ⟨k, by omega, h2⟩
    · rw [if_neg h]
      obtain ⟨k, h1, h2⟩ := pfold_n (tn := tn) (t0 := t0) (T := T) (s := s) m (i + 1) a
      exact ⟨k, by omega, h2⟩
theorem s_run (a1 : Int32) : chg (fun μ => fn_X6_run gl_kd μ 6 a1) := by
  intro μ h
  obtain ⟨nb, nn, hB, hN, hS⟩ := h.1
  have hb1 : μ 1 1 = nI nb := hB.2.1.2
  have hn2 : μ 1 2 = nI nn := hN.2.1.2
  obtain ⟨t0, ht0, h00⟩ := hS.2.1
  have h73 : μ 7 3 = nI t0 := hS.1.trans h00
  unfold fn_X6_run fn_X4_time
  simp only [Nat.reduceAdd]
  by_cases h1 : pwi a1 1 600 = 0
  · exact ch_err h (by rw [pg_within, pb_s, if_pos h1]) (by decide)
  obtain ⟨p, hp1, hp2, rfl⟩ := pwi_n (a := 1) (b := 600) (by decide) (by decide) h1
  by_cases h2 : t0 + p ≤ 3600
  · refine k_recd h (fun κ e hT => ?_)
    obtain ⟨hB2, hN2, hS2⟩ := RT_at hT hb1 hB.1 hn2 hN.1
    have hnn := hN.1
    obtain ⟨κ1, ρ0, x1, x2, x3, x4, x5, x6, x7, x8, x9, x10, x11, x12⟩ := ADVt (κ := κ) (ρ := μ) (t := 7) (T := t0 + p) (nb := nb) (nn := nn) (t0 := t0) (fun (a : Int32) _ _ => a) (fun a _ _ => a) 0 pKT_7 (fun _ _ => rfl) (fun _ _ _ _ => rfl) (fun _ _ _ _ _ => rfl) h2 hB2 hN2 hS2 h00 (by omega)
    obtain ⟨k, k1, k2⟩ := pfold_n (tn := ptn (μ 1)) (t0 := t0) (T := t0 + p) (s := ρ0 1) nn 0 0
    rw [show (nI 0 : Int32) = 0 from rfl] at k2
    refine ⟨nI k, κ1, ρ0 1, ?_, fun a ha => x7 a (by omega), ⟨nb, nn, x3, x4, x5⟩, fun hs ha => ⟨nI_nn (by omega), x11 ha, SNN_c hs x12⟩⟩
    rw [pg_within, pb_s, if_neg h1, pb_s, h73, nI_add, if_pos (show nI (t0 + p) ≤ 3600 from nI_le (b := 3600) h2 (by decide)), e, pb_s, x1, pb_s, k2]
  · exact ch_err h (by rw [pg_within, pb_s, if_neg h1, pb_s, h73, nI_add, if_neg (show ¬ nI (t0 + p) ≤ 3600 from nI_ge (a := 3600) (by omega) (by omega))]) (by decide)
theorem p_try {μ : gx_M} {nb nn t0 T : Nat} (hB : rB μ 8 (μ 1) nb) (hN : rN μ 19 (μ 1) nn) (hS : rS μ 7 (μ 1)) (h0 : μ 1 0 = nI t0) (ht : t0 ≤ T) (hT : T ≤ 3600) : ∃ κ', fn_X6_tryOut gl_kd μ 6 (nI T) = some (0, κ') ∧ (∀ a, (a < 32 ∨ 57 ≤ a) → κ' a = μ a) ∧ ∀ (f : Int32 → Int32 → gx_M → Int32) (g : Int32 → Nat → (Nat → Int32) → Int32) (acc : Int32), (∀ a m, f a (-1) m = a) → (∀ a x m, x < 40 → f a (nI x) m = g a x (m 1)) → (∀ a x s s', (∀ w, w < 6 → s (61 + 6 * x + w) = s' (61 + 6 * x + w)) → g a x s = g a x s') → ∀ ρ1 : gx_M, ρ1 1 = μ 1 → ∃ ρ', pGo f (T - t0) ρ1 acc ρ' (pfold g (ptn (μ 1)) t0 T (ρ' 1) acc 0 nn) ∧ rB κ' 33 (ρ' 1) nb ∧ rN κ' 44 (ρ' 1) nn ∧ (∀ a, a ≠ 1 → ρ' a = ρ1 a) ∧ (∀ x, x < nn → ρ' 1 (61 + 6 * x) = nI (ptn (μ 1) x)) ∧ (∀ x, x < nn → t0 < ptn (μ 1) x → ptn (μ 1) x ≤ T → ρ' 1 (61 + 6 * x + 2) = 1 ∧ (0 < nb ↔ ¬ ρ' 1 (61 + 6 * x + 3) = -1)) := by
  obtain ⟨κ, e, f1, hT2⟩ := pg_cpyT (μ := μ) (c := 32) (c1 := 7) pKT_32 pKT_7 (by omega) ⟨nb, nn, hB, hN, hS⟩
  obtain ⟨hB2, hN2, hS2⟩ := RT_at hT2 hB.2.1.2 hB.1 hN.2.1.2 hN.1
  obtain ⟨κ', ρ0, x1, x2, x3, x4, x5, x6, x7, x8, x9, x10, _, _⟩ := ADVt (κ := κ) (ρ := μ) (t := 32) (T := T) (fun (a : Int32) _ _ => a) (fun a _ _ => a) 0 pKT_32 (fun _ _ => rfl) (fun _ _ _ _ => rfl) (fun _ _ _ _ _ => rfl) hT hB2 hN2 hS2 h0 ht
  refine ⟨κ', ?_, fun a ha => by rw [x7 a (by omega), f1 a (by omega)], fun f g acc hf0 hf hg ρ1 r1 => ?_⟩
  · unfold fn_X6_tryOut
    simp only [Nat.reduceAdd]
    rw [e, pb_s, x1, pb_s]
  · obtain ⟨κ2, ρ', y1, y2, y3, y4, y5, y6, y7, y8, y9, y10, _, _⟩ := ADVt (κ := κ) (ρ := ρ1) (t := 32) (T := T) f g acc pKT_32 hf0 hf hg hT (by rw [r1]; exact hB2) (by rw [r1]; exact hN2) (by rw [r1]; exact hS2) (by rw [r1]; exact h0) ht
    rw [x1] at y1
    have z2 : κ' = κ2 := congrArg Prod.snd (Option.some.inj y1)
    subst z2
    rw [r1] at y2 y9 y10
    exact ⟨ρ', y2, y3, y4, y8, y9, y10⟩
theorem q_pitchNow {μ : gx_M} {nb nn : Nat} (hB : rB μ 8 (μ 1) nb) (hN : rN μ 19 (μ 1) nn) (hS : rS μ 7 (μ 1)) (hn : 0 < nb) : ∃ κ', fn_X6_pitchAt gl_kd μ 6 0 (μ 7 3) = some (ppt (μ 10 0) (μ 12 0) (μ 14 0), κ') ∧ ∀ a, (a < 32 ∨ 57 ≤ a) → κ' a = μ a := by
  have hnb := hB.1
  obtain ⟨t0, ht0, h00⟩ := hS.2.1
  have h73 : μ 7 3 = nI t0 := hS.1.trans h00
  obtain ⟨κ', x1, x2, x3⟩ := p_try hB hN hS h00 (Nat.le_refl _) ht0
  obtain ⟨ρ2, z1, z2, _⟩ := x3 (fun a _ _ => a) (fun a _ _ => a) 0 (fun _ _ => rfl) (fun _ _ _ _ => rfl) (fun _ _ _ _ _ => rfl) μ rfl
  rw [Nat.sub_self] at z1
  have e2 : ρ2 = μ := z1.1
  subst e2
  obtain ⟨g1, g2, g3, _⟩ := z2.2.2.2 0 (by omega)
  obtain ⟨p1, p2, p3, _⟩ := hB.2.2.2 0 (by omega)
  refine ⟨κ', ?_, x2⟩
  unfold fn_X6_pitchAt fn_X4_time
  simp only [Nat.reduceAdd]
  rw [pg_hasB hB.2.1.1, pb_s, show (0 : Int32) = nI 0 from rfl, phas_t (by omega) (by omega), if_neg (by decide), pb_s, h73, pg_within, pb_s, show (3600 : Int32) = nI 3600 from rfl, pwi_t (Nat.le_refl _) ht0 (by decide), if_neg (by decide), x1, pb_s, pg_po (c := 33) pKT_32.1 (by omega), pb_s, g1, g2, g3, ← p1, ← p2, ← p3]
