/-! ===== the simulation, and how a recorded call keeps it ===== -/
def Sim (μ : gx_M) : Prop := RT μ 7 (μ 1) ∧ SH μ (μ 2) (μ 0 3) ∧ SX μ (μ 0 5) (μ 4)
theorem ok_ro {fx fm : gx_M → Option (Int32 × gx_M)} {μ : gx_M} {r : Int32} (h : Sim μ) (hx : fx μ = some (r, μ)) (hm : fm μ = some (r, μ)) : ∃ r μ1 μ2, fx μ = some (r, μ1) ∧ fm μ1 = some (r, μ2) ∧ Sim μ2 := ⟨r, μ, μ, hx, hm, h⟩
theorem sm_rec {μ : gx_M} (h : Sim μ) : ∃ κ, fn_X1_record gl_kd μ 57 7 = some (0, κ) ∧ (∀ a, a < 57 → κ a = μ a) ∧ (∀ a, 184 ≤ a → κ a = μ a) ∧ RT κ 7 (μ 1) ∧ ∀ κ1, (∀ a, (a < 7 ∨ 32 ≤ a) → κ1 a = κ a) → ∃ ρ', fn_X7_records gl_kd κ1 0 = some (0, ρ') ∧ ρ' 1 = μ 1 ∧ (∀ a, a ≠ 0 → a ≠ 2 → ρ' a = κ1 a) ∧ (∀ j, j ≠ 3 → ρ' 0 j = μ 0 j) ∧ ∀ ρ2, (∀ a, 6 ≤ a → ρ2 a = ρ' a) → ρ2 2 = ρ' 2 → ρ2 0 3 = ρ' 0 3 → ρ2 0 5 = ρ' 0 5 → ρ2 4 = ρ' 4 → RT κ1 7 (ρ2 1) → Sim ρ2 := by
  obtain ⟨ht, hh, hx⟩ := h
  obtain ⟨κ, e, f, g⟩ := pg_rec ht hh
  refine ⟨κ, e, fun a ha => f a (by omega), fun a ha => f a (by omega), RT_c ht (fun a h1 h2 => f a (by omega)) (fun _ _ => rfl), fun κ1 f1 => ?_⟩
  obtain ⟨hs, nx, h1, h2, h3, h4, h5, h6⟩ := hh
  have k0 : κ1 0 = μ 0 := by rw [f1 0 (by omega), f 0 (by omega)]
  have k1 : κ1 1 = μ 1 := by rw [f1 1 (by omega), f 1 (by omega)]
  have k2 : κ1 2 = μ 2 := by rw [f1 2 (by omega), f 2 (by omega)]
  have k4 : κ1 4 = μ 4 := by rw [f1 4 (by omega), f 4 (by omega)]
  obtain ⟨ρ', hs', r1, r2, r3, r4, r5⟩ := pm_rec (ρ := κ1) (hs := hs) (by rw [k0]; exact h5) h1
  rw [k2, k1] at r2
  refine ⟨ρ', r1, by rw [r4 1 (by decide) (by decide), k1], r4, fun j hj => by rw [r5 j hj, k0], fun ρ2 q6 q2 q3 q5 q4 hT => ⟨?_, ?_, ?_⟩⟩
  · exact RT_c hT (fun a h1 h2 => by rw [q6 a (by omega), r4 a (by omega) (by omega)]) (fun _ _ => rfl)
  · rw [q2, q3, r3]
    exact SH_c (g _ hs hs' h5 h1 r2) (fun a h1 h2 => by rw [q6 a (by omega), r4 a (by omega) (by omega), f1 a (by omega)]) (fun _ _ => rfl)
  · rw [q5, q4, r5 5 (by decide), r4 4 (by decide) (by decide), k0, k4]
    refine SX_c hx ?_ ?_ (fun _ _ => rfl)
    · rw [q6 184 (by omega), r4 184 (by omega) (by omega), f1 184 (by omega), f 184 (by omega)]
    · rw [q6 186 (by omega), r4 186 (by omega) (by omega), f1 186 (by omega), f 186 (by omega)]
theorem RT_B {μ μ' : gx_M} {t nb nn : Nat} {s s' : Nat → Int32} (hB : rB μ' (t + 1) s' nb) (hN : rN μ (t + 12) s nn) (hS : rS μ t s) (hm : ∀ a, (a < t + 1 ∨ t + 12 ≤ a) → μ' a = μ a) (hs : ∀ j, (j = 0 ∨ j = 2 ∨ (7 ≤ j ∧ j < 11) ∨ 61 ≤ j) → s' j = s j) : RT μ' t s' :=
  ⟨nb, nn, hB, rN_c hN (fun a h1 h2 => hm a (by omega)) (fun j h1 h2 => hs j (by omega)), rS_c hS (by rw [hm t (by omega)]) (hm (t + 24) (by omega)) (fun j h1 h2 => hs j (by omega))⟩
theorem RT_N {μ μ' : gx_M} {t nb nn : Nat} {s s' : Nat → Int32} (hB : rB μ (t + 1) s nb) (hN : rN μ' (t + 12) s' nn) (hS : rS μ t s) (hm : ∀ a, (a < t + 12 ∨ t + 23 ≤ a) → μ' a = μ a) (hs : ∀ j, (j < 2 ∨ (3 ≤ j ∧ j < 61)) → s' j = s j) : RT μ' t s' :=
  ⟨nb, nn, rB_c hB (fun a h1 h2 => hm a (by omega)) (fun j h1 h2 => hs j (by omega)), hN, rS_c hS (by rw [hm t (by omega)]) (hm (t + 24) (by omega)) (fun j h1 h2 => hs j (by omega))⟩
/-! ===== water ===== -/
theorem pm_loses {ρ : gx_M} {b L C : Nat} (hb : b < 10) (hL : ρ 1 (11 + 5 * b + 2) = nI L) (hC : ρ 1 (11 + 5 * b + 4) = nI C) (h1 : L ≤ 100000) (h2 : C ≤ 100000) : fn_X7_loses gl_kd ρ 0 (nI b) = some (nI (L - C), gx_u (gx_u ρ 1 (11 + 5 * b + 2) (nI (min L C))) 1 5 (ρ 1 5 + nI (L - C))) := by
  unfold fn_X7_loses
  rw [pm_of2 hb, pb_s, pm_of4 hb, pb_s, hL, hC]
  by_cases h : C ≤ L
  · rw [pk_sub h, if_pos (nI_pos' (by omega)), pm_of2 hb, pb_s, hL, pm_put2 hb, pb_s, pk_sub (by omega), show L - (L - C) = min L C by omega]
    simp (disch := omega) only [Nat.zero_add, pk1, px5, pt5, if_true, eq_self, pw_n]
  · have hn : ¬ (0 : Int32) ≤ nI L - nI C := by
      rw [Int32.le_iff_toInt_le, pk_sub_toInt (by omega) (by omega), Int32.toInt_zero]
      omega
    rw [if_neg hn, pm_of2 hb, pb_s, hL, pm_put2 hb, pb_s, Int32.sub_zero, show L - C = 0 by omega, show min L C = L by omega, nI_0]
    simp (disch := omega) only [Nat.zero_add, pk1, px5, pt5, if_true, eq_self, pw_n]
theorem pm_comes {ρ : gx_M} {b L C p : Nat} (hb : b < 10) (hL : ρ 1 (11 + 5 * b + 2) = nI L) (hC : ρ 1 (11 + 5 * b + 4) = nI C) (h1 : L ≤ 10000) (h2 : C ≤ 10000) (h3 : p ≤ 10000) : ∃ ρ', fn_X7_comes gl_kd ρ 0 (nI b) (nI p) = some (0, ρ') ∧ (∀ a, a ≠ 1 → ρ' a = ρ a) ∧ ρ' 1 = upd (upd (upd (ρ 1) 3 (ρ 1 3 + nI p)) 5 (ρ 1 5 + nI (L + p - C))) (11 + 5 * b + 2) (nI (min (L + p) C)) := by
  unfold fn_X7_comes
  rw [pm_of2 hb, pb_s, hL, nI_add, pm_put2 hb, pb_s]
  simp (disch := omega) only [Nat.zero_add, pk1, px3, pt3, if_true, eq_self, pw_n]
  rw [pm_loses (L := L + p) (C := C) hb (by simp (disch := omega) only [pw_s, pw_n]) (by simp (disch := omega) only [pw_s, pw_n]; exact hC) (by omega) (by omega), pb_s]
  refine ⟨_, rfl, fun a ha => by simp (disch := omega) only [gx_u_n], ?_⟩
  simp (disch := omega) only [gx_u_s, pw_n]
  funext j
  by_cases e1 : j = 11 + 5 * b + 2
  · subst e1
    simp (disch := omega) only [pu_s, pu_n]
  · by_cases e2 : j = 5
    · subst e2
      simp (disch := omega) only [pu_s, pu_n]
    · by_cases e3 : j = 3
      · subst e3
        simp (disch := omega) only [pu_s, pu_n]
      · simp (disch := omega) only [pu_n]
theorem pg_hold {μ : gx_M} {c b L C : Nat} (hk : pKB c) (hb : b < 10) (hC : μ (c + 10) b = nI C) (h1 : L ≤ 100000) (h2 : C ≤ 100000) : fn_X0_hold gl_kd μ c (nI b) (nI L) = some (0, gx_u (gx_u μ c 8 (μ c 8 + nI (L - C))) (c + 6) b (nI (min L C))) := by
  unfold fn_X0_hold
  rw [pg_get (c + 10) 10 rfl hk.2.2.2.2 hb (by decide), pb_s, hC]
  have e : (if nI C < nI L then nI C else nI L) = nI (min L C) := by
    by_cases h : C < L
    · rw [if_pos (nI_lt h (by omega)), show min L C = C by omega]
    · rw [if_neg (nI_nlt (by omega) (by omega)), show min L C = L by omega]
  rw [e, pk_sub (by omega), show L - min L C = L - C by omega, pg_put (c + 6) 10 rfl hk.2.2.1 hb (by decide), pb_s]
theorem pg_lvIn {μ : gx_M} {c b : Nat} (hk : pKB c) (hb : b < 10) : fn_X0_levelIn gl_kd μ c (nI b) = some (μ (c + 6) b, μ) := by
  unfold fn_X0_levelIn
  rw [pg_get (c + 6) 10 rfl hk.2.2.1 hb (by decide), pb_s]
theorem pg_addW {μ : gx_M} {c b L C p : Nat} (hk : pKB c) (hb : b < 10) (hL : μ (c + 6) b = nI L) (hC : μ (c + 10) b = nI C) (h1 : L ≤ 10000) (h2 : C ≤ 10000) (h3 : p ≤ 10000) : fn_X0_addWater gl_kd μ c (nI b) (nI p) = some (0, gx_u (gx_u (gx_u μ c 6 (μ c 6 + nI p)) c 8 (μ c 8 + nI (L + p - C))) (c + 6) b (nI (min (L + p) C))) := by
  unfold fn_X0_addWater
  rw [pg_get (c + 6) 10 rfl hk.2.2.1 hb (by decide), pb_s, pw_n (Or.inl (by omega)), hL, nI_add, pg_hold (C := C) hk hb (by rw [pw_n (Or.inl (by omega)), hC]) (by omega) (by omega), pb_s, pw_n (Or.inr (by decide))]
theorem pKB_8 : pKB 8 := pKT_7.1
theorem pKN_19 : pKN 19 := pKT_7.2.1
/-- a recorded call -/
theorem s_recd {μ : gx_M} {fx fm : gx_M → Option (Int32 × gx_M)} (h : Sim μ)
    (H : ∀ κ, fn_X1_record gl_kd μ 57 7 = some (0, κ) → RT κ 7 (μ 1) → ∃ r κ1, fx μ = some (r, κ1) ∧ (∀ a, (a < 7 ∨ 32 ≤ a) → κ1 a = κ a) ∧
      ∀ ν, (∀ a, a < 6 → ν a = μ a) → ∀ ρ, fn_X7_records gl_kd ν 0 = some (0, ρ) → ρ 1 = μ 1 → ∃ ρ2, fm ν = some (r, ρ2) ∧ (∀ a, a ≠ 1 → ρ2 a = ρ a) ∧ RT κ1 7 (ρ2 1)) :
    ∃ r μ1 μ2, fx μ = some (r, μ1) ∧ fm μ1 = some (r, μ2) ∧ Sim μ2 := by
  obtain ⟨κ, e, f, fh, hT, hq⟩ := sm_rec h
  obtain ⟨r, κ1, h1, h2, h3⟩ := H κ e hT
  obtain ⟨ρ', r1, r2, r3, r4, r5⟩ := hq κ1 h2
  obtain ⟨ρ2, t1, t2, t3⟩ := h3 κ1 (fun a ha => by rw [h2 a (by omega), f a (by omega)]) ρ' r1 r2
  exact ⟨r, κ1, ρ2, h1, t1, r5 ρ2 (fun a ha => t2 a (by omega)) (t2 2 (by decide)) (by rw [t2 0 (by decide)]) (by rw [t2 0 (by decide)]) (t2 4 (by decide)) t3⟩
/-- what a bowl of the relation is -/
theorem rB_b {μ : gx_M} {c nb b : Nat} {s : Nat → Int32} (h : rB μ c s nb) (hb : b < nb) : b < 10 ∧ ∃ L M C, L ≤ 1000 ∧ M ≤ 1000 ∧ C ≤ 1000 ∧ μ (c + 6) b = nI L ∧ μ (c + 8) b = nI M ∧ μ (c + 10) b = nI C ∧ s (11 + 5 * b + 2) = nI L ∧ s (11 + 5 * b + 3) = nI M ∧ s (11 + 5 * b + 4) = nI C := by
  obtain ⟨g1, g2, g3, g4, g5, ⟨L, hL1, hL⟩, ⟨M, hM1, hM⟩, ⟨C, hC1, hC⟩, _⟩ := h.2.2.2 b hb
  exact ⟨by have := h.1; omega, L, M, C, hL1, hM1, hC1, g3.trans hL, g4.trans hM, g5.trans hC, hL, hM, hC⟩
theorem t_addW {κ : gx_M} {s : Nat → Int32} {t nb nn b L C p : Nat} (hk : pKT t) (hB : rB κ (t + 1) s nb) (hN : rN κ (t + 12) s nn) (hS : rS κ t s) (hb : b < nb) (hL : s (11 + 5 * b + 2) = nI L) (hC : s (11 + 5 * b + 4) = nI C) (h1 : L ≤ 1000) (h2 : C ≤ 1000) (h3 : p ≤ 1000) :
    ∃ κ1, fn_X0_addWater gl_kd κ (t + 1) (nI b) (nI p) = some (0, κ1) ∧ (∀ a, (a < t + 1 ∨ t + 12 ≤ a) → κ1 a = κ a) ∧ κ1 (t + 1 + 6) b = nI (min (L + p) C) ∧ RT κ1 t (upd (upd (upd s 3 (s 3 + nI p)) 5 (s 5 + nI (L + p - C))) (11 + 5 * b + 2) (nI (min (L + p) C))) := by
  obtain ⟨hb10, _⟩ := rB_b hB hb
  obtain ⟨g1, g2, g3, g4, g5, _⟩ := hB.2.2.2 b hb
  refine ⟨_, pg_addW (C := C) hk.1 hb10 (g3.trans hL) (g5.trans hC) (by omega) (by omega) (by omega), fun a ha => by simp (disch := omega) only [gx_u_n], pw_s _ _ _ _, ?_⟩
  have := rB_lv (b := b) (x := nI (min (L + p) C)) (rB_f8 (x := s 5 + nI (L + p - C)) (rB_f6 (x := s 3 + nI p) hB)) ⟨min (L + p) C, by omega, rfl⟩
  rw [hB.2.2.1.1, hB.2.2.1.2.2.1]
  exact RT_B this hN hS (fun a ha => by simp (disch := omega) only [gx_u_n]) (fun j hj => by simp (disch := omega) only [pu_n])
/-- pour -/
theorem s_pour (a1 a2 : Int32) : gl_ok Sim (fun μ => fn_X6_pour gl_kd μ 6 a1 a2) (fun μ => fn_X7_pour gl_kd μ 0 a1 a2) := by
  intro μ h
  obtain ⟨nb, nn, hB, hN, hS⟩ := h.1
  have hb5 : μ 8 5 = nI nb := hB.2.1.1
  have hb1 : μ 1 1 = nI nb := hB.2.1.2
  unfold fn_X6_pour fn_X7_pour
  simp only [Nat.reduceAdd]
  by_cases h1 : phas a1 nb = 0
  · exact ⟨_, μ, μ, by rw [pg_hasB hb5, pb_s, if_pos h1], by rw [pm_isBowl hb1 hB.1, pb_s, if_pos h1], h⟩
  · obtain ⟨b, hb, rfl⟩ := phas_n (by have := hB.1; omega) h1
    by_cases h2 : pwi a2 1 1000 = 0
    · exact ⟨_, μ, μ, by rw [pg_hasB hb5, pb_s, if_neg h1, pg_within, pb_s, if_pos h2], by rw [pm_isBowl hb1 hB.1, pb_s, if_neg h1, pm_in, pb_s, if_pos h2], h⟩
    · obtain ⟨p, hp1, hp2, rfl⟩ := pwi_n (a := 1) (b := 1000) (by decide) (by decide) h2
      obtain ⟨hb10, L, M, C, hL1, hM1, hC1, kL, kM, kC, hL, hM, hC⟩ := rB_b hB hb
      by_cases h3 : L + p ≤ 1000
      · refine s_recd (fx := fun μ => _) (fm := fun μ => _) h (fun κ e hT => ?_)
        obtain ⟨nb2, nn2, hB2, hN2, hS2⟩ := hT
        have hn2 : nb2 = nb := (nI_eq (by have := hB2.1; omega) (by have := hB.1; omega)).1 (hB2.2.1.2.symm.trans hb1)
        subst hn2
        obtain ⟨κ1, x1, x2, x3, x4⟩ := t_addW (t := 7) (p := p) pKT_7 hB2 hN2 hS2 hb hL hC hL1 hC1 hp2
        refine ⟨nI (min (L + p) C), κ1, ?_, fun a ha => x2 a (by omega), fun ν q ρ e2 r2 => ?_⟩
        · rw [pg_hasB hb5, pb_s, if_neg h1, pg_within, pb_s, if_neg h2, pg_lvIn pKB_8 hb10, pb_s, kL, nI_add, if_pos (show nI (L + p) ≤ 1000 from nI_le (b := 1000) h3 (by decide)), e, pb_s, x1, pb_s, pg_lvIn pKB_8 hb10, pb_s, x3]
        · obtain ⟨ρ2, t1, t2, t3⟩ := pm_comes (ρ := ρ) (p := p) hb10 (by rw [r2]; exact hL) (by rw [r2]; exact hC) (by omega) (by omega) (by omega)
          have q1 : ν 1 = μ 1 := q 1 (by decide)
          refine ⟨ρ2, ?_, t2, ?_⟩
          · rw [pm_isBowl (nb := nb2) (by rw [q1]; exact hb1) hB.1, pb_s, if_neg h1, pm_in, pb_s, if_neg h2, pm_of2 hb10, pb_s, q1, hL, nI_add, if_pos (show nI (L + p) ≤ 1000 from nI_le (b := 1000) h3 (by decide)), e2, pb_s, t1, pb_s, pm_of2 hb10, pb_s, t3, pu_s]
          · rw [t3, r2]
            exact x4
      · exact ⟨_, μ, μ, by rw [pg_hasB hb5, pb_s, if_neg h1, pg_within, pb_s, if_neg h2, pg_lvIn pKB_8 hb10, pb_s, kL, nI_add, if_neg (show ¬ nI (L + p) ≤ 1000 from nI_ge (a := 1000) (by omega) (by omega))], by rw [pm_isBowl hb1 hB.1, pb_s, if_neg h1, pm_in, pb_s, if_neg h2, pm_of2 hb10, pb_s, hL, nI_add, if_neg (show ¬ nI (L + p) ≤ 1000 from nI_ge (a := 1000) (by omega) (by omega))], h⟩
