/-! ===== the simulation, and how a recorded call keeps it ===== -/
def Sim (μ : gx_M) : Prop := RT μ 7 (μ 1) ∧ SH μ (μ 2) (μ 0 3) ∧ SX μ (μ 0 5) (μ 4)
/-- the history takes one state more (five at most) -/
def PUSH (μ μ2 : gx_M) : Prop := ∃ hs hs', μ 0 3 = nI hs ∧ hs ≤ 5 ∧ pRec (μ 2) (μ 1) (μ2 2) hs hs' ∧ μ2 0 3 = nI hs'
/-- the accounts add up -/
def Acc (s : Nat → Int32) : Prop := ∃ nb, nb ≤ 10 ∧ s 1 = nI nb ∧ s 3 = psf (fun b => s (11 + 5 * b + 2)) 0 nb + s 4 + s 5 + s 6
/-- the settings aren't negative -/
def SNN (s : Nat → Int32) : Prop := ∀ w, w < 4 → 0 ≤ s (7 + w)
def Nice (s : Nat → Int32) (r : Int32) (s2 : Nat → Int32) : Prop := SNN s → Acc s → 0 ≤ r ∧ Acc s2 ∧ SNN s2
def KD (μ : gx_M) (r : Int32) (μ1 μ2 : gx_M) : Prop := (∀ a, 6 ≤ a → μ2 a = μ1 a) ∧ (∀ a, 187 ≤ a → μ1 a = μ a) ∧ ((r < -100000 ∧ μ1 = μ ∧ μ2 = μ) ∨ (PUSH μ μ2 ∧ Nice (μ 1) r (μ2 1)))
/-- a change: it answers an error and changes nothing, or it is recorded -/
def chg (fx : gx_M → Option (Int32 × gx_M)) : Prop := ∀ μ, Sim μ → ∃ r μ1 μ2, fx μ = some (r, μ1) ∧ Sim μ2 ∧ KD μ r μ1 μ2
theorem ch_err {x : Option (Int32 × gx_M)} {μ : gx_M} {r : Int32} (h : Sim μ) (hx : x = some (r, μ)) (hr : r < -100000) : ∃ r μ1 μ2, x = some (r, μ1) ∧ Sim μ2 ∧ KD μ r μ1 μ2 :=
  ⟨r, μ, μ, hx, h, fun _ _ => rfl, fun _ _ => rfl, Or.inl ⟨hr, rfl, rfl⟩⟩
theorem k_recd {μ : gx_M} {x : Option (Int32 × gx_M)} (h : Sim μ)
    (H : ∀ κ, fn_X1_record gl_kd μ 57 7 = some (0, κ) → RT κ 7 (μ 1) → ∃ r κ1 s2, x = some (r, κ1) ∧ (∀ a, (a < 7 ∨ 32 ≤ a) → κ1 a = κ a) ∧ RT κ1 7 s2 ∧ Nice (μ 1) r s2) :
    ∃ r μ1 μ2, x = some (r, μ1) ∧ Sim μ2 ∧ KD μ r μ1 μ2 := by
  obtain ⟨ht, hh, hx⟩ := h
  obtain ⟨κ, e, f, g⟩ := pg_rec ht hh
  obtain ⟨r, κ1, s2, e1, f1, hT, hN⟩ := H κ e (RT_c ht (fun a h1 h2 => f a (by omega)) (fun _ _ => rfl))
  obtain ⟨hs, nx, h1, h2, h3, h4, h5, h6⟩ := hh
  have k0 : κ1 0 = μ 0 := by rw [f1 0 (by omega), f 0 (by omega)]
  have k1 : κ1 1 = μ 1 := by rw [f1 1 (by omega), f 1 (by omega)]
  have k2 : κ1 2 = μ 2 := by rw [f1 2 (by omega), f 2 (by omega)]
  have k4 : κ1 4 = μ 4 := by rw [f1 4 (by omega), f 4 (by omega)]
  obtain ⟨ρ', hs', r1, r2, r3, r4, r5⟩ := pm_rec (ρ := κ1) (hs := hs) (by rw [k0]; exact h5) h1
  rw [k2, k1] at r2
  have w : ∀ a, a ≠ 1 → gx_r ρ' 1 s2 a = ρ' a := fun a ha => gx_r_n ha
  have w6 : ∀ a, 6 ≤ a → gx_r ρ' 1 s2 a = κ1 a := fun a ha => by rw [w a (by omega), r4 a (by omega) (by omega)]
  refine ⟨r, κ1, gx_r ρ' 1 s2, e1, ⟨?_, ?_, ?_⟩, w6, fun a ha => by rw [f1 a (by omega), f a (by omega)], Or.inr ⟨⟨hs, hs', h5, h1, ?_, ?_⟩, ?_⟩⟩
  · rw [gx_r_s]
    exact RT_c hT (fun a h1 h2 => w6 a (by omega)) (fun _ _ => rfl)
  · rw [w 2 (by decide), w 0 (by decide), r3]
    exact SH_c (g _ hs hs' h5 h1 r2) (fun a h1 h2 => by rw [w6 a (by omega), f1 a (by omega)]) (fun _ _ => rfl)
  · rw [w 0 (by decide), w 4 (by decide), r5 5 (by decide), r4 4 (by decide) (by decide), k0, k4]
    refine SX_c hx ?_ ?_ (fun _ _ => rfl)
    · rw [w6 184 (by omega), f1 184 (by omega), f 184 (by omega)]
    · rw [w6 186 (by omega), f1 186 (by omega), f 186 (by omega)]
  · rw [w 2 (by decide)]
    exact r2
  · rw [w 0 (by decide)]
    exact r3
  · rw [gx_r_s]
    exact hN
/-- what Acc looks at -/
theorem Acc_c {s s' : Nat → Int32} (h : Acc s) (hs : ∀ j, (j = 1 ∨ (3 ≤ j ∧ j ≤ 6) ∨ (11 ≤ j ∧ j < 61)) → s' j = s j) : Acc s' := by
  obtain ⟨nb, h1, h2, h3⟩ := h
  refine ⟨nb, h1, by rw [hs 1 (by omega), h2], ?_⟩
  rw [hs 3 (by omega), hs 4 (by omega), hs 5 (by omega), hs 6 (by omega), h3]
  rw [psf_c (f := fun b => s' (11 + 5 * b + 2)) (g := fun b => s (11 + 5 * b + 2)) nb 0 (fun b _ hb => hs _ (by omega))]
theorem SNN_c {s s' : Nat → Int32} (h : SNN s) (hs : ∀ j, 7 ≤ j → j < 11 → s' j = s j) : SNN s' := fun w hw => by rw [hs (7 + w) (by omega) (by omega)]; exact h w hw
theorem nI_nn {n : Nat} (h : n < 2147483648) : 0 ≤ nI n := nI_pos' h
theorem psf_at {f g : Nat → Int32} {b : Nat} : ∀ (m i : Nat), i ≤ b → b < i + m → (∀ x, x ≠ b → g x = f x) → psf g i m + f b = psf f i m + g b
  | 0, i, h1, h2, _ => absurd h2 (by omega)
  | m + 1, i, h1, h2, h3 => by
    show g i + psf g (i + 1) m + f b = f i + psf f (i + 1) m + g b
    by_cases e : i = b
    · subst e
      rw [psf_c (f := g) (g := f) m (i + 1) (fun x hx _ => h3 x (by omega))]
      generalize psf f (i + 1) m = z
      generalize g i = x
      generalize f i = y
      ac_rfl
    · have h4 := psf_at (f := f) (g := g) m (i + 1) (by omega) (by omega) h3
      rw [h3 i e, Int32.add_assoc, h4, ← Int32.add_assoc]
theorem i_canc {a b u : Int32} (h : a + u = b + u) : a = b := by
  have h1 := congrArg (fun x => x + -u) h
  simpa only [Int32.add_assoc, Int32.add_right_neg, Int32.add_zero] using h1
/-- one bowl's level changes, and the accounts with it -/
theorem Acc_lv {s s' : Nat → Int32} {nb b : Nat} (h : Acc s) (h1 : s 1 = nI nb) (hnb : nb ≤ 10) (hb : b < nb) (e1 : s' 1 = s 1) (hl : ∀ x, x ≠ b → s' (11 + 5 * x + 2) = s (11 + 5 * x + 2)) (he : s' 3 + s (11 + 5 * b + 2) + s 4 + s 5 + s 6 = s 3 + s' (11 + 5 * b + 2) + s' 4 + s' 5 + s' 6) : Acc s' := by
  obtain ⟨n, g1, g2, g3⟩ := h
  have e : n = nb := (nI_eq (by omega) (by omega)).1 (g2.symm.trans h1)
  subst e
  refine ⟨n, g1, by rw [e1, g2], ?_⟩
  have hp := psf_at (f := fun x => s (11 + 5 * x + 2)) (g := fun x => s' (11 + 5 * x + 2)) (b := b) n 0 (by omega) (by omega) hl
  rw [g3] at he
  generalize psf (fun x => s' (11 + 5 * x + 2)) 0 n = P' at hp ⊢
  generalize psf (fun x => s (11 + 5 * x + 2)) 0 n = P at hp he
  refine i_canc (u := s (11 + 5 * b + 2)) (i_canc (u := s 4 + s 5 + s 6) ?_)
  have q : (P' + s' 4 + s' 5 + s' 6 + s (11 + 5 * b + 2)) = (P' + s (11 + 5 * b + 2)) + s' 4 + s' 5 + s' 6 := by ac_rfl
  rw [q, hp]
  have q2 : s' 3 + s (11 + 5 * b + 2) + (s 4 + s 5 + s 6) = s' 3 + s (11 + 5 * b + 2) + s 4 + s 5 + s 6 := by ac_rfl
  rw [q2, he]
  ac_rfl
theorem RT_B {μ μ' : gx_M} {t nb nn : Nat} {s s' : Nat → Int32} (hB : rB μ' (t + 1) s' nb) (hN : rN μ (t + 12) s nn) (hS : rS μ t s) (hm : ∀ a, (a < t + 1 ∨ t + 12 ≤ a) → μ' a = μ a) (hs : ∀ j, (j = 0 ∨ j = 2 ∨ (7 ≤ j ∧ j < 11) ∨ 61 ≤ j) → s' j = s j) : RT μ' t s' :=
  ⟨nb, nn, hB, rN_c hN (fun a h1 h2 => hm a (by omega)) (fun j h1 h2 => hs j (by omega)), rS_c hS (by rw [hm t (by omega)]) (hm (t + 24) (by omega)) (fun j h1 h2 => hs j (by omega))⟩
theorem RT_N {μ μ' : gx_M} {t nb nn : Nat} {s s' : Nat → Int32} (hB : rB μ (t + 1) s nb) (hN : rN μ' (t + 12) s' nn) (hS : rS μ t s) (hm : ∀ a, (a < t + 12 ∨ t + 23 ≤ a) → μ' a = μ a) (hs : ∀ j, (j < 2 ∨ (3 ≤ j ∧ j < 61)) → s' j = s j) : RT μ' t s' :=
  ⟨nb, nn, rB_c hB (fun a h1 h2 => hm a (by omega)) (fun j h1 h2 => hs j (by omega)), hN, rS_c hS (by rw [hm t (by omega)]) (hm (t + 24) (by omega)) (fun j h1 h2 => hs j (by omega))⟩
/-! ===== water ===== -/
theorem pm_loses {ρ : gx_M} {b L C : Nat} (hb : b < 10) (hL : ρ 1 (11 + 5 * b + 2) = nI L) (hC : ρ 1 (11 + 5 * b + 4) = nI C) (h1 : L ≤ 100000) (h2 : C ≤ 100000) : fn_X7_loses gl_kd ρ 0 (nI b) = some (nI (L - C), gx_u (gx_u ρ 1 (11 + 5 * b + 2) (nI (min L C))) 1 5 (ρ 1 5 + nI (L - C))) := by
  unfold fn_X7_loses
  rw [pm_of2 hb, pb_s, pm_of4 hb, pb_s, hL, hC]
  by_cases h : C ≤ L
  · rw [pk_sub h, if_pos (nI_pos' (by omega)), pm_of2 hb, pb_s, hL, pm_put2 hb, pb_s, pk_sub (by omega), show L - (L - C) = min L C by omega]
    simp (disch := omega) only [Nat.zero_add, pk1, px5, pt5, if_true, eq_self, pw_n]
  · have hn : ¬ (0 : Int32) ≤ nI L - nI C := by
      rw [Int32.le_iff_toInt_le, pk_sub_toInt (by omega) (by omega), Int32.toInt_zero]
      omega
    rw [if_neg hn, pm_of2 hb, pb_s, hL, pm_put2 hb, pb_s, Int32.sub_zero, show L - C = 0 by omega, show min L C = L by omega, nI_0]
    simp (disch := omega) only [Nat.zero_add, pk1, px5, pt5, if_true, eq_self, pw_n]
theorem pm_comes {ρ : gx_M} {b L C p : Nat} (hb : b < 10) (hL : ρ 1 (11 + 5 * b + 2) = nI L) (hC : ρ 1 (11 + 5 * b + 4) = nI C) (h1 : L ≤ 10000) (h2 : C ≤ 10000) (h3 : p ≤ 10000) : ∃ ρ', fn_X7_comes gl_kd ρ 0 (nI b) (nI p) = some (0, ρ') ∧ (∀ a, a ≠ 1 → ρ' a = ρ a) ∧ ρ' 1 = upd (upd (upd (ρ 1) 3 (ρ 1 3 + nI p)) 5 (ρ 1 5 + nI (L + p - C))) (11 + 5 * b + 2) (nI (min (L + p) C)) := by
  unfold fn_X7_comes
  rw [pm_of2 hb, pb_s, hL, nI_add, pm_put2 hb, pb_s]
  simp (disch := omega) only [Nat.zero_add, pk1, px3, pt3, if_true, eq_self, pw_n]
  rw [pm_loses (L := L + p) (C := C) hb (by simp (disch := omega) only [pw_s, pw_n]) (by simp (disch := omega) only [pw_s, pw_n]; exact hC) (by omega) (by omega), pb_s]
  refine ⟨_, rfl, fun a ha => by simp (disch := omega) only [gx_u_n], ?_⟩
  simp (disch := omega) only [gx_u_s, pw_n]
  funext j
  by_cases e1 : j = 11 + 5 * b + 2
  · subst e1
    simp (disch := omega) only [pu_s, pu_n]
  · by_cases e2 : j = 5
    · subst e2
      simp (disch := omega) only [pu_s, pu_n]
    · by_cases e3 : j = 3
      · subst e3
        simp (disch := omega) only [pu_s, pu_n]
      · simp (disch := omega) only [pu_n]
theorem pg_hold {μ : gx_M} {c b L C : Nat} (hk : pKB c) (hb : b < 10) (hC : μ (c + 10) b = nI C) (h1 : L ≤ 100000) (h2 : C ≤ 100000) : fn_X0_hold gl_kd μ c (nI b) (nI L) = some (0, gx_u (gx_u μ c 8 (μ c 8 + nI (L - C))) (c + 6) b (nI (min L C))) := by
  unfold fn_X0_hold
  rw [pg_get (c + 10) 10 rfl hk.2.2.2.2 hb (by decide), pb_s, hC]
  have e : (if nI C < nI L then nI C else nI L) = nI (min L C) := by
    by_cases h : C < L
    · rw [if_pos (nI_lt h (by omega)), show min L C = C by omega]
    · rw [if_neg (nI_nlt (by omega) (by omega)), show min L C = L by omega]
  rw [e, pk_sub (by omega), show L - min L C = L - C by omega, pg_put (c + 6) 10 rfl hk.2.2.1 hb (by decide), pb_s]
theorem pg_lvIn {μ : gx_M} {c b : Nat} (hk : pKB c) (hb : b < 10) : fn_X0_levelIn gl_kd μ c (nI b) = some (μ (c + 6) b, μ) := by
  unfold fn_X0_levelIn
  rw [pg_get (c + 6) 10 rfl hk.2.2.1 hb (by decide), pb_s]
theorem pg_addW {μ : gx_M} {c b L C p : Nat} (hk : pKB c) (hb : b < 10) (hL : μ (c + 6) b = nI L) (hC : μ (c + 10) b = nI C) (h1 : L ≤ 10000) (h2 : C ≤ 10000) (h3 : p ≤ 10000) : fn_X0_addWater gl_kd μ c (nI b) (nI p) = some (0, gx_u (gx_u (gx_u μ c 6 (μ c 6 + nI p)) c 8 (μ c 8 + nI (L + p - C))) (c + 6) b (nI (min (L + p) C))) := by
  unfold fn_X0_addWater
  rw [pg_get (c + 6) 10 rfl hk.2.2.1 hb (by decide), pb_s, pw_n (Or.inl (by omega)), hL, nI_add, pg_hold (C := C) hk hb (by rw [pw_n (Or.inl (by omega)), hC]) (by omega) (by omega), pb_s, pw_n (Or.inr (by decide))]
theorem pKB_8 : pKB 8 := pKT_7.1
theorem pKN_19 : pKN 19 := pKT_7.2.1
/-- what a bowl of the relation is -/
theorem rB_b {μ : gx_M} {c nb b : Nat} {s : Nat → Int32} (h : rB μ c s nb) (hb : b < nb) : b < 10 ∧ ∃ L M C, L ≤ 1000 ∧ M ≤ 1000 ∧ C ≤ 1000 ∧ μ (c + 6) b = nI L ∧ μ (c + 8) b = nI M ∧ μ (c + 10) b = nI C ∧ s (11 + 5 * b + 2) = nI L ∧ s (11 + 5 * b + 3) = nI M ∧ s (11 + 5 * b + 4) = nI C := by
  obtain ⟨g1, g2, g3, g4, g5, ⟨L, hL1, hL⟩, ⟨M, hM1, hM⟩, ⟨C, hC1, hC⟩, _⟩ := h.2.2.2 b hb
  exact ⟨by have := h.1; omega, L, M, C, hL1, hM1, hC1, g3.trans hL, g4.trans hM, g5.trans hC, hL, hM, hC⟩
theorem t_addW {κ : gx_M} {s : Nat → Int32} {t nb nn b L C p : Nat} (hk : pKT t) (hB : rB κ (t + 1) s nb) (hN : rN κ (t + 12) s nn) (hS : rS κ t s) (hb : b < nb) (hL : s (11 + 5 * b + 2) = nI L) (hC : s (11 + 5 * b + 4) = nI C) (h1 : L ≤ 1000) (h2 : C ≤ 1000) (h3 : p ≤ 1000) :
    ∃ κ1, fn_X0_addWater gl_kd κ (t + 1) (nI b) (nI p) = some (0, κ1) ∧ (∀ a, (a < t + 1 ∨ t + 12 ≤ a) → κ1 a = κ a) ∧ κ1 (t + 1 + 6) b = nI (min (L + p) C) ∧ RT κ1 t (upd (upd (upd s 3 (s 3 + nI p)) 5 (s 5 + nI (L + p - C))) (11 + 5 * b + 2) (nI (min (L + p) C))) := by
  obtain ⟨hb10, _⟩ := rB_b hB hb
  obtain ⟨g1, g2, g3, g4, g5, _⟩ := hB.2.2.2 b hb
  refine ⟨_, pg_addW (C := C) hk.1 hb10 (g3.trans hL) (g5.trans hC) (by omega) (by omega) (by omega), fun a ha => by simp (disch := omega) only [gx_u_n], pw_s _ _ _ _, ?_⟩
  have := rB_lv (b := b) (x := nI (min (L + p) C)) (rB_f8 (x := s 5 + nI (L + p - C)) (rB_f6 (x := s 3 + nI p) hB)) ⟨min (L + p) C, by omega, rfl⟩
  rw [hB.2.2.1.1, hB.2.2.1.2.2.1]
  exact RT_B this hN hS (fun a ha => by simp (disch := omega) only [gx_u_n]) (fun j hj => by simp (disch := omega) only [pu_n])
/-- pour -/
theorem s_pour (a1 a2 : Int32) : chg (fun μ => fn_X6_pour gl_kd μ 6 a1 a2) := by
  intro μ h
  obtain ⟨nb, nn, hB, hN, hS⟩ := h.1
  have hb5 : μ 8 5 = nI nb := hB.2.1.1
  have hb1 : μ 1 1 = nI nb := hB.2.1.2
  unfold fn_X6_pour
  simp only [Nat.reduceAdd]
  by_cases h1 : phas a1 nb = 0
  · exact ch_err h (by rw [pg_hasB hb5, pb_s, if_pos h1]) (by decide)
  · obtain ⟨b, hb, rfl⟩ := phas_n (by have := hB.1; omega) h1
    by_cases h2 : pwi a2 1 1000 = 0
    · exact ch_err h (by rw [pg_hasB hb5, pb_s, if_neg h1, pg_within, pb_s, if_pos h2]) (by decide)
    · obtain ⟨p, hp1, hp2, rfl⟩ := pwi_n (a := 1) (b := 1000) (by decide) (by decide) h2
      obtain ⟨hb10, L, M, C, hL1, hM1, hC1, kL, kM, kC, hL, hM, hC⟩ := rB_b hB hb
      by_cases h3 : L + p ≤ 1000
      · refine k_recd h (fun κ e hT => ?_)
        obtain ⟨nb2, nn2, hB2, hN2, hS2⟩ := hT
        have hn2 : nb2 = nb := (nI_eq (by have := hB2.1; omega) (by have := hB.1; omega)).1 (hB2.2.1.2.symm.trans hb1)
        subst hn2
        obtain ⟨κ1, x1, x2, x3, x4⟩ := t_addW (t := 7) (p := p) pKT_7 hB2 hN2 hS2 hb hL hC hL1 hC1 hp2
        refine ⟨nI (min (L + p) C), κ1, _, ?_, fun a ha => x2 a (by omega), x4, fun hs ha => ⟨nI_nn (by omega), ?_, ?_⟩⟩
        · rw [pg_hasB hb5, pb_s, if_neg h1, pg_within, pb_s, if_neg h2, pg_lvIn pKB_8 hb10, pb_s, kL, nI_add, if_pos (show nI (L + p) ≤ 1000 from nI_le (b := 1000) h3 (by decide)), e, pb_s, x1, pb_s, pg_lvIn pKB_8 hb10, pb_s, x3]
        · refine Acc_lv ha hb1 hB.1 hb (by simp (disch := omega) only [pu_s, pu_n]) (fun x hx => by simp (disch := omega) only [pu_s, pu_n]) ?_
          simp (disch := omega) only [pu_s, pu_n]
          rw [hL]
          have q : nI p + nI L = nI (min (L + p) C) + nI (L + p - C) := by rw [nI_add, nI_add, show p + L = min (L + p) C + (L + p - C) by omega]
          have q2 : μ 1 3 + nI p + nI L + μ 1 4 + μ 1 5 + μ 1 6 = μ 1 3 + (nI p + nI L) + μ 1 4 + μ 1 5 + μ 1 6 := by ac_rfl
          rw [q2, q]
          ac_rfl
        · exact SNN_c hs (fun j h1 h2 => by simp (disch := omega) only [pu_n])
      · exact ch_err h (by rw [pg_hasB hb5, pb_s, if_neg h1, pg_within, pb_s, if_neg h2, pg_lvIn pKB_8 hb10, pb_s, kL, nI_add, if_neg (show ¬ nI (L + p) ≤ 1000 from nI_ge (a := 1000) (by omega) (by omega))]) (by decide)
