/-! ===== the text as a whole ===== -/
theorem pl_tk1 {x : Nat} {k : gx_M → Int32 → Int32 → Option (Int32 × gx_M)} {ρ : gx_M} (hx : x ≤ 25) : ∀ (m n i : Nat), i + m = x → m < n → lf_X7_isTaken_19 gl_kd 0 (nI x) k n ρ 1 (nI i) = k ρ 1 (nI x) := by
  intro m
  induction m with
  | zero =>
    intro n i hi hn
    obtain ⟨n, rfl⟩ : ∃ q, n = q + 1 := ⟨n - 1, by omega⟩
    have e : i = x := by omega
    subst e
    rw [lf_X7_isTaken_19, if_pos (nI_le (Nat.le_refl _) (by omega))]
  | succ m ih =>
    intro n i hi hn
    obtain ⟨n, rfl⟩ : ∃ q, n = q + 1 := ⟨n - 1, by omega⟩
    rw [lf_X7_isTaken_19, if_neg (nI_ge (by omega) (by omega)), if_neg (by decide), nI_1]
    exact ih n (i + 1) (by omega) (by omega)
theorem pl_tk0 {x : Nat} {k : gx_M → Int32 → Int32 → Option (Int32 × gx_M)} {ρ : gx_M} (hx : x ≤ 25) : ∀ (m n i : Nat), i + m = x → m < n → ((∃ j, i ≤ j ∧ j < x ∧ ρ 5 j = ρ 0 7) ∧ lf_X7_isTaken_19 gl_kd 0 (nI x) k n ρ 0 (nI i) = k ρ 1 (nI x)) ∨ ((∀ j, i ≤ j → j < x → ¬ ρ 5 j = ρ 0 7) ∧ lf_X7_isTaken_19 gl_kd 0 (nI x) k n ρ 0 (nI i) = k ρ 0 (nI x)) := by
  intro m
  induction m with
  | zero =>
    intro n i hi hn
    obtain ⟨n, rfl⟩ : ∃ q, n = q + 1 := ⟨n - 1, by omega⟩
    have e : i = x := by omega
    subst e
    refine Or.inr ⟨fun j h1 h2 => absurd h2 (by omega), ?_⟩
    rw [lf_X7_isTaken_19, if_pos (nI_le (Nat.le_refl _) (by omega))]
  | succ m ih =>
    intro n i hi hn
    obtain ⟨n, rfl⟩ : ∃ q, n = q + 1 := ⟨n - 1, by omega⟩
    rw [lf_X7_isTaken_19, if_neg (nI_ge (by omega) (by omega)), if_pos rfl, show gx_ix (nI i) (gl_kd (0 + 5) - 100) = true from pg_ix (show i < 25 by omega) (by decide), if_pos rfl, nI_clamp (by omega), nI_1, show (0 + 5 : Nat) = 5 from rfl]
    by_cases e : ρ 5 i = ρ 0 7
    · rw [if_pos e]
      exact Or.inl ⟨⟨i, Nat.le_refl _, by omega, e⟩, pl_tk1 hx m n (i + 1) (by omega) (by omega)⟩
    · rw [if_neg e]
      rcases ih n (i + 1) (by omega) (by omega) with ⟨⟨j, h1, h2, h3⟩, h4⟩ | ⟨h1, h2⟩
      · exact Or.inl ⟨⟨j, by omega, h2, h3⟩, h4⟩
      · refine Or.inr ⟨fun j h3 h4 => ?_, h2⟩
        by_cases q : j = i
        · subst q; exact e
        · exact h1 j (by omega) h4
theorem pm_tk {ρ : gx_M} {nn x : Nat} {v : Int32} (h2 : ρ 1 2 = nI nn) (hn : nn ≤ 40) (hx : x ≤ 25) (h7 : ρ 0 7 = v) : ((pAt (fun q => ρ 1 (61 + 6 * q)) nn v ∨ ∃ j, j < x ∧ ρ 5 j = v) ∧ fn_X7_isTaken gl_kd ρ 0 (nI x) = some (1, ρ)) ∨ (¬ (pAt (fun q => ρ 1 (61 + 6 * q)) nn v ∨ ∃ j, j < x ∧ ρ 5 j = v) ∧ fn_X7_isTaken gl_kd ρ 0 (nI x) = some (0, ρ)) := by
  subst h7
  unfold fn_X7_isTaken
  rcases pm_nat (μ := ρ) (v := ρ 0 7) h2 hn with ⟨y, y1, y2, _, y3⟩ | ⟨y1, y2⟩
  · refine Or.inl ⟨Or.inl ⟨y, y1, y2⟩, ?_⟩
    rw [y3, pb_s, if_neg (nI_pos (by omega))]
    exact (pl_tk1 hx x gx_F 0 (by omega) (by unfold gx_F; omega)).trans (by rw [if_pos (Or.inr rfl)])
  · rw [y2, pb_s, if_pos (by decide)]
    rcases pl_tk0 (k := fun m7 y8 y9 => (if y8 = 0 ∨ y8 = 1 then some (y8, m7) else none)) (ρ := ρ) hx x gx_F 0 (by omega) (by unfold gx_F; omega) with ⟨⟨j, j1, j2, j3⟩, g⟩ | ⟨g1, g⟩
    · exact Or.inl ⟨Or.inr ⟨j, j2, j3⟩, g.trans (by rw [if_pos (Or.inr rfl)])⟩
    · refine Or.inr ⟨?_, g.trans (by rw [if_pos (Or.inl rfl)])⟩
      rintro (⟨z, z1, z2⟩ | ⟨j, j1, j2⟩)
      · exact y1 z z1 z2
      · exact g1 j (by omega) j1 j2
theorem pIns_at {s s' : Nat → Int32} {nn p : Nat} {v h u : Int32} (hi : pIns s s' nn p v h) (hp : p ≤ nn) : pAt (fun q => s' (61 + 6 * q)) (nn + 1) u ↔ (pAt (fun q => s (61 + 6 * q)) nn u ∨ u = v) := by
  obtain ⟨i1, i2, i3, i4, i5, i6⟩ := hi
  have up : ∀ q, p < q → q ≤ nn → s' (61 + 6 * q) = s (61 + 6 * (q - 1)) := fun q z1 z2 => i3 q z1 z2 0 (by omega)
  constructor
  · rintro ⟨q, q1, q2⟩
    dsimp only at q2
    rcases Nat.lt_trichotomy q p with z | z | z
    · rw [i2 _ (by omega) (by omega)] at q2
      exact Or.inl ⟨q, by omega, q2⟩
    · subst z
      exact Or.inr (q2.symm.trans i4)
    · rw [up q z (by omega)] at q2
      exact Or.inl ⟨q - 1, by omega, q2⟩
  · rintro (⟨q, q1, q2⟩ | rfl)
    · by_cases z : q < p
      · exact ⟨q, by omega, by dsimp only; rw [i2 _ (by omega) (by omega)]; exact q2⟩
      · exact ⟨q + 1, by omega, by dsimp only; rw [up (q + 1) (by omega) (by omega)]; exact q2⟩
    · exact ⟨p, by omega, i4⟩
theorem pl_stop {κ : gx_M} {x : Nat} {r : Int32} {kG : gx_M → Int32 → Option (Int32 × gx_M)} (h7 : κ 184 7 = r) (hr : ¬ r = 0) (hx : x < 100) : ∀ g : Nat, 0 < g → lf_X5_readInto_22 gl_kd 184 44 kG g κ (nI x) = kG κ (nI x) := by
  intro g hg
  obtain ⟨g, rfl⟩ : ∃ q, g = q + 1 := ⟨g - 1, by omega⟩
  rw [lf_X5_readInto_22, if_neg (show ¬ (100 : Int32) ≤ nI x from nI_ge (b := 100) hx (by decide)), h7, if_neg hr, ite_self]
theorem pl_read {n nb nn : Nat} {tx : Nat → Int32} {kG : gx_M → Int32 → Option (Int32 × gx_M)} : ∀ (m g1 g2 x p : Nat) (κ ρ : gx_M) (s : Nat → Int32), n ≤ p + m → m + 1 < g1 → m < g2 → 4 * x ≤ p → p ≤ 100 → pTx κ n tx → pTr ρ n tx → κ 184 2 = nI p → ρ 0 6 = nI p → κ 184 7 = 0 → κ 184 5 = nI x → rB κ 33 s nb → rN κ 44 s (nn + x) → rS κ 32 s → ρ 1 2 = nI nn → (∀ v, pAt (fun q => s (61 + 6 * q)) (nn + x) v ↔ (pAt (fun q => ρ 1 (61 + 6 * q)) nn v ∨ ∃ j, j < x ∧ ρ 5 j = v)) →
    ∃ κ' ρ' r z, lf_X5_readInto_22 gl_kd 184 44 kG g1 κ (nI x) = kG κ' z ∧ lf_X7_reasonOfText_7 gl_kd 0 (fun m15 y16 => some (0, m15)) g2 ρ (nI x) = some (r, ρ') ∧ κ' 184 7 = r ∧ (∀ a, (a < 32 ∨ 57 ≤ a) → a ≠ 184 → κ' a = κ a) ∧ κ' 184 1 = nI n ∧ (∀ a, a ≠ 0 → a ≠ 5 → ρ' a = ρ a) ∧ (∀ f, f < 6 → ρ' 0 f = ρ 0 f) ∧ (¬ r = 0 → κ' 184 6 = ρ' 0 10) ∧
      (r = 0 → ∀ (σ : gx_M) (g3 : Nat) (kM : gx_M → Int32 → Option (Int32 × gx_M)), m < g3 → pTr σ n tx → σ 0 6 = nI p → rB κ 33 (σ 1) nb → rN κ 44 (σ 1) (nn + x) → rS κ 32 (σ 1) → ∃ σ' x', lf_X7_enter_21 gl_kd 0 kM g3 σ (nI x) = kM σ' (nI x') ∧ κ' 184 5 = nI x' ∧ RT κ' 32 (σ' 1) ∧ (∀ a, a ≠ 0 → a ≠ 1 → σ' a = σ a) ∧ (∀ f, f < 6 → σ' 0 f = σ 0 f)) := by
  intro m
  have fini : ∀ (m g1 g2 x p : Nat) (κ ρ : gx_M), n ≤ p → 0 < g1 → 0 < g2 → 4 * x ≤ p → p ≤ 100 → pTx κ n tx → pTr ρ n tx → κ 184 2 = nI p → ρ 0 6 = nI p → κ 184 7 = 0 → κ 184 5 = nI x →
    ∃ κ' ρ' r z, lf_X5_readInto_22 gl_kd 184 44 kG g1 κ (nI x) = kG κ' z ∧ lf_X7_reasonOfText_7 gl_kd 0 (fun m15 y16 => some (0, m15)) g2 ρ (nI x) = some (r, ρ') ∧ κ' 184 7 = r ∧ (∀ a, (a < 32 ∨ 57 ≤ a) → a ≠ 184 → κ' a = κ a) ∧ κ' 184 1 = nI n ∧ (∀ a, a ≠ 0 → a ≠ 5 → ρ' a = ρ a) ∧ (∀ f, f < 6 → ρ' 0 f = ρ 0 f) ∧ (¬ r = 0 → κ' 184 6 = ρ' 0 10) ∧
      (r = 0 → ∀ (σ : gx_M) (g3 : Nat) (kM : gx_M → Int32 → Option (Int32 × gx_M)), m < g3 → pTr σ n tx → σ 0 6 = nI p → rB κ 33 (σ 1) nb → rN κ 44 (σ 1) (nn + x) → rS κ 32 (σ 1) → ∃ σ' x', lf_X7_enter_21 gl_kd 0 kM g3 σ (nI x) = kM σ' (nI x') ∧ κ' 184 5 = nI x' ∧ RT κ' 32 (σ' 1) ∧ (∀ a, a ≠ 0 → a ≠ 1 → σ' a = σ a) ∧ (∀ f, f < 6 → σ' 0 f = σ 0 f)) := by
    intro m g1 g2 x p κ ρ hn hg1 hg2 hxp hp hX hR hk hm h7 h5
    obtain ⟨g1, rfl⟩ : ∃ q, g1 = q + 1 := ⟨g1 - 1, by omega⟩
    obtain ⟨g2, rfl⟩ : ∃ q, g2 = q + 1 := ⟨g2 - 1, by omega⟩
    refine ⟨κ, ρ, 0, nI x, ?_, ?_, h7, fun _ _ _ => rfl, hX.2.1, fun _ _ _ => rfl, fun _ _ => rfl, fun q => absurd rfl q, fun _ σ g3 kM hg3 hσ hσ6 hB hN hS => ⟨σ, x, ?_, h5, ⟨nb, nn + x, hB, hN, hS⟩, fun _ _ _ => rfl, fun _ _ => rfl⟩⟩
    · rw [lf_X5_readInto_22, if_neg (show ¬ (100 : Int32) ≤ nI x from nI_ge (b := 100) (by omega) (by decide)), hX.2.1, hk, if_pos (nI_le hn (by omega))]
    · rw [lf_X7_reasonOfText_7, hR.1, hm, if_pos (nI_le hn (by omega))]
    · obtain ⟨g3, rfl⟩ : ∃ q, g3 = q + 1 := ⟨g3 - 1, by omega⟩
      rw [lf_X7_enter_21, hσ.1, hσ6, if_pos (nI_le hn (by omega))]
  induction m with
  | zero =>
    intro g1 g2 x p κ ρ s hn hg1 hg2 hxp hp hX hR hk hm h7 h5 hB hN hS h2 hlink
    exact fini 0 g1 g2 x p κ ρ (by omega) (by omega) (by omega) hxp hp hX hR hk hm h7 h5
  | succ m ih =>
    intro g1 g2 x p κ ρ s hn hg1 hg2 hxp hp hX hR hk hm h7 h5 hB hN hS h2 hlink
    by_cases hpn : n ≤ p
    · exact fini (m + 1) g1 g2 x p κ ρ hpn (by omega) (by omega) hxp hp hX hR hk hm h7 h5
    have hn100 := hX.1
    have hnn := hN.1
    obtain ⟨g1, rfl⟩ : ∃ q, g1 = q + 1 := ⟨g1 - 1, by omega⟩
    obtain ⟨g2, rfl⟩ : ∃ q, g2 = q + 1 := ⟨g2 - 1, by omega⟩
    rw [lf_X5_readInto_22, if_neg (show ¬ (100 : Int32) ≤ nI x from nI_ge (b := 100) (by omega) (by decide)), hX.2.1, hk, if_neg (nI_ge (by omega) (by omega)), if_pos h7, nI_1]
    rw [lf_X7_reasonOfText_7, hR.1, hm, if_neg (nI_ge (by omega) (by omega))]
    have hXa := pTx_c hX (fG_u (κ := κ) (j := 6) (v := nI p)) (by decide)
    have hRa := pTr_c hR (fM_u (κ := ρ) (j := 10) (v := nI p)) (by decide)
    obtain ⟨κ1, ρ1, v, a1, a2, a3, a4, a5⟩ := p_form hp hXa hRa (by rw [pw_n (Or.inr (by decide)), hk]) (by rw [pw_n (Or.inr (by decide)), hm])
    have fk : ∀ a, a ≠ 184 → κ1 a = κ a := fun a ha => by rw [a3.1 a ha, gx_u_n ha]
    have fk6 : κ1 184 6 = nI p := by rw [a3.2 6 (by decide), pw_s]
    have fk1 : κ1 184 1 = κ 184 1 := by rw [a3.2 1 (by decide), pw_n (Or.inr (by decide))]
    have fk5 : κ1 184 5 = nI x := by rw [a3.2 5 (by decide), pw_n (Or.inr (by decide)), h5]
    have fr : ∀ a, a ≠ 0 → ρ1 a = ρ a := fun a ha => by rw [a4.1 a ha, gx_u_n ha]
    have fr10 : ρ1 0 10 = nI p := by rw [a4.2 10 (by decide), pw_s]
    have frl : ∀ f, f < 6 → ρ1 0 f = ρ 0 f := fun f hf => by rw [a4.2 f (by omega), pw_n (Or.inr (by omega))]
    -- the class stops with a reason
    have stop : ∀ (r : Int32), ¬ r = 0 → fn_X5_reasonAgainstNext gl_kd (gx_u κ 184 6 (nI p)) 184 44 = some (r, κ1) → ∀ (ρ2 : gx_M), (∀ a, a ≠ 0 → ρ2 a = ρ a) → (∀ f, f < 6 → ρ2 0 f = ρ 0 f) → ρ2 0 10 = nI p → ∀ (e : Option (Int32 × gx_M)), e = some (r, ρ2) → ∃ κ' ρ' r z, (gx_b (fn_X5_reasonAgainstNext gl_kd (gx_u κ 184 6 (nI p)) 184 44) fun r4 m5 => if (gx_u m5 184 7 r4) 184 7 = 0 then gx_b (fn_X2_insert gl_kd (gx_u m5 184 7 r4) 44 ((gx_u m5 184 7 r4) 184 3) ((gx_u m5 184 7 r4) 184 4)) fun r7 m8 => lf_X5_readInto_22 gl_kd 184 44 kG g1 (gx_u m8 184 5 (m8 184 5 + 1)) (nI (x + 1)) else lf_X5_readInto_22 gl_kd 184 44 kG g1 (gx_u m5 184 7 r4) (nI (x + 1))) = kG κ' z ∧ e = some (r, ρ') ∧ κ' 184 7 = r ∧ (∀ a, (a < 32 ∨ 57 ≤ a) → a ≠ 184 → κ' a = κ a) ∧ κ' 184 1 = nI n ∧ (∀ a, a ≠ 0 → a ≠ 5 → ρ' a = ρ a) ∧ (∀ f, f < 6 → ρ' 0 f = ρ 0 f) ∧ (¬ r = 0 → κ' 184 6 = ρ' 0 10) ∧
      (r = 0 → ∀ (σ : gx_M) (g3 : Nat) (kM : gx_M → Int32 → Option (Int32 × gx_M)), m + 1 < g3 → pTr σ n tx → σ 0 6 = nI p → rB κ 33 (σ 1) nb → rN κ 44 (σ 1) (nn + x) → rS κ 32 (σ 1) → ∃ σ' x', lf_X7_enter_21 gl_kd 0 kM g3 σ (nI x) = kM σ' (nI x') ∧ κ' 184 5 = nI x' ∧ RT κ' 32 (σ' 1) ∧ (∀ a, a ≠ 0 → a ≠ 1 → σ' a = σ a) ∧ (∀ f, f < 6 → σ' 0 f = σ 0 f)) := by
      intro r hr e1 ρ2 h1 h3 h4 e e2
      refine ⟨gx_u κ1 184 7 r, ρ2, r, nI (x + 1), ?_, e2, pw_s _ _ _ _, fun a ha hb => by rw [gx_u_n hb, fk a hb], by rw [pw_n (Or.inr (by decide)), fk1, hX.2.1], fun a ha _ => h1 a ha, h3, fun _ => by rw [pw_n (Or.inr (by decide)), fk6, h4], fun q => absurd q hr⟩
      rw [e1, pb_s, pw_s, if_neg hr]
      exact pl_stop (pw_s _ _ _ _) hr (by omega) g1 (by omega)
    rcases a5 with rfl | ⟨rfl, w1, w2, p', b1, b2, b3, b4, b5, b6, b7, b8, b9, b10⟩
    · refine stop 1 (by decide) (by unfold fn_X5_reasonAgainstNext; rw [a1, pb_s, if_pos rfl]) ρ1 fr frl fr10 _ ?_
      rw [a2, pb_s, if_pos rfl]
    by_cases c1 : w1 ≤ 3600
    rotate_left
    · refine stop 2 (by decide) (by unfold fn_X5_reasonAgainstNext; rw [a1, pb_s, if_neg (by decide), b3, if_pos (show (3600 : Int32) < nI w1 from nI_lt (a := 3600) (by omega) (by omega))]) ρ1 fr frl fr10 _ ?_
      rw [a2, pb_s, if_neg (by decide), b5, pm_in, pb_s, if_pos (show pwi (nI w1) 0 3600 = 0 by unfold pwi; rw [if_neg (nI_pos (by omega)), if_pos (show (3600 : Int32) < nI w1 from nI_lt (a := 3600) (by omega) (by omega))])]
    have in1 : ¬ pwi (nI w1) 0 3600 = 0 := by rw [show pwi (nI w1) 0 3600 = 1 from pwi_t (a := 0) (b := 3600) (by omega) c1 (by decide)]; decide
    have nlt : ¬ (3600 : Int32) < nI w1 := nI_nlt (a := 3600) c1 (by decide)
    by_cases c2 : w2 ≤ 6000
    rotate_left
    · refine stop 2 (by decide) (by unfold fn_X5_reasonAgainstNext; rw [a1, pb_s, if_neg (by decide), b3, if_neg nlt, b4, if_neg (show ¬ nI w2 ≤ 6000 from nI_ge (a := 6000) (by omega) (by omega))]) ρ1 fr frl fr10 _ ?_
      rw [a2, pb_s, if_neg (by decide), b5, pm_in, pb_s, if_neg in1, b6, pm_in, pb_s, if_pos (show pwi (nI w2) 0 6000 = 0 by unfold pwi; rw [if_neg (nI_pos (by omega)), if_pos (show (6000 : Int32) < nI w2 from nI_lt (a := 6000) (by omega) (by omega))])]
    have in2 : ¬ pwi (nI w2) 0 6000 = 0 := by rw [show pwi (nI w2) 0 6000 = 1 from pwi_t (a := 0) (b := 6000) (by omega) c2 (by decide)]; decide
    have le2 : nI w2 ≤ (6000 : Int32) := nI_le (b := 6000) c2 (by decide)
    have hB1 : rB κ1 33 s nb := rB_c hB (fun a h1 h2 => fk a (by omega)) (fun _ _ _ => rfl)
    have hN1 : rN κ1 44 s (nn + x) := rN_c hN (fun a h1 h2 => fk a (by omega)) (fun _ _ _ => rfl)
    have hS1 : rS κ1 32 s := rS_c hS (by rw [fk 32 (by decide)]) (fk _ (by decide)) (fun _ _ _ => rfl)
    have hti : ∀ q, q < nn + x → κ1 (44 + 2) q = s (61 + 6 * q) := fun q hq => (hN1.2.2.1 q hq).1
    have htk := pm_tk (ρ := ρ1) (nn := nn) (x := x) (v := nI w1) (by rw [fr 1 (by decide), h2]) (by omega) (by omega) b5
    rw [fr 1 (by decide), fr 5 (by decide), ← hlink] at htk
    rcases pg_hasAt (μ := κ1) (c := 44) (v := nI w1) pKT_32.2.1 hN1.2.1.1 hnn (rN_so hN1) with ⟨d1, d2⟩ | ⟨d1, d2⟩
    · have hat : pAt (fun q => s (61 + 6 * q)) (nn + x) (nI w1) := pAt_c d1 (fun q hq => (hti q hq).symm)
      rcases htk with ⟨_, k2⟩ | ⟨k1, _⟩
      · refine stop 3 (by decide) (by unfold fn_X5_reasonAgainstNext; rw [a1, pb_s, if_neg (by decide), b3, if_neg nlt, b4, if_pos le2, d2, pb_s, if_neg (by decide)]) ρ1 fr frl fr10 _ ?_
        rw [a2, pb_s, if_neg (by decide), b5, pm_in, pb_s, if_neg in1, b6, pm_in, pb_s, if_neg in2, k2, pb_s, if_neg (by decide)]
      · exact absurd hat k1
    have hno : ¬ pAt (fun q => s (61 + 6 * q)) (nn + x) (nI w1) := fun q => d1 (pAt_c q hti)
    have k2 : fn_X7_isTaken gl_kd ρ1 0 (nI x) = some (0, ρ1) := by
      rcases htk with ⟨k1, _⟩ | ⟨_, k2⟩
      · exact absurd k1 hno
      · exact k2
    have r12 : ρ1 1 2 = nI nn := by rw [fr 1 (by decide), h2]
    by_cases c3 : nn + x < 40
    rotate_left
    · have e40 : nn + x = 40 := by omega
      refine stop 4 (by decide) (by unfold fn_X5_reasonAgainstNext fn_X2_isFull; rw [a1, pb_s, if_neg (by decide), b3, if_neg nlt, b4, if_pos le2, d2, pb_s, if_pos rfl, hN1.2.1.1, e40, if_neg (by decide), pb_s, if_neg (by decide)]) ρ1 fr frl fr10 _ ?_
      rw [a2, pb_s, if_neg (by decide), b5, pm_in, pb_s, if_neg in1, b6, pm_in, pb_s, if_neg in2, k2, pb_s, if_pos rfl]
      simp only [Nat.zero_add, pk1, px2, pt2, if_true, eq_self, r12]
      rw [nI_add, e40, if_pos (show nI 40 = 40 from rfl)]
    have er : fn_X5_reasonAgainstNext gl_kd (gx_u κ 184 6 (nI p)) 184 44 = some (0, κ1) := by
      unfold fn_X5_reasonAgainstNext fn_X2_isFull
      rw [a1, pb_s, if_neg (by decide), b3, if_neg nlt, b4, if_pos le2, d2, pb_s, if_pos rfl, hN1.2.1.1, if_pos (show nI (nn + x) < 40 from nI_lt (b := 40) c3 (by decide)), pb_s, if_pos rfl]
    have fB : ∀ (t : Nat → Int32), rB κ 33 t nb → rB (gx_u κ1 184 7 0) 33 t nb := fun t h => rB_c h (fun a h1 h2 => by rw [gx_u_n (by omega), fk a (by omega)]) (fun _ _ _ => rfl)
    have fN : ∀ (t : Nat → Int32), rN κ 44 t (nn + x) → rN (gx_u κ1 184 7 0) 44 t (nn + x) := fun t h => rN_c h (fun a h1 h2 => by rw [gx_u_n (by omega), fk a (by omega)]) (fun _ _ _ => rfl)
    have fS : ∀ (t : Nat → Int32), rS κ 32 t → rS (gx_u κ1 184 7 0) 32 t := fun t h => rS_c h (by rw [gx_u_n (by decide), fk 32 (by decide)]) (by rw [gx_u_n (by decide), fk _ (by decide)]) (fun _ _ _ => rfl)
    obtain ⟨κ3, pi, i1, i2, i3, i4, i5⟩ := t_ins (κ := gx_u κ1 184 7 0) (t := 32) (v := nI w1) (h := nI w2) pKT_32 (fB s hB) (fN s hN) (fS s hS) c3 hno ⟨w1, c1, rfl⟩ ⟨w2, c2, rfl⟩
    have i1' : fn_X2_insert gl_kd (gx_u κ1 184 7 0) 44 (nI w1) (nI w2) = some (nI pi, κ3) := i1
    obtain ⟨γ, y1, y2, y3⟩ := pm_new (ρ := gx_r κ 1 s) (nn := nn + x) (p := pi) (v := nI w1) (h := nI w2) (by rw [gx_r_s]; exact hN.2.1.2) c3 (by rw [gx_r_s]; exact i4) (by rw [gx_r_s]; exact hno)
    rw [gx_r_s] at y3
    have hT3 := i5 (γ 1) y3 (fun j hj => y3.2.1 j (by omega) (by omega))
    have fk3 : ∀ a, (a < 32 ∨ 57 ≤ a) → κ3 a = gx_u κ1 184 7 0 a := fun a ha => i2 a (by omega)
    have fu3 : ∀ f, f ≠ 7 → κ3 184 f = κ1 184 f := fun f hf => by rw [fk3 184 (by decide), pw_n (Or.inr hf)]
    obtain ⟨hB4, hN4, hS4⟩ := RT_at (κ := gx_u κ3 184 5 (nI (x + 1))) (t := 32) (nn := nn + (x + 1)) (RT_c hT3 (fun a h1 h2 => gx_u_n (by omega)) (fun _ _ => rfl)) ((y3.2.1 1 (by omega) (by omega)).trans hB.2.1.2) hB.1 y3.1 (by omega)
    have hX4 : pTx (gx_u κ3 184 5 (nI (x + 1))) n tx := ⟨hX.1, by rw [pw_n (Or.inr (by decide)), fu3 1 (by decide), fk1]; exact hX.2.1, fun j hj => by rw [gx_u_n (by decide), fk3 186 (by decide), gx_u_n (by decide), fk 186 (by decide)]; exact hX.2.2.1 j hj, fun j h1 h2 => by rw [gx_u_n (by decide), fk3 186 (by decide), gx_u_n (by decide), fk 186 (by decide)]; exact hX.2.2.2 j h1 h2⟩
    have hR4 : pTr (gx_u ρ1 5 x (nI w1)) n tx := ⟨by rw [gx_u_n (by decide), frl 5 (by decide)]; exact hR.1, fun j hj => by rw [gx_u_n (by decide), fr 4 (by decide)]; exact hR.2 j hj⟩
    obtain ⟨κ', ρ', r, z, e1, e2, e3, e4, e5, e6, e7, e8, e9⟩ := ih g1 g2 (x + 1) p' (gx_u κ3 184 5 (nI (x + 1))) (gx_u ρ1 5 x (nI w1)) (γ 1) (by omega) (by omega) (by omega) (by omega) (by omega) hX4 hR4 (by rw [pw_n (Or.inr (by decide)), fu3 2 (by decide), b7]) (by rw [gx_u_n (by decide), b8]) (by rw [pw_n (Or.inr (by decide)), fk3 184 (by decide), pw_s]) (pw_s _ _ _ _) hB4 hN4 hS4 (by rw [gx_u_n (by decide), r12]) (fun v => by
      rw [show nn + (x + 1) = nn + x + 1 from rfl, pIns_at y3 i4.1, hlink v, gx_u_n (show (1 : Nat) ≠ 5 by decide), fr 1 (by decide)]
      constructor
      · rintro ((q | ⟨j, j1, j2⟩) | rfl)
        · exact Or.inl q
        · exact Or.inr ⟨j, by omega, by rw [pw_n (Or.inr (by omega)), fr 5 (by decide)]; exact j2⟩
        · exact Or.inr ⟨x, by omega, pw_s _ _ _ _⟩
      · rintro (q | ⟨j, j1, j2⟩)
        · exact Or.inl (Or.inl q)
        · by_cases jx : j = x
          · subst jx
            rw [pw_s] at j2
            exact Or.inr j2.symm
          · rw [pw_n (Or.inr jx), fr 5 (by decide)] at j2
            exact Or.inl (Or.inr ⟨j, by omega, j2⟩))
    refine ⟨κ', ρ', r, z, ?_, ?_, e3, fun a ha hb => by rw [e4 a ha hb, gx_u_n hb, fk3 a ha, gx_u_n hb, fk a hb], e5, fun a ha hb => by rw [e6 a ha hb, gx_u_n hb, fr a ha], fun f hf => by rw [e7 f hf, gx_u_n (by decide), frl f hf], e8, fun hr σ g3 kM hg3 hσ hσ6 hBσ hNσ hSσ => ?_⟩
    · rw [er, pb_s, pw_s, if_pos rfl, pw_n (Or.inr (show (3 : Nat) ≠ 7 by decide)), pw_n (Or.inr (show (4 : Nat) ≠ 7 by decide)), b3, b4, i1', pb_s, fu3 5 (by decide), fk5, nI_1]
      exact e1
    · rw [a2, pb_s, if_neg (by decide), b5, pm_in, pb_s, if_neg in1, b6, pm_in, pb_s, if_neg in2, k2, pb_s, if_pos rfl]
      simp only [Nat.zero_add, pk1, px2, pt2, if_true, eq_self, r12]
      rw [nI_add, if_neg (show ¬ nI (nn + x) = 40 from fun q => absurd ((nI_eq (b := 40) (by omega) (by decide)).1 q) (by omega)), show gx_ix (nI x) (gl_kd 5 - 100) = true from pg_ix (show x < 25 by omega) (by decide), if_pos rfl, nI_clamp (by omega), b5, nI_1]
      exact e2
    · obtain ⟨g3, rfl⟩ : ∃ q, g3 = q + 1 := ⟨g3 - 1, by omega⟩
      obtain ⟨κ1', σ1, v', f1, f2, f3, f4, f5⟩ := p_form hp hXa hσ (by rw [pw_n (Or.inr (by decide)), hk]) hσ6
      rw [a1] at f1
      have q1 : (1 : Int32) = v' := congrArg Prod.fst (Option.some.inj f1)
      have q2 : κ1 = κ1' := congrArg Prod.snd (Option.some.inj f1)
      subst q1 q2
      rcases f5 with f5 | ⟨_, w1', w2', p2, u1, u2, u3, u4, u5, u6, u7, u8, u9, u10⟩
      · exact absurd f5 (by decide)
      have z1 : w1' = w1 := (nI_eq (by omega) (by omega)).1 (u3.symm.trans b3)
      have z2 : w2' = w2 := (nI_eq (by omega) (by omega)).1 (u4.symm.trans b4)
      have z3 : p2 = p' := (nI_eq (by omega) (by omega)).1 (u7.symm.trans b7)
      subst z1 z2 z3
      have fs : σ1 1 = σ 1 := f4.1 1 (by decide)
      have hnoσ : ¬ pAt (fun q => σ1 1 (61 + 6 * q)) (nn + x) (nI w1') := fun q => d1 (pAt_c q (fun y hy => by rw [fs, fk _ (by decide)]; exact (hNσ.2.2.1 y hy).1))
      obtain ⟨κ3', pi', j1, j2, j3, j4, j5⟩ := t_ins (κ := gx_u κ1 184 7 0) (t := 32) (s := σ1 1) (v := nI w1') (h := nI w2') pKT_32 (by rw [fs]; exact fB _ hBσ) (by rw [fs]; exact fN _ hNσ) (by rw [fs]; exact fS _ hSσ) c3 hnoσ ⟨w1', c1, rfl⟩ ⟨w2', c2, rfl⟩
      rw [i1] at j1
      have q3 : nI pi = nI pi' := congrArg Prod.fst (Option.some.inj j1)
      have q4 : κ3 = κ3' := congrArg Prod.snd (Option.some.inj j1)
      have hpi := i4.1
      have hpi' := j4.1
      have q5 : pi = pi' := (nI_eq (by omega) (by omega)).1 q3
      subst q4 q5
      obtain ⟨σ2, v1, v2, v3⟩ := pm_new (ρ := σ1) (nn := nn + x) (p := pi) (v := nI w1') (h := nI w2') (by rw [fs]; exact hNσ.2.1.2) c3 j4 hnoσ
      have hTσ := j5 (σ2 1) v3 (fun j hj => v3.2.1 j (by omega) (by omega))
      obtain ⟨hB5, hN5, hS5⟩ := RT_at (κ := gx_u κ3 184 5 (nI (x + 1))) (t := 32) (nn := nn + (x + 1)) (RT_c hTσ (fun a h1 h2 => gx_u_n (by omega)) (fun _ _ => rfl)) ((v3.2.1 1 (by omega) (by omega)).trans (by rw [fs]; exact hBσ.2.1.2)) hB.1 v3.1 (by omega)
      obtain ⟨σ', x', t1, t2, t3, t4, t5⟩ := e9 hr σ2 g3 kM (by omega) ⟨by rw [v2 0 (by decide), f4.2 5 (by decide)]; exact hσ.1, fun j hj => by rw [v2 4 (by decide), f4.1 4 (by decide)]; exact hσ.2 j hj⟩ (by rw [v2 0 (by decide), u8]) hB5 hN5 hS5
      refine ⟨σ', x', ?_, t2, t3, fun a h1 h2 => by rw [t4 a h1 h2, v2 a h2, f4.1 a h1], fun f hf => by rw [t5 f hf, v2 0 (by decide), f4.2 f (by omega)]⟩
      rw [lf_X7_enter_21, hσ.1, hσ6, if_neg (nI_ge (by omega) (by omega)), f2, pb_s, if_neg (by decide), u5, u6, v1, pb_s, if_neg (nI_pos (by omega)), nI_1]
      exact t1
