/-! ===== transpose ===== -/
theorem pl_canG {μ : gx_M} {c j : Nat} {q1 q3 : Int32} {k : gx_M → Int32 → Option (Int32 × gx_M)} (hk : pKN c) (hj : j < 40) : ∀ (m n i : Nat), i + m = j + 1 → m < n →
    ((∃ x, i ≤ x ∧ x ≤ j ∧ pwi (μ (c + 4) x + q3) 0 6000 = 0) ∧ lf_X2_canShift_3 gl_kd c q1 (nI j) q3 k n μ (nI i) = some (0, μ)) ∨ ((∀ x, i ≤ x → x ≤ j → ¬ pwi (μ (c + 4) x + q3) 0 6000 = 0) ∧ lf_X2_canShift_3 gl_kd c q1 (nI j) q3 k n μ (nI i) = k μ (nI (j + 1))) := by
  intro m
  induction m with
  | zero =>
    intro n i hi hn
    obtain ⟨n, rfl⟩ : ∃ q, n = q + 1 := ⟨n - 1, by omega⟩
    have e : i = j + 1 := by omega
    subst e
    refine Or.inr ⟨fun x h1 h2 => absurd h2 (by omega), ?_⟩
    rw [lf_X2_canShift_3, if_pos (nI_lt (by omega) (by omega))]
  | succ m ih =>
    intro n i hi hn
    obtain ⟨n, rfl⟩ : ∃ q, n = q + 1 := ⟨n - 1, by omega⟩
    rw [lf_X2_canShift_3, if_neg (nI_nlt (by omega) (by omega)), pg_get (c + 4) 40 rfl hk.2.1 (i := i) (by omega) (by decide), pb_s, pg_within, pb_s, nI_1]
    by_cases h : pwi (μ (c + 4) i + q3) 0 6000 = 0
    · exact Or.inl ⟨⟨i, by omega, by omega, h⟩, by rw [if_pos h]⟩
    · rw [if_neg h]
      rcases ih n (i + 1) (by omega) (by omega) with ⟨⟨x, h1, h2, h3⟩, h4⟩ | ⟨h1, h2⟩
      · exact Or.inl ⟨⟨x, by omega, h2, h3⟩, h4⟩
      · refine Or.inr ⟨fun x h3 h4 => ?_, h2⟩
        by_cases e : x = i
        · subst e; exact h
        · exact h1 x (by omega) h4
theorem pl_canM {μ : gx_M} {j : Nat} {q1 q3 : Int32} {k : gx_M → Int32 → Option (Int32 × gx_M)} (hj : j < 40) : ∀ (m n i : Nat), i + m = j + 1 → m < n →
    ((∃ x, i ≤ x ∧ x ≤ j ∧ pwi (μ 1 (61 + 6 * x + 1) + q3) 0 6000 = 0) ∧ lf_X7_transpose_44 gl_kd 0 q1 (nI j) q3 k n μ (nI i) = some (-100002, μ)) ∨ ((∀ x, i ≤ x → x ≤ j → ¬ pwi (μ 1 (61 + 6 * x + 1) + q3) 0 6000 = 0) ∧ lf_X7_transpose_44 gl_kd 0 q1 (nI j) q3 k n μ (nI i) = k μ (nI (j + 1))) := by
  intro m
  induction m with
  | zero =>
    intro n i hi hn
    obtain ⟨n, rfl⟩ : ∃ q, n = q + 1 := ⟨n - 1, by omega⟩
    have e : i = j + 1 := by omega
    subst e
    refine Or.inr ⟨fun x h1 h2 => absurd h2 (by omega), ?_⟩
    rw [lf_X7_transpose_44, if_pos (nI_lt (by omega) (by omega))]
  | succ m ih =>
    intro n i hi hn
    obtain ⟨n, rfl⟩ : ∃ q, n = q + 1 := ⟨n - 1, by omega⟩
    rw [lf_X7_transpose_44, if_neg (nI_nlt (by omega) (by omega)), pm_has1 (b := i) (by omega), pb_s, pm_in, pb_s, nI_1]
    by_cases h : pwi (μ 1 (61 + 6 * i + 1) + q3) 0 6000 = 0
    · exact Or.inl ⟨⟨i, by omega, by omega, h⟩, by rw [if_pos h]⟩
    · rw [if_neg h]
      rcases ih n (i + 1) (by omega) (by omega) with ⟨⟨x, h1, h2, h3⟩, h4⟩ | ⟨h1, h2⟩
      · exact Or.inl ⟨⟨x, by omega, h2, h3⟩, h4⟩
      · refine Or.inr ⟨fun x h3 h4 => ?_, h2⟩
        by_cases e : x = i
        · subst e; exact h
        · exact h1 x (by omega) h4
theorem pl_shG {c j : Nat} {q1 q3 : Int32} {k : gx_M → Int32 → Option (Int32 × gx_M)} (hk : pKN c) (hj : j < 40) : ∀ (m n i : Nat) (μ : gx_M), i + m = j + 1 → m < n → ∃ μ', lf_X2_shift_3 gl_kd c q1 (nI j) q3 k n μ (nI i) = k μ' (nI (j + 1)) ∧ (∀ a, a ≠ c + 4 → μ' a = μ a) ∧ (∀ x, i ≤ x → x ≤ j → μ' (c + 4) x = μ (c + 4) x + q3) ∧ (∀ x, (x < i ∨ j < x) → μ' (c + 4) x = μ (c + 4) x) := by
  intro m
  induction m with
  | zero =>
    intro n i μ hi hn
    obtain ⟨n, rfl⟩ : ∃ q, n = q + 1 := ⟨n - 1, by omega⟩
    have e : i = j + 1 := by omega
    subst e
    refine ⟨μ, ?_, fun _ _ => rfl, fun x h1 h2 => absurd h2 (by omega), fun _ _ => rfl⟩
    rw [lf_X2_shift_3, if_pos (nI_lt (by omega) (by omega))]
  | succ m ih =>
    intro n i μ hi hn
    obtain ⟨n, rfl⟩ : ∃ q, n = q + 1 := ⟨n - 1, by omega⟩
    rw [lf_X2_shift_3, if_neg (nI_nlt (by omega) (by omega)), pg_add (c + 4) 40 rfl hk.2.1 (i := i) (by omega) (by decide), pb_s, nI_1]
    obtain ⟨μ', e1, e2, e3, e4⟩ := ih n (i + 1) (gx_u μ (c + 4) i (μ (c + 4) i + q3)) (by omega) (by omega)
    refine ⟨μ', e1, fun a ha => by rw [e2 a ha, gx_u_n ha], fun x h1 h2 => ?_, fun x hx => by rw [e4 x (by omega), pw_n (Or.inr (by omega))]⟩
    by_cases hq : x = i
    · subst hq
      rw [e4 x (by omega), pw_s]
    · rw [e3 x (by omega) h2, pw_n (Or.inr (by omega))]
theorem pl_shM {j : Nat} {q1 q3 : Int32} {k : gx_M → Int32 → Option (Int32 × gx_M)} (hj : j < 40) : ∀ (m n i : Nat) (μ : gx_M), i + m = j + 1 → m < n → ∃ μ', lf_X7_transpose_85 gl_kd 0 q1 (nI j) q3 k n μ (nI i) = k μ' (nI (j + 1)) ∧ (∀ a, a ≠ 1 → μ' a = μ a) ∧ (∀ x, i ≤ x → x ≤ j → μ' 1 (61 + 6 * x + 1) = μ 1 (61 + 6 * x + 1) + q3) ∧ (∀ q, (∀ x, i ≤ x → x ≤ j → q ≠ 61 + 6 * x + 1) → μ' 1 q = μ 1 q) := by
  intro m
  induction m with
  | zero =>
    intro n i μ hi hn
    obtain ⟨n, rfl⟩ : ∃ q, n = q + 1 := ⟨n - 1, by omega⟩
    have e : i = j + 1 := by omega
    subst e
    refine ⟨μ, ?_, fun _ _ => rfl, fun x h1 h2 => absurd h2 (by omega), fun _ _ => rfl⟩
    rw [lf_X7_transpose_85, if_pos (nI_lt (by omega) (by omega))]
  | succ m ih =>
    intro n i μ hi hn
    obtain ⟨n, rfl⟩ : ∃ q, n = q + 1 := ⟨n - 1, by omega⟩
    rw [lf_X7_transpose_85, if_neg (nI_nlt (by omega) (by omega)), pm_has1 (b := i) (by omega), pb_s, pm_lay1 (b := i) (by omega), pb_s, nI_1]
    obtain ⟨μ', e1, e2, e3, e4⟩ := ih n (i + 1) (gx_u μ 1 (61 + 6 * i + 1) (μ 1 (61 + 6 * i + 1) + q3)) (by omega) (by omega)
    refine ⟨μ', e1, fun a ha => by rw [e2 a ha, gx_u_n ha], fun x h1 h2 => ?_, fun q hq => ?_⟩
    · by_cases hq : x = i
      · subst hq
        rw [e4 _ (fun x2 h3 h4 => by omega), pw_s]
      · rw [e3 x (by omega) h2, pw_n (Or.inr (by omega))]
    · have := hq i (by omega) (by omega)
      rw [e4 q (fun x h1 h2 => hq x (by omega) h2), pw_n (Or.inr this)]
theorem s_transpose (a1 a2 a3 : Int32) : chg (fun μ => fn_X6_transpose gl_kd μ 6 a1 a2 a3) := by
  intro μ h
  obtain ⟨nb, nn, hB, hN, hS⟩ := h.1
  have hn5 : μ 19 5 = nI nn := hN.2.1.1
  have hb1 : μ 1 1 = nI nb := hB.2.1.2
  have hn2 : μ 1 2 = nI nn := hN.2.1.2
  have hnn := hN.1
  unfold fn_X6_transpose fn_X2_canShift fn_X2_shift
  simp only [Nat.reduceAdd]
  by_cases h1 : phas a1 nn = 0
  · exact ch_err h (by rw [pg_hasN hn5, pb_s, if_pos h1]) (by decide)
  by_cases h2 : phas a2 nn = 0
  · exact ch_err h (by rw [pg_hasN hn5, pb_s, if_neg h1, pg_hasN hn5, pb_s, if_pos h2]) (by decide)
  obtain ⟨i, hi, rfl⟩ := phas_n (by omega) h1
  obtain ⟨j, hj, rfl⟩ := phas_n (by omega) h2
  by_cases h3 : nI j < nI i
  · exact ch_err h (by rw [pg_hasN hn5, pb_s, if_neg h1, pg_hasN hn5, pb_s, if_neg h2, if_pos h3]) (by decide)
  have hij : i ≤ j := by rw [pn_lt (by omega) (by omega)] at h3; omega
  by_cases h4 : a3 = 0
  · subst h4
    exact ch_err h (by rw [pg_hasN hn5, pb_s, if_neg h1, pg_hasN hn5, pb_s, if_neg h2, if_neg h3, pg_within, pb_s, if_neg (show ¬ pwi 0 (-6000) 6000 = 0 by decide), if_pos rfl]) (by decide)
  by_cases h5 : pwi a3 (-6000) 6000 = 0
  · exact ch_err h (by rw [pg_hasN hn5, pb_s, if_neg h1, pg_hasN hn5, pb_s, if_neg h2, if_neg h3, pg_within, pb_s, if_pos h5]) (by decide)
  have hp : ∀ x, x ≤ j → μ (19 + 4) x = μ 1 (61 + 6 * x + 1) := fun x hx => (hN.2.2.1 x (by omega)).2.1
  rcases pl_canG (μ := μ) (c := 19) (j := j) (q1 := nI i) (q3 := a3) (k := fun m7 y8 => some (1, m7)) pKN_19 (by omega) (j + 1 - i) gx_F i (by omega) (by unfold gx_F; omega) with ⟨⟨x, x1, x2, x3⟩, g⟩ | ⟨g0, g⟩
  · exact ch_err h (by rw [pg_hasN hn5, pb_s, if_neg h1, pg_hasN hn5, pb_s, if_neg h2, if_neg h3, pg_within, pb_s, if_neg h5, if_neg h4, g, pb_s, if_pos rfl]) (by decide)
  · refine k_recd h (fun κ e hT => ?_)
    obtain ⟨hB2, hN2, hS2⟩ := RT_at hT hb1 hB.1 hn2 hN.1
    obtain ⟨κ1, e1, e2, e3, e4⟩ := pl_shG (c := 19) (j := j) (q1 := nI i) (q3 := a3) (k := fun m4 y5 => some (0, m4)) pKN_19 (by omega) (j + 1 - i) gx_F i κ (by omega) (by unfold gx_F; omega)
    obtain ⟨ρ2, t1, t2, t3, t4⟩ := pl_shM (j := j) (q1 := nI i) (q3 := a3) (k := fun m27 y28 => some (nI j - nI i + 1, m27)) (by omega) (j + 1 - i) gx_F i μ (by omega) (by unfold gx_F; omega)
    refine ⟨nI j - nI i + 1, κ1, ρ2 1, by rw [pg_hasN hn5, pb_s, if_neg h1, pg_hasN hn5, pb_s, if_neg h2, if_neg h3, pg_within, pb_s, if_neg h5, if_neg h4, g, pb_s, if_neg (by decide), e, pb_s, e1, pb_s], fun a ha => e2 a (by omega), ?_, fun hs ha => ⟨?_, Acc_c ha (fun y hy => t4 y (fun x _ _ => by omega)), SNN_c hs (fun y h1 h2 => t4 y (fun x _ _ => by omega))⟩⟩
    · have w : ∀ q, (∀ x, i ≤ x → x ≤ j → q ≠ 61 + 6 * x + 1) → ρ2 1 q = μ 1 q := fun q hq => t4 q hq
      refine RT_N (t := 7) (nn := nn) hB2 ?_ hS2 (fun a ha => e2 a (by omega)) (fun q hq => w q (fun x _ _ => by omega))
      refine ⟨hnn, ⟨by rw [e2 _ (by omega)]; exact hN2.2.1.1, by rw [w 2 (fun x _ _ => by omega)]; exact hn2⟩, fun x hx => ?_, fun x y hx hy => ?_⟩
      · obtain ⟨p1, p2, p3, p4, p5⟩ := hN2.2.2.1 x hx
        by_cases hh : i ≤ x ∧ x ≤ j
        · have pp : ρ2 1 (61 + 6 * x + 1) = μ 1 (61 + 6 * x + 1) + a3 := t3 x hh.1 hh.2
          refine ⟨?_, ?_, ?_, ?_, ?_⟩
          · rw [e2 _ (by omega), p1, w _ (fun x _ _ => by omega)]
          · rw [e3 x hh.1 hh.2, pp]
            exact congrArg (· + a3) p2
          · rw [e2 _ (by omega), e2 _ (by omega), e2 _ (by omega), w _ (fun x _ _ => by omega), w _ (fun x _ _ => by omega), w _ (fun x _ _ => by omega), w _ (fun x _ _ => by omega)]
            exact p3
          · rw [w _ (fun x _ _ => by omega)]; exact p4
          · have := g0 x hh.1 hh.2
            rw [hp x hh.2] at this
            obtain ⟨v, _, v2, v3⟩ := pwi_n (a := 0) (b := 6000) (by decide) (by decide) this
            rw [pp, v3]
            exact ⟨v, v2, rfl⟩
        · refine rn_d ⟨p1, p2, p3, p4, p5⟩ (fun a h1 h2 h3 => ?_) (fun q h1 h2 => w q (fun x2 _ _ => by omega))
          by_cases ha : a = 7 + 12 + 4
          · subst ha
            exact e4 x (by omega)
          · rw [e2 a (by omega)]
      · rw [w _ (fun x _ _ => by omega), w _ (fun x _ _ => by omega)]
        exact hN2.2.2.2 x y hx hy
    · rw [pk_sub hij, nI_1]
      exact nI_nn (by omega)
