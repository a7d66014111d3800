/-! ===== taking out of rows ===== -/
theorem pl_del {c r N nn : Nat} {q1 : Int32} {k : gx_M → Int32 → Option (Int32 × gx_M)} (hr : c + 1 = r) (hk : gl_kd r = 100 + N) (hN : N < 100000) (hn : nn < N) : ∀ (m n i : Nat) (μ : gx_M), i + m = nn → m < n → ∃ μ', lf_X3_delete_2 gl_kd c q1 (nI (nn + 1)) k n μ (nI i) = k μ' (nI nn) ∧ (∀ a, a ≠ r → μ' a = μ a) ∧ (∀ q, i ≤ q → q < nn → μ' r q = μ r (q + 1)) ∧ (∀ q, (q < i ∨ nn ≤ q) → μ' r q = μ r q) := by
  intro m
  induction m with
  | zero =>
    intro n i μ hi hm
    obtain ⟨n, rfl⟩ : ∃ q, n = q + 1 := ⟨n - 1, by omega⟩
    have e : i = nn := by omega
    subst e
    refine ⟨μ, ?_, fun _ _ => rfl, fun q h1 h2 => absurd h2 (by omega), fun _ _ => rfl⟩
    rw [lf_X3_delete_2, nI_pred, if_pos (nI_le (Nat.le_refl _) (by omega))]
  | succ m ih =>
    intro n i μ hi hm
    obtain ⟨n, rfl⟩ : ∃ q, n = q + 1 := ⟨n - 1, by omega⟩
    rw [lf_X3_delete_2, nI_pred, if_neg (nI_ge (by omega) (by omega)), nI_1, pg_get r N hr hk (i := i + 1) (by omega) hN, pb_s, pg_put r N hr hk (i := i) (by omega) hN, pb_s]
    obtain ⟨μ', e1, e2, e3, e4⟩ := ih n (i + 1) (gx_u μ r i (μ r (i + 1))) (by omega) (by omega)
    refine ⟨μ', e1, fun a ha => by rw [e2 a ha, gx_u_n ha], fun q h1 h2 => ?_, fun p hp => by rw [e4 p (by omega), pw_n (Or.inr (by omega))]⟩
    by_cases hq : q = i
    · subst hq
      rw [e4 q (by omega), pw_s]
    · rw [e3 q (by omega) h2, pw_n (Or.inr (by omega))]
theorem pg_del {c i nn : Nat} {μ : gx_M} {x : Int32} (r N : Nat) (hr : c + 1 = r) (hk : gl_kd r = 100 + N) (hN : N < 5000) (hn : nn < N) (hi : i ≤ nn) (hx : x = nI (nn + 1)) : ∃ μ', fn_X3_delete gl_kd μ c (nI i) x = some (0, μ') ∧ (∀ a, a ≠ r → μ' a = μ a) ∧ (∀ q, i ≤ q → q < nn → μ' r q = μ r (q + 1)) ∧ (∀ q, q < i → μ' r q = μ r q) := by
  subst hx
  unfold fn_X3_delete
  obtain ⟨μ', e1, e2, e3, e4⟩ := pl_del (q1 := nI i) (k := fun m6 y7 => some (0, m6)) hr hk (by omega) hn (nn - i) gx_F i μ (by omega) (by unfold gx_F; omega)
  exact ⟨μ', e1, e2, e3, fun q hq => e4 q (Or.inl hq)⟩
/-- five rows at once -/
theorem pg_del5 {c i nn N : Nat} {μ : gx_M} (h5 : μ c 5 = nI (nn + 1)) (hk : gl_kd (c + 2) = 100 + N ∧ gl_kd (c + 4) = 100 + N ∧ gl_kd (c + 6) = 100 + N ∧ gl_kd (c + 8) = 100 + N ∧ gl_kd (c + 10) = 100 + N) (hN : N < 5000) (hn : nn < N) (hi : i ≤ nn) :
    ∃ μ', (gx_b (fn_X3_delete gl_kd μ (c + 1) (nI i) (μ c 5)) fun _ m2 => gx_b (fn_X3_delete gl_kd m2 (c + 3) (nI i) (m2 c 5)) fun _ m4 => gx_b (fn_X3_delete gl_kd m4 (c + 5) (nI i) (m4 c 5)) fun _ m6 => gx_b (fn_X3_delete gl_kd m6 (c + 7) (nI i) (m6 c 5)) fun _ m8 => gx_b (fn_X3_delete gl_kd m8 (c + 9) (nI i) (m8 c 5)) fun _ m10 => (some (0, gx_u m10 c 5 (m10 c 5 - 1)) : Option (Int32 × gx_M))) = some (0, μ') ∧ (∀ a, (a < c ∨ c + 11 ≤ a) → μ' a = μ a) ∧ (∀ k, k ≠ 5 → μ' c k = μ c k) ∧ μ' c 5 = nI nn ∧
      (∀ a, c < a → a < c + 11 → (a = c + 2 ∨ a = c + 4 ∨ a = c + 6 ∨ a = c + 8 ∨ a = c + 10) → (∀ q, i ≤ q → q < nn → μ' a q = μ a (q + 1)) ∧ (∀ q, q < i → μ' a q = μ a q)) := by
  obtain ⟨m1, e1, f1, u1, v1⟩ := pg_del (μ := μ) (c + 2) N (c := c + 1) rfl hk.1 hN hn hi h5
  obtain ⟨m2, e2, f2, u2, v2⟩ := pg_del (μ := m1) (x := m1 c 5) (c + 4) N (c := c + 3) rfl hk.2.1 hN hn hi (by rw [f1 c (by omega)]; exact h5)
  obtain ⟨m3, e3, f3, u3, v3⟩ := pg_del (μ := m2) (x := m2 c 5) (c + 6) N (c := c + 5) rfl hk.2.2.1 hN hn hi (by rw [f2 c (by omega), f1 c (by omega)]; exact h5)
  obtain ⟨m4, e4, f4, u4, v4⟩ := pg_del (μ := m3) (x := m3 c 5) (c + 8) N (c := c + 7) rfl hk.2.2.2.1 hN hn hi (by rw [f3 c (by omega), f2 c (by omega), f1 c (by omega)]; exact h5)
  obtain ⟨m5, e5, f5, u5, v5⟩ := pg_del (μ := m4) (x := m4 c 5) (c + 10) N (c := c + 9) rfl hk.2.2.2.2 hN hn hi (by rw [f4 c (by omega), f3 c (by omega), f2 c (by omega), f1 c (by omega)]; exact h5)
  have g5 : m5 c = μ c := by rw [f5 c (by omega), f4 c (by omega), f3 c (by omega), f2 c (by omega), f1 c (by omega)]
  refine ⟨_, by rw [e1, pb_s, e2, pb_s, e3, pb_s, e4, pb_s, e5, pb_s], fun a ha => by rw [gx_u_n (by omega), f5 a (by omega), f4 a (by omega), f3 a (by omega), f2 a (by omega), f1 a (by omega)], fun k hk => by rw [pw_n (Or.inr hk), g5], by rw [pw_s, g5, h5, nI_pred], fun a h1 h2 h3 => ?_⟩
  rcases h3 with rfl | rfl | rfl | rfl | rfl
  · rw [gx_u_n (by omega), f5 _ (by omega), f4 _ (by omega), f3 _ (by omega), f2 _ (by omega)]
    exact ⟨u1, v1⟩
  · rw [gx_u_n (by omega), f5 _ (by omega), f4 _ (by omega), f3 _ (by omega), ← f1 (c + 4) (by omega)]
    exact ⟨u2, v2⟩
  · rw [gx_u_n (by omega), f5 _ (by omega), f4 _ (by omega), ← f1 (c + 6) (by omega), ← f2 (c + 6) (by omega)]
    exact ⟨u3, v3⟩
  · rw [gx_u_n (by omega), f5 _ (by omega), ← f1 (c + 8) (by omega), ← f2 (c + 8) (by omega), ← f3 (c + 8) (by omega)]
    exact ⟨u4, v4⟩
  · rw [gx_u_n (by omega), ← f1 (c + 10) (by omega), ← f2 (c + 10) (by omega), ← f3 (c + 10) (by omega), ← f4 (c + 10) (by omega)]
    exact ⟨u5, v5⟩
theorem rb_d {μ μ' : gx_M} {c b : Nat} {s s' : Nat → Int32} (h : rb μ c s b) (hm : ∀ a, c < a → a < c + 11 → (a = c + 2 ∨ a = c + 4 ∨ a = c + 6 ∨ a = c + 8 ∨ a = c + 10) → μ' a b = μ a b) (hs : ∀ j, 11 + 5 * b ≤ j → j < 16 + 5 * b → s' j = s j) : rb μ' c s' b := by
  unfold rb at h ⊢
  rw [hm (c + 2) (by omega) (by omega) (by omega), hm (c + 4) (by omega) (by omega) (by omega), hm (c + 6) (by omega) (by omega) (by omega), hm (c + 8) (by omega) (by omega) (by omega), hm (c + 10) (by omega) (by omega) (by omega), hs (11 + 5 * b) (by omega) (by omega), hs (11 + 5 * b + 1) (by omega) (by omega), hs (11 + 5 * b + 2) (by omega) (by omega), hs (11 + 5 * b + 3) (by omega) (by omega), hs (11 + 5 * b + 4) (by omega) (by omega)]
  exact h
theorem rn_d {μ μ' : gx_M} {c i : Nat} {s s' : Nat → Int32} (h : rn μ c s i) (hm : ∀ a, c < a → a < c + 11 → (a = c + 2 ∨ a = c + 4 ∨ a = c + 6 ∨ a = c + 8 ∨ a = c + 10) → μ' a i = μ a i) (hs : ∀ j, 61 + 6 * i ≤ j → j < 67 + 6 * i → s' j = s j) : rn μ' c s' i := by
  unfold rn at h ⊢
  rw [hm (c + 2) (by omega) (by omega) (by omega), hm (c + 4) (by omega) (by omega) (by omega), hm (c + 6) (by omega) (by omega) (by omega), hm (c + 8) (by omega) (by omega) (by omega), hm (c + 10) (by omega) (by omega) (by omega), hs (61 + 6 * i) (by omega) (by omega), hs (61 + 6 * i + 1) (by omega) (by omega), hs (61 + 6 * i + 2) (by omega) (by omega), hs (61 + 6 * i + 3) (by omega) (by omega), hs (61 + 6 * i + 4) (by omega) (by omega), hs (61 + 6 * i + 5) (by omega) (by omega)]
  exact h
/-- a bowl (note) that came from another place -/
theorem rb_mv {μ μ' : gx_M} {c d e : Nat} {s s' : Nat → Int32} (h : rb μ c s e) (hm : ∀ a, c < a → a < c + 11 → (a = c + 2 ∨ a = c + 4 ∨ a = c + 6 ∨ a = c + 8 ∨ a = c + 10) → μ' a d = μ a e) (hs : ∀ w, w < 5 → s' (11 + 5 * d + w) = s (11 + 5 * e + w)) : rb μ' c s' d := by
  unfold rb at h ⊢
  have z0 : s' (11 + 5 * d) = s (11 + 5 * e) := hs 0 (by omega)
  rw [hm (c + 2) (by omega) (by omega) (by omega), hm (c + 4) (by omega) (by omega) (by omega), hm (c + 6) (by omega) (by omega) (by omega), hm (c + 8) (by omega) (by omega) (by omega), hm (c + 10) (by omega) (by omega) (by omega), z0, hs 1 (by omega), hs 2 (by omega), hs 3 (by omega), hs 4 (by omega)]
  exact h
theorem rn_mv {μ μ' : gx_M} {c d e : Nat} {s s' : Nat → Int32} (h : rn μ c s e) (hm : ∀ a, c < a → a < c + 11 → (a = c + 2 ∨ a = c + 4 ∨ a = c + 6 ∨ a = c + 8 ∨ a = c + 10) → μ' a d = μ a e) (hs : ∀ w, w < 6 → s' (61 + 6 * d + w) = s (61 + 6 * e + w)) : rn μ' c s' d := by
  unfold rn at h ⊢
  have z0 : s' (61 + 6 * d) = s (61 + 6 * e) := hs 0 (by omega)
  rw [hm (c + 2) (by omega) (by omega) (by omega), hm (c + 4) (by omega) (by omega) (by omega), hm (c + 6) (by omega) (by omega) (by omega), hm (c + 8) (by omega) (by omega) (by omega), hm (c + 10) (by omega) (by omega) (by omega), z0, hs 1 (by omega), hs 2 (by omega), hs 3 (by omega), hs 4 (by omega), hs 5 (by omega)]
  exact h
/-- remove, in the table -/
theorem t_rm {κ : gx_M} {s s' : Nat → Int32} {t nb nn b : Nat} (hk : pKT t) (hB : rB κ (t + 1) s (nb + 1)) (hN : rN κ (t + 12) s nn) (hS : rS κ t s) (hb : b < nb + 1)
    (h1 : s' 1 = nI nb) (h6 : s' 6 = s 6 + s (11 + 5 * b + 2)) (hc : ∀ q, 11 + 5 * b ≤ q → q < 11 + 5 * nb → s' q = s (q + 5)) (hl : ∀ q, 11 ≤ q → q < 11 + 5 * b → s' q = s q) (ho : ∀ q, (q = 0 ∨ (2 ≤ q ∧ q < 6) ∨ (7 ≤ q ∧ q < 11) ∨ 61 ≤ q) → s' q = s q) :
    ∃ κ1, fn_X0_takeAway gl_kd κ (t + 1) (nI b) = some (0, κ1) ∧ (∀ a, (a < t + 1 ∨ t + 12 ≤ a) → κ1 a = κ a) ∧ κ1 (t + 1) 5 = nI nb ∧ RT κ1 t s' := by
  obtain ⟨b1, ⟨b2, b3⟩, ⟨b4, b5, b6, b7⟩, b8⟩ := hB
  obtain ⟨κ1, e1, e2, e3, e4, e5⟩ := pg_del5 (c := t + 1) (i := b) (nn := nb) (N := 10) (μ := gx_u κ (t + 1) 9 (κ (t + 1) 9 + s (11 + 5 * b + 2))) (by rw [pw_n (Or.inr (by decide)), b2]) hk.1 (by decide) (by omega) (by omega)
  have hb10 : b < 10 := by omega
  refine ⟨κ1, ?_, fun a ha => by rw [e2 a (by omega), gx_u_n (by omega)], e4, ?_⟩
  · unfold fn_X0_takeAway
    rw [pg_get (t + 1 + 6) 10 rfl hk.1.2.2.1 hb10 (by decide), pb_s, (b8 b hb).2.2.1]
    exact e1
  · refine RT_B (t := t) (nb := nb) ?_ hN hS (fun a ha => by rw [e2 a (by omega), gx_u_n (by omega)]) (fun j hj => ho j (by omega))
    refine ⟨by omega, ⟨e4, h1⟩, ⟨?_, ?_, ?_, ?_⟩, fun d hd => ?_⟩
    · rw [e3 6 (by decide), pw_n (Or.inr (by decide)), b4, ho 3 (by omega)]
    · rw [e3 7 (by decide), pw_n (Or.inr (by decide)), b5, ho 4 (by omega)]
    · rw [e3 8 (by decide), pw_n (Or.inr (by decide)), b6, ho 5 (by omega)]
    · rw [e3 9 (by decide), pw_s, b7, h6]
    · by_cases hd2 : d < b
      · exact rb_d (b8 d (by omega)) (fun a h1 h2 ha => by rw [(e5 a h1 h2 ha).2 d hd2, gx_u_n (by omega)]) (fun j h1 h2 => hl j (by omega) (by omega))
      · exact rb_mv (b8 (d + 1) (by omega)) (fun a h1 h2 ha => by rw [(e5 a h1 h2 ha).1 d (by omega) (by omega), gx_u_n (by omega)]) (fun w hw => by rw [hc (11 + 5 * d + w) (by omega) (by omega), show 11 + 5 * d + w + 5 = 11 + 5 * (d + 1) + w by omega])
/-- drop, in the table -/
theorem t_dr {κ : gx_M} {s s' : Nat → Int32} {t nb nn b : Nat} (hk : pKT t) (hB : rB κ (t + 1) s nb) (hN : rN κ (t + 12) s (nn + 1)) (hS : rS κ t s) (hb : b < nn + 1)
    (h1 : s' 2 = nI nn) (hc : ∀ q, 61 + 6 * b ≤ q → q < 61 + 6 * nn → s' q = s (q + 6)) (ho : ∀ q, q < 61 + 6 * b → q ≠ 2 → s' q = s q) :
    ∃ κ1, fn_X2_takeAway gl_kd κ (t + 12) (nI b) = some (0, κ1) ∧ (∀ a, (a < t + 12 ∨ t + 23 ≤ a) → κ1 a = κ a) ∧ κ1 (t + 12) 5 = nI nn ∧ RT κ1 t s' := by
  obtain ⟨b1, ⟨b2, b3⟩, b8, b9⟩ := hN
  obtain ⟨κ1, e1, e2, e3, e4, e5⟩ := pg_del5 (c := t + 12) (i := b) (nn := nn) (N := 40) (μ := κ) b2 hk.2.1 (by decide) (by omega) (by omega)
  refine ⟨κ1, e1, fun a ha => e2 a (by omega), e4, ?_⟩
  refine RT_N (t := t) (nn := nn) hB ?_ hS (fun a ha => e2 a (by omega)) (fun j hj => ho j (by omega) (by omega))
  have v : ∀ d, d < nn → s' (61 + 6 * d) = s (61 + 6 * (if d < b then d else d + 1)) := fun d hd => by
    by_cases hd2 : d < b
    · rw [if_pos hd2, ho _ (by omega) (by omega)]
    · rw [if_neg hd2, hc _ (by omega) (by omega), show 61 + 6 * d + 6 = 61 + 6 * (d + 1) by omega]
  refine ⟨by omega, ⟨e4, h1⟩, fun d hd => ?_, fun i j hi hj => ?_⟩
  · by_cases hd2 : d < b
    · exact rn_d (b8 d (by omega)) (fun a h1 h2 ha => (e5 a h1 h2 ha).2 d hd2) (fun j h1 h2 => ho j (by omega) (by omega))
    · exact rn_mv (b8 (d + 1) (by omega)) (fun a h1 h2 ha => (e5 a h1 h2 ha).1 d (by omega) (by omega)) (fun w hw => by rw [hc (61 + 6 * d + w) (by omega) (by omega), show 61 + 6 * d + w + 6 = 61 + 6 * (d + 1) + w by omega])
  · rw [v i (by omega), v j hj]
    refine b9 _ _ ?_ ?_
    · split <;> split <;> omega
    · split <;> omega
theorem pl_rm {nb : Nat} {q1 : Int32} {k : gx_M → Int32 → Option (Int32 × gx_M)} (hn : nb < 10) : ∀ (m n i : Nat) (μ : gx_M), μ 1 1 = nI nb → 11 ≤ i → i + m = 11 + 5 * nb → m < n → ∃ μ', lf_X7_remove_48 gl_kd 0 q1 k n μ (nI i) = k μ' (nI (11 + 5 * nb)) ∧ (∀ a, a ≠ 1 → μ' a = μ a) ∧ (∀ q, i ≤ q → q < 11 + 5 * nb → μ' 1 q = μ 1 (q + 5)) ∧ (∀ q, (q < i ∨ 11 + 5 * nb ≤ q) → μ' 1 q = μ 1 q) := by
  intro m
  induction m with
  | zero =>
    intro n i μ h1 h11 hi hm
    obtain ⟨n, rfl⟩ : ∃ q, n = q + 1 := ⟨n - 1, by omega⟩
    have e : i = 11 + 5 * nb := by omega
    subst e
    refine ⟨μ, ?_, fun _ _ => rfl, fun q h1 h2 => absurd h2 (by omega), fun _ _ => rfl⟩
    rw [lf_X7_remove_48]
    simp only [Nat.zero_add, pk1, px1, pt1, if_true, eq_self, h1]
    rw [show (11 : Int32) = nI 11 from rfl, show (5 : Int32) = nI 5 from rfl, pk_mul, nI_add, if_pos (nI_le (Nat.le_refl _) (by omega))]
  | succ m ih =>
    intro n i μ h1 h11 hi hm
    obtain ⟨n, rfl⟩ : ∃ q, n = q + 1 := ⟨n - 1, by omega⟩
    rw [lf_X7_remove_48]
    rw [show gx_ix 1 (gl_kd (0 + 1) - 100) = true from px1, if_pos rfl, show Int32.toNatClampNeg 1 = 1 from pt1, show (0 + 1 : Nat) = 1 from rfl, h1, show (11 : Int32) = nI 11 from rfl, show (5 : Int32) = nI 5 from rfl, pk_mul, nI_add, nI_add, if_neg (nI_ge (by omega) (by omega)), show gx_ix (nI (i + 5)) (gl_kd 1 - 100) = true from pm_c _ (by omega), if_pos rfl, show gx_ix (nI i) (gl_kd 1 - 100) = true from pm_c _ (by omega), if_pos rfl, nI_clamp (by omega), nI_clamp (by omega), nI_1]
    obtain ⟨μ', e1, e2, e3, e4⟩ := ih n (i + 1) (gx_u μ 1 i (μ 1 (i + 5))) (by rw [pw_n (Or.inr (by omega)), h1]) (by omega) (by omega) (by omega)
    refine ⟨μ', e1, fun a ha => by rw [e2 a ha, gx_u_n ha], fun q h1 h2 => ?_, fun p hp => by rw [e4 p (by omega), pw_n (Or.inr (by omega))]⟩
    by_cases hq : q = i
    · subst hq
      rw [e4 q (by omega), pw_s]
    · rw [e3 q (by omega) h2, pw_n (Or.inr (by omega))]
theorem pl_dr {nn : Nat} {q1 : Int32} {k : gx_M → Int32 → Option (Int32 × gx_M)} (hn : nn < 40) : ∀ (m n i : Nat) (μ : gx_M), μ 1 2 = nI nn → 61 ≤ i → i + m = 61 + 6 * nn → m < n → ∃ μ', lf_X7_drop_33 gl_kd 0 q1 k n μ (nI i) = k μ' (nI (61 + 6 * nn)) ∧ (∀ a, a ≠ 1 → μ' a = μ a) ∧ (∀ q, i ≤ q → q < 61 + 6 * nn → μ' 1 q = μ 1 (q + 6)) ∧ (∀ q, (q < i ∨ 61 + 6 * nn ≤ q) → μ' 1 q = μ 1 q) := by
  intro m
  induction m with
  | zero =>
    intro n i μ h1 h11 hi hm
    obtain ⟨n, rfl⟩ : ∃ q, n = q + 1 := ⟨n - 1, by omega⟩
    have e : i = 61 + 6 * nn := by omega
    subst e
    refine ⟨μ, ?_, fun _ _ => rfl, fun q h1 h2 => absurd h2 (by omega), fun _ _ => rfl⟩
    rw [lf_X7_drop_33]
    simp only [Nat.zero_add, pk1, px2, pt2, if_true, eq_self, h1]
    rw [show (61 : Int32) = nI 61 from rfl, show (6 : Int32) = nI 6 from rfl, pk_mul, nI_add, if_pos (nI_le (Nat.le_refl _) (by omega))]
  | succ m ih =>
    intro n i μ h1 h11 hi hm
    obtain ⟨n, rfl⟩ : ∃ q, n = q + 1 := ⟨n - 1, by omega⟩
    rw [lf_X7_drop_33]
    rw [show gx_ix 2 (gl_kd (0 + 1) - 100) = true from px2, if_pos rfl, show Int32.toNatClampNeg 2 = 2 from pt2, show (0 + 1 : Nat) = 1 from rfl, h1, show (61 : Int32) = nI 61 from rfl, show (6 : Int32) = nI 6 from rfl, pk_mul, nI_add, nI_add, if_neg (nI_ge (by omega) (by omega)), show gx_ix (nI (i + 6)) (gl_kd 1 - 100) = true from pm_c _ (by omega), if_pos rfl, show gx_ix (nI i) (gl_kd 1 - 100) = true from pm_c _ (by omega), if_pos rfl, nI_clamp (by omega), nI_clamp (by omega), nI_1]
    obtain ⟨μ', e1, e2, e3, e4⟩ := ih n (i + 1) (gx_u μ 1 i (μ 1 (i + 6))) (by rw [pw_n (Or.inr (by omega)), h1]) (by omega) (by omega) (by omega)
    refine ⟨μ', e1, fun a ha => by rw [e2 a ha, gx_u_n ha], fun q h1 h2 => ?_, fun p hp => by rw [e4 p (by omega), pw_n (Or.inr (by omega))]⟩
    by_cases hq : q = i
    · subst hq
      rw [e4 q (by omega), pw_s]
    · rw [e3 q (by omega) h2, pw_n (Or.inr (by omega))]
theorem psf_sh (f : Nat → Int32) : ∀ (m i : Nat), psf f (i + 1) m = psf (fun x => f (x + 1)) i m
  | 0, _ => rfl
  | m + 1, i => by
    show f (i + 1) + psf f (i + 1 + 1) m = f (i + 1) + psf (fun x => f (x + 1)) (i + 1) m
    rw [psf_sh f m (i + 1)]
theorem psf_rm {f g : Nat → Int32} {b : Nat} : ∀ (m i : Nat), i ≤ b → b < i + (m + 1) → (∀ x, b ≤ x → x < i + m → g x = f (x + 1)) → (∀ x, x < b → g x = f x) → psf f i (m + 1) = psf g i m + f b
  | 0, i, h1, h2, _, _ => by
    have e : b = i := by omega
    subst e
    show f b + 0 = 0 + f b
    rw [Int32.zero_add, Int32.add_zero]
  | m + 1, i, h1, h2, h3, h4 => by
    by_cases e : i = b
    · subst e
      have h6 : psf g i (m + 1) = psf (fun x => f (x + 1)) i (m + 1) := psf_c (m + 1) i (fun x q1 q2 => h3 x q1 (by omega))
      rw [h6]
      show f i + psf f (i + 1) (m + 1) = _
      rw [psf_sh f (m + 1) i, Int32.add_comm]
    · show f i + psf f (i + 1) (m + 1) = g i + psf g (i + 1) m + f b
      rw [psf_rm (f := f) (g := g) (b := b) m (i + 1) (by omega) (by omega) (fun x q1 q2 => h3 x q1 (by omega)) h4, h4 i (by omega), Int32.add_assoc]
theorem s_remove (a1 : Int32) : chg (fun μ => fn_X6_remove gl_kd μ 6 a1) := by
  intro μ h
  obtain ⟨nb, nn, hB, hN, hS⟩ := h.1
  have hb5 : μ 8 5 = nI nb := hB.2.1.1
  have hb1 : μ 1 1 = nI nb := hB.2.1.2
  have hn2 : μ 1 2 = nI nn := hN.2.1.2
  unfold fn_X6_remove fn_X0_size
  simp only [Nat.reduceAdd]
  by_cases h1 : phas a1 nb = 0
  · exact ch_err h (by rw [pg_hasB hb5, pb_s, if_pos h1]) (by decide)
  · have hnb := hB.1
    obtain ⟨b, hb, rfl⟩ := phas_n (by omega) h1
    obtain ⟨nb, rfl⟩ : ∃ q, nb = q + 1 := ⟨nb - 1, by omega⟩
    obtain ⟨hb10, L, M, C, hL1, hM1, hC1, kL, kM, kC, hL, hM, hC⟩ := rB_b hB hb
    refine k_recd h (fun κ e hT => ?_)
    obtain ⟨hB2, hN2, hS2⟩ := RT_at hT hb1 hB.1 hn2 hN.1
    -- the reference's row afterwards
    obtain ⟨m0, z1, z2, z3, z4⟩ := pl_rm (nb := nb) (q1 := nI b) (k := fun m9 y10 => some (m9 1 1, m9)) (by omega) (5 * nb - 5 * b) gx_F (11 + 5 * b) (gx_u (gx_u μ 1 6 (μ 1 6 + μ 1 (11 + 5 * b + 2))) 1 1 (nI nb)) (pw_s _ _ _ _) (by omega) (by omega) (by unfold gx_F; omega)
    have r1 : m0 1 1 = nI nb := by rw [z4 1 (by omega), pw_s]
    obtain ⟨κ1, x1, x2, x3, x4⟩ := t_rm (t := 7) (s' := m0 1) pKT_7 hB2 hN2 hS2 hb r1 (by rw [z4 6 (by omega), pw_n (Or.inr (by decide)), pw_s]) (fun q h1 h2 => by rw [z3 q h1 h2, pw_n (Or.inr (by omega)), pw_n (Or.inr (by omega))]) (fun q h1 h2 => by rw [z4 q (by omega), pw_n (Or.inr (by omega)), pw_n (Or.inr (by omega))]) (fun q hq => by rw [z4 q (by omega), pw_n (Or.inr (by omega)), pw_n (Or.inr (by omega))])
    refine ⟨nI nb, κ1, m0 1, by rw [pg_hasB hb5, pb_s, if_neg h1, e, pb_s, x1, pb_s, pb_s, x3], fun a ha => x2 a (by omega), x4, fun hs ha => ⟨nI_nn (by omega), ?_, SNN_c hs (fun j h1 h2 => by rw [z4 j (by omega), pw_n (Or.inr (by omega)), pw_n (Or.inr (by omega))])⟩⟩
    obtain ⟨n, g1, g2, g3⟩ := ha
    have en : n = nb + 1 := (nI_eq (by omega) (by omega)).1 (g2.symm.trans hb1)
    subst en
    refine ⟨nb, by omega, r1, ?_⟩
    have hz := psf_rm (f := fun x => μ 1 (11 + 5 * x + 2)) (g := fun x => m0 1 (11 + 5 * x + 2)) (b := b) nb 0 (by omega) (by omega) (fun x h1 h2 => by
      rw [z3 _ (by omega) (by omega), pw_n (Or.inr (by omega)), pw_n (Or.inr (by omega)), show 11 + 5 * x + 2 + 5 = 11 + 5 * (x + 1) + 2 by omega]) (fun x h1 => by
      rw [z4 _ (by omega), pw_n (Or.inr (by omega)), pw_n (Or.inr (by omega))])
    rw [z4 3 (by omega), pw_n (Or.inr (by omega)), pw_n (Or.inr (by omega)), z4 4 (by omega), pw_n (Or.inr (by omega)), pw_n (Or.inr (by omega)), z4 5 (by omega), pw_n (Or.inr (by omega)), pw_n (Or.inr (by omega)), z4 6 (by omega), pw_n (Or.inr (by omega)), pw_s, g3, hz]
    ac_rfl
theorem s_drop (a1 : Int32) : chg (fun μ => fn_X6_drop gl_kd μ 6 a1) := by
  intro μ h
  obtain ⟨nb, nn, hB, hN, hS⟩ := h.1
  have hn5 : μ 19 5 = nI nn := hN.2.1.1
  have hb1 : μ 1 1 = nI nb := hB.2.1.2
  have hn2 : μ 1 2 = nI nn := hN.2.1.2
  unfold fn_X6_drop fn_X2_size
  simp only [Nat.reduceAdd]
  by_cases h1 : phas a1 nn = 0
  · exact ch_err h (by rw [pg_hasN hn5, pb_s, if_pos h1]) (by decide)
  · have hnn := hN.1
    obtain ⟨b, hb, rfl⟩ := phas_n (by omega) h1
    obtain ⟨nn, rfl⟩ : ∃ q, nn = q + 1 := ⟨nn - 1, by omega⟩
    refine k_recd h (fun κ e hT => ?_)
    obtain ⟨hB2, hN2, hS2⟩ := RT_at hT hb1 hB.1 hn2 hN.1
    obtain ⟨m0, z1, z2, z3, z4⟩ := pl_dr (nn := nn) (q1 := nI b) (k := fun m9 y10 => some (m9 1 2, m9)) (by omega) (6 * nn - 6 * b) gx_F (61 + 6 * b) (gx_u μ 1 2 (nI nn)) (pw_s _ _ _ _) (by omega) (by omega) (by unfold gx_F; omega)
    have r1 : m0 1 2 = nI nn := by rw [z4 2 (by omega), pw_s]
    obtain ⟨κ1, x1, x2, x3, x4⟩ := t_dr (t := 7) (s' := m0 1) pKT_7 hB2 hN2 hS2 hb r1 (fun q h1 h2 => by rw [z3 q h1 h2, pw_n (Or.inr (by omega))]) (fun q hq hq2 => by rw [z4 q (by omega), pw_n (Or.inr (by omega))])
    exact ⟨nI nn, κ1, m0 1, by rw [pg_hasN hn5, pb_s, if_neg h1, e, pb_s, x1, pb_s, pb_s, x3], fun a ha => x2 a (by omega), x4, fun hs ha => ⟨nI_nn (by omega), Acc_c ha (fun j hj => by rw [z4 j (by omega), pw_n (Or.inr (by omega))]), SNN_c hs (fun j h1 h2 => by rw [z4 j (by omega), pw_n (Or.inr (by omega))])⟩⟩
