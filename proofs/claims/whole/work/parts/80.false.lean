/-! ===== the first false note, the least tolerance ===== -/
def f_ff (a : Int32) (r : Int32) (m : gx_M) : Int32 := if r < 0 then a else if 0 ≤ a then a else if m 1 (61 + 6 * r.toNatClampNeg + 5) = 0 then r else -100004
def g_ff (a : Int32) (x : Nat) (s : Nat → Int32) : Int32 := if 0 ≤ a then a else if s (61 + 6 * x + 5) = 0 then nI x else -100004
theorem f_ff_0 (a : Int32) (m : gx_M) : f_ff a (-1) m = a := if_pos (by decide)
theorem f_ff_n (a : Int32) (x : Nat) (m : gx_M) (h : x < 40) : f_ff a (nI x) m = g_ff a x (m 1) := by
  unfold f_ff g_ff
  rw [if_neg (nI_pos (by omega)), nI_clamp (by omega)]
theorem g_ff_c (a : Int32) (x : Nat) (s s' : Nat → Int32) (h : ∀ w, w < 6 → s (61 + 6 * x + w) = s' (61 + 6 * x + w)) : g_ff a x s = g_ff a x s' := by
  unfold g_ff
  rw [h 5 (by omega)]
theorem pGo_ff : ∀ (d : Nat) (ρ : gx_M) (a : Int32) (ρ' : gx_M) (a' : Int32), 0 ≤ a → pGo f_ff d ρ a ρ' a' → a' = a
  | 0, ρ, a, ρ', a', _, h => h.2
  | d + 1, ρ, a, ρ', a', ha, h => by
    obtain ⟨r, m, q1, q2, q3, q4, q5, q6⟩ := h
    have e : f_ff a r m = a := by
      unfold f_ff
      by_cases c : r < 0
      · rw [if_pos c]
      · rw [if_neg c, if_pos ha]
    rw [e] at q6
    exact pGo_ff d m a ρ' a' ha q6
theorem pl_ff {nb : Nat} {k : gx_M → Int32 → Option (Int32 × gx_M)} (hnb : 0 < nb) (hnb2 : nb ≤ 10) : ∀ (d n : Nat) (ρ : gx_M) (tc : Nat) (a : Int32) (ρ' : gx_M) (a' : Int32), ρ 1 0 = nI tc → tc + d = 3600 → ρ 1 1 = nI nb → d < n → (a = -100004 ∨ 0 ≤ a) → pGo f_ff d ρ a ρ' a' → ∃ ρ2, lf_X7_firstFalse_7 gl_kd 0 k n ρ a = k ρ2 a' ∧ (∀ c, c ≠ 1 → ρ2 c = ρ c) := by
  intro d
  induction d with
  | zero =>
    intro n ρ tc a ρ' a' h0 hi h1 hn ha h
    obtain ⟨n, rfl⟩ : ∃ q, n = q + 1 := ⟨n - 1, by omega⟩
    have e := h.2
    subst e
    refine ⟨ρ, ?_, fun _ _ => rfl⟩
    rw [lf_X7_firstFalse_7]
    simp only [Nat.zero_add, pk1, px0, px1, pt0, pt1, if_true, eq_self, h0, h1]
    rw [if_neg (nI_nle (by omega) (by omega)), if_pos (show (3600 : Int32) ≤ nI tc from nI_le (a := 3600) (by omega) (by omega))]
  | succ d ih =>
    intro n ρ tc a ρ' a' h0 hi h1 hn ha h
    obtain ⟨n, rfl⟩ : ∃ q, n = q + 1 := ⟨n - 1, by omega⟩
    rw [lf_X7_firstFalse_7]
    simp only [Nat.zero_add, pk1, px0, px1, pt0, pt1, if_true, eq_self, h0, h1]
    rw [if_neg (nI_nle (by omega) (by omega)), if_neg (show ¬ (3600 : Int32) ≤ nI tc from nI_ge (b := 3600) (by omega) (by omega))]
    by_cases c : 0 ≤ a
    · rw [if_pos c]
      have e := pGo_ff _ _ _ _ _ c h
      subst e
      exact ⟨ρ, rfl, fun _ _ => rfl⟩
    · rw [if_neg c]
      have ea : a = -100004 := ha.resolve_right c
      subst ea
      obtain ⟨r, m, q1, q2, q3, q4, q5, q6⟩ := h
      rw [q1, pb_s]
      have go : ∀ (b : Int32), (b = -100004 ∨ 0 ≤ b) → pGo f_ff d m b ρ' a' → ∃ ρ2, lf_X7_firstFalse_7 gl_kd 0 k n m b = k ρ2 a' ∧ (∀ c, c ≠ 1 → ρ2 c = ρ c) := fun b hb q => by
        obtain ⟨ρ2, z1, z2⟩ := ih n m (tc + 1) b ρ' a' (by rw [q2, h0, nI_1]) (by omega) (by rw [q3]; exact h1) (by omega) hb q
        exact ⟨ρ2, z1, fun c hc => by rw [z2 c hc, q5 c hc]⟩
      rcases q4 with rfl | ⟨x, hx, rfl⟩
      · rw [if_pos (by decide)]
        rw [f_ff_0] at q6
        exact go _ (Or.inl rfl) q6
      · rw [f_ff_n _ _ _ hx] at q6
        unfold g_ff at q6
        rw [if_neg c] at q6
        rw [if_neg (nI_pos (by omega)), pm_has5 hx, pb_s]
        by_cases e : m 1 (61 + 6 * x + 5) = 0
        · rw [if_pos e] at q6 ⊢
          exact go _ (Or.inr (nI_pos' (by omega))) q6
        · rw [if_neg e] at q6 ⊢
          exact go _ (Or.inl rfl) q6
theorem pfold_ff {tn : Nat → Nat} {t0 T : Nat} {s : Nat → Int32} : ∀ (m i : Nat) (a : Int32), 0 ≤ a → pfold g_ff tn t0 T s a i m = a
  | 0, i, a, h => rfl
  | m + 1, i, a, h => by
    have e : g_ff a i s = a := if_pos h
    rw [pfold_s, e, ite_self]
    exact pfold_ff m (i + 1) a h
theorem pl_ffG {κ : gx_M} {nn nb t0 : Nat} {tn : Nat → Nat} {s : Nat → Int32} (hN : rN κ 44 s nn) (ht0 : t0 ≤ 3600) (htn : ∀ x, x < nn → s (61 + 6 * x) = nI (tn x)) (htb : ∀ x, x < nn → tn x ≤ 3600) (hpl : ∀ x, x < nn → t0 < tn x → s (61 + 6 * x + 2) = 1 ∧ (0 < nb ↔ ¬ s (61 + 6 * x + 3) = -1)) : ∀ (m n i : Nat), i + m = nn → m < n → ∃ r, lf_X2_firstFalseAfter_2 gl_kd 44 (nI t0) (fun m8 y9 => some (-1, m8)) n κ (nI i) = some (r, κ) ∧ ((r = -1 ∧ (0 < nb → pfold g_ff tn t0 3600 s (-100004) i m = -100004)) ∨ (¬ r = -1 ∧ 0 < nb ∧ pfold g_ff tn t0 3600 s (-100004) i m = r)) := by
  have hnn := hN.1
  intro m
  induction m with
  | zero =>
    intro n i hi hm
    obtain ⟨n, rfl⟩ : ∃ q, n = q + 1 := ⟨n - 1, by omega⟩
    refine ⟨-1, ?_, Or.inl ⟨rfl, fun _ => rfl⟩⟩
    rw [lf_X2_firstFalseAfter_2, hN.2.1.1, if_pos (nI_le (by omega) (by omega))]
  | succ m ih =>
    intro n i hi hm
    obtain ⟨n, rfl⟩ : ∃ q, n = q + 1 := ⟨n - 1, by omega⟩
    have hi1 : i < nn := by omega
    have hi4 : i < 40 := by omega
    have b1 := htb i hi1
    obtain ⟨p1, p2, p3, p4⟩ := hN.2.2.1 i hi1
    rw [lf_X2_firstFalseAfter_2, hN.2.1.1, if_neg (nI_ge (by omega) (by omega)), pg_get (c := 44 + 1) (44 + 2) 40 rfl pKT_32.2.1.1 hi4 (by decide), pb_s, p1, htn i hi1, nI_1, pfold_s]
    by_cases c1 : tn i ≤ t0
    · rw [if_pos (nI_le c1 (by omega)), if_neg (by omega)]
      exact ih n (i + 1) (by omega) (by omega)
    · rw [if_neg (nI_ge (by omega) (by omega)), if_pos (show t0 < tn i ∧ tn i ≤ 3600 by omega), pg_get (c := 44 + 5) (44 + 6) 40 rfl pKT_32.2.1.2.2.1 hi4 (by decide), pb_s]
      obtain ⟨v1, v2⟩ := hpl i hi1 (by omega)
      rcases p3 with ⟨_, a2⟩ | ⟨a1, _, a2, _⟩ | ⟨⟨a1, a3⟩ | ⟨a1, a3⟩, _, _, _, a4, _⟩
      · rw [v1] at a2
        exact absurd a2 (by decide)
      · have hz : ¬ 0 < nb := fun q => v2.1 q a2
        rw [a1, if_neg (by decide)]
        obtain ⟨r, x1, x2⟩ := ih n (i + 1) (by omega) (by omega)
        refine ⟨r, x1, ?_⟩
        rcases x2 with ⟨y1, _⟩ | ⟨_, y2, _⟩
        · exact Or.inl ⟨y1, fun q => absurd q hz⟩
        · exact absurd y2 hz
      · have e : g_ff (-100004) i s = nI i := by
          unfold g_ff
          rw [if_neg (by decide), if_pos a3]
        rw [a1, if_pos rfl, e, pfold_ff m (i + 1) (nI i) (nI_pos' (by omega))]
        exact ⟨nI i, rfl, Or.inr ⟨pm1 (by omega), v2.2 a4, rfl⟩⟩
      · have e : g_ff (-100004) i s = -100004 := by
          unfold g_ff
          rw [if_neg (by decide), a3, if_neg (by decide)]
        rw [a1, if_neg (by decide), e]
        exact ih n (i + 1) (by omega) (by omega)
theorem s_firstFalse : gl_ok Sim (fun μ => fn_X6_firstFalse gl_kd μ 6) (fun μ => fn_X7_firstFalse gl_kd μ 0) := by
  intro μ h
  obtain ⟨nb, nn, hB, hN, hS⟩ := h.1
  have hb1 : μ 1 1 = nI nb := hB.2.1.2
  have hnb := hB.1
  obtain ⟨t0, ht0, h00⟩ := hS.2.1
  have h73 : μ 7 3 = nI t0 := hS.1.trans h00
  obtain ⟨tn1, tn2, tn3⟩ := rN_tn hN
  obtain ⟨κ', x1, x2, x3⟩ := p_try (T := 3600) hB hN hS h00 ht0 (Nat.le_refl _)
  have x1' : fn_X6_tryOut gl_kd μ 6 3600 = some (0, κ') := x1
  obtain ⟨ρ1, y1, y2, y3⟩ := p_aside κ'
  have w1 : κ' 1 = μ 1 := x2 1 (by decide)
  have r1 : ρ1 1 = μ 1 := by rw [y2 1 (by decide), w1]
  obtain ⟨ρ2, z1, z2, z3, z4, z5, z6⟩ := x3 f_ff g_ff (-100004) f_ff_0 f_ff_n g_ff_c ρ1 r1
  obtain ⟨r, g1, g2⟩ := pl_ffG (nb := nb) z3 ht0 z5 tn2 (fun x hx hlt => z6 x hx hlt (tn2 x hx)) nn gx_F 0 (by omega) (by have := hN.1; unfold gx_F; omega)
  have g1' : fn_X2_firstFalseAfter gl_kd κ' 44 (nI t0) = some (r, κ') := g1
  have h7k : κ' 7 3 = nI t0 := by rw [x2 7 (by decide), h73]
  unfold fn_X6_firstFalse fn_X7_firstFalse fn_X4_time fn_X6_orNotFound
  simp only [Nat.reduceAdd]
  have fin : ∀ ρ5 : gx_M, (∀ c, c ≠ 1 → ρ5 c = ρ1 c) → ∃ ρ3, fn_X7_bringsBack gl_kd ρ5 0 = some (0, ρ3) ∧ Sim ρ3 := fun ρ5 hc => by
    obtain ⟨ρ3, u1, u2, u3⟩ := p_back ρ5
    exact ⟨ρ3, u1, Sim_try h (fun a h1 h3 ha => by rw [u2 a h1, hc a h1, y2 a h3, x2 a ha]) (fun q hq => by rw [u3 q hq, hc 3 (by decide), y3 q hq, w1])⟩
  by_cases hz : nb = 0
  · subst hz
    have er : r = -1 := by
      rcases g2 with ⟨e, _⟩ | ⟨_, e, _⟩
      · exact e
      · exact absurd e (by decide)
    obtain ⟨ρ3, u1, u2⟩ := fin ρ1 (fun _ _ => rfl)
    refine ⟨-100004, κ', ρ3, by rw [x1', pb_s, pb_s, h7k, g1', pb_s, if_pos er, pb_s], ?_, u2⟩
    rw [y1, pb_s, show gx_F = 4999 + 1 from rfl, lf_X7_firstFalse_7]
    simp only [Nat.zero_add, pk1, px1, pt1, if_true, eq_self, r1, hb1]
    rw [if_pos (show nI 0 ≤ 0 by decide), u1, pb_s]
  · obtain ⟨ρ5, v1, v2⟩ := pl_ff (k := fun m12 y13 => gx_b (fn_X7_bringsBack gl_kd m12 0) fun _ m15 => some (y13, m15)) (show 0 < nb by omega) hnb (3600 - t0) gx_F ρ1 t0 (-100004) ρ2 _ (by rw [r1]; exact h00) (by omega) (by rw [r1]; exact hb1) (by unfold gx_F; omega) (Or.inl rfl) z1
    obtain ⟨ρ3, u1, u2⟩ := fin ρ5 v2
    rcases g2 with ⟨e, e2⟩ | ⟨e, _, e2⟩
    · refine ⟨-100004, κ', ρ3, by rw [x1', pb_s, pb_s, h7k, g1', pb_s, if_pos e, pb_s], ?_, u2⟩
      rw [y1, pb_s, v1, u1, pb_s, e2 (by omega)]
    · refine ⟨r, κ', ρ3, by rw [x1', pb_s, pb_s, h7k, g1', pb_s, if_neg e, pb_s], ?_, u2⟩
      rw [y1, pb_s, v1, u1, pb_s, e2]
def f_lt (a : Int32) (r : Int32) (m : gx_M) : Int32 := if r < 0 then a else if pab (m 1 (61 + 6 * r.toNatClampNeg + 4)) ≤ a then a else pab (m 1 (61 + 6 * r.toNatClampNeg + 4))
def g_lt (a : Int32) (x : Nat) (s : Nat → Int32) : Int32 := if pab (s (61 + 6 * x + 4)) ≤ a then a else pab (s (61 + 6 * x + 4))
theorem f_lt_0 (a : Int32) (m : gx_M) : f_lt a (-1) m = a := if_pos (by decide)
theorem f_lt_n (a : Int32) (x : Nat) (m : gx_M) (h : x < 40) : f_lt a (nI x) m = g_lt a x (m 1) := by
  unfold f_lt g_lt
  rw [if_neg (nI_pos (by omega)), nI_clamp (by omega)]
theorem g_lt_c (a : Int32) (x : Nat) (s s' : Nat → Int32) (h : ∀ w, w < 6 → s (61 + 6 * x + w) = s' (61 + 6 * x + w)) : g_lt a x s = g_lt a x s' := by
  unfold g_lt
  rw [h 4 (by omega)]
theorem pl_lt {nb : Nat} {k : gx_M → Int32 → Option (Int32 × gx_M)} (hnb : 0 < nb) (hnb2 : nb ≤ 10) : ∀ (d n : Nat) (ρ : gx_M) (tc : Nat) (a : Int32) (ρ' : gx_M) (a' : Int32), ρ 1 0 = nI tc → tc + d = 3600 → ρ 1 1 = nI nb → d < n → pGo f_lt d ρ a ρ' a' → lf_X7_leastTolerance_7 gl_kd 0 k n ρ a = k ρ' a' := by
  intro d
  induction d with
  | zero =>
    intro n ρ tc a ρ' a' h0 hi h1 hn h
    obtain ⟨n, rfl⟩ : ∃ q, n = q + 1 := ⟨n - 1, by omega⟩
    obtain ⟨rfl, rfl⟩ : ρ' = ρ ∧ a' = a := h
    rw [lf_X7_leastTolerance_7]
    simp only [Nat.zero_add, pk1, px0, px1, pt0, pt1, if_true, eq_self, h0, h1]
    rw [if_neg (nI_nle (by omega) (by omega)), if_pos (show (3600 : Int32) ≤ nI tc from nI_le (a := 3600) (by omega) (by omega))]
  | succ d ih =>
    intro n ρ tc a ρ' a' h0 hi h1 hn h
    obtain ⟨n, rfl⟩ : ∃ q, n = q + 1 := ⟨n - 1, by omega⟩
    rw [lf_X7_leastTolerance_7]
    simp only [Nat.zero_add, pk1, px0, px1, pt0, pt1, if_true, eq_self, h0, h1]
    obtain ⟨r, m, q1, q2, q3, q4, q5, q6⟩ := h
    rw [if_neg (nI_nle (by omega) (by omega)), if_neg (show ¬ (3600 : Int32) ≤ nI tc from nI_ge (b := 3600) (by omega) (by omega)), q1, pb_s]
    have go : ∀ (b : Int32), pGo f_lt d m b ρ' a' → lf_X7_leastTolerance_7 gl_kd 0 k n m b = k ρ' a' := fun b q => ih n m (tc + 1) b ρ' a' (by rw [q2, h0, nI_1]) (by omega) (by rw [q3]; exact h1) (by omega) q
    rcases q4 with rfl | ⟨x, hx, rfl⟩
    · rw [if_pos (by decide)]
      rw [f_lt_0] at q6
      exact go _ q6
    · rw [f_lt_n _ _ _ hx] at q6
      unfold g_lt at q6
      rw [if_neg (nI_pos (by omega)), pm_has4 hx, pb_s, pm_size, pb_s]
      by_cases e : pab (m 1 (61 + 6 * x + 4)) ≤ a
      · rw [if_pos e] at q6 ⊢
        exact go _ q6
      · rw [if_neg e] at q6 ⊢
        rw [pm_has4 hx, pb_s, pm_size, pb_s]
        exact go _ q6
/-- the class's least so far and the reference's -/
def rLT (y a : Int32) : Prop := (y = -1 ∧ a = -100004) ∨ (y = a ∧ 0 ≤ a)
theorem rLT_s {y a e : Int32} (h : rLT y a) (he : 0 ≤ e) : rLT (if y < e then e else y) (if e ≤ a then a else e) := by
  rcases h with ⟨rfl, rfl⟩ | ⟨rfl, h2⟩
  · have h1 : (-1 : Int32) < e := by
      rw [Int32.le_iff_toInt_le, Int32.toInt_zero] at he
      rw [Int32.lt_iff_toInt_lt, show (-1 : Int32).toInt = -1 by decide]
      omega
    have h2 : ¬ e ≤ (-100004 : Int32) := by
      rw [Int32.le_iff_toInt_le, Int32.toInt_zero] at he
      rw [Int32.le_iff_toInt_le, show (-100004 : Int32).toInt = -100004 by decide]
      omega
    rw [if_pos h1, if_neg h2]
    exact Or.inr ⟨rfl, he⟩
  · by_cases c : e ≤ y
    · rw [if_pos c, if_neg (Int32.not_lt.2 c)]
      exact Or.inr ⟨rfl, h2⟩
    · rw [if_neg c, if_pos (Int32.not_le.1 c)]
      exact Or.inr ⟨rfl, he⟩
theorem pl_ltG {κ : gx_M} {nn nb t0 : Nat} {tn : Nat → Nat} {s : Nat → Int32} (hN : rN κ 44 s nn) (ht0 : t0 ≤ 3600) (htn : ∀ x, x < nn → s (61 + 6 * x) = nI (tn x)) (htb : ∀ x, x < nn → tn x ≤ 3600) (hpl : ∀ x, x < nn → t0 < tn x → s (61 + 6 * x + 2) = 1 ∧ (0 < nb ↔ ¬ s (61 + 6 * x + 3) = -1)) : ∀ (m n i : Nat) (y a : Int32), i + m = nn → m < n → (0 < nb → rLT y a) → (¬ 0 < nb → y = -1) → ∃ r, lf_X2_greatestErrorAfter_4 gl_kd 44 (nI t0) (fun m10 y11 y12 => some (y11, m10)) n κ y (nI i) = some (r, κ) ∧ (0 < nb → rLT r (pfold g_lt tn t0 3600 s a i m)) ∧ (¬ 0 < nb → r = -1) := by
  have hnn := hN.1
  intro m
  induction m with
  | zero =>
    intro n i y a hi hm h1 h2
    obtain ⟨n, rfl⟩ : ∃ q, n = q + 1 := ⟨n - 1, by omega⟩
    refine ⟨y, ?_, h1, h2⟩
    rw [lf_X2_greatestErrorAfter_4, hN.2.1.1, if_pos (nI_le (by omega) (by omega))]
  | succ m ih =>
    intro n i y a hi hm h1 h2
    obtain ⟨n, rfl⟩ : ∃ q, n = q + 1 := ⟨n - 1, by omega⟩
    have hi1 : i < nn := by omega
    have hi4 : i < 40 := by omega
    have b1 := htb i hi1
    obtain ⟨p1, p2, p3, p4⟩ := hN.2.2.1 i hi1
    rw [lf_X2_greatestErrorAfter_4, hN.2.1.1, if_neg (nI_ge (by omega) (by omega)), pg_get (c := 44 + 1) (44 + 2) 40 rfl pKT_32.2.1.1 hi4 (by decide), pb_s, p1, htn i hi1, nI_1, pfold_s]
    by_cases c1 : tn i ≤ t0
    · rw [if_pos (nI_le c1 (by omega)), if_neg (by omega)]
      exact ih n (i + 1) y a (by omega) (by omega) h1 h2
    · rw [if_neg (nI_ge (by omega) (by omega)), if_pos (show t0 < tn i ∧ tn i ≤ 3600 by omega), pg_snd pKT_32.2.1 hi4, pb_s]
      obtain ⟨v1, v2⟩ := hpl i hi1 (by omega)
      by_cases hs : psnd (κ (44 + 6) i) = 0
      · rw [if_pos hs]
        have hz : ¬ 0 < nb := fun q => by
          have := v2.1 q
          rw [NR_s p3] at hs
          unfold phsd at hs
          rw [if_pos v1, if_neg this] at hs
          exact absurd hs (by decide)
        exact ih n (i + 1) y _ (by omega) (by omega) (fun q => absurd q hz) h2
      · rw [if_neg hs, pg_es pKT_32.2.1 hi4, pb_s]
        obtain ⟨e1, e2, _, _, e5⟩ := NR_e p3 hs
        rw [e1]
        have hz : 0 < nb := v2.2 e5
        exact ih n (i + 1) _ _ (by omega) (by omega) (fun q => rLT_s (h1 q) e2) (fun q => absurd hz q)
theorem s_leastTolerance : gl_ok Sim (fun μ => fn_X6_leastTolerance gl_kd μ 6) (fun μ => fn_X7_leastTolerance gl_kd μ 0) := by
  intro μ h
  obtain ⟨nb, nn, hB, hN, hS⟩ := h.1
  have hb1 : μ 1 1 = nI nb := hB.2.1.2
  have hnb := hB.1
  obtain ⟨t0, ht0, h00⟩ := hS.2.1
  have h73 : μ 7 3 = nI t0 := hS.1.trans h00
  obtain ⟨tn1, tn2, tn3⟩ := rN_tn hN
  obtain ⟨κ', x1, x2, x3⟩ := p_try (T := 3600) hB hN hS h00 ht0 (Nat.le_refl _)
  have x1' : fn_X6_tryOut gl_kd μ 6 3600 = some (0, κ') := x1
  obtain ⟨ρ1, y1, y2, y3⟩ := p_aside κ'
  have w1 : κ' 1 = μ 1 := x2 1 (by decide)
  have r1 : ρ1 1 = μ 1 := by rw [y2 1 (by decide), w1]
  obtain ⟨ρ2, z1, z2, z3, z4, z5, z6⟩ := x3 f_lt g_lt (-100004) f_lt_0 f_lt_n g_lt_c ρ1 r1
  obtain ⟨r, g1, g2, g3⟩ := pl_ltG (nb := nb) z3 ht0 z5 tn2 (fun x hx hlt => z6 x hx hlt (tn2 x hx)) nn gx_F 0 (-1) (-100004) (by omega) (by have := hN.1; unfold gx_F; omega) (fun _ => Or.inl ⟨rfl, rfl⟩) (fun _ => rfl)
  have g1' : fn_X2_greatestErrorAfter gl_kd κ' 44 (nI t0) = some (r, κ') := g1
  have h7k : κ' 7 3 = nI t0 := by rw [x2 7 (by decide), h73]
  unfold fn_X6_leastTolerance fn_X7_leastTolerance fn_X4_time fn_X6_orNotFound
  simp only [Nat.reduceAdd]
  have fin : ∀ ρ5 : gx_M, (∀ c, c ≠ 1 → ρ5 c = ρ1 c) → ∃ ρ3, fn_X7_bringsBack gl_kd ρ5 0 = some (0, ρ3) ∧ Sim ρ3 := fun ρ5 hc => by
    obtain ⟨ρ3, u1, u2, u3⟩ := p_back ρ5
    exact ⟨ρ3, u1, Sim_try h (fun a h1 h3 ha => by rw [u2 a h1, hc a h1, y2 a h3, x2 a ha]) (fun q hq => by rw [u3 q hq, hc 3 (by decide), y3 q hq, w1])⟩
  by_cases hz : nb = 0
  · subst hz
    have er : r = -1 := g3 (by decide)
    obtain ⟨ρ3, u1, u2⟩ := fin ρ1 (fun _ _ => rfl)
    refine ⟨-100004, κ', ρ3, by rw [x1', pb_s, pb_s, h7k, g1', pb_s, if_pos er, pb_s], ?_, u2⟩
    rw [y1, pb_s, show gx_F = 4999 + 1 from rfl, lf_X7_leastTolerance_7]
    simp only [Nat.zero_add, pk1, px1, pt1, if_true, eq_self, r1, hb1]
    rw [if_pos (show nI 0 ≤ 0 by decide), u1, pb_s]
  · have v1 := pl_lt (k := fun m17 y18 => gx_b (fn_X7_bringsBack gl_kd m17 0) fun _ m20 => some (y18, m20)) (show 0 < nb by omega) hnb (3600 - t0) gx_F ρ1 t0 (-100004) ρ2 _ (by rw [r1]; exact h00) (by omega) (by rw [r1]; exact hb1) (by unfold gx_F; omega) z1
    obtain ⟨ρ3, u1, u2⟩ := fin ρ2 z4
    rcases g2 (by omega) with ⟨e, e2⟩ | ⟨e, e2⟩
    · refine ⟨-100004, κ', ρ3, by rw [x1', pb_s, pb_s, h7k, g1', pb_s, if_pos e, pb_s], ?_, u2⟩
      rw [y1, pb_s, v1, u1, pb_s, e2]
    · have hr : ¬ r = -1 := fun q => by rw [← e, q] at e2; exact absurd e2 (by decide)
      refine ⟨r, κ', ρ3, by rw [x1', pb_s, pb_s, h7k, g1', pb_s, if_neg hr, pb_s], ?_, u2⟩
      rw [y1, pb_s, v1, u1, pb_s, ← e]
