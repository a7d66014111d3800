/-! ===== the first false note, the least tolerance: without bowls none ===== -/
def g_ff (a : Int32) (x : Nat) (s : Nat → Int32) : Int32 := if 0 ≤ a then a else if s (61 + 6 * x + 5) = 0 then nI x else -100004
theorem pfold_ff {tn : Nat → Nat} {t0 T : Nat} {s : Nat → Int32} : ∀ (m i : Nat) (a : Int32), 0 ≤ a → pfold g_ff tn t0 T s a i m = a
  | 0, i, a, h => rfl
  | m + 1, i, a, h => by
    have e : g_ff a i s = a := if_pos h
    rw [pfold_s, e, ite_self]
    exact pfold_ff m (i + 1) a h
theorem pl_ffG {κ : gx_M} {nn nb t0 : Nat} {tn : Nat → Nat} {s : Nat → Int32} (hN : rN κ 44 s nn) (ht0 : t0 ≤ 3600) (htn : ∀ x, x < nn → s (61 + 6 * x) = nI (tn x)) (htb : ∀ x, x < nn → tn x ≤ 3600) (hpl : ∀ x, x < nn → t0 < tn x → s (61 + 6 * x + 2) = 1 ∧ (0 < nb ↔ ¬ s (61 + 6 * x + 3) = -1)) : ∀ (m n i : Nat), i + m = nn → m < n → ∃ r, lf_X2_firstFalseAfter_2 gl_kd 44 (nI t0) (fun m8 y9 => some (-1, m8)) n κ (nI i) = some (r, κ) ∧ ((r = -1 ∧ (0 < nb → pfold g_ff tn t0 3600 s (-100004) i m = -100004)) ∨ (¬ r = -1 ∧ 0 < nb ∧ pfold g_ff tn t0 3600 s (-100004) i m = r)) := by
  have hnn := hN.1
  intro m
  induction m with
  | zero =>
    intro n i hi hm
    obtain ⟨n, rfl⟩ : ∃ q, n = q + 1 := ⟨n - 1, by omega⟩
    refine ⟨-1, ?_, Or.inl ⟨rfl, fun _ => rfl⟩⟩
    rw [lf_X2_firstFalseAfter_2, hN.2.1.1, if_pos (nI_le (by omega) (by omega))]
  | succ m ih =>
    intro n i hi hm
    obtain ⟨n, rfl⟩ : ∃ q, n = q + 1 := ⟨n - 1, by omega⟩
    have hi1 : i < nn := by omega
    have hi4 : i < 40 := by omega
    have b1 := htb i hi1
    obtain ⟨p1, p2, p3, p4⟩ := hN.2.2.1 i hi1
    rw [lf_X2_firstFalseAfter_2, hN.2.1.1, if_neg (nI_ge (by omega) (by omega)), pg_get (c := 44 + 1) (44 + 2) 40 rfl pKT_32.2.1.1 hi4 (by decide), pb_s, p1, htn i hi1, nI_1, pfold_s]
    by_cases c1 : tn i ≤ t0
    · rw [if_pos (nI_le c1 (by omega)), if_neg (by omega)]
      exact ih n (i + 1) (by omega) (by omega)
    · rw [if_neg (nI_ge (by omega) (by omega)), if_pos (show t0 < tn i ∧ tn i ≤ 3600 by omega), pg_get (c := 44 + 5) (44 + 6) 40 rfl pKT_32.2.1.2.2.1 hi4 (by decide), pb_s]
      obtain ⟨v1, v2⟩ := hpl i hi1 (by omega)
      rcases p3 with ⟨_, a2⟩ | ⟨a1, _, a2, _⟩ | ⟨⟨a1, a3⟩ | ⟨a1, a3⟩, _, _, _, a4, _⟩
      · rw [v1] at a2
        exact absurd a2 (by decide)
      · have hz : ¬ 0 < nb := fun q => v2.1 q a2
        rw [a1, if_neg (by decide)]
        obtain ⟨r, x1, x2⟩ := ih n (i + 1) (by omega) (by omega)
        refine ⟨r, x1, ?_⟩
        rcases x2 with ⟨y1, _⟩ | ⟨_, y2, _⟩
        · exact Or.inl ⟨y1, fun q => absurd q hz⟩
        · exact absurd y2 hz
      · have e : g_ff (-100004) i s = nI i := by
          unfold g_ff
          rw [if_neg (by decide), if_pos a3]
        rw [a1, if_pos rfl, e, pfold_ff m (i + 1) (nI i) (nI_pos' (by omega))]
        exact ⟨nI i, rfl, Or.inr ⟨pm1 (by omega), v2.2 a4, rfl⟩⟩
      · have e : g_ff (-100004) i s = -100004 := by
          unfold g_ff
          rw [if_neg (by decide), a3, if_neg (by decide)]
        rw [a1, if_neg (by decide), e]
        exact ih n (i + 1) (by omega) (by omega)
def g_lt (a : Int32) (x : Nat) (s : Nat → Int32) : Int32 := if pab (s (61 + 6 * x + 4)) ≤ a then a else pab (s (61 + 6 * x + 4))
/-- the class's least so far and the reference's -/
def rLT (y a : Int32) : Prop := (y = -1 ∧ a = -100004) ∨ (y = a ∧ 0 ≤ a)
theorem rLT_s {y a e : Int32} (h : rLT y a) (he : 0 ≤ e) : rLT (if y < e then e else y) (if e ≤ a then a else e) := by
  rcases h with ⟨rfl, rfl⟩ | ⟨rfl, h2⟩
  · have h1 : (-1 : Int32) < e := by
      rw [Int32.le_iff_toInt_le, Int32.toInt_zero] at he
      rw [Int32.lt_iff_toInt_lt, show (-1 : Int32).toInt = -1 by decide]
      omega
    have h2 : ¬ e ≤ (-100004 : Int32) := by
      rw [Int32.le_iff_toInt_le, Int32.toInt_zero] at he
      rw [Int32.le_iff_toInt_le, show (-100004 : Int32).toInt = -100004 by decide]
      omega
    rw [if_pos h1, if_neg h2]
    exact Or.inr ⟨rfl, he⟩
  · by_cases c : e ≤ y
    · rw [if_pos c, if_neg (Int32.not_lt.2 c)]
      exact Or.inr ⟨rfl, h2⟩
    · rw [if_neg c, if_pos (Int32.not_le.1 c)]
      exact Or.inr ⟨rfl, he⟩
theorem pl_ltG {κ : gx_M} {nn nb t0 : Nat} {tn : Nat → Nat} {s : Nat → Int32} (hN : rN κ 44 s nn) (ht0 : t0 ≤ 3600) (htn : ∀ x, x < nn → s (61 + 6 * x) = nI (tn x)) (htb : ∀ x, x < nn → tn x ≤ 3600) (hpl : ∀ x, x < nn → t0 < tn x → s (61 + 6 * x + 2) = 1 ∧ (0 < nb ↔ ¬ s (61 + 6 * x + 3) = -1)) : ∀ (m n i : Nat) (y a : Int32), i + m = nn → m < n → (0 < nb → rLT y a) → (¬ 0 < nb → y = -1) → ∃ r, lf_X2_greatestErrorAfter_4 gl_kd 44 (nI t0) (fun m10 y11 y12 => some (y11, m10)) n κ y (nI i) = some (r, κ) ∧ (0 < nb → rLT r (pfold g_lt tn t0 3600 s a i m)) ∧ (¬ 0 < nb → r = -1) := by
  have hnn := hN.1
  intro m
  induction m with
  | zero =>
    intro n i y a hi hm h1 h2
    obtain ⟨n, rfl⟩ : ∃ q, n = q + 1 := ⟨n - 1, by omega⟩
    refine ⟨y, ?_, h1, h2⟩
    rw [lf_X2_greatestErrorAfter_4, hN.2.1.1, if_pos (nI_le (by omega) (by omega))]
  | succ m ih =>
    intro n i y a hi hm h1 h2
    obtain ⟨n, rfl⟩ : ∃ q, n = q + 1 := ⟨n - 1, by omega⟩
    have hi1 : i < nn := by omega
    have hi4 : i < 40 := by omega
    have b1 := htb i hi1
    obtain ⟨p1, p2, p3, p4⟩ := hN.2.2.1 i hi1
    rw [lf_X2_greatestErrorAfter_4, hN.2.1.1, if_neg (nI_ge (by omega) (by omega)), pg_get (c := 44 + 1) (44 + 2) 40 rfl pKT_32.2.1.1 hi4 (by decide), pb_s, p1, htn i hi1, nI_1, pfold_s]
    by_cases c1 : tn i ≤ t0
    · rw [if_pos (nI_le c1 (by omega)), if_neg (by omega)]
      exact ih n (i + 1) y a (by omega) (by omega) h1 h2
    · rw [if_neg (nI_ge (by omega) (by omega)), if_pos (show t0 < tn i ∧ tn i ≤ 3600 by omega), pg_snd pKT_32.2.1 hi4, pb_s]
      obtain ⟨v1, v2⟩ := hpl i hi1 (by omega)
      by_cases hs : psnd (κ (44 + 6) i) = 0
      · rw [if_pos hs]
        have hz : ¬ 0 < nb := fun q => by
          have := v2.1 q
          rw [NR_s p3] at hs
          unfold phsd at hs
          rw [if_pos v1, if_neg this] at hs
          exact absurd hs (by decide)
        exact ih n (i + 1) y _ (by omega) (by omega) (fun q => absurd q hz) h2
      · rw [if_neg hs, pg_es pKT_32.2.1 hi4, pb_s]
        obtain ⟨e1, e2, _, _, e5⟩ := NR_e p3 hs
        rw [e1]
        have hz : 0 < nb := v2.2 e5
        exact ih n (i + 1) _ _ (by omega) (by omega) (fun q => rLT_s (h1 q) e2) (fun q => absurd hz q)
theorem q_ff0 {μ : gx_M} {nn : Nat} (hB : rB μ 8 (μ 1) 0) (hN : rN μ 19 (μ 1) nn) (hS : rS μ 7 (μ 1)) : ∃ κ', fn_X6_firstFalse gl_kd μ 6 = some (-100004, κ') ∧ ∀ a, (a < 32 ∨ 57 ≤ a) → κ' a = μ a := by
  obtain ⟨t0, ht0, h00⟩ := hS.2.1
  have h73 : μ 7 3 = nI t0 := hS.1.trans h00
  obtain ⟨tn1, tn2, tn3⟩ := rN_tn hN
  obtain ⟨κ', x1, x2, x3⟩ := p_try (T := 3600) hB hN hS h00 ht0 (Nat.le_refl _)
  have x1' : fn_X6_tryOut gl_kd μ 6 3600 = some (0, κ') := x1
  obtain ⟨ρ2, z1, z2, z3, z4, z5, z6⟩ := x3 (fun a _ _ => a) (fun a _ _ => a) 0 (fun _ _ => rfl) (fun _ _ _ _ => rfl) (fun _ _ _ _ _ => rfl) μ rfl
  obtain ⟨r, g1, g2⟩ := pl_ffG (nb := 0) z3 ht0 z5 tn2 (fun x hx hlt => z6 x hx hlt (tn2 x hx)) nn gx_F 0 (by omega) (by have := hN.1; unfold gx_F; omega)
  have g1' : fn_X2_firstFalseAfter gl_kd κ' 44 (nI t0) = some (r, κ') := g1
  have h7k : κ' 7 3 = nI t0 := by rw [x2 7 (by decide), h73]
  have er : r = -1 := by
    rcases g2 with ⟨e, _⟩ | ⟨_, e, _⟩
    · exact e
    · exact absurd e (by decide)
  refine ⟨κ', ?_, x2⟩
  unfold fn_X6_firstFalse fn_X4_time fn_X6_orNotFound
  simp only [Nat.reduceAdd]
  rw [x1', pb_s, pb_s, h7k, g1', pb_s, if_pos er, pb_s]
theorem q_lt0 {μ : gx_M} {nn : Nat} (hB : rB μ 8 (μ 1) 0) (hN : rN μ 19 (μ 1) nn) (hS : rS μ 7 (μ 1)) : ∃ κ', fn_X6_leastTolerance gl_kd μ 6 = some (-100004, κ') ∧ ∀ a, (a < 32 ∨ 57 ≤ a) → κ' a = μ a := by
  obtain ⟨t0, ht0, h00⟩ := hS.2.1
  have h73 : μ 7 3 = nI t0 := hS.1.trans h00
  obtain ⟨tn1, tn2, tn3⟩ := rN_tn hN
  obtain ⟨κ', x1, x2, x3⟩ := p_try (T := 3600) hB hN hS h00 ht0 (Nat.le_refl _)
  have x1' : fn_X6_tryOut gl_kd μ 6 3600 = some (0, κ') := x1
  obtain ⟨ρ2, z1, z2, z3, z4, z5, z6⟩ := x3 (fun a _ _ => a) (fun a _ _ => a) 0 (fun _ _ => rfl) (fun _ _ _ _ => rfl) (fun _ _ _ _ _ => rfl) μ rfl
  obtain ⟨r, g1, g2, g3⟩ := pl_ltG (nb := 0) z3 ht0 z5 tn2 (fun x hx hlt => z6 x hx hlt (tn2 x hx)) nn gx_F 0 (-1) (-100004) (by omega) (by have := hN.1; unfold gx_F; omega) (fun _ => Or.inl ⟨rfl, rfl⟩) (fun _ => rfl)
  have g1' : fn_X2_greatestErrorAfter gl_kd κ' 44 (nI t0) = some (r, κ') := g1
  have h7k : κ' 7 3 = nI t0 := by rw [x2 7 (by decide), h73]
  have er : r = -1 := g3 (by decide)
  refine ⟨κ', ?_, x2⟩
  unfold fn_X6_leastTolerance fn_X4_time fn_X6_orNotFound
  simp only [Nat.reduceAdd]
  rw [x1', pb_s, pb_s, h7k, g1', pb_s, if_pos er, pb_s]
