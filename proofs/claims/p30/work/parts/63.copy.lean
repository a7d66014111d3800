/-! ===== copies, records ===== -/
theorem pm_c2 (i : Nat) (h : i < 1505) : gx_ix (nI i) (gl_kd (0 + 2) - 100) = true := pg_ix (show i < 1505 from h) (by decide)
theorem pm_c3 (i : Nat) (h : i < 301) : gx_ix (nI i) (gl_kd (0 + 3) - 100) = true := pg_ix (show i < 301 from h) (by decide)
theorem pg_cpy {kd : Nat → Nat} {μ : gx_M} {c c1 : Nat} (r r1 N : Nat) (hr : c + 1 = r) (hr1 : c1 + 1 = r1) (hk : kd r = 100 + N) (hk1 : kd r1 = 100 + N) (hN : N < 100000) : fn_X3_copyFrom kd μ c c1 = some (0, gx_r μ r (va_cpy (μ r1) (μ r) 0 0 N)) := by
  subst hr hr1
  unfold fn_X3_copyFrom
  rw [hk, hk1, show 100 + N - 100 = N by omega, if_neg (nI_nlt (Nat.le_refl N) (by omega)), nI_clamp (by omega), if_pos ⟨nI_pos (by omega), Nat.le_refl _, Nat.le_refl _⟩]
theorem pg_cpyB {μ : gx_M} {c c1 : Nat} (hk : pKB c) (hk1 : pKB c1) (hd : c + 11 ≤ c1 ∨ c1 + 11 ≤ c) : ∃ μ', fn_X0_copyFrom gl_kd μ c c1 = some (0, μ') ∧ (∀ a, (a < c ∨ c + 11 ≤ a) → μ' a = μ a) ∧ (μ' c 5 = μ c1 5 ∧ μ' c 6 = μ c1 6 ∧ μ' c 7 = μ c1 7 ∧ μ' c 8 = μ c1 8 ∧ μ' c 9 = μ c1 9) ∧ (∀ b, b < 10 → μ' (c + 2) b = μ (c1 + 2) b ∧ μ' (c + 4) b = μ (c1 + 4) b ∧ μ' (c + 6) b = μ (c1 + 6) b ∧ μ' (c + 8) b = μ (c1 + 8) b ∧ μ' (c + 10) b = μ (c1 + 10) b) := by
  unfold fn_X0_copyFrom
  rw [pg_cpy (c + 2) (c1 + 2) 10 rfl rfl hk.1 hk1.1 (by decide), pb_s, pg_cpy (c + 4) (c1 + 4) 10 rfl rfl hk.2.1 hk1.2.1 (by decide), pb_s, pg_cpy (c + 6) (c1 + 6) 10 rfl rfl hk.2.2.1 hk1.2.2.1 (by decide), pb_s, pg_cpy (c + 8) (c1 + 8) 10 rfl rfl hk.2.2.2.1 hk1.2.2.2.1 (by decide), pb_s, pg_cpy (c + 10) (c1 + 10) 10 rfl rfl hk.2.2.2.2 hk1.2.2.2.2 (by decide), pb_s]
  refine ⟨_, rfl, fun a ha => ?_, ⟨?_, ?_, ?_, ?_, ?_⟩, fun b hb => ⟨?_, ?_, ?_, ?_, ?_⟩⟩
  · simp (disch := omega) only [gx_u_n, gx_r_n]
  all_goals simp (disch := omega) only [pw_s, pw_n, gx_r_s, gx_r_n, pk_cpy_in, Nat.zero_add, Nat.sub_zero]
theorem pg_cpyN {μ : gx_M} {c c1 : Nat} (hk : pKN c) (hk1 : pKN c1) (hd : c + 11 ≤ c1 ∨ c1 + 11 ≤ c) : ∃ μ', fn_X2_copyFrom gl_kd μ c c1 = some (0, μ') ∧ (∀ a, (a < c ∨ c + 11 ≤ a) → μ' a = μ a) ∧ (μ' c 5 = μ c1 5) ∧ (∀ b, b < 40 → μ' (c + 2) b = μ (c1 + 2) b ∧ μ' (c + 4) b = μ (c1 + 4) b ∧ μ' (c + 6) b = μ (c1 + 6) b ∧ μ' (c + 8) b = μ (c1 + 8) b ∧ μ' (c + 10) b = μ (c1 + 10) b) := by
  unfold fn_X2_copyFrom
  rw [pg_cpy (c + 2) (c1 + 2) 40 rfl rfl hk.1 hk1.1 (by decide), pb_s, pg_cpy (c + 4) (c1 + 4) 40 rfl rfl hk.2.1 hk1.2.1 (by decide), pb_s, pg_cpy (c + 6) (c1 + 6) 40 rfl rfl hk.2.2.1 hk1.2.2.1 (by decide), pb_s, pg_cpy (c + 8) (c1 + 8) 40 rfl rfl hk.2.2.2.1 hk1.2.2.2.1 (by decide), pb_s, pg_cpy (c + 10) (c1 + 10) 40 rfl rfl hk.2.2.2.2 hk1.2.2.2.2 (by decide), pb_s]
  refine ⟨_, rfl, fun a ha => ?_, ?_, fun b hb => ⟨?_, ?_, ?_, ?_, ?_⟩⟩
  · simp (disch := omega) only [gx_u_n, gx_r_n]
  all_goals simp (disch := omega) only [pw_s, pw_n, gx_r_s, gx_r_n, pk_cpy_in, Nat.zero_add, Nat.sub_zero]
theorem pg_cpyT {μ : gx_M} {c c1 : Nat} {s : Nat → Int32} (hk : pKT c) (hk1 : pKT c1) (hd : c + 25 ≤ c1 ∨ c1 + 25 ≤ c) (h : RT μ c1 s) : ∃ μ', fn_X4_copyFrom gl_kd μ c c1 = some (0, μ') ∧ (∀ a, (a < c ∨ c + 25 ≤ a) → μ' a = μ a) ∧ RT μ' c s := by
  obtain ⟨nb, nn, ⟨b1, ⟨b2, b3⟩, ⟨b4, b5, b6, b7⟩, b8⟩, ⟨n1, ⟨n2, n3⟩, n4, n5⟩, ⟨s1, s2, s3, s4⟩⟩ := h
  obtain ⟨m1, e1, f1, ⟨a1, a2, a3, a4, a5⟩, g1⟩ := pg_cpyB (μ := μ) (c := c + 1) (c1 := c1 + 1) hk.1 hk1.1 (by omega)
  obtain ⟨m2, e2, f2, k1, g2⟩ := pg_cpyN (μ := m1) (c := c + 12) (c1 := c1 + 12) hk.2.1 hk1.2.1 (by omega)
  unfold fn_X4_copyFrom
  rw [e1, pb_s, e2, pb_s, pg_cpy (c + 24) (c1 + 24) 4 rfl rfl hk.2.2 hk1.2.2 (by decide), pb_s]
  have q : ∀ a, (a < c ∨ c + 25 ≤ a) → m2 a = μ a := fun a ha => by rw [f2 a (by omega), f1 a (by omega)]
  have qb : ∀ a, c + 1 ≤ a → a < c + 12 → m2 a = m1 a := fun a h1 h2 => f2 a (by omega)
  refine ⟨_, rfl, fun a ha => ?_, nb, nn, ?_, ?_, ?_⟩
  · rw [gx_u_n (by omega), gx_r_n (by omega)]
    exact q a ha
  · refine ⟨b1, ⟨?_, b3⟩, ⟨?_, ?_, ?_, ?_⟩, fun b hb => ?_⟩
    · simp (disch := omega) only [pw_n, gx_r_n]
      rw [qb _ (by omega) (by omega), a1, b2]
    · simp (disch := omega) only [pw_n, gx_r_n]
      rw [qb _ (by omega) (by omega), a2, b4]
    · simp (disch := omega) only [pw_n, gx_r_n]
      rw [qb _ (by omega) (by omega), a3, b5]
    · simp (disch := omega) only [pw_n, gx_r_n]
      rw [qb _ (by omega) (by omega), a4, b6]
    · simp (disch := omega) only [pw_n, gx_r_n]
      rw [qb _ (by omega) (by omega), a5, b7]
    · obtain ⟨p1, p2, p3, p4, p5, p6⟩ := b8 b hb
      obtain ⟨q1, q2, q3, q4, q5⟩ := g1 b (by omega)
      refine ⟨?_, ?_, ?_, ?_, ?_, p6⟩ <;> simp (disch := omega) only [pw_n, gx_r_n] <;> rw [qb _ (by omega) (by omega)]
      · rw [q1, p1]
      · rw [q2, p2]
      · rw [q3, p3]
      · rw [q4, p4]
      · rw [q5, p5]
  · refine ⟨n1, ⟨?_, n3⟩, fun i hi => ?_, n5⟩
    · simp (disch := omega) only [pw_n, gx_r_n]
      rw [k1, f1 _ (by omega), n2]
    · obtain ⟨p1, p2, p3, p4⟩ := n4 i hi
      obtain ⟨q1, q2, q3, q4, q5⟩ := g2 i (by omega)
      refine ⟨?_, ?_, ?_, p4⟩ <;> simp (disch := omega) only [pw_n, gx_r_n]
      · rw [q1, f1 _ (by omega), p1]
      · rw [q2, f1 _ (by omega), p2]
      · rw [q3, f1 _ (by omega), q4, f1 _ (by omega), q5, f1 _ (by omega)]
        exact p3
  · refine ⟨?_, s2, fun w hw => ?_, s4⟩
    · simp (disch := omega) only [pw_s, gx_r_n]
      rw [q _ (by omega), s1]
    · simp (disch := omega) only [pw_n, gx_r_s, pk_cpy_in, Nat.zero_add, Nat.sub_zero]
      rw [q _ (by omega), s3 w hw]
theorem pl_rec {hs : Nat} (hs5 : hs < 5) {k : gx_M → Int32 → Option (Int32 × gx_M)} : ∀ (m n i : Nat) (μ : gx_M), μ 0 3 = nI hs → i + m = 301 → m < n → ∃ μ', lf_X7_records_51 gl_kd 0 k n μ (nI i) = k μ' (nI 301) ∧ (∀ a, a ≠ 2 → μ' a = μ a) ∧ (∀ q, i ≤ q → q < 301 → μ' 2 (301 * hs + q) = μ 1 (q)) ∧ (∀ p, (p < 301 * hs + i ∨ 301 * hs + 301 ≤ p) → μ' 2 p = μ 2 p) := by
  intro m
  induction m with
  | zero =>
    intro n i μ h3 hi hn
    obtain ⟨n, rfl⟩ : ∃ q, n = q + 1 := ⟨n - 1, by omega⟩
    have e : i = 301 := by omega
    subst e
    refine ⟨μ, ?_, fun _ _ => rfl, fun q h1 h2 => absurd h2 (by omega), fun _ _ => rfl⟩
    rw [lf_X7_records_51, if_pos (show (301 : Int32) ≤ nI 301 by decide)]
  | succ m ih =>
    intro n i μ h3 hi hn
    obtain ⟨n, rfl⟩ : ∃ q, n = q + 1 := ⟨n - 1, by omega⟩
    rw [lf_X7_records_51, if_neg (show ¬ (301 : Int32) ≤ nI i from nI_ge (b := 301) (by omega) (by omega)), h3, show (301 : Int32) = nI 301 from rfl, pk_mul, nI_add, if_pos (pm_c i (by omega)), if_pos (pm_c2 (301 * hs + i) (by omega)), nI_clamp (by omega), nI_clamp (by omega), nI_1]
    obtain ⟨μ', e1, e2, e3, e4⟩ := ih n (i + 1) (gx_u μ 2 (301 * hs + i) (μ 1 (i))) (by rw [gx_u_n (by decide)]; exact h3) (by omega) (by omega)
    refine ⟨μ', e1, fun a ha => by rw [e2 a ha, gx_u_n ha], fun q h1 h2 => ?_, fun p hp => by rw [e4 p (by omega), pw_n (Or.inr (by omega))]⟩
    by_cases hq : q = i
    · subst hq
      rw [e4 (301 * hs + q) (by omega), pw_s]
    · rw [e3 q (by omega) h2, gx_u_n (by decide)]
theorem pl_und {hs : Nat} (hs5 : hs < 5) {k : gx_M → Int32 → Option (Int32 × gx_M)} : ∀ (m n i : Nat) (μ : gx_M), μ 0 3 = nI hs → i + m = 301 → m < n → ∃ μ', lf_X7_undo_22 gl_kd 0 k n μ (nI i) = k μ' (nI 301) ∧ (∀ a, a ≠ 1 → μ' a = μ a) ∧ (∀ q, i ≤ q → q < 301 → μ' 1 (q) = μ 2 (301 * hs + q)) ∧ (∀ p, (p < i ∨ 301 ≤ p) → μ' 1 p = μ 1 p) := by
  intro m
  induction m with
  | zero =>
    intro n i μ h3 hi hn
    obtain ⟨n, rfl⟩ : ∃ q, n = q + 1 := ⟨n - 1, by omega⟩
    have e : i = 301 := by omega
    subst e
    refine ⟨μ, ?_, fun _ _ => rfl, fun q h1 h2 => absurd h2 (by omega), fun _ _ => rfl⟩
    rw [lf_X7_undo_22, if_pos (show (301 : Int32) ≤ nI 301 by decide)]
  | succ m ih =>
    intro n i μ h3 hi hn
    obtain ⟨n, rfl⟩ : ∃ q, n = q + 1 := ⟨n - 1, by omega⟩
    rw [lf_X7_undo_22, if_neg (show ¬ (301 : Int32) ≤ nI i from nI_ge (b := 301) (by omega) (by omega)), h3, show (301 : Int32) = nI 301 from rfl, pk_mul, nI_add, if_pos (pm_c2 (301 * hs + i) (by omega)), if_pos (pm_c i (by omega)), nI_clamp (by omega), nI_clamp (by omega), nI_1]
    obtain ⟨μ', e1, e2, e3, e4⟩ := ih n (i + 1) (gx_u μ 1 (i) (μ 2 (301 * hs + i))) (by rw [gx_u_n (by decide)]; exact h3) (by omega) (by omega)
    refine ⟨μ', e1, fun a ha => by rw [e2 a ha, gx_u_n ha], fun q h1 h2 => ?_, fun p hp => by rw [e4 p (by omega), pw_n (Or.inr (by omega))]⟩
    by_cases hq : q = i
    · subst hq
      rw [e4 (q) (by omega), pw_s]
    · rw [e3 q (by omega) h2, gx_u_n (by decide)]
theorem pl_lay {k : gx_M → Int32 → Option (Int32 × gx_M)} : ∀ (m n i : Nat) (μ : gx_M), i + m = 301 → m < n → ∃ μ', lf_X7_laysAside_2 gl_kd 0 k n μ (nI i) = k μ' (nI 301) ∧ (∀ a, a ≠ 3 → μ' a = μ a) ∧ (∀ q, i ≤ q → q < 301 → μ' 3 (q) = μ 1 (q)) ∧ (∀ p, (p < i ∨ 301 ≤ p) → μ' 3 p = μ 3 p) := by
  intro m
  induction m with
  | zero =>
    intro n i μ hi hn
    obtain ⟨n, rfl⟩ : ∃ q, n = q + 1 := ⟨n - 1, by omega⟩
    have e : i = 301 := by omega
    subst e
    refine ⟨μ, ?_, fun _ _ => rfl, fun q h1 h2 => absurd h2 (by omega), fun _ _ => rfl⟩
    rw [lf_X7_laysAside_2, if_pos (show (301 : Int32) ≤ nI 301 by decide)]
  | succ m ih =>
    intro n i μ hi hn
    obtain ⟨n, rfl⟩ : ∃ q, n = q + 1 := ⟨n - 1, by omega⟩
    rw [lf_X7_laysAside_2, if_neg (show ¬ (301 : Int32) ≤ nI i from nI_ge (b := 301) (by omega) (by omega)), if_pos (pm_c i (by omega)), if_pos (pm_c3 i (by omega)), nI_clamp (by omega), nI_1]
    obtain ⟨μ', e1, e2, e3, e4⟩ := ih n (i + 1) (gx_u μ 3 (i) (μ 1 (i))) (by omega) (by omega)
    refine ⟨μ', e1, fun a ha => by rw [e2 a ha, gx_u_n ha], fun q h1 h2 => ?_, fun p hp => by rw [e4 p (by omega), pw_n (Or.inr (by omega))]⟩
    by_cases hq : q = i
    · subst hq
      rw [e4 (q) (by omega), pw_s]
    · rw [e3 q (by omega) h2, gx_u_n (by decide)]
theorem pl_brb {k : gx_M → Int32 → Option (Int32 × gx_M)} : ∀ (m n i : Nat) (μ : gx_M), i + m = 301 → m < n → ∃ μ', lf_X7_bringsBack_2 gl_kd 0 k n μ (nI i) = k μ' (nI 301) ∧ (∀ a, a ≠ 1 → μ' a = μ a) ∧ (∀ q, i ≤ q → q < 301 → μ' 1 (q) = μ 3 (q)) ∧ (∀ p, (p < i ∨ 301 ≤ p) → μ' 1 p = μ 1 p) := by
  intro m
  induction m with
  | zero =>
    intro n i μ hi hn
    obtain ⟨n, rfl⟩ : ∃ q, n = q + 1 := ⟨n - 1, by omega⟩
    have e : i = 301 := by omega
    subst e
    refine ⟨μ, ?_, fun _ _ => rfl, fun q h1 h2 => absurd h2 (by omega), fun _ _ => rfl⟩
    rw [lf_X7_bringsBack_2, if_pos (show (301 : Int32) ≤ nI 301 by decide)]
  | succ m ih =>
    intro n i μ hi hn
    obtain ⟨n, rfl⟩ : ∃ q, n = q + 1 := ⟨n - 1, by omega⟩
    rw [lf_X7_bringsBack_2, if_neg (show ¬ (301 : Int32) ≤ nI i from nI_ge (b := 301) (by omega) (by omega)), if_pos (pm_c3 i (by omega)), if_pos (pm_c i (by omega)), nI_clamp (by omega), nI_1]
    obtain ⟨μ', e1, e2, e3, e4⟩ := ih n (i + 1) (gx_u μ 1 (i) (μ 3 (i))) (by omega) (by omega)
    refine ⟨μ', e1, fun a ha => by rw [e2 a ha, gx_u_n ha], fun q h1 h2 => ?_, fun p hp => by rw [e4 p (by omega), pw_n (Or.inr (by omega))]⟩
    by_cases hq : q = i
    · subst hq
      rw [e4 (q) (by omega), pw_s]
    · rw [e3 q (by omega) h2, gx_u_n (by decide)]
theorem pl_shf {k : gx_M → Int32 → Option (Int32 × gx_M)} : ∀ (m n i : Nat) (μ : gx_M), i + m = 1204 → m < n → ∃ μ', lf_X7_records_10 gl_kd 0 k n μ (nI i) = k μ' (nI 1204) ∧ (∀ a, a ≠ 2 → μ' a = μ a) ∧ (∀ q, i ≤ q → q < 1204 → μ' 2 q = μ 2 (q + 301)) ∧ (∀ p, (p < i ∨ 1204 ≤ p) → μ' 2 p = μ 2 p) := by
  intro m
  induction m with
  | zero =>
    intro n i μ hi hn
    obtain ⟨n, rfl⟩ : ∃ q, n = q + 1 := ⟨n - 1, by omega⟩
    have e : i = 1204 := by omega
    subst e
    refine ⟨μ, ?_, fun _ _ => rfl, fun q h1 h2 => absurd h2 (by omega), fun _ _ => rfl⟩
    rw [lf_X7_records_10, if_pos (show (1204 : Int32) ≤ nI 1204 by decide)]
  | succ m ih =>
    intro n i μ hi hn
    obtain ⟨n, rfl⟩ : ∃ q, n = q + 1 := ⟨n - 1, by omega⟩
    rw [lf_X7_records_10, if_neg (show ¬ (1204 : Int32) ≤ nI i from nI_ge (b := 1204) (by omega) (by omega)), show (301 : Int32) = nI 301 from rfl, nI_add, if_pos (pm_c2 (i + 301) (by omega)), if_pos (pm_c2 i (by omega)), nI_clamp (by omega), nI_clamp (by omega), nI_1]
    obtain ⟨μ', e1, e2, e3, e4⟩ := ih n (i + 1) (gx_u μ 2 i (μ 2 (i + 301))) (by omega) (by omega)
    refine ⟨μ', e1, fun a ha => by rw [e2 a ha, gx_u_n ha], fun q h1 h2 => ?_, fun p hp => by rw [e4 p (by omega), pw_n (Or.inr (by omega))]⟩
    by_cases hq : q = i
    · subst hq
      rw [e4 q (by omega), pw_s]
    · rw [e3 q (by omega) h2, pw_n (Or.inr (by omega))]
/-- what records does to the past -/
def pRec (past s past' : Nat → Int32) (hs hs' : Nat) : Prop :=
  (hs < 5 ∧ hs' = hs + 1 ∧ (∀ j q, j < hs → q < 301 → past' (301 * j + q) = past (301 * j + q)) ∧ ∀ q, q < 301 → past' (301 * hs + q) = s q) ∨
  (hs = 5 ∧ hs' = 5 ∧ (∀ j q, j < 4 → q < 301 → past' (301 * j + q) = past (301 * (j + 1) + q)) ∧ ∀ q, q < 301 → past' (301 * 4 + q) = s q)
theorem pm_rec {ρ : gx_M} {hs : Nat} (h3 : ρ 0 3 = nI hs) (h5 : hs ≤ 5) : ∃ ρ' hs', fn_X7_records gl_kd ρ 0 = some (0, ρ') ∧ pRec (ρ 2) (ρ 1) (ρ' 2) hs hs' ∧ ρ' 0 3 = nI hs' ∧ (∀ a, a ≠ 0 → a ≠ 2 → ρ' a = ρ a) ∧ (∀ j, j ≠ 3 → ρ' 0 j = ρ 0 j) := by
  unfold fn_X7_records
  by_cases e : hs = 5
  · subst e
    rw [if_pos (show ρ 0 3 = 5 from h3)]
    obtain ⟨m1, e1, f1, g1, _⟩ := pl_shf (k := fun m6 y7 =>
      lf_X7_records_51 gl_kd 0 (fun m8 y9 =>
        some (0, (gx_u m8 0 3 (m8 0 3 + 1)))) gx_F (gx_u m6 0 3 (m6 0 3 - 1)) 0) 1204 gx_F 0 ρ (by omega) (by unfold gx_F; omega)
    have h4 : gx_u m1 0 3 (m1 0 3 - 1) 0 3 = nI 4 := by
      rw [pw_s, f1 0 (by decide), h3]
      exact nI_pred 4
    obtain ⟨m2, e2, f2, g2, l2⟩ := pl_rec (hs := 4) (by decide) (k := fun m8 y9 => some (0, (gx_u m8 0 3 (m8 0 3 + 1)))) 301 gx_F 0 (gx_u m1 0 3 (m1 0 3 - 1)) h4 (by omega) (by unfold gx_F; omega)
    refine ⟨_, 5, e1.trans e2, Or.inr ⟨rfl, rfl, fun j q hj hq => ?_, fun q hq => ?_⟩, ?_, fun a h0 h2 => ?_, fun j hj => ?_⟩
    · rw [gx_u_n (by decide), l2 _ (by omega), gx_u_n (by decide), g1 _ (by omega) (by omega), show 301 * (j + 1) + q = 301 * j + q + 301 by omega]
    · rw [gx_u_n (by decide), g2 q (by omega) hq, gx_u_n (by decide), f1 1 (by decide)]
    · rw [pw_s, f2 0 (by decide), h4]
      exact nI_1 4
    · rw [gx_u_n h0, f2 a h2, gx_u_n h0, f1 a h2]
    · rw [pw_n (Or.inr hj), f2 0 (by decide), pw_n (Or.inr hj), f1 0 (by decide)]
  · rw [if_neg (show ¬ ρ 0 3 = 5 from fun q => e ((nI_eq (by omega) (by omega)).1 (h3.symm.trans q)))]
    obtain ⟨m2, e2, f2, g2, l2⟩ := pl_rec (hs := hs) (by omega) (k := fun m8 y9 => some (0, (gx_u m8 0 3 (m8 0 3 + 1)))) 301 gx_F 0 ρ h3 (by omega) (by unfold gx_F; omega)
    refine ⟨_, hs + 1, e2, Or.inl ⟨by omega, rfl, fun j q hj hq => ?_, fun q hq => ?_⟩, ?_, fun a h0 h2 => ?_, fun j hj => ?_⟩
    · rw [gx_u_n (by decide), l2 _ (by omega)]
    · rw [gx_u_n (by decide), g2 q (by omega) hq]
    · rw [pw_s, f2 0 (by decide), h3, nI_1]
    · rw [gx_u_n h0, f2 a h2]
    · rw [pw_n (Or.inr hj), f2 0 (by decide)]
def SH (κ : gx_M) (past : Nat → Int32) (k : Int32) : Prop := ∃ hs nx, hs ≤ 5 ∧ nx < 5 ∧ κ 57 1 = nI nx ∧ κ 57 2 = nI hs ∧ k = nI hs ∧ ∀ j, j < hs → RT κ (59 + 25 * ((nx + 5 - hs + j) % 5)) (fun q => past (301 * j + q))
def SX (κ : gx_M) (ln : Int32) (tx : Nat → Int32) : Prop := ∃ n, n ≤ 100 ∧ κ 184 1 = nI n ∧ ln = nI n ∧ (∀ j, j < n → κ 186 j = tx j) ∧ (∀ j, n ≤ j → j < 100 → κ 186 j = 0)
theorem SH_c {κ κ' : gx_M} {past past' : Nat → Int32} {k : Int32} (h : SH κ past k) (hm : ∀ a, 57 ≤ a → a < 184 → κ' a = κ a) (hp : ∀ q, q < 1505 → past' q = past q) : SH κ' past' k := by
  obtain ⟨hs, nx, h1, h2, h3, h4, h5, h6⟩ := h
  refine ⟨hs, nx, h1, h2, by rw [hm 57 (by decide) (by decide), h3], by rw [hm 57 (by decide) (by decide), h4], h5, fun j hj => RT_c (h6 j hj) (fun a ha hb => hm a (by omega) (by omega)) (fun q hq => hp _ (by omega))⟩
theorem SX_c {κ κ' : gx_M} {ln : Int32} {tx tx' : Nat → Int32} (h : SX κ ln tx) (h1 : κ' 184 1 = κ 184 1) (h2 : κ' 186 = κ 186) (hp : ∀ q, q < 100 → tx' q = tx q) : SX κ' ln tx' := by
  obtain ⟨n, a1, a2, a3, a4, a5⟩ := h
  exact ⟨n, a1, by rw [h1, a2], a3, fun j hj => by rw [h2, a4 j hj, hp j (by omega)], fun j h1 h3 => by rw [h2, a5 j h1 h3]⟩
theorem pg_rec {κ : gx_M} {s past : Nat → Int32} {k : Int32} (h : RT κ 7 s) (hh : SH κ past k) : ∃ κ', fn_X1_record gl_kd κ 57 7 = some (0, κ') ∧ (∀ a, (a < 57 ∨ 184 ≤ a) → κ' a = κ a) ∧ ∀ past' hs hs', k = nI hs → hs ≤ 5 → pRec past s past' hs hs' → SH κ' past' (nI hs') := by
  obtain ⟨hs, nx, h1, h2, h3, h4, h5, h6⟩ := hh
  obtain ⟨m, e, f, g⟩ := pg_cpyT (μ := κ) (c := 59 + 25 * nx) (c1 := 7) (pKT_h nx h2) pKT_7 (by omega) h
  unfold fn_X1_record
  rw [h3, if_pos (pg_ix h2 (by decide)), nI_clamp (by omega), show 57 + 1 + 1 + 25 * nx = 59 + 25 * nx by omega, e, pb_s]
  have q1 : m 57 1 = nI nx := by rw [f 57 (by omega), h3]
  have q2 : m 57 2 = nI hs := by rw [f 57 (by omega), h4]
  have q3 : m 57 1 + 1 - (m 57 1 + 1) / 5 * 5 = nI ((nx + 1) % 5) := by
    rw [q1, nI_1, show (5 : Int32) = nI 5 from rfl, pk_rem (by omega) (by decide) (by decide)]
  rw [q3]
  have q4 : (if 5 < gx_u m 57 1 (nI ((nx + 1) % 5)) 57 2 + 1 then 5 else gx_u m 57 1 (nI ((nx + 1) % 5)) 57 2 + 1) = nI (if 5 < hs + 1 then 5 else hs + 1) := by
    rw [pw_n (Or.inr (by decide)), q2, nI_1]
    by_cases q : 5 < hs + 1
    · rw [if_pos (show (5 : Int32) < nI (hs + 1) from nI_lt q (by omega)), if_pos q]
      rfl
    · rw [if_neg (show ¬ (5 : Int32) < nI (hs + 1) from nI_nlt (a := 5) (by omega) (by decide)), if_neg q]
  rw [q4]
  refine ⟨_, rfl, fun a ha => ?_, fun past' hs2 hs' hk h52 hr => ?_⟩
  · rw [gx_u_n (by omega), gx_u_n (by omega), f a (by omega)]
  · have e0 : hs2 = hs := ((nI_eq (by omega) (by omega)).1 (h5.symm.trans hk)).symm
    subst e0
    have hfr : ∀ a, a ≠ 57 → (a < 59 + 25 * nx ∨ 59 + 25 * nx + 25 ≤ a) → gx_u (gx_u m 57 1 (nI ((nx + 1) % 5))) 57 2 (nI (if 5 < hs2 + 1 then 5 else hs2 + 1)) a = κ a := fun a h0 ha => by rw [gx_u_n h0, gx_u_n h0, f a ha]
    have hme : ∀ a, a ≠ 57 → gx_u (gx_u m 57 1 (nI ((nx + 1) % 5))) 57 2 (nI (if 5 < hs2 + 1 then 5 else hs2 + 1)) a = m a := fun a h0 => by rw [gx_u_n h0, gx_u_n h0]
    rcases hr with ⟨r1, r2, r3, r4⟩ | ⟨r1, r2, r3, r4⟩
    · refine ⟨hs', (nx + 1) % 5, by omega, by omega, ?_, ?_, rfl, fun j hj => ?_⟩
      · rw [pw_n (Or.inr (by decide)), pw_s]
      · rw [pw_s, r2, if_neg (by omega)]
      · by_cases ej : j < hs2
        · rw [show ((nx + 1) % 5 + 5 - hs' + j) % 5 = (nx + 5 - hs2 + j) % 5 by omega]
          exact RT_c (h6 j ej) (fun a ha hb => hfr a (by omega) (by omega)) (fun q hq => r3 j q ej hq)
        · rw [show ((nx + 1) % 5 + 5 - hs' + j) % 5 = nx by omega]
          exact RT_c g (fun a ha hb => hme a (by omega)) (fun q hq => by rw [show j = hs2 by omega]; exact r4 q hq)
    · refine ⟨hs', (nx + 1) % 5, by omega, by omega, ?_, ?_, rfl, fun j hj => ?_⟩
      · rw [pw_n (Or.inr (by decide)), pw_s]
      · rw [pw_s, r2, if_pos (by omega)]
      · by_cases ej : j < 4
        · rw [show ((nx + 1) % 5 + 5 - hs' + j) % 5 = (nx + 5 - hs2 + (j + 1)) % 5 by omega]
          exact RT_c (h6 (j + 1) (by omega)) (fun a ha hb => hfr a (by omega) (by omega)) (fun q hq => r3 j q ej hq)
        · rw [show ((nx + 1) % 5 + 5 - hs' + j) % 5 = nx by omega]
          exact RT_c g (fun a ha hb => hme a (by omega)) (fun q hq => by rw [show j = 4 by omega]; exact r4 q hq)
