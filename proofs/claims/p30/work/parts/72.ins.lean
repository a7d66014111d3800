/-! ===== a new note ===== -/
theorem nI_m1 (n : Nat) : nI (n + 1) + (-1) = nI n := by
  have := nI_pred n
  rw [Int32.sub_eq_add_neg] at this
  exact this
theorem pl_ins {c r p : Nat} {q2 q3 : Int32} {k : gx_M → Int32 → Option (Int32 × gx_M)} (hr : c + 1 = r) (hk : gl_kd r = 140) : ∀ (m n : Nat) (μ : gx_M), m < n → p + m < 40 → ∃ μ', lf_X3_insert_3 gl_kd c (nI p) q2 q3 k n μ (nI (p + m)) = k μ' (nI p) ∧ (∀ a, a ≠ r → μ' a = μ a) ∧ (∀ q, p < q → q ≤ p + m → μ' r q = μ r (q - 1)) ∧ (∀ q, (q ≤ p ∨ p + m < q) → μ' r q = μ r q) := by
  intro m
  induction m with
  | zero =>
    intro n μ hm hp
    obtain ⟨n, rfl⟩ : ∃ q, n = q + 1 := ⟨n - 1, by omega⟩
    refine ⟨μ, ?_, fun _ _ => rfl, fun q h1 h2 => absurd h2 (by omega), fun _ _ => rfl⟩
    show lf_X3_insert_3 gl_kd c (nI p) q2 q3 k (n + 1) μ (nI p) = _
    rw [lf_X3_insert_3, if_pos (nI_le (Nat.le_refl _) (by omega))]
  | succ m ih =>
    intro n μ hm hp
    obtain ⟨n, rfl⟩ : ∃ q, n = q + 1 := ⟨n - 1, by omega⟩
    rw [show p + (m + 1) = p + m + 1 from rfl, lf_X3_insert_3, if_neg (nI_ge (by omega) (by omega)), nI_pred, nI_m1, pg_get r 40 hr hk (i := p + m) (by omega) (by decide), pb_s, pg_put r 40 hr hk (i := p + m + 1) (by omega) (by decide), pb_s]
    obtain ⟨μ', e1, e2, e3, e4⟩ := ih n (gx_u μ r (p + m + 1) (μ r (p + m))) (by omega) (by omega)
    refine ⟨μ', e1, fun a ha => by rw [e2 a ha, gx_u_n ha], fun q h1 h2 => ?_, fun q hq => by rw [e4 q (by omega), pw_n (Or.inr (by omega))]⟩
    by_cases hq : q = p + m + 1
    · subst hq
      rw [e4 _ (by omega), pw_s]
      rfl
    · rw [e3 q h1 (by omega), pw_n (Or.inr (by omega))]
theorem pg_ins {c p nn : Nat} {μ : gx_M} {v x : Int32} (r : Nat) (hr : c + 1 = r) (hk : gl_kd r = 140) (hp : p ≤ nn) (hn : nn < 40) (hx : x = nI nn) : ∃ μ', fn_X3_insert gl_kd μ c (nI p) v x = some (0, μ') ∧ (∀ a, a ≠ r → μ' a = μ a) ∧ (∀ q, p < q → q ≤ nn → μ' r q = μ r (q - 1)) ∧ (∀ q, q < p → μ' r q = μ r q) ∧ μ' r p = v := by
  subst hx
  unfold fn_X3_insert
  obtain ⟨μ', e1, e2, e3, e4⟩ := pl_ins (p := p) (q2 := v) (q3 := nI nn) (k := fun m6 y7 => gx_b (fn_X3_put gl_kd m6 c (nI p) v) fun _ m9 => some (0, m9)) hr hk (nn - p) gx_F μ (by unfold gx_F; omega) (by omega)
  rw [show p + (nn - p) = nn by omega] at e1 e3 e4
  rw [e1, pg_put r 40 hr hk (i := p) (by omega) (by decide), pb_s]
  refine ⟨_, rfl, fun a ha => by rw [gx_u_n ha, e2 a ha], fun q h1 h2 => by rw [pw_n (Or.inr (by omega)), e3 q h1 h2], fun q hq => by rw [pw_n (Or.inr (by omega)), e4 q (by omega)], pw_s _ _ _ _⟩
/-- where a note goes -/
def pPl (f : Nat → Int32) (nn p : Nat) (v : Int32) : Prop := p ≤ nn ∧ (∀ x, x < p → ¬ v ≤ f x) ∧ (∀ x, p ≤ x → x < nn → v ≤ f x)
theorem pl_plc {μ : gx_M} {c nn : Nat} {v : Int32} {k : gx_M → Int32 → Option (Int32 × gx_M)} (hk : pKN c) (h5 : μ c 5 = nI nn) (hn : nn ≤ 40) (hs : ∀ i j, i < j → j < nn → μ (c + 2) i < μ (c + 2) j) : ∀ (m n i : Nat), i + m = nn → m < n → (∀ x, x < i → ¬ v ≤ μ (c + 2) x) → ∃ p, lf_X2_placeFor_2 gl_kd c v k n μ (nI i) = k μ (nI p) ∧ pPl (μ (c + 2)) nn p v := by
  intro m
  induction m with
  | zero =>
    intro n i hi hm hx
    obtain ⟨n, rfl⟩ : ∃ q, n = q + 1 := ⟨n - 1, by omega⟩
    have e : i = nn := by omega
    subst e
    refine ⟨i, ?_, Nat.le_refl _, hx, fun x h1 h2 => absurd h2 (by omega)⟩
    rw [lf_X2_placeFor_2, h5, if_pos (nI_le (Nat.le_refl _) (by omega))]
  | succ m ih =>
    intro n i hi hm hx
    obtain ⟨n, rfl⟩ : ∃ q, n = q + 1 := ⟨n - 1, by omega⟩
    rw [lf_X2_placeFor_2, h5, if_neg (nI_ge (by omega) (by omega)), pg_get (c + 2) 40 rfl hk.1 (i := i) (by omega) (by decide), pb_s, nI_1]
    by_cases e : v ≤ μ (c + 2) i
    · refine ⟨i, by rw [if_pos e], by omega, hx, fun x h1 h2 => ?_⟩
      by_cases q : x = i
      · subst q; exact e
      · exact Int32.le_trans e (Int32.le_of_lt (hs i x (by omega) h2))
    · rw [if_neg e]
      exact ih n (i + 1) (by omega) (by omega) (fun x hx2 => by
        by_cases q : x = i
        · subst q; exact e
        · exact hx x (by omega))
theorem pg_plc {μ : gx_M} {c nn : Nat} {v : Int32} (hk : pKN c) (h5 : μ c 5 = nI nn) (hn : nn ≤ 40) (hs : ∀ i j, i < j → j < nn → μ (c + 2) i < μ (c + 2) j) : ∃ p, fn_X2_placeFor gl_kd μ c v = some (nI p, μ) ∧ pPl (μ (c + 2)) nn p v := by
  unfold fn_X2_placeFor
  exact pl_plc (k := fun m5 y6 => some (y6, m5)) hk h5 hn hs nn gx_F 0 (by omega) (by unfold gx_F; omega) (fun x hx => absurd hx (by omega))
/-- is there a note at that time? -/
def pAt (f : Nat → Int32) (nn : Nat) (v : Int32) : Prop := ∃ x, x < nn ∧ f x = v
theorem pg_hasAt {μ : gx_M} {c nn : Nat} {v : Int32} (hk : pKN c) (h5 : μ c 5 = nI nn) (hn : nn ≤ 40) (hs : ∀ i j, i < j → j < nn → μ (c + 2) i < μ (c + 2) j) : (pAt (μ (c + 2)) nn v ∧ fn_X2_hasNoteAt gl_kd μ c v = some (1, μ)) ∨ (¬ pAt (μ (c + 2)) nn v ∧ fn_X2_hasNoteAt gl_kd μ c v = some (0, μ)) := by
  obtain ⟨p, e, h1, h2, h3⟩ := pg_plc (v := v) hk h5 hn hs
  unfold fn_X2_hasNoteAt
  rw [e, pb_s, h5]
  by_cases q : nn ≤ p
  · refine Or.inr ⟨fun ⟨x, hx, hv⟩ => h2 x (by omega) (by rw [hv]; exact Int32.le_refl _), by rw [if_pos (nI_le q (by omega))]⟩
  · rw [if_neg (nI_ge (by omega) (by omega)), pg_get (c + 2) 40 rfl hk.1 (i := p) (by omega) (by decide), pb_s]
    by_cases w : μ (c + 2) p = v
    · exact Or.inl ⟨⟨p, by omega, w⟩, by rw [if_pos w]⟩
    · refine Or.inr ⟨fun ⟨x, hx, hv⟩ => ?_, by rw [if_neg w]⟩
      by_cases z : x < p
      · exact h2 x z (by rw [hv]; exact Int32.le_refl _)
      · by_cases z2 : x = p
        · subst z2; exact w hv
        · have a1 := h3 p (Nat.le_refl _) (by omega)
          have a2 := hs p x (by omega) hx
          rw [hv] at a2
          exact absurd (Int32.lt_of_le_of_lt a1 a2) (Int32.lt_irrefl)
theorem pl_nat {μ : gx_M} {nn : Nat} {v : Int32} {k : gx_M → Int32 → Option (Int32 × gx_M)} (h2 : μ 1 2 = nI nn) (hn : nn ≤ 40) : ∀ (m n i : Nat), i + m = nn → m < n → (∀ x, x < i → ¬ μ 1 (61 + 6 * x) = v) → (∃ x, x < nn ∧ μ 1 (61 + 6 * x) = v ∧ (∀ y, y < x → ¬ μ 1 (61 + 6 * y) = v) ∧ lf_X7_noteAt_2 gl_kd 0 v k n μ (nI i) = some (nI x, μ)) ∨ ((∀ x, x < nn → ¬ μ 1 (61 + 6 * x) = v) ∧ lf_X7_noteAt_2 gl_kd 0 v k n μ (nI i) = k μ (nI nn)) := by
  intro m
  induction m with
  | zero =>
    intro n i hi hm hx
    obtain ⟨n, rfl⟩ : ∃ q, n = q + 1 := ⟨n - 1, by omega⟩
    have e : i = nn := by omega
    subst e
    refine Or.inr ⟨hx, ?_⟩
    rw [lf_X7_noteAt_2]
    simp only [Nat.zero_add, pk1, px2, pt2, if_true, eq_self, h2]
    rw [if_pos (nI_le (Nat.le_refl _) (by omega))]
  | succ m ih =>
    intro n i hi hm hx
    obtain ⟨n, rfl⟩ : ∃ q, n = q + 1 := ⟨n - 1, by omega⟩
    rw [lf_X7_noteAt_2]
    simp only [Nat.zero_add, pk1, px2, pt2, if_true, eq_self, h2]
    rw [if_neg (nI_ge (by omega) (by omega)), pm_has0 (b := i) (by omega), pb_s, nI_1]
    by_cases e : μ 1 (61 + 6 * i) = v
    · exact Or.inl ⟨i, by omega, e, hx, by rw [if_pos e]⟩
    · rw [if_neg e]
      exact ih n (i + 1) (by omega) (by omega) (fun x hx2 => by
        by_cases q : x = i
        · subst q; exact e
        · exact hx x (by omega))
theorem pm_nat {μ : gx_M} {nn : Nat} {v : Int32} (h2 : μ 1 2 = nI nn) (hn : nn ≤ 40) : (∃ x, x < nn ∧ μ 1 (61 + 6 * x) = v ∧ (∀ y, y < x → ¬ μ 1 (61 + 6 * y) = v) ∧ fn_X7_noteAt gl_kd μ 0 v = some (nI x, μ)) ∨ ((∀ x, x < nn → ¬ μ 1 (61 + 6 * x) = v) ∧ fn_X7_noteAt gl_kd μ 0 v = some (-1, μ)) := by
  unfold fn_X7_noteAt
  exact pl_nat (v := v) (k := fun m5 y6 => some (-1, m5)) h2 hn nn gx_F 0 (by omega) (by unfold gx_F; omega) (fun x hx => absurd hx (by omega))
/-- the reference's row with a new note -/
def pIns (s s' : Nat → Int32) (nn p : Nat) (v h : Int32) : Prop := s' 2 = nI (nn + 1) ∧ (∀ q, q ≠ 2 → q < 61 + 6 * p → s' q = s q) ∧ (∀ q, p < q → q ≤ nn → ∀ w, w < 6 → s' (61 + 6 * q + w) = s (61 + 6 * (q - 1) + w)) ∧ s' (61 + 6 * p) = v ∧ s' (61 + 6 * p + 1) = h ∧ s' (61 + 6 * p + 2) = 0
theorem pl_cp6 {x : Nat} {q1 q2 : Int32} {k : gx_M → Int32 → Option (Int32 × gx_M)} (hx : x + 1 < 40) : ∀ (m n i : Nat) (μ : gx_M), i + m = 6 → m < n → ∃ μ', lf_X7_newNote_26 gl_kd 0 q1 q2 (nI (x + 1)) k n μ (nI i) = k μ' (nI 6) ∧ (∀ a, a ≠ 1 → μ' a = μ a) ∧ (∀ w, i ≤ w → w < 6 → μ' 1 (61 + 6 * (x + 1) + w) = μ 1 (61 + 6 * x + w)) ∧ (∀ j, (j < 61 + 6 * (x + 1) + i ∨ 67 + 6 * (x + 1) ≤ j) → μ' 1 j = μ 1 j) := by
  intro m
  induction m with
  | zero =>
    intro n i μ hi hm
    obtain ⟨n, rfl⟩ : ∃ q, n = q + 1 := ⟨n - 1, by omega⟩
    have e : i = 6 := by omega
    subst e
    refine ⟨μ, ?_, fun _ _ => rfl, fun q h1 h2 => absurd h2 (by omega), fun _ _ => rfl⟩
    rw [lf_X7_newNote_26, if_pos (show (6 : Int32) ≤ nI 6 by decide)]
  | succ m ih =>
    intro n i μ hi hm
    obtain ⟨n, rfl⟩ : ∃ q, n = q + 1 := ⟨n - 1, by omega⟩
    rw [lf_X7_newNote_26, if_neg (show ¬ (6 : Int32) ≤ nI i from nI_ge (b := 6) (by omega) (by omega)), nI_pred, pm_has (wi := nI i) i rfl (by omega), pb_s, pm_lay (wi := nI i) i rfl (by omega), pb_s, nI_1]
    obtain ⟨μ', e1, e2, e3, e4⟩ := ih n (i + 1) (gx_u μ 1 (61 + 6 * (x + 1) + i) (μ 1 (61 + 6 * x + i))) (by omega) (by omega)
    refine ⟨μ', e1, fun a ha => by rw [e2 a ha, gx_u_n ha], fun w h1 h2 => ?_, fun q hq => by rw [e4 q (by omega), pw_n (Or.inr (by omega))]⟩
    by_cases hq : w = i
    · subst hq
      rw [e4 _ (by omega), pw_s]
    · rw [e3 w (by omega) h2, pw_n (Or.inr (by omega))]
theorem pl_new {p : Nat} {v h : Int32} {k : gx_M → Int32 → Option (Int32 × gx_M)} : ∀ (m n : Nat) (μ : gx_M), m < n → p + m < 40 → (∀ x, p ≤ x → x < p + m → ¬ μ 1 (61 + 6 * x) ≤ v) → (0 < p → μ 1 (61 + 6 * (p - 1)) ≤ v) → ∃ μ', lf_X7_newNote_7 gl_kd 0 v h k n μ (nI (p + m)) = k μ' (nI p) ∧ (∀ a, a ≠ 1 → μ' a = μ a) ∧ (∀ q, p < q → q ≤ p + m → ∀ w, w < 6 → μ' 1 (61 + 6 * q + w) = μ 1 (61 + 6 * (q - 1) + w)) ∧ (∀ j, (j < 67 + 6 * p ∨ 67 + 6 * (p + m) ≤ j) → μ' 1 j = μ 1 j) := by
  intro m
  induction m with
  | zero =>
    intro n μ hm hp hx h0
    obtain ⟨n, rfl⟩ : ∃ q, n = q + 1 := ⟨n - 1, by omega⟩
    refine ⟨μ, ?_, fun _ _ => rfl, fun q h1 h2 => absurd h2 (by omega), fun _ _ => rfl⟩
    show lf_X7_newNote_7 gl_kd 0 v h k (n + 1) μ (nI p) = _
    rw [lf_X7_newNote_7]
    by_cases e : p = 0
    · subst e
      rw [if_pos (show nI 0 ≤ 0 by decide)]
    · obtain ⟨p, rfl⟩ : ∃ q, p = q + 1 := ⟨p - 1, by omega⟩
      rw [if_neg (nI_nle (by omega) (by omega)), nI_pred, pm_has0 (b := p) (by omega), pb_s, if_pos (show μ 1 (61 + 6 * p) ≤ v from h0 (by omega))]
  | succ m ih =>
    intro n μ hm hp hx h0
    obtain ⟨n, rfl⟩ : ∃ q, n = q + 1 := ⟨n - 1, by omega⟩
    rw [show p + (m + 1) = p + m + 1 from rfl, lf_X7_newNote_7, if_neg (nI_nle (by omega) (by omega)), nI_pred, nI_m1, pm_has0 (b := p + m) (by omega), pb_s, if_neg (hx (p + m) (by omega) (by omega))]
    obtain ⟨m1, f1, f2, f3, f4⟩ := pl_cp6 (x := p + m) (q1 := v) (q2 := h) (k := fun m10 y11 => lf_X7_newNote_7 gl_kd 0 v h k n m10 (nI (p + m))) (by omega) 6 gx_F 0 μ (by omega) (by unfold gx_F; omega)
    obtain ⟨μ', e1, e2, e3, e4⟩ := ih n m1 (by omega) (by omega) (fun x h1 h2 => by rw [f4 _ (by omega)]; exact hx x h1 (by omega)) (fun hp0 => by rw [f4 _ (by omega)]; exact h0 hp0)
    refine ⟨μ', f1.trans e1, fun a ha => by rw [e2 a ha, f2 a ha], fun q h1 h2 w hw => ?_, fun q hq => by rw [e4 q (by omega), f4 q (by omega)]⟩
    by_cases hq : q = p + m + 1
    · subst hq
      rw [e4 _ (by omega), f3 w (by omega) hw]
      rfl
    · rw [e3 q h1 (by omega) w hw, f4 _ (by omega)]
theorem pm_new {ρ : gx_M} {nn p : Nat} {v h : Int32} (h2 : ρ 1 2 = nI nn) (hn : nn < 40) (hp : pPl (fun x => ρ 1 (61 + 6 * x)) nn p v) (hno : ¬ pAt (fun x => ρ 1 (61 + 6 * x)) nn v) : ∃ ρ', fn_X7_newNote gl_kd ρ 0 v h = some (nI p, ρ') ∧ (∀ a, a ≠ 1 → ρ' a = ρ a) ∧ pIns (ρ 1) (ρ' 1) nn p v h := by
  obtain ⟨p1, p2, p3⟩ := hp
  unfold fn_X7_newNote
  rw [show gx_ix 2 (gl_kd (0 + 1) - 100) = true from px2, if_pos rfl, show Int32.toNatClampNeg 2 = 2 from pt2, show (0 + 1 : Nat) = 1 from rfl, h2]
  obtain ⟨m, e1, e2, e3, e4⟩ := pl_new (p := p) (v := v) (h := h) (k := fun m12 y13 => gx_b (fn_X7_lay gl_kd m12 0 y13 0 v) fun _ m15 => gx_b (fn_X7_lay gl_kd m15 0 y13 1 h) fun _ m17 => gx_b (fn_X7_lay gl_kd m17 0 y13 2 0) fun _ m19 => gx_b (fn_X7_lay gl_kd m19 0 y13 3 (-1)) fun _ m21 => gx_b (fn_X7_lay gl_kd m21 0 y13 4 0) fun _ m23 => gx_b (fn_X7_lay gl_kd m23 0 y13 5 0) fun _ m25 => (if true = true then (if true = true then some (y13, (gx_u m25 1 2 (m25 1 2 + 1))) else none) else none)) (nn - p) gx_F ρ (by unfold gx_F; omega) (by omega)
    (fun x h1 h2 q => hno ⟨x, by omega, Int32.le_antisymm q (p3 x h1 (by omega))⟩) (fun h0 => by
      rcases Int32.le_total (ρ 1 (61 + 6 * (p - 1))) v with q | q
      · exact q
      · exact absurd q (p2 (p - 1) (by omega)))
  rw [show p + (nn - p) = nn by omega] at e1 e3 e4
  rw [e1, pm_lay0 (b := p) (by omega), pb_s, pm_lay1 (b := p) (by omega), pb_s, pm_lay2 (b := p) (by omega), pb_s, pm_lay3 (b := p) (by omega), pb_s, pm_lay4 (b := p) (by omega), pb_s, pm_lay5 (b := p) (by omega), pb_s]
  simp (disch := omega) only [if_true, eq_self, pw_n]
  refine ⟨_, rfl, fun a ha => by simp (disch := omega) only [gx_u_n]; exact e2 a ha, ?_, fun q h1 h3 => ?_, fun q h1 h3 w hw => ?_, ?_, ?_, ?_⟩
  · rw [pw_s, e4 2 (by omega), h2, nI_1]
  · simp (disch := omega) only [pw_n]
    exact e4 q (by omega)
  · simp (disch := omega) only [pw_n]
    exact e3 q h1 h3 w hw
  all_goals simp (disch := omega) only [pw_s, pw_n]
