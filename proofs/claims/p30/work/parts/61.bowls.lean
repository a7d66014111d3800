/-! ===== bowls ===== -/
theorem pk1 : gl_kd 1 - 100 = 301 := rfl
theorem px0 : gx_ix 0 301 = true := by decide
theorem px1 : gx_ix 1 301 = true := by decide
theorem px2 : gx_ix 2 301 = true := by decide
theorem px3 : gx_ix 3 301 = true := by decide
theorem px4 : gx_ix 4 301 = true := by decide
theorem px5 : gx_ix 5 301 = true := by decide
theorem px6 : gx_ix 6 301 = true := by decide
theorem pt0 : Int32.toNatClampNeg 0 = 0 := by decide
theorem pt1 : Int32.toNatClampNeg 1 = 1 := by decide
theorem pt2 : Int32.toNatClampNeg 2 = 2 := by decide
theorem pt3 : Int32.toNatClampNeg 3 = 3 := by decide
theorem pt4 : Int32.toNatClampNeg 4 = 4 := by decide
theorem pt5 : Int32.toNatClampNeg 5 = 5 := by decide
theorem pt6 : Int32.toNatClampNeg 6 = 6 := by decide
/-- the reference's reads and writes at each place -/
theorem pm_of0 {μ : gx_M} {b : Nat} (h : b < 10) : fn_X7_of gl_kd μ 0 (nI b) 0 = some (μ 1 (11 + 5 * b), μ) := pm_of (wi := 0) 0 rfl (by omega)
theorem pm_put0 {μ : gx_M} {b : Nat} {v : Int32} (h : b < 10) : fn_X7_put gl_kd μ 0 (nI b) 0 v = some (0, gx_u μ 1 (11 + 5 * b) v) := pm_put (wi := 0) 0 rfl (by omega)
theorem pm_of1 {μ : gx_M} {b : Nat} (h : b < 10) : fn_X7_of gl_kd μ 0 (nI b) 1 = some (μ 1 (11 + 5 * b + 1), μ) := pm_of (wi := 1) 1 rfl (by omega)
theorem pm_put1 {μ : gx_M} {b : Nat} {v : Int32} (h : b < 10) : fn_X7_put gl_kd μ 0 (nI b) 1 v = some (0, gx_u μ 1 (11 + 5 * b + 1) v) := pm_put (wi := 1) 1 rfl (by omega)
theorem pm_of2 {μ : gx_M} {b : Nat} (h : b < 10) : fn_X7_of gl_kd μ 0 (nI b) 2 = some (μ 1 (11 + 5 * b + 2), μ) := pm_of (wi := 2) 2 rfl (by omega)
theorem pm_put2 {μ : gx_M} {b : Nat} {v : Int32} (h : b < 10) : fn_X7_put gl_kd μ 0 (nI b) 2 v = some (0, gx_u μ 1 (11 + 5 * b + 2) v) := pm_put (wi := 2) 2 rfl (by omega)
theorem pm_of3 {μ : gx_M} {b : Nat} (h : b < 10) : fn_X7_of gl_kd μ 0 (nI b) 3 = some (μ 1 (11 + 5 * b + 3), μ) := pm_of (wi := 3) 3 rfl (by omega)
theorem pm_put3 {μ : gx_M} {b : Nat} {v : Int32} (h : b < 10) : fn_X7_put gl_kd μ 0 (nI b) 3 v = some (0, gx_u μ 1 (11 + 5 * b + 3) v) := pm_put (wi := 3) 3 rfl (by omega)
theorem pm_of4 {μ : gx_M} {b : Nat} (h : b < 10) : fn_X7_of gl_kd μ 0 (nI b) 4 = some (μ 1 (11 + 5 * b + 4), μ) := pm_of (wi := 4) 4 rfl (by omega)
theorem pm_put4 {μ : gx_M} {b : Nat} {v : Int32} (h : b < 10) : fn_X7_put gl_kd μ 0 (nI b) 4 v = some (0, gx_u μ 1 (11 + 5 * b + 4) v) := pm_put (wi := 4) 4 rfl (by omega)
theorem pm_has0 {μ : gx_M} {b : Nat} (h : b < 40) : fn_X7_has gl_kd μ 0 (nI b) 0 = some (μ 1 (61 + 6 * b), μ) := pm_has (wi := 0) 0 rfl (by omega)
theorem pm_lay0 {μ : gx_M} {b : Nat} {v : Int32} (h : b < 40) : fn_X7_lay gl_kd μ 0 (nI b) 0 v = some (0, gx_u μ 1 (61 + 6 * b) v) := pm_lay (wi := 0) 0 rfl (by omega)
theorem pm_has1 {μ : gx_M} {b : Nat} (h : b < 40) : fn_X7_has gl_kd μ 0 (nI b) 1 = some (μ 1 (61 + 6 * b + 1), μ) := pm_has (wi := 1) 1 rfl (by omega)
theorem pm_lay1 {μ : gx_M} {b : Nat} {v : Int32} (h : b < 40) : fn_X7_lay gl_kd μ 0 (nI b) 1 v = some (0, gx_u μ 1 (61 + 6 * b + 1) v) := pm_lay (wi := 1) 1 rfl (by omega)
theorem pm_has2 {μ : gx_M} {b : Nat} (h : b < 40) : fn_X7_has gl_kd μ 0 (nI b) 2 = some (μ 1 (61 + 6 * b + 2), μ) := pm_has (wi := 2) 2 rfl (by omega)
theorem pm_lay2 {μ : gx_M} {b : Nat} {v : Int32} (h : b < 40) : fn_X7_lay gl_kd μ 0 (nI b) 2 v = some (0, gx_u μ 1 (61 + 6 * b + 2) v) := pm_lay (wi := 2) 2 rfl (by omega)
theorem pm_has3 {μ : gx_M} {b : Nat} (h : b < 40) : fn_X7_has gl_kd μ 0 (nI b) 3 = some (μ 1 (61 + 6 * b + 3), μ) := pm_has (wi := 3) 3 rfl (by omega)
theorem pm_lay3 {μ : gx_M} {b : Nat} {v : Int32} (h : b < 40) : fn_X7_lay gl_kd μ 0 (nI b) 3 v = some (0, gx_u μ 1 (61 + 6 * b + 3) v) := pm_lay (wi := 3) 3 rfl (by omega)
theorem pm_has4 {μ : gx_M} {b : Nat} (h : b < 40) : fn_X7_has gl_kd μ 0 (nI b) 4 = some (μ 1 (61 + 6 * b + 4), μ) := pm_has (wi := 4) 4 rfl (by omega)
theorem pm_lay4 {μ : gx_M} {b : Nat} {v : Int32} (h : b < 40) : fn_X7_lay gl_kd μ 0 (nI b) 4 v = some (0, gx_u μ 1 (61 + 6 * b + 4) v) := pm_lay (wi := 4) 4 rfl (by omega)
theorem pm_has5 {μ : gx_M} {b : Nat} (h : b < 40) : fn_X7_has gl_kd μ 0 (nI b) 5 = some (μ 1 (61 + 6 * b + 5), μ) := pm_has (wi := 5) 5 rfl (by omega)
theorem pm_lay5 {μ : gx_M} {b : Nat} {v : Int32} (h : b < 40) : fn_X7_lay gl_kd μ 0 (nI b) 5 v = some (0, gx_u μ 1 (61 + 6 * b + 5) v) := pm_lay (wi := 5) 5 rfl (by omega)
theorem pm_set0 {μ : gx_M} : fn_X7_setting gl_kd μ 0 0 = some (μ 1 7, μ) := pm_setting (wi := 0) 0 rfl (by omega)
theorem pm_set1 {μ : gx_M} : fn_X7_setting gl_kd μ 0 1 = some (μ 1 8, μ) := pm_setting (wi := 1) 1 rfl (by omega)
theorem pm_set2 {μ : gx_M} : fn_X7_setting gl_kd μ 0 2 = some (μ 1 9, μ) := pm_setting (wi := 2) 2 rfl (by omega)
theorem pm_set3 {μ : gx_M} : fn_X7_setting gl_kd μ 0 3 = some (μ 1 10, μ) := pm_setting (wi := 3) 3 rfl (by omega)
theorem pab_e (x : Int32) : (if 0 ≤ x then x else 0 - x) = pab x := rfl
/-- is there such a bowl (such a note)? -/
def phas (p : Int32) (n : Nat) : Int32 := if p < 0 then 0 else if nI n ≤ p then 0 else 1
theorem phas_n {p : Int32} {n : Nat} (hn : n < 2147483648) (h : ¬ phas p n = 0) : ∃ b, b < n ∧ p = nI b := by
  unfold phas at h
  by_cases h1 : p < 0
  · rw [if_pos h1] at h; exact absurd rfl h
  · rw [if_neg h1] at h
    by_cases h2 : nI n ≤ p
    · rw [if_pos h2] at h; exact absurd rfl h
    · obtain ⟨j, hj, rfl⟩ := nI_of h1
      rw [pn_le hn (by omega)] at h2
      exact ⟨j, by omega, rfl⟩
theorem phas_t {b n : Nat} (h : b < n) (hn : n < 2147483648) : phas (nI b) n = 1 := by
  unfold phas
  rw [if_neg (nI_pos (by omega)), if_neg (nI_ge h hn)]
theorem phas_01 (p : Int32) (n : Nat) : phas p n = 0 ∨ phas p n = 1 := by
  unfold phas
  split
  · exact Or.inl rfl
  · split
    · exact Or.inl rfl
    · exact Or.inr rfl
theorem pg_hasB {μ : gx_M} {c nb : Nat} {p : Int32} (h5 : μ c 5 = nI nb) : fn_X0_has gl_kd μ c p = some (phas p nb, μ) := by
  unfold fn_X0_has phas
  rw [h5]
  split
  · rfl
  · split <;> rfl
theorem pg_hasN {μ : gx_M} {c nb : Nat} {p : Int32} (h5 : μ c 5 = nI nb) : fn_X2_has gl_kd μ c p = some (phas p nb, μ) := by
  unfold fn_X2_has phas
  rw [h5]
  split
  · rfl
  · split <;> rfl
theorem pwi_has {p : Int32} {n : Nat} (hn : n < 2147483647) : pwi p 0 (nI n - 1) = phas p n := by
  unfold pwi phas
  by_cases h : p < 0
  · rw [if_pos h, if_pos h]
  · rw [if_neg h, if_neg h]
    obtain ⟨j, hj, rfl⟩ := nI_of h
    rcases Nat.eq_zero_or_pos n with rfl | hp
    · have h1 : nI 0 - 1 < nI j := by
        rw [Int32.lt_iff_toInt_lt, nI_toInt hj, show (nI 0 - 1).toInt = -1 by decide]; omega
      have h2 : nI 0 ≤ nI j := by rw [pn_le (by omega) (by omega)]; omega
      rw [if_pos h1, if_pos h2]
    · obtain ⟨m, rfl⟩ : ∃ m, n = m + 1 := ⟨n - 1, by omega⟩
      rw [nI_pred]
      by_cases h3 : m < j
      · rw [if_pos (by rw [pn_lt (by omega) (by omega)]; omega), if_pos (by rw [pn_le (by omega) (by omega)]; omega)]
      · rw [if_neg (by rw [pn_lt (by omega) (by omega)]; omega), if_neg (by rw [pn_le (by omega) (by omega)]; omega)]
theorem pm_isBowl {μ : gx_M} {nb : Nat} {p : Int32} (h : μ 1 1 = nI nb) (hn : nb ≤ 10) : fn_X7_isBowl gl_kd μ 0 p = some (phas p nb, μ) := by
  unfold fn_X7_isBowl
  simp only [Nat.zero_add, pk1, px1, pt1, if_true, eq_self, h, pm_in, pb_s]
  rw [pwi_has (by omega), if_pos (phas_01 _ _)]
theorem pm_isNote {μ : gx_M} {nn : Nat} {p : Int32} (h : μ 1 2 = nI nn) (hn : nn ≤ 40) : fn_X7_isNote gl_kd μ 0 p = some (phas p nn, μ) := by
  unfold fn_X7_isNote
  simp only [Nat.zero_add, pk1, px2, pt2, if_true, eq_self, h, pm_in, pb_s]
  rw [pwi_has (by omega), if_pos (phas_01 _ _)]
/-- the rows of a table of bowls have ten places -/
def pKB (c : Nat) : Prop := gl_kd (c + 2) = 110 ∧ gl_kd (c + 4) = 110 ∧ gl_kd (c + 6) = 110 ∧ gl_kd (c + 8) = 110 ∧ gl_kd (c + 10) = 110
theorem pg_pw {μ : gx_M} {c b : Nat} {d : Int32} (hk : pKB c) (hb : b < 10) : fn_X0_pitchWith gl_kd μ c (nI b) d = some (ppt (μ (c + 2) b) (μ (c + 4) b) d, μ) := by
  unfold fn_X0_pitchWith
  rw [pg_get (c + 4) 10 rfl hk.2.1 hb (by decide), pb_s, pg_get (c + 2) 10 rfl hk.1 hb (by decide), pb_s]
  rfl
theorem pg_po {μ : gx_M} {c b : Nat} (hk : pKB c) (hb : b < 10) : fn_X0_pitchOf gl_kd μ c (nI b) = some (ppt (μ (c + 2) b) (μ (c + 4) b) (μ (c + 6) b), μ) := by
  unfold fn_X0_pitchOf
  rw [pg_get (c + 6) 10 rfl hk.2.2.1 hb (by decide), pb_s, pg_pw hk hb, pb_s]
theorem pm_pw {μ : gx_M} {b : Nat} {d : Int32} (hb : b < 10) : fn_X7_pitchBy gl_kd μ 0 (nI b) d = some (ppt (μ 1 (11 + 5 * b)) (μ 1 (11 + 5 * b + 1)) d, μ) := by
  unfold fn_X7_pitchBy
  rw [pm_of0 hb, pb_s, pm_of1 hb, pb_s]
  rfl
theorem pm_po {μ : gx_M} {b : Nat} (hb : b < 10) : fn_X7_pitch gl_kd μ 0 (nI b) = some (ppt (μ 1 (11 + 5 * b)) (μ 1 (11 + 5 * b + 1)) (μ 1 (11 + 5 * b + 2)), μ) := by
  unfold fn_X7_pitch
  rw [pm_of2 hb, pb_s, pm_pw hb, pb_s]
/-- the nearest of the first n -/
def pbest (dst : Nat → Int32) : Nat → Option Nat
  | 0 => none
  | n + 1 => match pbest dst n with
    | none => some n
    | some j => if dst j ≤ dst n then some j else some n
def pbi : Option Nat → Int32
  | none => -1
  | some j => nI j
theorem pbest_lt (dst : Nat → Int32) : ∀ (n j : Nat), pbest dst n = some j → j < n
  | 0, j, h => by cases h
  | n + 1, j, h => by
    unfold pbest at h
    cases e : pbest dst n with
    | none => rw [e] at h; cases h; omega
    | some i =>
      rw [e] at h
      have := pbest_lt dst n i e
      dsimp only at h
      split at h
      · cases h; omega
      · cases h; omega
theorem pbest_none (dst : Nat → Int32) : ∀ (n : Nat), pbest dst n = none → n = 0
  | 0, _ => rfl
  | n + 1, h => by
    unfold pbest at h
    cases e : pbest dst n with
    | none => rw [e] at h; cases h
    | some i =>
      rw [e] at h
      dsimp only at h
      split at h <;> cases h
theorem pbest_c {d e : Nat → Int32} : ∀ (n : Nat), (∀ b, b < n → d b = e b) → pbest d n = pbest e n
  | 0, _ => rfl
  | n + 1, h => by
    unfold pbest
    rw [pbest_c n (fun b hb => h b (by omega))]
    cases q : pbest e n with
    | none => rfl
    | some j =>
      have := pbest_lt e n j q
      dsimp only
      rw [h j (by omega), h n (by omega)]
theorem pm1 {j : Nat} (h : j < 2147483648) : ¬ nI j = -1 := fun e => by
  have h1 : (nI j).toInt = (-1 : Int32).toInt := by rw [e]
  rw [nI_toInt h, show (-1 : Int32).toInt = -1 by decide] at h1
  omega
theorem pl_near {μ : gx_M} {c nb : Nat} {p : Int32} {k : gx_M → Int32 → Int32 → Int32 → Option (Int32 × gx_M)} (hk : pKB c) (h5 : μ c 5 = nI nb) (hnb : nb ≤ 10) :
    ∀ (m n i : Nat) (x3 : Int32), i + m = nb → m < n → (∀ j, pbest (fun b => pab (ppt (μ (c + 2) b) (μ (c + 4) b) (μ (c + 6) b) - p)) i = some j → x3 = pab (ppt (μ (c + 2) j) (μ (c + 4) j) (μ (c + 6) j) - p)) →
      ∃ y, lf_X0_nearestBowl_7 gl_kd c p k n μ (pbi (pbest (fun b => pab (ppt (μ (c + 2) b) (μ (c + 4) b) (μ (c + 6) b) - p)) i)) x3 (nI i) = k μ (pbi (pbest (fun b => pab (ppt (μ (c + 2) b) (μ (c + 4) b) (μ (c + 6) b) - p)) nb)) y (nI nb) := by
  intro m
  induction m with
  | zero =>
    intro n i x3 hi hn hx
    obtain ⟨n, rfl⟩ : ∃ q, n = q + 1 := ⟨n - 1, by omega⟩
    have e : i = nb := by omega
    subst e
    refine ⟨x3, ?_⟩
    rw [lf_X0_nearestBowl_7, h5, if_pos (nI_le (Nat.le_refl _) (by omega))]
  | succ m ih =>
    intro n i x3 hi hn hx
    obtain ⟨n, rfl⟩ : ∃ q, n = q + 1 := ⟨n - 1, by omega⟩
    rw [lf_X0_nearestBowl_7, h5, if_neg (nI_ge (by omega) (by omega)), pg_get (c + 6) 10 rfl hk.2.2.1 (i := i) (by omega) (by decide), pb_s, pg_pw hk (b := i) (by omega), pb_s, nI_1]
    simp only [pab_e]
    have hs : ∀ (d : Nat → Int32), pbest d (i + 1) = match pbest d i with
      | none => some i
      | some j => if d j ≤ d i then some j else some i := fun _ => rfl
    cases e : pbest (fun b => pab (ppt (μ (c + 2) b) (μ (c + 4) b) (μ (c + 6) b) - p)) i with
    | none =>
      have e2 := hs (fun b => pab (ppt (μ (c + 2) b) (μ (c + 4) b) (μ (c + 6) b) - p))
      rw [e] at e2
      have := ih n (i + 1) (pab (ppt (μ (c + 2) i) (μ (c + 4) i) (μ (c + 6) i) - p)) (by omega) (by omega) (fun j hj => by rw [e2] at hj; cases hj; rfl)
      rw [e2] at this
      rw [if_pos (show pbi none = -1 from rfl)]
      exact this
    | some j =>
      have hj := pbest_lt _ _ _ e
      have e2 := hs (fun b => pab (ppt (μ (c + 2) b) (μ (c + 4) b) (μ (c + 6) b) - p))
      rw [e] at e2
      have hx3 := hx j e
      rw [if_neg (show ¬ pbi (some j) = -1 from pm1 (by omega))]
      dsimp only at e2
      by_cases hd : pab (ppt (μ (c + 2) j) (μ (c + 4) j) (μ (c + 6) j) - p) ≤ pab (ppt (μ (c + 2) i) (μ (c + 4) i) (μ (c + 6) i) - p)
      · rw [if_pos hd] at e2
        obtain ⟨y, this⟩ := ih n (i + 1) x3 (by omega) (by omega) (fun q hq => by rw [e2] at hq; cases hq; exact hx3)
        rw [e2] at this
        exact ⟨y, (if_pos (show x3 ≤ pab (ppt (μ (c + 2) i) (μ (c + 4) i) (μ (c + 6) i) - p) by rw [hx3]; exact hd)).trans this⟩
      · rw [if_neg hd] at e2
        obtain ⟨y, this⟩ := ih n (i + 1) (pab (ppt (μ (c + 2) i) (μ (c + 4) i) (μ (c + 6) i) - p)) (by omega) (by omega) (fun q hq => by rw [e2] at hq; cases hq; rfl)
        rw [e2] at this
        exact ⟨y, (if_neg (show ¬ x3 ≤ pab (ppt (μ (c + 2) i) (μ (c + 4) i) (μ (c + 6) i) - p) by rw [hx3]; exact hd)).trans this⟩
theorem pg_near {μ : gx_M} {c nb : Nat} {p : Int32} (hk : pKB c) (h5 : μ c 5 = nI nb) (hnb : nb ≤ 10) : fn_X0_nearestBowl gl_kd μ c p = some (pbi (pbest (fun b => pab (ppt (μ (c + 2) b) (μ (c + 4) b) (μ (c + 6) b) - p)) nb), μ) := by
  unfold fn_X0_nearestBowl
  obtain ⟨y, hy⟩ := pl_near (p := p) (k := fun m8 y9 y10 y11 => some (y9, m8)) hk h5 hnb nb gx_F 0 0 (by omega) (by unfold gx_F; omega) (fun j hj => by cases hj)
  exact hy
theorem pl_sounds {μ : gx_M} {nb : Nat} {p : Int32} {k : gx_M → Int32 → Int32 → Option (Int32 × gx_M)} (h1 : μ 1 1 = nI nb) (hnb : nb ≤ 10) :
    ∀ (m n i : Nat), i + m = nb → m < n →
      lf_X7_sounds_4 gl_kd 0 p k n μ (pbi (pbest (fun b => pab (ppt (μ 1 (11 + 5 * b)) (μ 1 (11 + 5 * b + 1)) (μ 1 (11 + 5 * b + 2)) - p)) i)) (nI i) = k μ (pbi (pbest (fun b => pab (ppt (μ 1 (11 + 5 * b)) (μ 1 (11 + 5 * b + 1)) (μ 1 (11 + 5 * b + 2)) - p)) nb)) (nI nb) := by
  intro m
  induction m with
  | zero =>
    intro n i hi hn
    obtain ⟨n, rfl⟩ : ∃ q, n = q + 1 := ⟨n - 1, by omega⟩
    have e : i = nb := by omega
    subst e
    rw [lf_X7_sounds_4]
    simp only [Nat.zero_add, pk1, px1, pt1, if_true, eq_self, h1]
    rw [if_pos (nI_le (Nat.le_refl _) (by omega))]
  | succ m ih =>
    intro n i hi hn
    obtain ⟨n, rfl⟩ : ∃ q, n = q + 1 := ⟨n - 1, by omega⟩
    rw [lf_X7_sounds_4]
    simp only [Nat.zero_add, pk1, px1, pt1, if_true, eq_self, h1]
    rw [if_neg (nI_ge (by omega) (by omega)), nI_1]
    have hs : ∀ (d : Nat → Int32), pbest d (i + 1) = match pbest d i with
      | none => some i
      | some j => if d j ≤ d i then some j else some i := fun _ => rfl
    have this := ih n (i + 1) (by omega) (by omega)
    have e2 := hs (fun b => pab (ppt (μ 1 (11 + 5 * b)) (μ 1 (11 + 5 * b + 1)) (μ 1 (11 + 5 * b + 2)) - p))
    cases e : pbest (fun b => pab (ppt (μ 1 (11 + 5 * b)) (μ 1 (11 + 5 * b + 1)) (μ 1 (11 + 5 * b + 2)) - p)) i with
    | none =>
      rw [e] at e2
      rw [e2] at this
      rw [if_pos (show pbi none = -1 from rfl)]
      exact this
    | some j =>
      have hj := pbest_lt _ _ _ e
      rw [e] at e2
      dsimp only at e2
      rw [if_neg (show ¬ pbi (some j) = -1 from pm1 (by omega)), pm_po (b := i) (by omega), pb_s, pm_size, pb_s, show pbi (some j) = nI j from rfl, pm_po (b := j) (by omega), pb_s, pm_size, pb_s]
      by_cases hd : pab (ppt (μ 1 (11 + 5 * j)) (μ 1 (11 + 5 * j + 1)) (μ 1 (11 + 5 * j + 2)) - p) ≤ pab (ppt (μ 1 (11 + 5 * i)) (μ 1 (11 + 5 * i + 1)) (μ 1 (11 + 5 * i + 2)) - p)
      · rw [if_pos hd] at e2 ⊢
        rw [e2] at this
        exact this
      · rw [if_neg hd] at e2 ⊢
        rw [e2] at this
        exact this
theorem pm_sounds {μ : gx_M} {nb : Nat} {p : Int32} (h1 : μ 1 1 = nI nb) (hnb : nb ≤ 10) : fn_X7_sounds gl_kd μ 0 p = some (pbi (pbest (fun b => pab (ppt (μ 1 (11 + 5 * b)) (μ 1 (11 + 5 * b + 1)) (μ 1 (11 + 5 * b + 2)) - p)) nb), μ) := by
  unfold fn_X7_sounds
  exact pl_sounds (p := p) (k := fun m12 y13 y14 => some (y13, m12)) h1 hnb nb gx_F 0 (by omega) (by unfold gx_F; omega)
/-- the nearest level -/
def plev (dst : Nat → Int32) : Nat → Nat
  | 0 => 0
  | v + 1 => if dst (plev dst v) ≤ dst (v + 1) then plev dst v else v + 1
theorem plev_le (dst : Nat → Int32) : ∀ v, plev dst v ≤ v
  | 0 => Nat.le_refl _
  | v + 1 => by
    unfold plev
    have := plev_le dst v
    split <;> omega
theorem pl_lev {μ : gx_M} {c b ck : Nat} {p : Int32} {k : gx_M → Int32 → Int32 → Int32 → Option (Int32 × gx_M)} (hk : pKB c) (hb : b < 10) (hck : ck ≤ 1000) :
    ∀ (m n v : Nat), v + m = ck → m < n →
      ∃ y z, lf_X0_nearestLevel_28 gl_kd c (nI b) p (nI ck) k n μ (nI (plev (fun v => pab (ppt (μ (c + 2) b) (μ (c + 4) b) (nI v) - p)) v)) (pab (ppt (μ (c + 2) b) (μ (c + 4) b) (nI (plev (fun v => pab (ppt (μ (c + 2) b) (μ (c + 4) b) (nI v) - p)) v)) - p)) (nI (v + 1)) = k μ (nI (plev (fun v => pab (ppt (μ (c + 2) b) (μ (c + 4) b) (nI v) - p)) ck)) y z := by
  intro m
  induction m with
  | zero =>
    intro n v hi hn
    obtain ⟨n, rfl⟩ : ∃ q, n = q + 1 := ⟨n - 1, by omega⟩
    have e : v = ck := by omega
    subst e
    refine ⟨pab (ppt (μ (c + 2) b) (μ (c + 4) b) (nI (plev (fun v => pab (ppt (μ (c + 2) b) (μ (c + 4) b) (nI v) - p)) v)) - p), nI (v + 1), ?_⟩
    rw [lf_X0_nearestLevel_28, if_pos (nI_lt (by omega) (by omega))]
  | succ m ih =>
    intro n v hi hn
    obtain ⟨n, rfl⟩ : ∃ q, n = q + 1 := ⟨n - 1, by omega⟩
    rw [lf_X0_nearestLevel_28, if_neg (nI_nlt (by omega) (by omega)), pg_pw hk hb, pb_s, nI_1]
    simp only [pab_e]
    have hs : ∀ (d : Nat → Int32), plev d (v + 1) = if d (plev d v) ≤ d (v + 1) then plev d v else v + 1 := fun _ => rfl
    have e2 := hs (fun v => pab (ppt (μ (c + 2) b) (μ (c + 4) b) (nI v) - p))
    obtain ⟨y, z, this⟩ := ih n (v + 1) (by omega) (by omega)
    refine ⟨y, z, ?_⟩
    by_cases hd : pab (ppt (μ (c + 2) b) (μ (c + 4) b) (nI (plev (fun v => pab (ppt (μ (c + 2) b) (μ (c + 4) b) (nI v) - p)) v)) - p) ≤ pab (ppt (μ (c + 2) b) (μ (c + 4) b) (nI (v + 1)) - p)
    · rw [if_pos hd] at e2
      rw [e2] at this
      exact (if_pos hd).trans this
    · rw [if_neg hd] at e2
      rw [e2] at this
      exact (if_neg hd).trans this
theorem pg_lev {μ : gx_M} {c b ck : Nat} {p : Int32} (hk : pKB c) (hb : b < 10) (hck : ck ≤ 1000) (h10 : μ (c + 10) b = nI ck) : fn_X0_nearestLevel gl_kd μ c (nI b) p = some (nI (plev (fun v => pab (ppt (μ (c + 2) b) (μ (c + 4) b) (nI v) - p)) ck), μ) := by
  unfold fn_X0_nearestLevel
  rw [pg_pw hk hb, pb_s, pg_get (c + 10) 10 rfl hk.2.2.2.2 hb (by decide), pb_s, h10]
  obtain ⟨y, z, hy⟩ := pl_lev (μ := μ) (c := c) (b := b) (p := p) (k := fun m9 y10 y11 y12 => some (y10, m9)) hk hb hck ck gx_F 0 (by omega) (by unfold gx_F; omega)
  exact hy
theorem pl_levM {μ : gx_M} {b ck : Nat} {p : Int32} {k : gx_M → Int32 → Int32 → Option (Int32 × gx_M)} (hb : b < 10) (hck : ck ≤ 1000) (h4 : μ 1 (11 + 5 * b + 4) = nI ck) :
    ∀ (m n v : Nat), v + m = ck → m < n →
      ∃ z, lf_X7_levelFor_29 gl_kd 0 (nI b) p k n μ (nI (plev (fun v => pab (ppt (μ 1 (11 + 5 * b)) (μ 1 (11 + 5 * b + 1)) (nI v) - p)) v)) (nI (v + 1)) = k μ (nI (plev (fun v => pab (ppt (μ 1 (11 + 5 * b)) (μ 1 (11 + 5 * b + 1)) (nI v) - p)) ck)) z := by
  intro m
  induction m with
  | zero =>
    intro n v hi hn
    obtain ⟨n, rfl⟩ : ∃ q, n = q + 1 := ⟨n - 1, by omega⟩
    have e : v = ck := by omega
    subst e
    refine ⟨nI (v + 1), ?_⟩
    rw [lf_X7_levelFor_29, pm_of4 hb, pb_s, h4, if_pos (nI_lt (by omega) (by omega))]
  | succ m ih =>
    intro n v hi hn
    obtain ⟨n, rfl⟩ : ∃ q, n = q + 1 := ⟨n - 1, by omega⟩
    rw [lf_X7_levelFor_29, pm_of4 hb, pb_s, h4, if_neg (nI_nlt (by omega) (by omega)), pm_pw hb, pb_s, pm_size, pb_s, pm_pw hb, pb_s, pm_size, pb_s, nI_1]
    have hs : ∀ (d : Nat → Int32), plev d (v + 1) = if d (plev d v) ≤ d (v + 1) then plev d v else v + 1 := fun _ => rfl
    have e2 := hs (fun v => pab (ppt (μ 1 (11 + 5 * b)) (μ 1 (11 + 5 * b + 1)) (nI v) - p))
    obtain ⟨z, this⟩ := ih n (v + 1) (by omega) (by omega)
    refine ⟨z, ?_⟩
    by_cases hd : pab (ppt (μ 1 (11 + 5 * b)) (μ 1 (11 + 5 * b + 1)) (nI (plev (fun v => pab (ppt (μ 1 (11 + 5 * b)) (μ 1 (11 + 5 * b + 1)) (nI v) - p)) v)) - p) ≤ pab (ppt (μ 1 (11 + 5 * b)) (μ 1 (11 + 5 * b + 1)) (nI (v + 1)) - p)
    · rw [if_pos hd] at e2
      rw [e2] at this
      exact (if_pos hd).trans this
    · rw [if_neg hd] at e2
      rw [e2] at this
      exact (if_neg hd).trans this
theorem pl_inB {μ : gx_M} {c nb : Nat} {k : gx_M → Int32 → Int32 → Option (Int32 × gx_M)} (hk : pKB c) (h5 : μ c 5 = nI nb) (hnb : nb ≤ 10) :
    ∀ (m n i : Nat) (x : Int32), i + m = nb → m < n → lf_X0_inBowls_4 gl_kd c k n μ x (nI i) = k μ (x + psf (μ (c + 6)) i m) (nI nb) := by
  intro m
  induction m with
  | zero =>
    intro n i x hi hn
    obtain ⟨n, rfl⟩ : ∃ q, n = q + 1 := ⟨n - 1, by omega⟩
    have e : i = nb := by omega
    subst e
    rw [lf_X0_inBowls_4, h5, if_pos (nI_le (Nat.le_refl _) (by omega))]
    unfold psf
    rw [Int32.add_zero]
  | succ m ih =>
    intro n i x hi hn
    obtain ⟨n, rfl⟩ : ∃ q, n = q + 1 := ⟨n - 1, by omega⟩
    rw [lf_X0_inBowls_4, h5, if_neg (nI_ge (by omega) (by omega)), pg_get (c + 6) 10 rfl hk.2.2.1 (i := i) (by omega) (by decide), pb_s, nI_1, ih n (i + 1) _ (by omega) (by omega)]
    rw [show psf (μ (c + 6)) i (m + 1) = μ (c + 6) i + psf (μ (c + 6)) (i + 1) m from rfl, Int32.add_assoc]
theorem pg_inB {μ : gx_M} {c nb : Nat} (hk : pKB c) (h5 : μ c 5 = nI nb) (hnb : nb ≤ 10) : fn_X0_inBowls gl_kd μ c = some (psf (μ (c + 6)) 0 nb, μ) := by
  unfold fn_X0_inBowls
  have := pl_inB (k := fun m4 y5 y6 => some (y5, m4)) hk h5 hnb nb gx_F 0 0 (by omega) (by unfold gx_F; omega)
  rw [Int32.zero_add] at this
  exact this
theorem pl_water {μ : gx_M} {nb : Nat} {k : gx_M → Int32 → Int32 → Option (Int32 × gx_M)} (h1 : μ 1 1 = nI nb) (hnb : nb ≤ 10) :
    ∀ (m n i : Nat) (x : Int32), i + m = nb → m < n → lf_X7_water_4 gl_kd 0 k n μ x (nI i) = k μ (x + psf (fun b => μ 1 (11 + 5 * b + 2)) i m) (nI nb) := by
  intro m
  induction m with
  | zero =>
    intro n i x hi hn
    obtain ⟨n, rfl⟩ : ∃ q, n = q + 1 := ⟨n - 1, by omega⟩
    have e : i = nb := by omega
    subst e
    rw [lf_X7_water_4]
    simp only [Nat.zero_add, pk1, px1, pt1, if_true, eq_self, h1]
    rw [if_pos (nI_le (Nat.le_refl _) (by omega))]
    unfold psf
    rw [Int32.add_zero]
  | succ m ih =>
    intro n i x hi hn
    obtain ⟨n, rfl⟩ : ∃ q, n = q + 1 := ⟨n - 1, by omega⟩
    rw [lf_X7_water_4]
    simp only [Nat.zero_add, pk1, px1, pt1, if_true, eq_self, h1]
    rw [if_neg (nI_ge (by omega) (by omega)), pm_of2 (b := i) (by omega), pb_s, nI_1, ih n (i + 1) _ (by omega) (by omega)]
    rw [show psf (fun b => μ 1 (11 + 5 * b + 2)) i (m + 1) = μ 1 (11 + 5 * i + 2) + psf (fun b => μ 1 (11 + 5 * b + 2)) (i + 1) m from rfl, Int32.add_assoc]
theorem pm_water {μ : gx_M} {nb : Nat} (h1 : μ 1 1 = nI nb) (hnb : nb ≤ 10) : fn_X7_water gl_kd μ 0 = some (psf (fun b => μ 1 (11 + 5 * b + 2)) 0 nb, μ) := by
  unfold fn_X7_water
  have := pl_water (k := fun m4 y5 y6 => some (y5, m4)) h1 hnb nb gx_F 0 0 (by omega) (by unfold gx_F; omega)
  rw [Int32.zero_add] at this
  exact this
