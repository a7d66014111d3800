/-! ===== counts ===== -/
theorem pl_nwG {μ : gx_M} {c nn : Nat} {v : Int32} {k : gx_M → Int32 → Int32 → Option (Int32 × gx_M)} (hk : pKN c) (h5 : μ c 5 = nI nn) (hn : nn ≤ 40) : ∀ (m n i : Nat) (x : Int32), i + m = nn → m < n → lf_X2_notesWith_4 gl_kd c v k n μ x (nI i) = k μ (x + psf (fun b => if μ (c + 6) b = v then 1 else 0) i m) (nI nn) := by
  intro m
  induction m with
  | zero =>
    intro n i x hi hm
    obtain ⟨n, rfl⟩ : ∃ q, n = q + 1 := ⟨n - 1, by omega⟩
    have e : i = nn := by omega
    subst e
    rw [lf_X2_notesWith_4, h5, if_pos (nI_le (Nat.le_refl _) (by omega))]
    unfold psf
    rw [Int32.add_zero]
  | succ m ih =>
    intro n i x hi hm
    obtain ⟨n, rfl⟩ : ∃ q, n = q + 1 := ⟨n - 1, by omega⟩
    rw [lf_X2_notesWith_4, h5, if_neg (nI_ge (by omega) (by omega)), pg_get (c + 6) 40 rfl hk.2.2.1 (i := i) (by omega) (by decide), pb_s, nI_1, psf_s]
    by_cases e : μ (c + 6) i = v
    · rw [if_pos e, if_pos e, ih n (i + 1) _ (by omega) (by omega), Int32.add_assoc]
    · rw [if_neg e, if_neg e, ih n (i + 1) _ (by omega) (by omega), Int32.zero_add]
theorem pg_nw {μ : gx_M} {c nn : Nat} {v : Int32} (hk : pKN c) (h5 : μ c 5 = nI nn) (hn : nn ≤ 40) : fn_X2_notesWith gl_kd μ c v = some (psf (fun b => if μ (c + 6) b = v then 1 else 0) 0 nn, μ) := by
  unfold fn_X2_notesWith
  have := pl_nwG (v := v) (k := fun m5 y6 y7 => some (y6, m5)) hk h5 hn nn gx_F 0 0 (by omega) (by unfold gx_F; omega)
  rw [Int32.zero_add] at this
  exact this
theorem pl_nt4 {μ : gx_M} {nn : Nat} {k : gx_M → Int32 → Int32 → Option (Int32 × gx_M)} (h2 : μ 1 2 = nI nn) (hn : nn ≤ 40) : ∀ (m n i : Nat) (x : Int32), i + m = nn → m < n → lf_X7_notesThat_4 gl_kd 0 4 k n μ x (nI i) = k μ (x + psf (fun b => if μ 1 (61 + 6 * b + 2) = 1 then 1 else 0) i m) (nI nn) := by
  intro m
  induction m with
  | zero =>
    intro n i x hi hm
    obtain ⟨n, rfl⟩ : ∃ q, n = q + 1 := ⟨n - 1, by omega⟩
    have e : i = nn := by omega
    subst e
    rw [lf_X7_notesThat_4]
    simp only [Nat.zero_add, pk1, px2, pt2, if_true, eq_self, h2]
    rw [if_pos (nI_le (Nat.le_refl _) (by omega))]
    unfold psf
    rw [Int32.add_zero]
  | succ m ih =>
    intro n i x hi hm
    obtain ⟨n, rfl⟩ : ∃ q, n = q + 1 := ⟨n - 1, by omega⟩
    rw [lf_X7_notesThat_4]
    rw [show gx_ix 2 (gl_kd (0 + 1) - 100) = true from px2, if_pos rfl, show Int32.toNatClampNeg 2 = 2 from pt2, show (0 + 1 : Nat) = 1 from rfl, h2, if_neg (nI_ge (by omega) (by omega)), pm_has2 (b := i) (by omega), pb_s, nI_1, psf_s]
    simp only [ite_self]
    by_cases e : μ 1 (61 + 6 * i + 2) = 1
    · rw [if_pos e, if_pos e]
      rw [if_pos trivial, ih n (i + 1) _ (by omega) (by omega), Int32.add_assoc]
    · rw [if_neg e, if_neg e, ih n (i + 1) _ (by omega) (by omega), Int32.add_assoc]
theorem pm_nt4 {μ : gx_M} {nn : Nat} (h2 : μ 1 2 = nI nn) (hn : nn ≤ 40) : fn_X7_notesThat gl_kd μ 0 4 = some (psf (fun b => if μ 1 (61 + 6 * b + 2) = 1 then 1 else 0) 0 nn, μ) := by
  unfold fn_X7_notesThat
  have := pl_nt4 (k := fun m36 y37 y38 => some (y37, m36)) h2 hn nn gx_F 0 0 (by omega) (by unfold gx_F; omega)
  rw [Int32.zero_add] at this
  exact this
theorem pl_nt5 {μ : gx_M} {nn : Nat} {k : gx_M → Int32 → Int32 → Option (Int32 × gx_M)} (h2 : μ 1 2 = nI nn) (hn : nn ≤ 40) : ∀ (m n i : Nat) (x : Int32), i + m = nn → m < n → lf_X7_notesThat_4 gl_kd 0 5 k n μ x (nI i) = k μ (x + psf (fun b => if μ 1 (61 + 6 * b + 2) = 1 then (if μ 1 (61 + 6 * b + 5) = 1 then 1 else 0) else 0) i m) (nI nn) := by
  intro m
  induction m with
  | zero =>
    intro n i x hi hm
    obtain ⟨n, rfl⟩ : ∃ q, n = q + 1 := ⟨n - 1, by omega⟩
    have e : i = nn := by omega
    subst e
    rw [lf_X7_notesThat_4]
    simp only [Nat.zero_add, pk1, px2, pt2, if_true, eq_self, h2]
    rw [if_pos (nI_le (Nat.le_refl _) (by omega))]
    unfold psf
    rw [Int32.add_zero]
  | succ m ih =>
    intro n i x hi hm
    obtain ⟨n, rfl⟩ : ∃ q, n = q + 1 := ⟨n - 1, by omega⟩
    rw [lf_X7_notesThat_4]
    rw [show gx_ix 2 (gl_kd (0 + 1) - 100) = true from px2, if_pos rfl, show Int32.toNatClampNeg 2 = 2 from pt2, show (0 + 1 : Nat) = 1 from rfl, h2, if_neg (nI_ge (by omega) (by omega)), pm_has2 (b := i) (by omega), pb_s, nI_1, psf_s]
    simp only [ite_self]
    by_cases e : μ 1 (61 + 6 * i + 2) = 1
    · rw [if_pos e, if_pos e]
      rw [if_neg (show ¬ (5 : Int32) = 4 by decide), if_pos trivial, pm_has5 (b := i) (by omega), pb_s]
      by_cases e2 : μ 1 (61 + 6 * i + 5) = 1
      · rw [if_pos e2, if_pos e2, ih n (i + 1) _ (by omega) (by omega), Int32.add_assoc]
      · rw [if_neg e2, if_neg e2, if_neg (show ¬ (5 : Int32) = 6 by decide), ih n (i + 1) _ (by omega) (by omega), Int32.add_assoc]
    · rw [if_neg e, if_neg e, ih n (i + 1) _ (by omega) (by omega), Int32.add_assoc]
theorem pm_nt5 {μ : gx_M} {nn : Nat} (h2 : μ 1 2 = nI nn) (hn : nn ≤ 40) : fn_X7_notesThat gl_kd μ 0 5 = some (psf (fun b => if μ 1 (61 + 6 * b + 2) = 1 then (if μ 1 (61 + 6 * b + 5) = 1 then 1 else 0) else 0) 0 nn, μ) := by
  unfold fn_X7_notesThat
  have := pl_nt5 (k := fun m36 y37 y38 => some (y37, m36)) h2 hn nn gx_F 0 0 (by omega) (by unfold gx_F; omega)
  rw [Int32.zero_add] at this
  exact this
theorem pl_nt6 {μ : gx_M} {nn : Nat} {k : gx_M → Int32 → Int32 → Option (Int32 × gx_M)} (h2 : μ 1 2 = nI nn) (hn : nn ≤ 40) : ∀ (m n i : Nat) (x : Int32), i + m = nn → m < n → lf_X7_notesThat_4 gl_kd 0 6 k n μ x (nI i) = k μ (x + psf (fun b => if μ 1 (61 + 6 * b + 2) = 1 then (if μ 1 (61 + 6 * b + 3) = -1 then 1 else 0) else 0) i m) (nI nn) := by
  intro m
  induction m with
  | zero =>
    intro n i x hi hm
    obtain ⟨n, rfl⟩ : ∃ q, n = q + 1 := ⟨n - 1, by omega⟩
    have e : i = nn := by omega
    subst e
    rw [lf_X7_notesThat_4]
    simp only [Nat.zero_add, pk1, px2, pt2, if_true, eq_self, h2]
    rw [if_pos (nI_le (Nat.le_refl _) (by omega))]
    unfold psf
    rw [Int32.add_zero]
  | succ m ih =>
    intro n i x hi hm
    obtain ⟨n, rfl⟩ : ∃ q, n = q + 1 := ⟨n - 1, by omega⟩
    rw [lf_X7_notesThat_4]
    rw [show gx_ix 2 (gl_kd (0 + 1) - 100) = true from px2, if_pos rfl, show Int32.toNatClampNeg 2 = 2 from pt2, show (0 + 1 : Nat) = 1 from rfl, h2, if_neg (nI_ge (by omega) (by omega)), pm_has2 (b := i) (by omega), pb_s, nI_1, psf_s]
    simp only [ite_self]
    by_cases e : μ 1 (61 + 6 * i + 2) = 1
    · rw [if_pos e, if_pos e]
      rw [if_neg (show ¬ (6 : Int32) = 4 by decide), if_neg (show ¬ (6 : Int32) = 5 by decide), if_pos trivial, pm_has3 (b := i) (by omega), pb_s]
      by_cases e2 : μ 1 (61 + 6 * i + 3) = -1
      · rw [if_pos e2, if_pos e2, ih n (i + 1) _ (by omega) (by omega), Int32.add_assoc]
      · rw [if_neg e2, if_neg e2, ih n (i + 1) _ (by omega) (by omega), Int32.add_assoc]
    · rw [if_neg e, if_neg e, ih n (i + 1) _ (by omega) (by omega), Int32.add_assoc]
theorem pm_nt6 {μ : gx_M} {nn : Nat} (h2 : μ 1 2 = nI nn) (hn : nn ≤ 40) : fn_X7_notesThat gl_kd μ 0 6 = some (psf (fun b => if μ 1 (61 + 6 * b + 2) = 1 then (if μ 1 (61 + 6 * b + 3) = -1 then 1 else 0) else 0) 0 nn, μ) := by
  unfold fn_X7_notesThat
  have := pl_nt6 (k := fun m36 y37 y38 => some (y37, m36)) h2 hn nn gx_F 0 0 (by omega) (by unfold gx_F; omega)
  rw [Int32.zero_add] at this
  exact this
theorem psf_n {f g : Nat → Int32} : ∀ (m i : Nat), (∀ b, i ≤ b → b < i + m → f b + g b = 1) → nI m - psf f i m = psf g i m
  | 0, i, _ => show nI 0 - (0 : Int32) = 0 by decide
  | m + 1, i, h => by
    have := psf_n m (i + 1) (fun b h1 h2 => h b (by omega) (by omega))
    rw [psf_s, psf_s, ← this, ← nI_1, ← h i (by omega) (by omega)]
    generalize psf f (i + 1) m = x
    generalize f i = y
    generalize g i = z
    generalize nI m = w
    rw [Int32.sub_eq_add_neg, Int32.sub_eq_add_neg, Int32.neg_add, Int32.sub_eq_add_neg]
    rw [show w + (y + z) + (-y + -x) = (y + -y) + (z + (w + -x)) by ac_rfl, Int32.add_right_neg, Int32.zero_add]
/-- three counts -/
theorem rN_nw {μ : gx_M} {c nn : Nat} {s : Nat → Int32} (h : rN μ c s nn) :
    nI nn - psf (fun b => if μ (c + 6) b = 0 then 1 else 0) 0 nn = psf (fun b => if s (61 + 6 * b + 2) = 1 then 1 else 0) 0 nn ∧
    psf (fun b => if μ (c + 6) b = 3 then 1 else 0) 0 nn = psf (fun b => if s (61 + 6 * b + 2) = 1 then (if s (61 + 6 * b + 5) = 1 then 1 else 0) else 0) 0 nn ∧
    psf (fun b => if μ (c + 6) b = 1 then 1 else 0) 0 nn = psf (fun b => if s (61 + 6 * b + 2) = 1 then (if s (61 + 6 * b + 3) = -1 then 1 else 0) else 0) 0 nn := by
  refine ⟨psf_n nn 0 (fun b _ hb => ?_), psf_c nn 0 (fun b _ hb => ?_), psf_c nn 0 (fun b _ hb => ?_)⟩
  · rcases (h.2.2.1 b (by omega)).2.2.1 with ⟨z1, z2⟩ | ⟨z1, z2, z3, z4⟩ | ⟨⟨z0, _⟩ | ⟨z0, _⟩, z1, _⟩
    · rw [z1, z2]; decide
    · rw [z1, z2]; decide
    · rw [z0, z1]; decide
    · rw [z0, z1]; decide
  · rcases (h.2.2.1 b (by omega)).2.2.1 with ⟨z1, z2⟩ | ⟨z1, z2, z3, z4⟩ | ⟨⟨z0, z9⟩ | ⟨z0, z9⟩, z1, _⟩
    · rw [z1, z2, if_neg (by decide), if_neg (by decide)]
    · rw [z1, z2, z4]; decide
    · rw [z0, z1, z9]; decide
    · rw [z0, z1, z9]; decide
  · rcases (h.2.2.1 b (by omega)).2.2.1 with ⟨z1, z2⟩ | ⟨z1, z2, z3, z4⟩ | ⟨⟨z0, z9⟩ | ⟨z0, z9⟩, z1, z2, z3, z4, z5⟩
    · rw [z1, z2, if_neg (by decide), if_neg (by decide)]
    · rw [z1, z2, z3]; decide
    · rw [z0, z1, if_neg z4]; decide
    · rw [z0, z1, if_neg z4]; decide
theorem s_count (a1 : Int32) : gl_ok Sim (fun μ => fn_X6_count gl_kd μ 6 a1) (fun μ => fn_X7_count gl_kd μ 0 a1) := by
  intro μ h
  obtain ⟨nb, nn, hB, hN, hS⟩ := h.1
  have hb5 : μ 8 5 = nI nb := hB.2.1.1
  have hb1 : μ 1 1 = nI nb := hB.2.1.2
  have hn5 : μ 19 5 = nI nn := hN.2.1.1
  have hn2 : μ 1 2 = nI nn := hN.2.1.2
  have hnn := hN.1
  obtain ⟨w1, w2, w3⟩ := rN_nw hN
  unfold fn_X6_count
  simp only [Nat.reduceAdd]
  by_cases hA : pwi a1 10 13 = 0
  · by_cases hB2 : pwi a1 20 24 = 0
    · rw [pg_within, pb_s, if_pos hA, pg_within, pb_s, if_pos hB2]
      by_cases e0 : a1 = 0
      · subst e0
        refine ⟨μ 1 0, μ, μ, by rw [if_pos (show (0 : Int32) = 0 from rfl)]; unfold fn_X4_time; rw [pb_s, show μ 7 3 = μ 1 0 from hS.1], by unfold fn_X7_count; rw [if_pos (show (0 : Int32) = 0 from rfl)]; simp only [Nat.zero_add, pk1, px0, pt0, if_true, eq_self], h⟩
      by_cases e1 : a1 = 1
      · subst e1
        refine ⟨nI nb, μ, μ, by rw [if_neg (show ¬ (1 : Int32) = 0 by decide), if_pos (show (1 : Int32) = 1 from rfl)]; unfold fn_X0_size; rw [pb_s, hb5], by unfold fn_X7_count; rw [if_neg (show ¬ (1 : Int32) = 0 by decide), if_pos (show (1 : Int32) = 1 from rfl)]; simp only [Nat.zero_add, pk1, px1, pt1, if_true, eq_self, hb1], h⟩
      by_cases e2 : a1 = 2
      · subst e2
        refine ⟨nI nn, μ, μ, by rw [if_neg (show ¬ (2 : Int32) = 0 by decide), if_neg (show ¬ (2 : Int32) = 1 by decide), if_pos (show (2 : Int32) = 2 from rfl)]; unfold fn_X2_size; rw [pb_s, hn5], by unfold fn_X7_count; rw [if_neg (show ¬ (2 : Int32) = 0 by decide), if_neg (show ¬ (2 : Int32) = 1 by decide), if_pos (show (2 : Int32) = 2 from rfl)]; simp only [Nat.zero_add, pk1, px2, pt2, if_true, eq_self, hn2], h⟩
      by_cases e3 : a1 = 3
      · subst e3
        by_cases e0n : nn = 0
        · subst e0n
          refine ⟨0, μ, μ, ?_, ?_, h⟩
          · rw [if_neg (show ¬ (3 : Int32) = 0 by decide), if_neg (show ¬ (3 : Int32) = 1 by decide), if_neg (show ¬ (3 : Int32) = 2 by decide), if_pos (show (3 : Int32) = 3 from rfl), pg_st1, pb_s]
            unfold fn_X2_phrases fn_X2_phraseOf
            rw [hn5, show gx_F = 4999 + 1 from rfl, lf_X2_phraseOf_5, if_pos (show nI 0 - 1 < 0 by decide), pb_s, pb_s]
            rfl
          · unfold fn_X7_count
            rw [if_neg (show ¬ (3 : Int32) = 0 by decide), if_neg (show ¬ (3 : Int32) = 1 by decide), if_neg (show ¬ (3 : Int32) = 2 by decide), if_pos (show (3 : Int32) = 3 from rfl)]
            simp only [Nat.zero_add, pk1, px2, pt2, if_true, eq_self, hn2]
            rw [if_pos (show nI 0 = 0 from rfl)]
        · obtain ⟨j, rfl⟩ : ∃ q, nn = q + 1 := ⟨nn - 1, by omega⟩
          refine ⟨pphr (μ 1) j + 1, μ, μ, ?_, ?_, h⟩
          · rw [if_neg (show ¬ (3 : Int32) = 0 by decide), if_neg (show ¬ (3 : Int32) = 1 by decide), if_neg (show ¬ (3 : Int32) = 2 by decide), if_pos (show (3 : Int32) = 3 from rfl), pg_st1, pb_s]
            unfold fn_X2_phrases
            rw [hn5, nI_pred, show μ 31 1 = μ 1 8 from hS.2.2.1 1 (by decide), pg_phr (c := 19) (s := μ 1) (j := j) pKN_19 hN (by omega), pb_s, pb_s]
          · unfold fn_X7_count
            rw [if_neg (show ¬ (3 : Int32) = 0 by decide), if_neg (show ¬ (3 : Int32) = 1 by decide), if_neg (show ¬ (3 : Int32) = 2 by decide), if_pos (show (3 : Int32) = 3 from rfl)]
            simp only [Nat.zero_add, pk1, px2, pt2, if_true, eq_self, hn2]
            rw [if_neg (nI_ne0 (by omega) (by omega)), nI_pred, pm_phr (by omega), pb_s]
      by_cases e4 : a1 = 4
      · subst e4
        refine ⟨psf (fun b => if μ 1 (61 + 6 * b + 2) = 1 then 1 else 0) 0 nn, μ, μ, by rw [if_neg (show ¬ (4 : Int32) = 0 by decide), if_neg (show ¬ (4 : Int32) = 1 by decide), if_neg (show ¬ (4 : Int32) = 2 by decide), if_neg (show ¬ (4 : Int32) = 3 by decide), if_pos (show (4 : Int32) = 4 from rfl)]; unfold fn_X2_playedNotes; rw [pg_nw pKN_19 hn5 hnn, pb_s, pb_s, hn5]; exact congrArg (fun x => some (x, μ)) w1, by unfold fn_X7_count; rw [if_neg (show ¬ (4 : Int32) = 0 by decide), if_neg (show ¬ (4 : Int32) = 1 by decide), if_neg (show ¬ (4 : Int32) = 2 by decide), if_neg (show ¬ (4 : Int32) = 3 by decide), if_pos (show (4 : Int32) = 4 from rfl), pm_nt4 hn2 hnn, pb_s], h⟩
      by_cases e5 : a1 = 5
      · subst e5
        refine ⟨psf (fun b => if μ 1 (61 + 6 * b + 2) = 1 then (if μ 1 (61 + 6 * b + 5) = 1 then 1 else 0) else 0) 0 nn, μ, μ, by rw [if_neg (show ¬ (5 : Int32) = 0 by decide), if_neg (show ¬ (5 : Int32) = 1 by decide), if_neg (show ¬ (5 : Int32) = 2 by decide), if_neg (show ¬ (5 : Int32) = 3 by decide), if_neg (show ¬ (5 : Int32) = 4 by decide), if_pos (show (5 : Int32) = 5 from rfl), pg_nw pKN_19 hn5 hnn, pb_s]; exact congrArg (fun x => some (x, μ)) w2, by unfold fn_X7_count; rw [if_neg (show ¬ (5 : Int32) = 0 by decide), if_neg (show ¬ (5 : Int32) = 1 by decide), if_neg (show ¬ (5 : Int32) = 2 by decide), if_neg (show ¬ (5 : Int32) = 3 by decide), if_neg (show ¬ (5 : Int32) = 4 by decide), if_pos (show (5 : Int32) = 5 from rfl), pm_nt5 hn2 hnn, pb_s], h⟩
      by_cases e6 : a1 = 6
      · subst e6
        refine ⟨psf (fun b => if μ 1 (61 + 6 * b + 2) = 1 then (if μ 1 (61 + 6 * b + 3) = -1 then 1 else 0) else 0) 0 nn, μ, μ, by rw [if_neg (show ¬ (6 : Int32) = 0 by decide), if_neg (show ¬ (6 : Int32) = 1 by decide), if_neg (show ¬ (6 : Int32) = 2 by decide), if_neg (show ¬ (6 : Int32) = 3 by decide), if_neg (show ¬ (6 : Int32) = 4 by decide), if_neg (show ¬ (6 : Int32) = 5 by decide), if_pos (show (6 : Int32) = 6 from rfl), pg_nw pKN_19 hn5 hnn, pb_s]; exact congrArg (fun x => some (x, μ)) w3, by unfold fn_X7_count; rw [if_neg (show ¬ (6 : Int32) = 0 by decide), if_neg (show ¬ (6 : Int32) = 1 by decide), if_neg (show ¬ (6 : Int32) = 2 by decide), if_neg (show ¬ (6 : Int32) = 3 by decide), if_neg (show ¬ (6 : Int32) = 4 by decide), if_neg (show ¬ (6 : Int32) = 5 by decide), if_pos (show (6 : Int32) = 6 from rfl), pm_nt6 hn2 hnn, pb_s], h⟩
      by_cases e7 : a1 = 7
      · subst e7
        refine ⟨μ 0 3, μ, μ, by rw [if_neg (show ¬ (7 : Int32) = 0 by decide), if_neg (show ¬ (7 : Int32) = 1 by decide), if_neg (show ¬ (7 : Int32) = 2 by decide), if_neg (show ¬ (7 : Int32) = 3 by decide), if_neg (show ¬ (7 : Int32) = 4 by decide), if_neg (show ¬ (7 : Int32) = 5 by decide), if_neg (show ¬ (7 : Int32) = 6 by decide), if_pos (show (7 : Int32) = 7 from rfl)]; unfold fn_X1_size; rw [pb_s]; obtain ⟨hs, nx, z1, z2, z3, z4, z5, z6⟩ := h.2.1; rw [z4, z5], by unfold fn_X7_count; rw [if_neg (show ¬ (7 : Int32) = 0 by decide), if_neg (show ¬ (7 : Int32) = 1 by decide), if_neg (show ¬ (7 : Int32) = 2 by decide), if_neg (show ¬ (7 : Int32) = 3 by decide), if_neg (show ¬ (7 : Int32) = 4 by decide), if_neg (show ¬ (7 : Int32) = 5 by decide), if_neg (show ¬ (7 : Int32) = 6 by decide), if_pos (show (7 : Int32) = 7 from rfl)], h⟩
      by_cases e8 : a1 = 8
      · subst e8
        refine ⟨μ 0 5, μ, μ, by rw [if_neg (show ¬ (8 : Int32) = 0 by decide), if_neg (show ¬ (8 : Int32) = 1 by decide), if_neg (show ¬ (8 : Int32) = 2 by decide), if_neg (show ¬ (8 : Int32) = 3 by decide), if_neg (show ¬ (8 : Int32) = 4 by decide), if_neg (show ¬ (8 : Int32) = 5 by decide), if_neg (show ¬ (8 : Int32) = 6 by decide), if_neg (show ¬ (8 : Int32) = 7 by decide), if_pos (show (8 : Int32) = 8 from rfl)]; unfold fn_X5_length; rw [pb_s]; obtain ⟨n, z1, z2, z3, z4, z5⟩ := h.2.2; rw [z2, z3], by unfold fn_X7_count; rw [if_neg (show ¬ (8 : Int32) = 0 by decide), if_neg (show ¬ (8 : Int32) = 1 by decide), if_neg (show ¬ (8 : Int32) = 2 by decide), if_neg (show ¬ (8 : Int32) = 3 by decide), if_neg (show ¬ (8 : Int32) = 4 by decide), if_neg (show ¬ (8 : Int32) = 5 by decide), if_neg (show ¬ (8 : Int32) = 6 by decide), if_neg (show ¬ (8 : Int32) = 7 by decide), if_pos (show (8 : Int32) = 8 from rfl)], h⟩
      refine ⟨-100001, μ, μ, by rw [if_neg e0, if_neg e1, if_neg e2, if_neg e3, if_neg e4, if_neg e5, if_neg e6, if_neg e7, if_neg e8], ?_, h⟩
      unfold fn_X7_count
      rw [if_neg e0, if_neg e1, if_neg e2, if_neg e3, if_neg e4, if_neg e5, if_neg e6, if_neg e7, if_neg e8]
      by_cases e9 : a1 = 9
      · rw [if_pos e9, pm_in, pb_s, if_pos hA]
      rw [if_neg e9]
      by_cases e10 : a1 = 10
      · rw [if_pos e10, pm_in, pb_s, if_pos hA]
      rw [if_neg e10]
      by_cases e11 : a1 = 11
      · rw [if_pos e11, pm_in, pb_s, if_pos hA]
      rw [if_neg e11]
      by_cases e12 : a1 = 12
      · rw [if_pos e12, pm_in, pb_s, if_pos hA]
      rw [if_neg e12]
      by_cases e13 : a1 = 13
      · rw [if_pos e13, pm_in, pb_s, if_pos hA]
      rw [if_neg e13]
      by_cases e14 : a1 = 14
      · rw [if_pos e14, pm_in, pb_s, if_pos hA]
      rw [if_neg e14]
      by_cases e15 : a1 = 15
      · rw [if_pos e15, pm_in, pb_s, if_pos hA]
      rw [if_neg e15]
      by_cases e16 : a1 = 16
      · rw [if_pos e16, pm_in, pb_s, if_pos hA]
      rw [if_neg e16]
      by_cases e17 : a1 = 17
      · rw [if_pos e17, pm_in, pb_s, if_pos hA]
      rw [if_neg e17]
      by_cases e18 : a1 = 18
      · rw [if_pos e18, pm_in, pb_s, if_pos hA]
      rw [if_neg e18]
      by_cases e19 : a1 = 19
      · rw [if_pos e19, pm_in, pb_s, if_pos hA]
      rw [if_neg e19]
      rw [if_neg (show ¬ a1 = 20 from fun q => by subst q; exact absurd hB2 (by decide)), if_neg (show ¬ a1 = 21 from fun q => by subst q; exact absurd hB2 (by decide)), if_neg (show ¬ a1 = 22 from fun q => by subst q; exact absurd hB2 (by decide)), if_neg (show ¬ a1 = 23 from fun q => by subst q; exact absurd hB2 (by decide)), if_neg (show ¬ a1 = 24 from fun q => by subst q; exact absurd hB2 (by decide)), pm_in, pb_s, if_pos hA]
    · rw [pg_within, pb_s, if_pos hA, pg_within, pb_s, if_neg hB2]
      obtain ⟨w, hw1, hw2, rfl⟩ := pwi_n (a := 20) (b := 24) (by decide) (by decide) hB2
      unfold fn_X7_count fn_X0_account
      rcases (show w = 20 ∨ w = 21 ∨ w = 22 ∨ w = 23 ∨ w = 24 by omega) with rfl | rfl | rfl | rfl | rfl
      · exact ⟨μ 1 3, μ, μ, by rw [show nI 20 - 20 = nI 0 by decide, if_pos (show nI 0 = 0 from rfl), pb_s, show μ 8 6 = μ 1 3 from hB.2.2.1.1], by rw [if_neg (show ¬ nI 20 = 0 by decide), if_neg (show ¬ nI 20 = 1 by decide), if_neg (show ¬ nI 20 = 2 by decide), if_neg (show ¬ nI 20 = 3 by decide), if_neg (show ¬ nI 20 = 4 by decide), if_neg (show ¬ nI 20 = 5 by decide), if_neg (show ¬ nI 20 = 6 by decide), if_neg (show ¬ nI 20 = 7 by decide), if_neg (show ¬ nI 20 = 8 by decide), if_neg (show ¬ nI 20 = 9 by decide), if_neg (show ¬ nI 20 = 10 by decide), if_neg (show ¬ nI 20 = 11 by decide), if_neg (show ¬ nI 20 = 12 by decide), if_neg (show ¬ nI 20 = 13 by decide), if_neg (show ¬ nI 20 = 14 by decide), if_neg (show ¬ nI 20 = 15 by decide), if_neg (show ¬ nI 20 = 16 by decide), if_neg (show ¬ nI 20 = 17 by decide), if_neg (show ¬ nI 20 = 18 by decide), if_neg (show ¬ nI 20 = 19 by decide), if_pos (show nI 20 = 20 from rfl)]; simp only [Nat.zero_add, pk1, px3, pt3, if_true, eq_self], h⟩
      · refine ⟨psf (fun b => μ 1 (11 + 5 * b + 2)) 0 nb, μ, μ, ?_, by rw [if_neg (show ¬ nI 21 = 0 by decide), if_neg (show ¬ nI 21 = 1 by decide), if_neg (show ¬ nI 21 = 2 by decide), if_neg (show ¬ nI 21 = 3 by decide), if_neg (show ¬ nI 21 = 4 by decide), if_neg (show ¬ nI 21 = 5 by decide), if_neg (show ¬ nI 21 = 6 by decide), if_neg (show ¬ nI 21 = 7 by decide), if_neg (show ¬ nI 21 = 8 by decide), if_neg (show ¬ nI 21 = 9 by decide), if_neg (show ¬ nI 21 = 10 by decide), if_neg (show ¬ nI 21 = 11 by decide), if_neg (show ¬ nI 21 = 12 by decide), if_neg (show ¬ nI 21 = 13 by decide), if_neg (show ¬ nI 21 = 14 by decide), if_neg (show ¬ nI 21 = 15 by decide), if_neg (show ¬ nI 21 = 16 by decide), if_neg (show ¬ nI 21 = 17 by decide), if_neg (show ¬ nI 21 = 18 by decide), if_neg (show ¬ nI 21 = 19 by decide), if_neg (show ¬ nI 21 = 20 by decide), if_pos (show nI 21 = 21 from rfl), pm_water hb1 hB.1, pb_s], h⟩
        rw [show nI 21 - 20 = nI 1 by decide, if_neg (show ¬ nI 1 = 0 by decide), if_pos (show nI 1 = 1 from rfl), pg_inB pKB_8 hb5 hB.1, pb_s, pb_s]
        exact congrArg (fun x => some (x, μ)) (psf_c nb 0 (fun b _ hb => (hB.2.2.2 b (by omega)).2.2.1))
      · exact ⟨μ 1 4, μ, μ, by rw [show nI 22 - 20 = nI 2 by decide, if_neg (show ¬ nI 2 = 0 by decide), if_neg (show ¬ nI 2 = 1 by decide), if_pos (show nI 2 = 2 from rfl), pb_s, show μ 8 7 = μ 1 4 from hB.2.2.1.2.1], by rw [if_neg (show ¬ nI 22 = 0 by decide), if_neg (show ¬ nI 22 = 1 by decide), if_neg (show ¬ nI 22 = 2 by decide), if_neg (show ¬ nI 22 = 3 by decide), if_neg (show ¬ nI 22 = 4 by decide), if_neg (show ¬ nI 22 = 5 by decide), if_neg (show ¬ nI 22 = 6 by decide), if_neg (show ¬ nI 22 = 7 by decide), if_neg (show ¬ nI 22 = 8 by decide), if_neg (show ¬ nI 22 = 9 by decide), if_neg (show ¬ nI 22 = 10 by decide), if_neg (show ¬ nI 22 = 11 by decide), if_neg (show ¬ nI 22 = 12 by decide), if_neg (show ¬ nI 22 = 13 by decide), if_neg (show ¬ nI 22 = 14 by decide), if_neg (show ¬ nI 22 = 15 by decide), if_neg (show ¬ nI 22 = 16 by decide), if_neg (show ¬ nI 22 = 17 by decide), if_neg (show ¬ nI 22 = 18 by decide), if_neg (show ¬ nI 22 = 19 by decide), if_neg (show ¬ nI 22 = 20 by decide), if_neg (show ¬ nI 22 = 21 by decide), if_pos (show nI 22 = 22 from rfl), show (4 + nI 22) - 22 = 4 by decide]; simp only [Nat.zero_add, pk1, px4, pt4, if_true, eq_self], h⟩
      · exact ⟨μ 1 5, μ, μ, by rw [show nI 23 - 20 = nI 3 by decide, if_neg (show ¬ nI 3 = 0 by decide), if_neg (show ¬ nI 3 = 1 by decide), if_neg (show ¬ nI 3 = 2 by decide), if_pos (show nI 3 = 3 from rfl), pb_s, show μ 8 8 = μ 1 5 from hB.2.2.1.2.2.1], by rw [if_neg (show ¬ nI 23 = 0 by decide), if_neg (show ¬ nI 23 = 1 by decide), if_neg (show ¬ nI 23 = 2 by decide), if_neg (show ¬ nI 23 = 3 by decide), if_neg (show ¬ nI 23 = 4 by decide), if_neg (show ¬ nI 23 = 5 by decide), if_neg (show ¬ nI 23 = 6 by decide), if_neg (show ¬ nI 23 = 7 by decide), if_neg (show ¬ nI 23 = 8 by decide), if_neg (show ¬ nI 23 = 9 by decide), if_neg (show ¬ nI 23 = 10 by decide), if_neg (show ¬ nI 23 = 11 by decide), if_neg (show ¬ nI 23 = 12 by decide), if_neg (show ¬ nI 23 = 13 by decide), if_neg (show ¬ nI 23 = 14 by decide), if_neg (show ¬ nI 23 = 15 by decide), if_neg (show ¬ nI 23 = 16 by decide), if_neg (show ¬ nI 23 = 17 by decide), if_neg (show ¬ nI 23 = 18 by decide), if_neg (show ¬ nI 23 = 19 by decide), if_neg (show ¬ nI 23 = 20 by decide), if_neg (show ¬ nI 23 = 21 by decide), if_neg (show ¬ nI 23 = 22 by decide), if_pos (show nI 23 = 23 from rfl), show (4 + nI 23) - 22 = 5 by decide]; simp only [Nat.zero_add, pk1, px5, pt5, if_true, eq_self], h⟩
      · exact ⟨μ 1 6, μ, μ, by rw [show nI 24 - 20 = nI 4 by decide, if_neg (show ¬ nI 4 = 0 by decide), if_neg (show ¬ nI 4 = 1 by decide), if_neg (show ¬ nI 4 = 2 by decide), if_neg (show ¬ nI 4 = 3 by decide), if_pos (show nI 4 = 4 from rfl), pb_s, show μ 8 9 = μ 1 6 from hB.2.2.1.2.2.2], by rw [if_neg (show ¬ nI 24 = 0 by decide), if_neg (show ¬ nI 24 = 1 by decide), if_neg (show ¬ nI 24 = 2 by decide), if_neg (show ¬ nI 24 = 3 by decide), if_neg (show ¬ nI 24 = 4 by decide), if_neg (show ¬ nI 24 = 5 by decide), if_neg (show ¬ nI 24 = 6 by decide), if_neg (show ¬ nI 24 = 7 by decide), if_neg (show ¬ nI 24 = 8 by decide), if_neg (show ¬ nI 24 = 9 by decide), if_neg (show ¬ nI 24 = 10 by decide), if_neg (show ¬ nI 24 = 11 by decide), if_neg (show ¬ nI 24 = 12 by decide), if_neg (show ¬ nI 24 = 13 by decide), if_neg (show ¬ nI 24 = 14 by decide), if_neg (show ¬ nI 24 = 15 by decide), if_neg (show ¬ nI 24 = 16 by decide), if_neg (show ¬ nI 24 = 17 by decide), if_neg (show ¬ nI 24 = 18 by decide), if_neg (show ¬ nI 24 = 19 by decide), if_neg (show ¬ nI 24 = 20 by decide), if_neg (show ¬ nI 24 = 21 by decide), if_neg (show ¬ nI 24 = 22 by decide), if_neg (show ¬ nI 24 = 23 by decide), if_pos (show nI 24 = 24 from rfl), show (4 + nI 24) - 22 = 6 by decide]; simp only [Nat.zero_add, pk1, px6, pt6, if_true, eq_self], h⟩
  · obtain ⟨w, hw1, hw2, rfl⟩ := pwi_n (a := 10) (b := 13) (by decide) (by decide) hA
    rw [pg_within, pb_s, if_neg hA]
    unfold fn_X7_count
    rcases (show w = 10 ∨ w = 11 ∨ w = 12 ∨ w = 13 by omega) with rfl | rfl | rfl | rfl
    · exact ⟨μ 1 7, μ, μ, by rw [show nI 10 - 10 = nI 0 by decide, pg_st (by decide), pb_s, show μ 31 0 = μ 1 7 from hS.2.2.1 0 (by decide)], by rw [if_neg (show ¬ nI 10 = 0 by decide), if_neg (show ¬ nI 10 = 1 by decide), if_neg (show ¬ nI 10 = 2 by decide), if_neg (show ¬ nI 10 = 3 by decide), if_neg (show ¬ nI 10 = 4 by decide), if_neg (show ¬ nI 10 = 5 by decide), if_neg (show ¬ nI 10 = 6 by decide), if_neg (show ¬ nI 10 = 7 by decide), if_neg (show ¬ nI 10 = 8 by decide), if_neg (show ¬ nI 10 = 9 by decide), if_pos (show nI 10 = 10 from rfl), pm_in, pb_s, if_neg hA, show nI 10 - 10 = 0 by decide, pm_set0, pb_s], h⟩
    · exact ⟨μ 1 8, μ, μ, by rw [show nI 11 - 10 = nI 1 by decide, pg_st (by decide), pb_s, show μ 31 1 = μ 1 8 from hS.2.2.1 1 (by decide)], by rw [if_neg (show ¬ nI 11 = 0 by decide), if_neg (show ¬ nI 11 = 1 by decide), if_neg (show ¬ nI 11 = 2 by decide), if_neg (show ¬ nI 11 = 3 by decide), if_neg (show ¬ nI 11 = 4 by decide), if_neg (show ¬ nI 11 = 5 by decide), if_neg (show ¬ nI 11 = 6 by decide), if_neg (show ¬ nI 11 = 7 by decide), if_neg (show ¬ nI 11 = 8 by decide), if_neg (show ¬ nI 11 = 9 by decide), if_neg (show ¬ nI 11 = 10 by decide), if_pos (show nI 11 = 11 from rfl), pm_in, pb_s, if_neg hA, show nI 11 - 10 = 1 by decide, pm_set1, pb_s], h⟩
    · exact ⟨μ 1 9, μ, μ, by rw [show nI 12 - 10 = nI 2 by decide, pg_st (by decide), pb_s, show μ 31 2 = μ 1 9 from hS.2.2.1 2 (by decide)], by rw [if_neg (show ¬ nI 12 = 0 by decide), if_neg (show ¬ nI 12 = 1 by decide), if_neg (show ¬ nI 12 = 2 by decide), if_neg (show ¬ nI 12 = 3 by decide), if_neg (show ¬ nI 12 = 4 by decide), if_neg (show ¬ nI 12 = 5 by decide), if_neg (show ¬ nI 12 = 6 by decide), if_neg (show ¬ nI 12 = 7 by decide), if_neg (show ¬ nI 12 = 8 by decide), if_neg (show ¬ nI 12 = 9 by decide), if_neg (show ¬ nI 12 = 10 by decide), if_neg (show ¬ nI 12 = 11 by decide), if_pos (show nI 12 = 12 from rfl), pm_in, pb_s, if_neg hA, show nI 12 - 10 = 2 by decide, pm_set2, pb_s], h⟩
    · exact ⟨μ 1 10, μ, μ, by rw [show nI 13 - 10 = nI 3 by decide, pg_st (by decide), pb_s, show μ 31 3 = μ 1 10 from hS.2.2.1 3 (by decide)], by rw [if_neg (show ¬ nI 13 = 0 by decide), if_neg (show ¬ nI 13 = 1 by decide), if_neg (show ¬ nI 13 = 2 by decide), if_neg (show ¬ nI 13 = 3 by decide), if_neg (show ¬ nI 13 = 4 by decide), if_neg (show ¬ nI 13 = 5 by decide), if_neg (show ¬ nI 13 = 6 by decide), if_neg (show ¬ nI 13 = 7 by decide), if_neg (show ¬ nI 13 = 8 by decide), if_neg (show ¬ nI 13 = 9 by decide), if_neg (show ¬ nI 13 = 10 by decide), if_neg (show ¬ nI 13 = 11 by decide), if_neg (show ¬ nI 13 = 12 by decide), if_pos (show nI 13 = 13 from rfl), pm_in, pb_s, if_neg hA, show nI 13 - 10 = 3 by decide, pm_set3, pb_s], h⟩
