theorem NR_e {o bw er p y e cl : Int32} (h : NR o bw er p y e cl) (hs : ¬ psnd o = 0) : er = e ∧ 0 ≤ pab e ∧ p = 1 ∧ y = bw ∧ ¬ y = -1 := by
  rcases h with ⟨rfl, rfl⟩ | ⟨rfl, rfl, rfl, rfl⟩ | ⟨_, h1, h2, h3, h4, h5⟩
  · exact absurd (by decide) hs
  · exact absurd (by decide) hs
  · exact ⟨h3, h5, h1, h2, h4⟩
theorem rN_rk {μ : gx_M} {c nn j : Nat} {s : Nat → Int32} (h : rN μ c s nn) (hj : j < nn) (hs : ¬ psnd (μ (c + 6) j) = 0) : psf (prk (fun b => psnd (μ (c + 6) b)) (fun b => pab (μ (c + 10) b)) j) 0 nn = psf (prm (fun b => phsd (s (61 + 6 * b + 2)) (s (61 + 6 * b + 3))) (fun b => pab (s (61 + 6 * b + 4))) j) 0 nn := by
  refine psf_c nn 0 (fun b _ hb => ?_)
  have nb := (h.2.2.1 b (by omega)).2.2.1
  obtain ⟨ej, pj, _⟩ := NR_e (h.2.2.1 j hj).2.2.1 hs
  unfold prk prm
  dsimp only
  have e0 := NR_s nb
  by_cases h1 : psnd (μ (c + 6) b) = 0
  · rw [if_pos h1, if_pos (e0.symm.trans h1)]
  · obtain ⟨eb, pb, _⟩ := NR_e nb h1
    rw [if_neg h1, if_neg (fun q => h1 (e0.trans q))]
    have qb : pab (μ (c + 10) b) = pab (s (61 + 6 * b + 4)) := by rw [eb]
    have qj : pab (μ (c + 10) j) = pab (s (61 + 6 * j + 4)) := by rw [ej]
    obtain ⟨c1, c2⟩ := p_cmp pb pj
    by_cases h2 : pab (μ (c + 10) b) ≤ pab (μ (c + 10) j)
    · have h2' : pab (s (61 + 6 * b + 4)) ≤ pab (s (61 + 6 * j + 4)) := by rw [← qb, ← qj]; exact h2
      rw [if_pos h2, if_neg (fun q => c1.1 q h2')]
      by_cases h3 : pab (μ (c + 10) b) = pab (μ (c + 10) j)
      · rw [if_pos h3, if_pos (c2.2 (by rw [← qb, ← qj]; exact h3))]
      · rw [if_neg h3, if_neg (fun q => h3 (by rw [qb, qj]; exact c2.1 q))]
    · rw [if_neg h2, if_pos (c1.2 (by rw [← qb, ← qj]; exact h2))]
theorem pl_wst {μ : gx_M} {nn : Nat} {q1 : Int32} (hN : rN μ 19 (μ 1) nn) : ∀ (m n i : Nat), i + m = nn → m < n → ∃ r, lf_X2_noteAtRank_2 gl_kd 19 q1 (fun m8 y9 => some (-1, m8)) n μ (nI i) = some (r, μ) ∧ ((r = -1 ∧ lf_X7_worst_9 gl_kd 0 q1 (fun m9 y10 => some (-100004, m9)) n μ (nI i) = some (-100004, μ)) ∨ (¬ r = -1 ∧ lf_X7_worst_9 gl_kd 0 q1 (fun m9 y10 => some (-100004, m9)) n μ (nI i) = some (r, μ))) := by
  have hn := hN.1
  have h5 : μ 19 5 = nI nn := hN.2.1.1
  have h2 : μ 1 2 = nI nn := hN.2.1.2
  intro m
  induction m with
  | zero =>
    intro n i hi hm
    obtain ⟨n, rfl⟩ : ∃ q, n = q + 1 := ⟨n - 1, by omega⟩
    have e : i = nn := by omega
    subst e
    refine ⟨-1, ?_, Or.inl ⟨rfl, ?_⟩⟩
    · rw [lf_X2_noteAtRank_2, h5, if_pos (nI_le (Nat.le_refl _) (by omega))]
    · rw [lf_X7_worst_9]
      simp only [Nat.zero_add, pk1, px2, pt2, if_true, eq_self, h2]
      rw [if_pos (nI_le (Nat.le_refl _) (by omega))]
  | succ m ih =>
    intro n i hi hm
    obtain ⟨n, rfl⟩ : ∃ q, n = q + 1 := ⟨n - 1, by omega⟩
    have hi4 : i < 40 := by omega
    have hi5 : i < nn := by omega
    rw [lf_X2_noteAtRank_2, lf_X7_worst_9]
    simp only [Nat.zero_add, pk1, px2, pt2, if_true, eq_self, h2]
    rw [h5, if_neg (nI_ge (by omega) (by omega)), if_neg (nI_ge (by omega) (by omega)), pg_snd pKN_19 hi4, pm_snd hi4, pb_s, pb_s, nI_1, ← NR_s (hN.2.2.1 i hi5).2.2.1]
    by_cases h1 : psnd (μ (19 + 6) i) = 0
    · rw [if_pos h1, if_pos h1]
      exact ih n (i + 1) (by omega) (by omega)
    · rw [if_neg h1, if_neg h1]
      have a1 := pl_rkG (μ := μ) (c := 19) (k := fun m46 y47 y48 => some (y47, m46)) pKN_19 h5 hn hi5 nn gx_F 0 0 (by omega) (by unfold gx_F; omega)
      have a2 := pl_rkM (μ := μ) (k := fun m16 y17 y18 => some (y17, m16)) h2 hn hi5 nn gx_F 0 0 (by omega) (by unfold gx_F; omega)
      rw [rN_rk hN hi5 h1] at a1
      have a1' : fn_X2_rankOf gl_kd μ 19 (nI i) = _ := a1
      have a2' : fn_X7_standAhead gl_kd μ 0 (nI i) = _ := a2
      rw [a1', a2', pb_s, pb_s]
      by_cases h3 : 0 + psf (prm (fun b => phsd (μ 1 (61 + 6 * b + 2)) (μ 1 (61 + 6 * b + 3))) (fun b => pab (μ 1 (61 + 6 * b + 4))) i) 0 nn = q1
      · rw [if_pos h3, if_pos h3]
        exact ⟨nI i, rfl, Or.inr ⟨pm1 (by omega), rfl⟩⟩
      · rw [if_neg h3, if_neg h3]
        exact ih n (i + 1) (by omega) (by omega)
theorem s_worst (a1 : Int32) : gl_ok Sim (fun μ => fn_X6_worst gl_kd μ 6 a1) (fun μ => fn_X7_worst gl_kd μ 0 a1) := by
  intro μ h
  obtain ⟨nb, nn, hB, hN, hS⟩ := h.1
  have hnn := hN.1
  unfold fn_X6_worst fn_X7_worst fn_X2_noteAtRank fn_X6_orNotFound
  simp only [Nat.reduceAdd]
  by_cases h1 : 0 ≤ a1
  · obtain ⟨r, r1, r2⟩ := pl_wst (q1 := a1) hN nn gx_F 0 (by omega) (by unfold gx_F; omega)
    have r1' : lf_X2_noteAtRank_2 gl_kd 19 a1 (fun m8 y9 => some (-1, m8)) gx_F μ 0 = some (r, μ) := r1
    rw [if_pos h1, r1', pb_s]
    rcases r2 with ⟨e, g⟩ | ⟨e, g⟩
    · exact ⟨-100004, μ, μ, by rw [if_pos e, pb_s], by rw [if_pos h1]; exact g, h⟩
    · exact ⟨r, μ, μ, by rw [if_neg e, pb_s], by rw [if_pos h1]; exact g, h⟩
  · exact ⟨-100001, μ, μ, by rw [if_neg h1], by rw [if_neg h1], h⟩
