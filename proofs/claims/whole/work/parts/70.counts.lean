/-! ===== reading the piece ===== -/
def pbeg (f : Nat → Int32) (g : Int32) (i : Nat) : Int32 := if i = 0 then 1 else if f i - f (i - 1) < g then 0 else 1
theorem pbeg_01 (f : Nat → Int32) (g : Int32) (i : Nat) : pbeg f g i = 0 ∨ pbeg f g i = 1 := by
  unfold pbeg
  split
  · exact Or.inr rfl
  · split
    · exact Or.inl rfl
    · exact Or.inr rfl
theorem pbeg_c {f f' : Nat → Int32} {g : Int32} {n i : Nat} (h : ∀ x, x < n → f x = f' x) (hi : i < n) : pbeg f g i = pbeg f' g i := by
  unfold pbeg
  rw [h i hi, h (i - 1) (by omega)]
theorem pg_beg {μ : gx_M} {c i : Nat} {g : Int32} (hk : pKN c) (hi : i < 40) : fn_X2_beginsPhrase gl_kd μ c (nI i) g = some (pbeg (μ (c + 2)) g i, μ) := by
  unfold fn_X2_beginsPhrase pbeg
  by_cases e : i = 0
  · subst e
    rw [if_pos (show nI 0 = 0 from rfl), if_pos rfl]
  · obtain ⟨i, rfl⟩ : ∃ q, i = q + 1 := ⟨i - 1, by omega⟩
    rw [if_neg (nI_ne0 (by omega) (by omega)), if_neg e, pg_get (c + 2) 40 rfl hk.1 (i := i + 1) (by omega) (by decide), pb_s, nI_pred, pg_get (c + 2) 40 rfl hk.1 (i := i) (by omega) (by decide), pb_s, show i + 1 - 1 = i from rfl]
    split <;> rfl
theorem pm_beg {μ : gx_M} {i : Nat} (hi : i < 40) : fn_X7_begins gl_kd μ 0 (nI i) = some (pbeg (fun x => μ 1 (61 + 6 * x)) (μ 1 8) i, μ) := by
  unfold fn_X7_begins pbeg
  by_cases e : i = 0
  · subst e
    rw [if_pos (show nI 0 = 0 from rfl), if_pos rfl]
  · obtain ⟨i, rfl⟩ : ∃ q, i = q + 1 := ⟨i - 1, by omega⟩
    rw [if_neg (nI_ne0 (by omega) (by omega)), if_neg e, pm_has0 (b := i + 1) (by omega), pb_s, nI_pred, pm_has0 (b := i) (by omega), pb_s, pm_set1, pb_s, show i + 1 - 1 = i from rfl]
    split <;> rfl
theorem psf_s (f : Nat → Int32) (i m : Nat) : psf f i (m + 1) = f i + psf f (i + 1) m := rfl
theorem pl_phG {μ : gx_M} {c j : Nat} {g : Int32} {k : gx_M → Int32 → Int32 → Option (Int32 × gx_M)} (hk : pKN c) (hj : j < 40) : ∀ (m n i : Nat) (x : Int32), i + m = j + 1 → m < n → lf_X2_phraseOf_5 gl_kd c (nI j) g k n μ x (nI i) = k μ (x + psf (pbeg (μ (c + 2)) g) i m) (nI (j + 1)) := by
  intro m
  induction m with
  | zero =>
    intro n i x hi hn
    obtain ⟨n, rfl⟩ : ∃ q, n = q + 1 := ⟨n - 1, by omega⟩
    have e : i = j + 1 := by omega
    subst e
    rw [lf_X2_phraseOf_5, if_pos (nI_lt (by omega) (by omega)), show psf (pbeg (μ (c + 2)) g) (j + 1) 0 = 0 from rfl, Int32.add_zero]
  | succ m ih =>
    intro n i x hi hn
    obtain ⟨n, rfl⟩ : ∃ q, n = q + 1 := ⟨n - 1, by omega⟩
    rw [lf_X2_phraseOf_5, if_neg (nI_nlt (by omega) (by omega)), pg_beg hk (i := i) (by omega), pb_s, nI_1, psf_s]
    rcases pbeg_01 (μ (c + 2)) g i with e | e
    · rw [e, if_pos rfl, ih n (i + 1) x (by omega) (by omega), Int32.zero_add]
    · rw [e, if_neg (by decide), ih n (i + 1) (x + 1) (by omega) (by omega), Int32.add_assoc]
theorem pl_phM {μ : gx_M} {j : Nat} {k : gx_M → Int32 → Int32 → Option (Int32 × gx_M)} (hj : j < 40) : ∀ (m n i : Nat) (x : Int32), i + m = j + 1 → m < n → lf_X7_phraseOf_4 gl_kd 0 (nI j) k n μ x (nI i) = k μ (x + psf (pbeg (fun x => μ 1 (61 + 6 * x)) (μ 1 8)) i m) (nI (j + 1)) := by
  intro m
  induction m with
  | zero =>
    intro n i x hi hn
    obtain ⟨n, rfl⟩ : ∃ q, n = q + 1 := ⟨n - 1, by omega⟩
    have e : i = j + 1 := by omega
    subst e
    rw [lf_X7_phraseOf_4, if_pos (nI_lt (by omega) (by omega)), show psf (pbeg (fun x => μ 1 (61 + 6 * x)) (μ 1 8)) (j + 1) 0 = 0 from rfl, Int32.add_zero]
  | succ m ih =>
    intro n i x hi hn
    obtain ⟨n, rfl⟩ : ∃ q, n = q + 1 := ⟨n - 1, by omega⟩
    rw [lf_X7_phraseOf_4, if_neg (nI_nlt (by omega) (by omega)), pm_beg (i := i) (by omega), pb_s, nI_1, psf_s]
    rcases pbeg_01 (fun x => μ 1 (61 + 6 * x)) (μ 1 8) i with e | e
    · rw [e, if_pos rfl, ih n (i + 1) _ (by omega) (by omega), Int32.add_assoc]
    · rw [e, if_neg (by decide), ih n (i + 1) (x + 1) (by omega) (by omega), Int32.add_assoc]
def pphr (s : Nat → Int32) (j : Nat) : Int32 := psf (pbeg (fun x => s (61 + 6 * x)) (s 8)) 0 (j + 1) - 1
theorem pm_phr {μ : gx_M} {j : Nat} (hj : j < 40) : fn_X7_phraseOf gl_kd μ 0 (nI j) = some (pphr (μ 1) j, μ) := by
  unfold fn_X7_phraseOf
  have := pl_phM (μ := μ) (k := fun m5 y6 y7 => some (y6 - 1, m5)) hj (j + 1) gx_F 0 0 (by omega) (by unfold gx_F; omega)
  rw [Int32.zero_add] at this
  exact this
theorem pg_phr {μ : gx_M} {c j nn : Nat} {s : Nat → Int32} (hk : pKN c) (hN : rN μ c s nn) (hj : j < nn) : fn_X2_phraseOf gl_kd μ c (nI j) (s 8) = some (pphr s j, μ) := by
  unfold fn_X2_phraseOf
  have hnn := hN.1
  have := pl_phG (μ := μ) (g := s 8) (k := fun m5 y6 y7 => some (y6, m5)) hk (show j < 40 by omega) (j + 1) gx_F 0 (-1) (by omega) (by unfold gx_F; omega)
  refine this.trans ?_
  rw [psf_c (g := pbeg (fun x => s (61 + 6 * x)) (s 8)) (j + 1) 0 (fun b h1 h2 => pbeg_c (n := nn) (fun x hx => (hN.2.2.1 x hx).1) (by omega))]
  unfold pphr
  rw [Int32.sub_eq_add_neg, Int32.add_comm]
def psnd (o : Int32) : Int32 := if o = 2 then 1 else if o = 3 then 1 else 0
theorem pg_snd {μ : gx_M} {c i : Nat} (hk : pKN c) (hi : i < 40) : fn_X2_sounded gl_kd μ c (nI i) = some (psnd (μ (c + 6) i), μ) := by
  unfold fn_X2_sounded psnd
  rw [pg_get (c + 6) 40 rfl hk.2.2.1 hi (by decide), pb_s]
  split
  · rfl
  · rw [pg_get (c + 6) 40 rfl hk.2.2.1 hi (by decide), pb_s]
    split <;> rfl
def phsd (p y : Int32) : Int32 := if p = 1 then (if y = -1 then 0 else 1) else 0
theorem pm_snd {μ : gx_M} {i : Nat} (hi : i < 40) : fn_X7_hasSounded gl_kd μ 0 (nI i) = some (phsd (μ 1 (61 + 6 * i + 2)) (μ 1 (61 + 6 * i + 3)), μ) := by
  unfold fn_X7_hasSounded phsd
  rw [pm_has2 hi, pb_s]
  split
  · rw [pm_has3 hi, pb_s]
    split <;> rfl
  · rfl
theorem NR_s {o bw er p y e cl : Int32} (h : NR o bw er p y e cl) : psnd o = phsd p y := by
  unfold psnd phsd
  rcases h with ⟨rfl, rfl⟩ | ⟨rfl, rfl, rfl, rfl⟩ | ⟨⟨rfl, rfl⟩ | ⟨rfl, rfl⟩, rfl, h1, h2, h3, h4⟩
  · rw [if_neg (by decide), if_neg (by decide), if_neg (by decide)]
  · decide
  · rw [if_pos rfl, if_pos rfl, if_neg h3]
  · rw [if_neg (by decide), if_pos rfl, if_pos rfl, if_neg h3]
theorem pg_st {μ : gx_M} {w : Nat} (hw : w < 4) : fn_X4_setting gl_kd μ 7 (nI w) = some (μ 31 w, μ) := by
  unfold fn_X4_setting
  rw [pg_get 31 4 rfl pKT_7.2.2 hw (by decide), pb_s]
theorem pg_st1 {μ : gx_M} : fn_X4_setting gl_kd μ 7 1 = some (μ 31 1, μ) := pg_st (w := 1) (by decide)
theorem pg_oi0 {kd : Nat → Nat} {μ : gx_M} : fn_X6_oneIf kd μ 0 = some (0, μ) := rfl
theorem pg_oi1 {kd : Nat → Nat} {μ : gx_M} : fn_X6_oneIf kd μ 1 = some (1, μ) := by unfold fn_X6_oneIf; rw [if_neg (by decide)]
theorem s_noteOf (a1 a2 : Int32) : gl_ok Sim (fun μ => fn_X6_noteOf gl_kd μ 6 a1 a2) (fun μ => fn_X7_noteOf gl_kd μ 0 a1 a2) := by
  intro μ h
  obtain ⟨nb, nn, hB, hN, hS⟩ := h.1
  have hn5 : μ 19 5 = nI nn := hN.2.1.1
  have hn2 : μ 1 2 = nI nn := hN.2.1.2
  have hnn := hN.1
  unfold fn_X6_noteOf fn_X7_noteOf
  simp only [Nat.reduceAdd]
  by_cases h1 : phas a1 nn = 0
  · exact ⟨_, μ, μ, by rw [pg_hasN hn5, pb_s, if_pos h1], by rw [pm_isNote hn2 hN.1, pb_s, if_pos h1], h⟩
  obtain ⟨i, hi, rfl⟩ := phas_n (by omega) h1
  have hi4 : i < 40 := by omega
  rw [pg_hasN hn5, pb_s, if_neg h1, pg_st1, pb_s, show μ 31 1 = μ 1 8 from hS.2.2.1 1 (by decide)]
  by_cases h2 : pwi a2 0 6 = 0
  · refine ⟨-100001, μ, μ, ?_, by rw [pm_isNote hn2 hN.1, pb_s, if_neg h1, pm_in, pb_s, if_pos h2], h⟩
    unfold fn_X2_property
    rw [if_neg (show ¬ a2 = 0 from fun q => by subst q; exact absurd h2 (by decide)), if_neg (show ¬ a2 = 1 from fun q => by subst q; exact absurd h2 (by decide)), if_neg (show ¬ a2 = 2 from fun q => by subst q; exact absurd h2 (by decide)), if_neg (show ¬ a2 = 3 from fun q => by subst q; exact absurd h2 (by decide)), if_neg (show ¬ a2 = 4 from fun q => by subst q; exact absurd h2 (by decide)), if_neg (show ¬ a2 = 5 from fun q => by subst q; exact absurd h2 (by decide)), if_neg (show ¬ a2 = 6 from fun q => by subst q; exact absurd h2 (by decide)), pb_s]
  obtain ⟨w, hw0, hw6, rfl⟩ := pwi_n (a := 0) (b := 6) (by decide) (by decide) h2
  obtain ⟨p1, p2, p3, p4, p5⟩ := hN.2.2.1 i hi
  have k1 : μ (19 + 2) i = μ 1 (61 + 6 * i) := p1
  have k2 : μ (19 + 4) i = μ 1 (61 + 6 * i + 1) := p2
  have k3 : NR (μ (19 + 6) i) (μ (19 + 8) i) (μ (19 + 10) i) (μ 1 (61 + 6 * i + 2)) (μ 1 (61 + 6 * i + 3)) (μ 1 (61 + 6 * i + 4)) (μ 1 (61 + 6 * i + 5)) := p3
  have ks := NR_s k3
  have hcase : (phsd (μ 1 (61 + 6 * i + 2)) (μ 1 (61 + 6 * i + 3)) = 0 ∧ (μ 1 (61 + 6 * i + 2) = 1 → μ 1 (61 + 6 * i + 3) = -1)) ∨ (phsd (μ 1 (61 + 6 * i + 2)) (μ 1 (61 + 6 * i + 3)) = 1 ∧ μ 1 (61 + 6 * i + 2) = 1 ∧ ¬ μ 1 (61 + 6 * i + 3) = -1 ∧ μ (19 + 8) i = μ 1 (61 + 6 * i + 3) ∧ μ (19 + 10) i = μ 1 (61 + 6 * i + 4) ∧ ((μ (19 + 6) i = 2 ∧ μ 1 (61 + 6 * i + 5) = 0) ∨ (μ (19 + 6) i = 3 ∧ μ 1 (61 + 6 * i + 5) = 1))) := by
    rcases k3 with ⟨z1, z2⟩ | ⟨z1, z2, z3, z4⟩ | ⟨z0, z1, z2, z3, z4, z5⟩
    · exact Or.inl ⟨by unfold phsd; rw [z2, if_neg (by decide)], fun q => by rw [z2] at q; exact absurd q (by decide)⟩
    · exact Or.inl ⟨by unfold phsd; rw [z2, z3, if_pos rfl, if_pos rfl], fun _ => z3⟩
    · exact Or.inr ⟨by unfold phsd; rw [z1, if_pos rfl, if_neg z4], z1, z4, z2.symm, z3, z0⟩
  unfold fn_X2_property
  rcases (show w = 0 ∨ w = 1 ∨ w = 2 ∨ w = 3 ∨ w = 4 ∨ w = 5 ∨ w = 6 by omega) with rfl | rfl | rfl | rfl | rfl | rfl | rfl
  · refine ⟨μ 1 (61 + 6 * i), μ, μ, ?_, ?_, h⟩
    · rw [if_pos (show nI 0 = 0 from rfl), pg_get (19 + 2) 40 rfl pKN_19.1 hi4 (by decide), pb_s, pb_s, k1]
    · rw [pm_isNote hn2 hN.1, pb_s, if_neg h1, pm_in, pb_s, if_neg h2, pm_has2 hi4, pb_s]
      by_cases hp : μ 1 (61 + 6 * i + 2) = 1
      · rw [if_pos hp, pm_has3 hi4, pb_s]
        by_cases hy : μ 1 (61 + 6 * i + 3) = -1
        · rw [if_pos hy, if_pos (show nI 0 = 0 from rfl), show nI 0 = 0 from rfl, pm_has0 hi4, pb_s]
        · rw [if_neg hy, if_pos (show nI 0 = 0 from rfl), show nI 0 = 0 from rfl, pm_has0 hi4, pb_s]
      · rw [if_neg hp, if_pos (show nI 0 = 0 from rfl), show nI 0 = 0 from rfl, pm_has0 hi4, pb_s]
  · refine ⟨μ 1 (61 + 6 * i + 1), μ, μ, ?_, ?_, h⟩
    · rw [if_neg (show ¬ nI 1 = 0 by decide), if_pos (show nI 1 = 1 from rfl), pg_get (19 + 4) 40 rfl pKN_19.2.1 hi4 (by decide), pb_s, pb_s, k2]
    · rw [pm_isNote hn2 hN.1, pb_s, if_neg h1, pm_in, pb_s, if_neg h2, pm_has2 hi4, pb_s]
      by_cases hp : μ 1 (61 + 6 * i + 2) = 1
      · rw [if_pos hp, pm_has3 hi4, pb_s]
        by_cases hy : μ 1 (61 + 6 * i + 3) = -1
        · rw [if_pos hy, if_neg (show ¬ nI 1 = 0 by decide), if_pos (show nI 1 = 1 from rfl), show nI 1 = 1 from rfl, pm_has1 hi4, pb_s]
        · rw [if_neg hy, if_neg (show ¬ nI 1 = 0 by decide), if_pos (show nI 1 = 1 from rfl), show nI 1 = 1 from rfl, pm_has1 hi4, pb_s]
      · rw [if_neg hp, if_neg (show ¬ nI 1 = 0 by decide), if_pos (show nI 1 = 1 from rfl), show nI 1 = 1 from rfl, pm_has1 hi4, pb_s]
  · refine ⟨pphr (μ 1) i, μ, μ, ?_, ?_, h⟩
    · rw [if_neg (show ¬ nI 2 = 0 by decide), if_neg (show ¬ nI 2 = 1 by decide), if_pos (show nI 2 = 2 from rfl), pg_phr (c := 19) (s := μ 1) pKN_19 hN hi, pb_s, pb_s]
    · rw [pm_isNote hn2 hN.1, pb_s, if_neg h1, pm_in, pb_s, if_neg h2, pm_has2 hi4, pb_s]
      by_cases hp : μ 1 (61 + 6 * i + 2) = 1
      · rw [if_pos hp, pm_has3 hi4, pb_s]
        by_cases hy : μ 1 (61 + 6 * i + 3) = -1
        · rw [if_pos hy, if_neg (show ¬ nI 2 = 0 by decide), if_neg (show ¬ nI 2 = 1 by decide), if_pos (show nI 2 = 2 from rfl), pm_phr hi4, pb_s]
        · rw [if_neg hy, if_neg (show ¬ nI 2 = 0 by decide), if_neg (show ¬ nI 2 = 1 by decide), if_pos (show nI 2 = 2 from rfl), pm_phr hi4, pb_s]
      · rw [if_neg hp, if_neg (show ¬ nI 2 = 0 by decide), if_neg (show ¬ nI 2 = 1 by decide), if_pos (show nI 2 = 2 from rfl), pm_phr hi4, pb_s]
  · refine ⟨μ 1 (61 + 6 * i + 2), μ, μ, ?_, ?_, h⟩
    · rw [if_neg (show ¬ nI 3 = 0 by decide), if_neg (show ¬ nI 3 = 1 by decide), if_neg (show ¬ nI 3 = 2 by decide), if_pos (show nI 3 = 3 from rfl), pg_get (19 + 6) 40 rfl pKN_19.2.2.1 hi4 (by decide), pb_s]
      rcases k3 with ⟨z1, z2⟩ | ⟨z1, z2, z3, z4⟩ | ⟨⟨z0, _⟩ | ⟨z0, _⟩, z1, _⟩
      · rw [z1, z2, if_pos rfl, pg_oi0, pb_s, pb_s]
      · rw [z1, z2, if_neg (by decide), pg_oi1, pb_s, pb_s]
      · rw [z0, z1, if_neg (by decide), pg_oi1, pb_s, pb_s]
      · rw [z0, z1, if_neg (by decide), pg_oi1, pb_s, pb_s]
    · rw [pm_isNote hn2 hN.1, pb_s, if_neg h1, pm_in, pb_s, if_neg h2, pm_has2 hi4, pb_s]
      by_cases hp : μ 1 (61 + 6 * i + 2) = 1
      · rw [if_pos hp, pm_has3 hi4, pb_s]
        by_cases hy : μ 1 (61 + 6 * i + 3) = -1
        · rw [if_pos hy, if_neg (show ¬ nI 3 = 0 by decide), if_neg (show ¬ nI 3 = 1 by decide), if_neg (show ¬ nI 3 = 2 by decide), if_pos (show nI 3 = 3 from rfl), pm_has2 hi4, pb_s]
        · rw [if_neg hy, if_neg (show ¬ nI 3 = 0 by decide), if_neg (show ¬ nI 3 = 1 by decide), if_neg (show ¬ nI 3 = 2 by decide), if_pos (show nI 3 = 3 from rfl), pm_has2 hi4, pb_s]
      · rw [if_neg hp, if_neg (show ¬ nI 3 = 0 by decide), if_neg (show ¬ nI 3 = 1 by decide), if_neg (show ¬ nI 3 = 2 by decide), if_pos (show nI 3 = 3 from rfl), pm_has2 hi4, pb_s]
  · rcases hcase with ⟨z1, z2⟩ | ⟨z1, z2, z3, z4, z5, z6⟩
    · refine ⟨-100004, μ, μ, ?_, ?_, h⟩
      · rw [if_neg (show ¬ nI 4 = 0 by decide), if_neg (show ¬ nI 4 = 1 by decide), if_neg (show ¬ nI 4 = 2 by decide), if_neg (show ¬ nI 4 = 3 by decide), if_pos (show nI 4 = 4 from rfl), pg_snd pKN_19 hi4, pb_s, ks, z1, if_pos rfl, pb_s]
      · rw [pm_isNote hn2 hN.1, pb_s, if_neg h1, pm_in, pb_s, if_neg h2, pm_has2 hi4, pb_s]
        by_cases hp : μ 1 (61 + 6 * i + 2) = 1
        · rw [if_pos hp, pm_has3 hi4, pb_s, if_pos (z2 hp), if_neg (show ¬ nI 4 = 0 by decide), if_neg (show ¬ nI 4 = 1 by decide), if_neg (show ¬ nI 4 = 2 by decide), if_neg (show ¬ nI 4 = 3 by decide)]
        · rw [if_neg hp, if_neg (show ¬ nI 4 = 0 by decide), if_neg (show ¬ nI 4 = 1 by decide), if_neg (show ¬ nI 4 = 2 by decide), if_neg (show ¬ nI 4 = 3 by decide)]
    · refine ⟨μ 1 (61 + 6 * i + 3), μ, μ, ?_, ?_, h⟩
      · rw [if_neg (show ¬ nI 4 = 0 by decide), if_neg (show ¬ nI 4 = 1 by decide), if_neg (show ¬ nI 4 = 2 by decide), if_neg (show ¬ nI 4 = 3 by decide), if_pos (show nI 4 = 4 from rfl), pg_snd pKN_19 hi4, pb_s, ks, z1, if_neg (by decide), pg_get (19 + 8) 40 rfl pKN_19.2.2.2.1 hi4 (by decide), pb_s, pb_s, z4]
      · rw [pm_isNote hn2 hN.1, pb_s, if_neg h1, pm_in, pb_s, if_neg h2, pm_has2 hi4, pb_s, if_pos z2, pm_has3 hi4, pb_s, if_neg z3, if_neg (show ¬ nI 4 = 0 by decide), if_neg (show ¬ nI 4 = 1 by decide), if_neg (show ¬ nI 4 = 2 by decide), if_neg (show ¬ nI 4 = 3 by decide), show nI 4 - 1 = 3 by decide, pm_has3 hi4, pb_s]
  · rcases hcase with ⟨z1, z2⟩ | ⟨z1, z2, z3, z4, z5, z6⟩
    · refine ⟨-100004, μ, μ, ?_, ?_, h⟩
      · rw [if_neg (show ¬ nI 5 = 0 by decide), if_neg (show ¬ nI 5 = 1 by decide), if_neg (show ¬ nI 5 = 2 by decide), if_neg (show ¬ nI 5 = 3 by decide), if_neg (show ¬ nI 5 = 4 by decide), if_pos (show nI 5 = 5 from rfl), pg_snd pKN_19 hi4, pb_s, ks, z1, if_pos rfl, pb_s]
      · rw [pm_isNote hn2 hN.1, pb_s, if_neg h1, pm_in, pb_s, if_neg h2, pm_has2 hi4, pb_s]
        by_cases hp : μ 1 (61 + 6 * i + 2) = 1
        · rw [if_pos hp, pm_has3 hi4, pb_s, if_pos (z2 hp), if_neg (show ¬ nI 5 = 0 by decide), if_neg (show ¬ nI 5 = 1 by decide), if_neg (show ¬ nI 5 = 2 by decide), if_neg (show ¬ nI 5 = 3 by decide)]
        · rw [if_neg hp, if_neg (show ¬ nI 5 = 0 by decide), if_neg (show ¬ nI 5 = 1 by decide), if_neg (show ¬ nI 5 = 2 by decide), if_neg (show ¬ nI 5 = 3 by decide)]
    · refine ⟨μ 1 (61 + 6 * i + 4), μ, μ, ?_, ?_, h⟩
      · rw [if_neg (show ¬ nI 5 = 0 by decide), if_neg (show ¬ nI 5 = 1 by decide), if_neg (show ¬ nI 5 = 2 by decide), if_neg (show ¬ nI 5 = 3 by decide), if_neg (show ¬ nI 5 = 4 by decide), if_pos (show nI 5 = 5 from rfl), pg_snd pKN_19 hi4, pb_s, ks, z1, if_neg (by decide), pg_get (19 + 10) 40 rfl pKN_19.2.2.2.2 hi4 (by decide), pb_s, pb_s, z5]
      · rw [pm_isNote hn2 hN.1, pb_s, if_neg h1, pm_in, pb_s, if_neg h2, pm_has2 hi4, pb_s, if_pos z2, pm_has3 hi4, pb_s, if_neg z3, if_neg (show ¬ nI 5 = 0 by decide), if_neg (show ¬ nI 5 = 1 by decide), if_neg (show ¬ nI 5 = 2 by decide), if_neg (show ¬ nI 5 = 3 by decide), show nI 5 - 1 = 4 by decide, pm_has4 hi4, pb_s]
  · rcases hcase with ⟨z1, z2⟩ | ⟨z1, z2, z3, z4, z5, z6⟩
    · refine ⟨-100004, μ, μ, ?_, ?_, h⟩
      · rw [if_neg (show ¬ nI 6 = 0 by decide), if_neg (show ¬ nI 6 = 1 by decide), if_neg (show ¬ nI 6 = 2 by decide), if_neg (show ¬ nI 6 = 3 by decide), if_neg (show ¬ nI 6 = 4 by decide), if_neg (show ¬ nI 6 = 5 by decide), if_pos (show nI 6 = 6 from rfl), pg_snd pKN_19 hi4, pb_s, ks, z1, if_pos rfl, pb_s]
      · rw [pm_isNote hn2 hN.1, pb_s, if_neg h1, pm_in, pb_s, if_neg h2, pm_has2 hi4, pb_s]
        by_cases hp : μ 1 (61 + 6 * i + 2) = 1
        · rw [if_pos hp, pm_has3 hi4, pb_s, if_pos (z2 hp), if_neg (show ¬ nI 6 = 0 by decide), if_neg (show ¬ nI 6 = 1 by decide), if_neg (show ¬ nI 6 = 2 by decide), if_neg (show ¬ nI 6 = 3 by decide)]
        · rw [if_neg hp, if_neg (show ¬ nI 6 = 0 by decide), if_neg (show ¬ nI 6 = 1 by decide), if_neg (show ¬ nI 6 = 2 by decide), if_neg (show ¬ nI 6 = 3 by decide)]
    · refine ⟨μ 1 (61 + 6 * i + 5), μ, μ, ?_, ?_, h⟩
      · rw [if_neg (show ¬ nI 6 = 0 by decide), if_neg (show ¬ nI 6 = 1 by decide), if_neg (show ¬ nI 6 = 2 by decide), if_neg (show ¬ nI 6 = 3 by decide), if_neg (show ¬ nI 6 = 4 by decide), if_neg (show ¬ nI 6 = 5 by decide), if_pos (show nI 6 = 6 from rfl), pg_snd pKN_19 hi4, pb_s, ks, z1, if_neg (by decide), pg_get (19 + 6) 40 rfl pKN_19.2.2.1 hi4 (by decide), pb_s]
        rcases z6 with ⟨z7, z8⟩ | ⟨z7, z8⟩
        · rw [z7, if_neg (by decide), pg_oi0, pb_s, pb_s, z8]
        · rw [z7, if_pos rfl, pg_oi1, pb_s, pb_s, z8]
      · rw [pm_isNote hn2 hN.1, pb_s, if_neg h1, pm_in, pb_s, if_neg h2, pm_has2 hi4, pb_s, if_pos z2, pm_has3 hi4, pb_s, if_neg z3, if_neg (show ¬ nI 6 = 0 by decide), if_neg (show ¬ nI 6 = 1 by decide), if_neg (show ¬ nI 6 = 2 by decide), if_neg (show ¬ nI 6 = 3 by decide), show nI 6 - 1 = 5 by decide, pm_has5 hi4, pb_s]
