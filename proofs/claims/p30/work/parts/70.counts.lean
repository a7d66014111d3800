/-! ===== reading the piece ===== -/
def pbeg (f : Nat → Int32) (g : Int32) (i : Nat) : Int32 := if i = 0 then 1 else if f i - f (i - 1) < g then 0 else 1
theorem pbeg_01 (f : Nat → Int32) (g : Int32) (i : Nat) : pbeg f g i = 0 ∨ pbeg f g i = 1 := by
  unfold pbeg
  split
  · exact Or.inr rfl
  · split
    · exact Or.inl rfl
    · exact Or.inr rfl
theorem pbeg_c {f f' : Nat → Int32} {g : Int32} {n i : Nat} (h : ∀ x, x < n → f x = f' x) (hi : i < n) : pbeg f g i = pbeg f' g i := by
  unfold pbeg
  rw [h i hi, h (i - 1) (by omega)]
theorem pg_beg {μ : gx_M} {c i : Nat} {g : Int32} (hk : pKN c) (hi : i < 40) : fn_X2_beginsPhrase gl_kd μ c (nI i) g = some (pbeg (μ (c + 2)) g i, μ) := by
  unfold fn_X2_beginsPhrase pbeg
  by_cases e : i = 0
  · subst e
    rw [if_pos (show nI 0 = 0 from rfl), if_pos rfl]
  · obtain ⟨i, rfl⟩ : ∃ q, i = q + 1 := ⟨i - 1, by omega⟩
    rw [if_neg (nI_ne0 (by omega) (by omega)), if_neg e, pg_get (c + 2) 40 rfl hk.1 (i := i + 1) (by omega) (by decide), pb_s, nI_pred, pg_get (c + 2) 40 rfl hk.1 (i := i) (by omega) (by decide), pb_s, show i + 1 - 1 = i from rfl]
    split <;> rfl
theorem pm_beg {μ : gx_M} {i : Nat} (hi : i < 40) : fn_X7_begins gl_kd μ 0 (nI i) = some (pbeg (fun x => μ 1 (61 + 6 * x)) (μ 1 8) i, μ) := by
  unfold fn_X7_begins pbeg
  by_cases e : i = 0
  · subst e
    rw [if_pos (show nI 0 = 0 from rfl), if_pos rfl]
  · obtain ⟨i, rfl⟩ : ∃ q, i = q + 1 := ⟨i - 1, by omega⟩
    rw [if_neg (nI_ne0 (by omega) (by omega)), if_neg e, pm_has0 (b := i + 1) (by omega), pb_s, nI_pred, pm_has0 (b := i) (by omega), pb_s, pm_set1, pb_s, show i + 1 - 1 = i from rfl]
    split <;> rfl
theorem psf_s (f : Nat → Int32) (i m : Nat) : psf f i (m + 1) = f i + psf f (i + 1) m := rfl
theorem pl_phG {μ : gx_M} {c j : Nat} {g : Int32} {k : gx_M → Int32 → Int32 → Option (Int32 × gx_M)} (hk : pKN c) (hj : j < 40) : ∀ (m n i : Nat) (x : Int32), i + m = j + 1 → m < n → lf_X2_phraseOf_5 gl_kd c (nI j) g k n μ x (nI i) = k μ (x + psf (pbeg (μ (c + 2)) g) i m) (nI (j + 1)) := by
  intro m
  induction m with
  | zero =>
    intro n i x hi hn
    obtain ⟨n, rfl⟩ : ∃ q, n = q + 1 := ⟨n - 1, by omega⟩
    have e : i = j + 1 := by omega
    subst e
    rw [lf_X2_phraseOf_5, if_pos (nI_lt (by omega) (by omega)), show psf (pbeg (μ (c + 2)) g) (j + 1) 0 = 0 from rfl, Int32.add_zero]
  | succ m ih =>
    intro n i x hi hn
    obtain ⟨n, rfl⟩ : ∃ q, n = q + 1 := ⟨n - 1, by omega⟩
    rw [lf_X2_phraseOf_5, if_neg (nI_nlt (by omega) (by omega)), pg_beg hk (i := i) (by omega), pb_s, nI_1, psf_s]
    rcases pbeg_01 (μ (c + 2)) g i with e | e
    · rw [e, if_pos rfl, ih n (i + 1) x (by omega) (by omega), Int32.zero_add]
    · rw [e, if_neg (by decide), ih n (i + 1) (x + 1) (by omega) (by omega), Int32.add_assoc]
theorem pl_phM {μ : gx_M} {j : Nat} {k : gx_M → Int32 → Int32 → Option (Int32 × gx_M)} (hj : j < 40) : ∀ (m n i : Nat) (x : Int32), i + m = j + 1 → m < n → lf_X7_phraseOf_4 gl_kd 0 (nI j) k n μ x (nI i) = k μ (x + psf (pbeg (fun x => μ 1 (61 + 6 * x)) (μ 1 8)) i m) (nI (j + 1)) := by
  intro m
  induction m with
  | zero =>
    intro n i x hi hn
    obtain ⟨n, rfl⟩ : ∃ q, n = q + 1 := ⟨n - 1, by omega⟩
    have e : i = j + 1 := by omega
    subst e
    rw [lf_X7_phraseOf_4, if_pos (nI_lt (by omega) (by omega)), show psf (pbeg (fun x => μ 1 (61 + 6 * x)) (μ 1 8)) (j + 1) 0 = 0 from rfl, Int32.add_zero]
  | succ m ih =>
    intro n i x hi hn
    obtain ⟨n, rfl⟩ : ∃ q, n = q + 1 := ⟨n - 1, by omega⟩
    rw [lf_X7_phraseOf_4, if_neg (nI_nlt (by omega) (by omega)), pm_beg (i := i) (by omega), pb_s, nI_1, psf_s]
    rcases pbeg_01 (fun x => μ 1 (61 + 6 * x)) (μ 1 8) i with e | e
    · rw [e, if_pos rfl, ih n (i + 1) _ (by omega) (by omega), Int32.add_assoc]
    · rw [e, if_neg (by decide), ih n (i + 1) (x + 1) (by omega) (by omega), Int32.add_assoc]
def pphr (s : Nat → Int32) (j : Nat) : Int32 := psf (pbeg (fun x => s (61 + 6 * x)) (s 8)) 0 (j + 1) - 1
theorem pm_phr {μ : gx_M} {j : Nat} (hj : j < 40) : fn_X7_phraseOf gl_kd μ 0 (nI j) = some (pphr (μ 1) j, μ) := by
  unfold fn_X7_phraseOf
  have := pl_phM (μ := μ) (k := fun m5 y6 y7 => some (y6 - 1, m5)) hj (j + 1) gx_F 0 0 (by omega) (by unfold gx_F; omega)
  rw [Int32.zero_add] at this
  exact this
theorem pg_phr {μ : gx_M} {c j nn : Nat} {s : Nat → Int32} (hk : pKN c) (hN : rN μ c s nn) (hj : j < nn) : fn_X2_phraseOf gl_kd μ c (nI j) (s 8) = some (pphr s j, μ) := by
  unfold fn_X2_phraseOf
  have hnn := hN.1
  have := pl_phG (μ := μ) (g := s 8) (k := fun m5 y6 y7 => some (y6, m5)) hk (show j < 40 by omega) (j + 1) gx_F 0 (-1) (by omega) (by unfold gx_F; omega)
  refine this.trans ?_
  rw [psf_c (g := pbeg (fun x => s (61 + 6 * x)) (s 8)) (j + 1) 0 (fun b h1 h2 => pbeg_c (n := nn) (fun x hx => (hN.2.2.1 x hx).1) (by omega))]
  unfold pphr
  rw [Int32.sub_eq_add_neg, Int32.add_comm]
def psnd (o : Int32) : Int32 := if o = 2 then 1 else if o = 3 then 1 else 0
theorem pg_snd {μ : gx_M} {c i : Nat} (hk : pKN c) (hi : i < 40) : fn_X2_sounded gl_kd μ c (nI i) = some (psnd (μ (c + 6) i), μ) := by
  unfold fn_X2_sounded psnd
  rw [pg_get (c + 6) 40 rfl hk.2.2.1 hi (by decide), pb_s]
  split
  · rfl
  · rw [pg_get (c + 6) 40 rfl hk.2.2.1 hi (by decide), pb_s]
    split <;> rfl
def phsd (p y : Int32) : Int32 := if p = 1 then (if y = -1 then 0 else 1) else 0
theorem pm_snd {μ : gx_M} {i : Nat} (hi : i < 40) : fn_X7_hasSounded gl_kd μ 0 (nI i) = some (phsd (μ 1 (61 + 6 * i + 2)) (μ 1 (61 + 6 * i + 3)), μ) := by
  unfold fn_X7_hasSounded phsd
  rw [pm_has2 hi, pb_s]
  split
  · rw [pm_has3 hi, pb_s]
    split <;> rfl
  · rfl
theorem NR_s {o bw er p y e cl : Int32} (h : NR o bw er p y e cl) : psnd o = phsd p y := by
  unfold psnd phsd
  rcases h with ⟨rfl, rfl⟩ | ⟨rfl, rfl, rfl, rfl⟩ | ⟨⟨rfl, rfl⟩ | ⟨rfl, rfl⟩, rfl, h1, h2, h3, h4⟩
  · rw [if_neg (by decide), if_neg (by decide), if_neg (by decide)]
  · decide
  · rw [if_pos rfl, if_pos rfl, if_neg h3]
  · rw [if_neg (by decide), if_pos rfl, if_pos rfl, if_neg h3]
theorem pg_st {μ : gx_M} {w : Nat} (hw : w < 4) : fn_X4_setting gl_kd μ 7 (nI w) = some (μ 31 w, μ) := by
  unfold fn_X4_setting
  rw [pg_get 31 4 rfl pKT_7.2.2 hw (by decide), pb_s]
theorem pg_st1 {μ : gx_M} : fn_X4_setting gl_kd μ 7 1 = some (μ 31 1, μ) := pg_st (w := 1) (by decide)
theorem pg_oi0 {kd : Nat → Nat} {μ : gx_M} : fn_X6_oneIf kd μ 0 = some (0, μ) := rfl
theorem pg_oi1 {kd : Nat → Nat} {μ : gx_M} : fn_X6_oneIf kd μ 1 = some (1, μ) := by unfold fn_X6_oneIf; rw [if_neg (by decide)]
