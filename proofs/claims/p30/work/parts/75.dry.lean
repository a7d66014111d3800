/-! ===== drying ===== -/
def psn (f : Nat → Nat) : Nat → Nat → Nat
  | _, 0 => 0
  | i, m + 1 => f i + psn f (i + 1) m
theorem psn_s (f : Nat → Nat) (i m : Nat) : psn f i (m + 1) = f i + psn f (i + 1) m := rfl
theorem psn_add {f g h : Nat → Nat} : ∀ (m i : Nat), (∀ b, i ≤ b → b < i + m → f b + g b = h b) → psn f i m + psn g i m = psn h i m
  | 0, _, _ => rfl
  | m + 1, i, q => by
    have a := psn_add m (i + 1) (fun b h1 h2 => q b (by omega) (by omega))
    have b := q i (by omega) (by omega)
    rw [psn_s, psn_s, psn_s]
    omega
/-- a row that has dried k times, and stands at time T -/
def pDry (s s' : Nat → Int32) (nb : Nat) (lv : Nat → Nat) (k T : Nat) : Prop := s' 0 = nI T ∧ (∀ b, b < nb → s' (11 + 5 * b + 2) = nI (lv b - k)) ∧ s' 4 = s 4 + nI (psn (fun b => min k (lv b)) 0 nb) ∧ (∀ q, q ≠ 0 → q ≠ 4 → (∀ b, b < nb → q ≠ 11 + 5 * b + 2) → s' q = s q)
theorem pDry_t {s s1 s2 : Nat → Int32} {nb k1 k2 T1 T2 : Nat} {lv : Nat → Nat} (h1 : pDry s s1 nb lv k1 T1) (h2 : pDry s1 s2 nb (fun b => lv b - k1) k2 T2) : pDry s s2 nb lv (k1 + k2) T2 := by
  obtain ⟨a1, a2, a3, a4⟩ := h1
  obtain ⟨b1, b2, b3, b4⟩ := h2
  refine ⟨b1, fun b hb => by rw [b2 b hb, Nat.sub_sub], ?_, fun q h0 h4 hq => by rw [b4 q h0 h4 hq, a4 q h0 h4 hq]⟩
  rw [b3, a3, Int32.add_assoc, nI_add, psn_add (h := fun b => min (k1 + k2) (lv b)) nb 0 (fun b _ _ => by dsimp only; omega)]
theorem pl_dryG {c nb k : Nat} {kont : gx_M → Int32 → Option (Int32 × gx_M)} (hk : pKB c) (hnb : nb ≤ 10) (hk2 : k ≤ 100000) (lv : Nat → Nat) : ∀ (m n i : Nat) (μ : gx_M), μ c 5 = nI nb → (∀ b, i ≤ b → b < nb → μ (c + 6) b = nI (lv b) ∧ lv b ≤ 1000) → i + m = nb → m < n → ∃ μ', lf_X0_dry_2 gl_kd c (nI k) kont n μ (nI i) = kont μ' (nI nb) ∧ (∀ a, a ≠ c → a ≠ c + 6 → μ' a = μ a) ∧ (∀ f, f ≠ 7 → μ' c f = μ c f) ∧ μ' c 7 = μ c 7 + nI (psn (fun b => min k (lv b)) i m) ∧ (∀ b, i ≤ b → b < nb → μ' (c + 6) b = nI (lv b - k)) ∧ (∀ b, b < i → μ' (c + 6) b = μ (c + 6) b) := by
  intro m
  induction m with
  | zero =>
    intro n i μ h5 hl hi hm
    obtain ⟨n, rfl⟩ : ∃ q, n = q + 1 := ⟨n - 1, by omega⟩
    have e : i = nb := by omega
    subst e
    refine ⟨μ, ?_, fun _ _ _ => rfl, fun _ _ => rfl, ?_, fun b h1 h2 => absurd h2 (by omega), fun _ _ => rfl⟩
    · rw [lf_X0_dry_2, h5, if_pos (nI_le (Nat.le_refl _) (by omega))]
    · rw [show psn (fun b => min k (lv b)) i 0 = 0 from rfl, nI_0, Int32.add_zero]
  | succ m ih =>
    intro n i μ h5 hl hi hm
    obtain ⟨n, rfl⟩ : ∃ q, n = q + 1 := ⟨n - 1, by omega⟩
    obtain ⟨hL, hL1⟩ := hl i (Nat.le_refl _) (by omega)
    have e : (if nI k < nI (lv i) then nI k else nI (lv i)) = nI (min k (lv i)) := by
      by_cases h : k < lv i
      · rw [if_pos (nI_lt h (by omega)), show min k (lv i) = k by omega]
      · rw [if_neg (nI_nlt (by omega) (by omega)), show min k (lv i) = lv i by omega]
    rw [lf_X0_dry_2, h5, if_neg (nI_ge (by omega) (by omega)), pg_get (c + 6) 10 rfl hk.2.2.1 (i := i) (by omega) (by decide), pb_s, hL, e, pg_add (c + 6) 10 rfl hk.2.2.1 (i := i) (by omega) (by decide), pb_s, gx_u_n (show c + 6 ≠ c by omega), hL, nI_adn (by omega), nI_1]
    obtain ⟨μ', e1, e2, e3, e4, e5, e6⟩ := ih n (i + 1) (gx_u (gx_u μ c 7 (μ c 7 + nI (min k (lv i)))) (c + 6) i (nI (lv i - min k (lv i)))) (by simp (disch := omega) only [pw_n]; exact h5) (fun b h1 h2 => by simp (disch := omega) only [pw_n]; exact hl b (by omega) h2) (by omega) (by omega)
    refine ⟨μ', e1, fun a h1 h2 => by rw [e2 a h1 h2, gx_u_n h2, gx_u_n h1], fun f hf => by rw [e3 f hf]; simp (disch := omega) only [pw_n], ?_, fun b h1 h2 => ?_, fun b hb => ?_⟩
    · rw [e4, psn_s]
      simp (disch := omega) only [pw_s, pw_n]
      rw [Int32.add_assoc, nI_add]
    · by_cases hq : b = i
      · subst hq
        rw [e6 b (by omega), pw_s, show lv b - min k (lv b) = lv b - k by omega]
      · exact e5 b (by omega) h2
    · rw [e6 b (by omega)]
      simp (disch := omega) only [pw_n]
theorem pl_dryM {nb : Nat} {kont : gx_M → Int32 → Option (Int32 × gx_M)} (hnb : nb ≤ 10) (lv : Nat → Nat) : ∀ (m n i : Nat) (μ : gx_M), μ 1 1 = nI nb → (∀ b, i ≤ b → b < nb → μ 1 (11 + 5 * b + 2) = nI (lv b) ∧ lv b ≤ 1000) → i + m = nb → m < n → ∃ μ', lf_X7_dries_2 gl_kd 0 kont n μ (nI i) = kont μ' (nI nb) ∧ (∀ a, a ≠ 1 → μ' a = μ a) ∧ (∀ q, q ≠ 4 → (∀ b, i ≤ b → b < nb → q ≠ 11 + 5 * b + 2) → μ' 1 q = μ 1 q) ∧ μ' 1 4 = μ 1 4 + nI (psn (fun b => min 1 (lv b)) i m) ∧ (∀ b, i ≤ b → b < nb → μ' 1 (11 + 5 * b + 2) = nI (lv b - 1)) := by
  intro m
  induction m with
  | zero =>
    intro n i μ h1 hl hi hm
    obtain ⟨n, rfl⟩ : ∃ q, n = q + 1 := ⟨n - 1, by omega⟩
    have e : i = nb := by omega
    subst e
    refine ⟨μ, ?_, fun _ _ => rfl, fun _ _ _ => rfl, ?_, fun b h1 h2 => absurd h2 (by omega)⟩
    · rw [lf_X7_dries_2]
      simp only [Nat.zero_add, pk1, px1, pt1, if_true, eq_self, h1]
      rw [if_pos (nI_le (Nat.le_refl _) (by omega))]
    · rw [show psn (fun b => min 1 (lv b)) i 0 = 0 from rfl, nI_0, Int32.add_zero]
  | succ m ih =>
    intro n i μ h1 hl hi hm
    obtain ⟨n, rfl⟩ : ∃ q, n = q + 1 := ⟨n - 1, by omega⟩
    obtain ⟨hL, hL1⟩ := hl i (Nat.le_refl _) (by omega)
    have hi10 : i < 10 := by omega
    have main : ∀ (L' x : Nat), L' = lv i - 1 → x = min 1 (lv i) → ∃ μ', lf_X7_dries_2 gl_kd 0 kont n (gx_u (gx_u μ 1 (11 + 5 * i + 2) (nI L')) 1 4 (μ 1 4 + nI x)) (nI (i + 1)) = kont μ' (nI nb) ∧ (∀ a, a ≠ 1 → μ' a = μ a) ∧ (∀ q, q ≠ 4 → (∀ b, i ≤ b → b < nb → q ≠ 11 + 5 * b + 2) → μ' 1 q = μ 1 q) ∧ μ' 1 4 = μ 1 4 + nI (psn (fun b => min 1 (lv b)) i (m + 1)) ∧ (∀ b, i ≤ b → b < nb → μ' 1 (11 + 5 * b + 2) = nI (lv b - 1)) := by
      intro L' x eL ex
      obtain ⟨μ', e1, e2, e3, e4, e5⟩ := ih n (i + 1) (gx_u (gx_u μ 1 (11 + 5 * i + 2) (nI L')) 1 4 (μ 1 4 + nI x)) (by simp (disch := omega) only [pw_n]; exact h1) (fun b h1 h2 => by simp (disch := omega) only [pw_n]; exact hl b (by omega) h2) (by omega) (by omega)
      refine ⟨μ', e1, fun a ha => by rw [e2 a ha, gx_u_n ha, gx_u_n ha], fun q h4 hq => ?_, ?_, fun b hb1 hb2 => ?_⟩
      · have := hq i (by omega) (by omega)
        rw [e3 q h4 (fun b h1 h2 => hq b (by omega) h2), pw_n (Or.inr h4), pw_n (Or.inr this)]
      · rw [e4, pw_s, psn_s, Int32.add_assoc, nI_add, ex]
      · by_cases hq : b = i
        · subst hq
          rw [e3 _ (by omega) (fun d h1 h2 => by omega), pw_n (Or.inr (by omega)), pw_s, eL]
        · exact e5 b (by omega) hb2
    rw [lf_X7_dries_2]
    simp only [Nat.zero_add, pk1, px1, pt1, if_true, eq_self, h1]
    rw [if_neg (nI_ge (by omega) (by omega)), pm_of2 hi10, pb_s, hL, nI_1]
    by_cases hz : lv i = 0
    · rw [if_pos (show nI (lv i) ≤ 0 by rw [hz]; decide), pm_of2 hi10, pb_s, hL, pm_put2 hi10, pb_s]
      simp (disch := omega) only [px4, pt4, if_true, eq_self, pw_n, Int32.sub_zero]
      exact main (lv i) 0 (by omega) (by omega)
    · rw [if_neg (nI_nle (by omega) (by omega)), pm_of2 hi10, pb_s, hL, pm_put2 hi10, pb_s]
      simp (disch := omega) only [px4, pt4, if_true, eq_self, pw_n]
      rw [show nI (lv i) - 1 = nI (lv i - 1) from pk_sub (b := 1) (by omega)]
      exact main (lv i - 1) 1 rfl (by omega)
theorem p_div1 {t d : Nat} (hd : 0 < d) : (t + 1) / d - t / d = (if (t + 1) % d = 0 then 1 else 0) ∧ t / d ≤ (t + 1) / d := by
  have h := Nat.div_add_mod t d
  have hm := Nat.mod_lt t hd
  generalize t / d = q at h ⊢
  generalize t % d = r at h hm
  subst h
  by_cases e : r + 1 = d
  · have e1 : d * q + r + 1 = d * (q + 1) + 0 := by rw [Nat.mul_add, Nat.mul_one]; omega
    rw [e1, Nat.mul_add_div hd, Nat.mul_add_mod, Nat.zero_div, Nat.zero_mod, if_pos rfl]
    omega
  · rw [show d * q + r + 1 = d * q + (r + 1) by omega, Nat.mul_add_div hd, Nat.mul_add_mod, Nat.div_eq_of_lt (by omega), Nat.mod_eq_of_lt (by omega), if_neg (by omega)]
    omega
theorem pm_sec {ρ : gx_M} {nb tc dr : Nat} {lv : Nat → Nat} (h0 : ρ 1 0 = nI tc) (ht : tc < 100000) (h1 : ρ 1 1 = nI nb) (hnb : nb ≤ 10) (h7 : ρ 1 7 = nI dr) (hd : 1 ≤ dr) (hd2 : dr ≤ 600) (hl : ∀ b, b < nb → ρ 1 (11 + 5 * b + 2) = nI (lv b) ∧ lv b ≤ 1000) :
    ∃ ρ', (∀ a, a ≠ 1 → ρ' a = ρ a) ∧ pDry (ρ 1) (ρ' 1) nb lv ((tc + 1) / dr - tc / dr) (tc + 1) ∧ fn_X7_second gl_kd ρ 0 = gx_b (fn_X7_noteAt gl_kd ρ' 0 (nI (tc + 1))) (fun r m => if r < 0 then some (r, m) else gx_b (fn_X7_plays gl_kd m 0 r) (fun _ m9 => some (r, m9))) := by
  unfold fn_X7_second
  simp only [Nat.zero_add, pk1, px0, pt0, if_true, eq_self]
  rw [pm_set0, pb_s, pw_n (Or.inr (by decide)), h7, if_pos (nI_ne0 (by omega) (by omega)), pw_s, h0, nI_1, pk_rem (by omega) (by omega) (by omega), (p_div1 hd).1]
  by_cases e : (tc + 1) % dr = 0
  · rw [if_pos (show nI ((tc + 1) % dr) = 0 by rw [e]; rfl), if_pos e]
    obtain ⟨μ', e1, e2, e3, e4, e5⟩ := pl_dryM (kont := fun m13 y14 => some (0, m13)) hnb lv nb gx_F 0 (gx_u ρ 1 0 (nI (tc + 1))) (by rw [pw_n (Or.inr (by decide))]; exact h1) (fun b _ hb => by rw [pw_n (Or.inr (by omega))]; exact hl b hb) (by omega) (by unfold gx_F; omega)
    have e1' : fn_X7_dries gl_kd (gx_u ρ 1 0 (nI (tc + 1))) 0 = some (0, μ') := e1
    have z0 : μ' 1 0 = nI (tc + 1) := by rw [e3 0 (by decide) (fun b _ _ => by omega), pw_s]
    refine ⟨μ', fun a ha => by rw [e2 a ha, gx_u_n ha], ⟨z0, fun b hb => e5 b (by omega) hb, by rw [e4, pw_n (Or.inr (by decide))], fun q q0 q4 hq => by rw [e3 q q4 (fun b _ hb => hq b hb), pw_n (Or.inr q0)]⟩, ?_⟩
    rw [e1', pb_s, z0]
  · rw [if_neg (show ¬ nI ((tc + 1) % dr) = 0 from nI_ne0 (by omega) (by have := Nat.mod_lt (tc + 1) hd; omega)), if_neg e]
    refine ⟨gx_u ρ 1 0 (nI (tc + 1)), fun a ha => gx_u_n ha, ⟨pw_s _ _ _ _, fun b hb => by rw [pw_n (Or.inr (by omega)), (hl b hb).1]; rfl, ?_, fun q q0 q4 hq => pw_n (Or.inr q0)⟩, ?_⟩
    · rw [pw_n (Or.inr (by decide))]
      have z : ∀ m i, psn (fun b => min 0 (lv b)) i m = 0 := fun m => by
        induction m with
        | zero => intro i; rfl
        | succ m ih => intro i; rw [psn_s, ih, Nat.zero_min]
      rw [z, nI_0, Int32.add_zero]
    · rfl
theorem psf_nI {f : Nat → Int32} {lv : Nat → Nat} : ∀ (m i : Nat), (∀ b, i ≤ b → b < i + m → f b = nI (lv b)) → psf f i m = nI (psn lv i m)
  | 0, _, _ => rfl
  | m + 1, i, h => by
    rw [psf_s, psn_s, h i (by omega) (by omega), psf_nI m (i + 1) (fun b h1 h2 => h b (by omega) (by omega)), nI_add]
theorem Acc_dry {s s' : Nat → Int32} {nb k T : Nat} {lv : Nat → Nat} (h : pDry s s' nb lv k T) (h1 : s 1 = nI nb) (hnb : nb ≤ 10) (hl : ∀ b, b < nb → s (11 + 5 * b + 2) = nI (lv b) ∧ lv b ≤ 1000) (ha : Acc s) : Acc s' := by
  obtain ⟨n, g1, g2, g3⟩ := ha
  have e : n = nb := (nI_eq (by omega) (by omega)).1 (g2.symm.trans h1)
  subst e
  obtain ⟨d1, d2, d3, d4⟩ := h
  have w : ∀ q, q ≠ 0 → q ≠ 4 → (q < 11 ∨ 61 ≤ q) → s' q = s q := fun q a1 a2 a3 => d4 q a1 a2 (fun b hb => by omega)
  refine ⟨n, g1, by rw [w 1 (by decide) (by decide) (by omega), g2], ?_⟩
  rw [w 3 (by decide) (by decide) (by omega), w 5 (by decide) (by decide) (by omega), w 6 (by decide) (by decide) (by omega), d3, g3]
  rw [psf_nI (f := fun b => s (11 + 5 * b + 2)) (lv := lv) n 0 (fun b _ hb => (hl b (by omega)).1), psf_nI (f := fun b => s' (11 + 5 * b + 2)) (lv := fun b => lv b - k) n 0 (fun b _ hb => d2 b (by omega))]
  rw [← psn_add (f := fun b => lv b - k) (g := fun b => min k (lv b)) (h := lv) n 0 (fun b _ hb => by show lv b - k + min k (lv b) = lv b; omega), ← nI_add]
  ac_rfl
