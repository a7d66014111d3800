/-! ===== advance against the seconds ===== -/
def pfold {α : Type} (g : α → Nat → (Nat → Int32) → α) (tn : Nat → Nat) (t0 T : Nat) (s : Nat → Int32) : α → Nat → Nat → α
  | a, _, 0 => a
  | a, i, m + 1 => pfold g tn t0 T s (if t0 < tn i ∧ tn i ≤ T then g a i s else a) (i + 1) m
theorem pfold_s {α : Type} (g : α → Nat → (Nat → Int32) → α) (tn : Nat → Nat) (t0 T : Nat) (s : Nat → Int32) (a : α) (i m : Nat) : pfold g tn t0 T s a i (m + 1) = pfold g tn t0 T s (if t0 < tn i ∧ tn i ≤ T then g a i s else a) (i + 1) m := rfl
theorem ADV {α : Type} {t T nn dr nb t0 : Nat} {tn : Nat → Nat} (f : α → Int32 → gx_M → α) (g : α → Nat → (Nat → Int32) → α) (hk : pKT t) (hf0 : ∀ a m, f a (-1) m = a) (hf : ∀ a x m, x < 40 → f a (nI x) m = g a x (m 1)) (hg : ∀ a x s s', (∀ w, w < 6 → s (61 + 6 * x + w) = s' (61 + 6 * x + w)) → g a x s = g a x s') (hT : T ≤ 3600) (hd : 1 ≤ dr) (hd2 : dr ≤ 600) (htn : ∀ x y, x < y → y < nn → tn x < tn y) (htb : ∀ x, x < nn → tn x ≤ 3600) :
    ∀ (m n i : Nat) (κ ρ : gx_M) (tc : Nat) (c2 : Int32) (acc : α), i + m = nn → m < n → rB κ (t + 1) (ρ 1) nb → rN κ (t + 12) (ρ 1) nn → rS κ t (ρ 1) → ρ 1 0 = nI tc → ρ 1 7 = nI dr → tc ≤ T → t0 ≤ tc → (∀ x, x < nn → ρ 1 (61 + 6 * x) = nI (tn x)) → (∀ x, x < i → tn x ≤ tc ∨ T < tn x) → (∀ x, i ≤ x → x < nn → tn x ≤ tc → tn x ≤ t0) →
    ∃ κ' ρ', lf_X4_advance_4 gl_kd t (nI T) (fun m12 y13 y14 => gx_b (fn_X4_dryUntil gl_kd m12 t (nI T)) (fun _ m16 => some (y13, m16))) n κ c2 (nI i) = some (pfold (fun a _ _ => a + 1) tn t0 T (ρ' 1) c2 i m, κ') ∧ pGo f (T - tc) ρ acc ρ' (pfold g tn t0 T (ρ' 1) acc i m) ∧ rB κ' (t + 1) (ρ' 1) nb ∧ rN κ' (t + 12) (ρ' 1) nn ∧ rS κ' t (ρ' 1) ∧ ρ' 1 0 = nI T ∧ (∀ a, (a < t ∨ t + 25 ≤ a) → κ' a = κ a) ∧ (∀ a, a ≠ 1 → ρ' a = ρ a) ∧ (∀ x, x < i → ∀ w, w < 6 → ρ' 1 (61 + 6 * x + w) = ρ 1 (61 + 6 * x + w)) ∧ (∀ x, x < nn → ρ' 1 (61 + 6 * x) = nI (tn x)) ∧ (∀ x, i ≤ x → x < nn → t0 < tn x → tn x ≤ T → ρ' 1 (61 + 6 * x + 2) = 1 ∧ (0 < nb ↔ ¬ ρ' 1 (61 + 6 * x + 3) = -1)) ∧ (Acc (ρ 1) → Acc (ρ' 1)) ∧ (∀ q, 7 ≤ q → q < 11 → ρ' 1 q = ρ 1 q) := by
  intro m
  induction m with
  | zero =>
    intro n i κ ρ tc c2 acc hi hm hB hN hS h0 h7 ht1 ht0 hx hJ hJ2
    obtain ⟨n, rfl⟩ : ∃ q, n = q + 1 := ⟨n - 1, by omega⟩
    have e : i = nn := by omega
    subst e
    have hnn := hN.1
    have hnb := hB.1
    have hl := rB_lvs hB
    obtain ⟨κ', e1, f1, g1⟩ := pg_dU hk hB hN hS h0 h7 hd hd2 ht1 hT hl
    obtain ⟨ρ', e2, f2, g2⟩ := pGo_skip hf0 hnb hnn hd hd2 acc (T - tc) ρ tc (plv (ρ 1)) h0 (by omega) hB.2.1.2 hN.2.1.2 h7 hl (fun x hx1 y y1 y2 q => by
      rw [hx x hx1] at q
      have := htb x hx1
      have q2 := (nI_eq (by omega) (by omega)).1 q
      have := hJ x hx1
      omega)
    rw [show tc + (T - tc) = T by omega] at g2
    obtain ⟨b1, n1, s1⟩ := g1 _ g2
    have same := pDry_n g2 hnb
    refine ⟨κ', ρ', ?_, e2, b1, n1, s1, g2.1, f1, f2, fun x hx w hw => same _ (by omega), fun x hx1 => by rw [same _ (by omega)]; exact hx x hx1, fun x h1 h2 => by omega, Acc_dry g2 hB.2.1.2 hnb hl, fun q h1 h2 => same q (by omega)⟩
    rw [lf_X4_advance_4, show fn_X2_size gl_kd κ (t + 12) = some (κ (t + 12) 5, κ) from rfl, pb_s, hN.2.1.1, if_pos (nI_le (Nat.le_refl _) (by omega)), e1, pb_s]
    rfl
  | succ m ih =>
    intro n i κ ρ tc c2 acc hi hm hB hN hS h0 h7 ht1 ht0 hx hJ hJ2
    obtain ⟨n, rfl⟩ : ∃ q, n = q + 1 := ⟨n - 1, by omega⟩
    have hnn := hN.1
    have hnb := hB.1
    have hi1 : i < nn := by omega
    have hi4 : i < 40 := by omega
    have htni := htb i hi1
    have htim : fn_X2_timeOf gl_kd κ (t + 12) (nI i) = some (nI (tn i), κ) := by
      unfold fn_X2_timeOf
      rw [pg_get (t + 12 + 2) 40 rfl hk.2.1.1 hi4 (by decide), pb_s, (hN.2.2.1 i hi1).1, hx i hi1]
    rw [lf_X4_advance_4, show fn_X2_size gl_kd κ (t + 12) = some (κ (t + 12) 5, κ) from rfl, pb_s, hN.2.1.1, if_neg (nI_ge (by omega) (by omega)), htim, pb_s, hS.1, h0, nI_1]
    by_cases c1 : tn i ≤ tc
    · rw [if_pos (nI_le c1 (by omega))]
      have hz := hJ2 i (Nat.le_refl _) hi1 c1
      obtain ⟨κ', ρ', x1, x2, x3, x4, x5, x6, x7, x8, x9, x10, x11, x12, x13⟩ := ih n (i + 1) κ ρ tc c2 acc (by omega) (by omega) hB hN hS h0 h7 ht1 ht0 hx (fun x hx1 => by
        by_cases q : x = i
        · subst q; exact Or.inl c1
        · exact hJ x (by omega)) (fun x y1 y2 => hJ2 x (by omega) y2)
      refine ⟨κ', ρ', ?_, ?_, x3, x4, x5, x6, x7, x8, fun x hx => x9 x (by omega), x10, fun x y1 y2 y3 y4 => x11 x (by have h9 : x ≠ i := (fun q => (by subst q; omega)); omega) y2 y3 y4, x12, x13⟩
      · rw [pfold_s, if_neg (by omega)]; exact x1
      · rw [pfold_s, if_neg (by omega)]; exact x2
    · rw [if_neg (nI_ge (by omega) (by omega))]
      by_cases c3 : T < tn i
      · rw [if_pos (nI_lt c3 (by omega))]
        obtain ⟨κ', ρ', x1, x2, x3, x4, x5, x6, x7, x8, x9, x10, x11, x12, x13⟩ := ih n (i + 1) κ ρ tc c2 acc (by omega) (by omega) hB hN hS h0 h7 ht1 ht0 hx (fun x hx1 => by
          by_cases q : x = i
          · subst q; exact Or.inr c3
          · exact hJ x (by omega)) (fun x y1 y2 => hJ2 x (by omega) y2)
        refine ⟨κ', ρ', ?_, ?_, x3, x4, x5, x6, x7, x8, fun x hx => x9 x (by omega), x10, fun x y1 y2 y3 y4 => x11 x (by have h9 : x ≠ i := (fun q => (by subst q; omega)); omega) y2 y3 y4, x12, x13⟩
        · rw [pfold_s, if_neg (by omega)]; exact x1
        · rw [pfold_s, if_neg (by omega)]; exact x2
      · rw [if_neg (nI_nlt (by omega) (by omega))]
        have hl := rB_lvs hB
        obtain ⟨κ1, e1, f1, g1⟩ := pg_dU (T := tn i) hk hB hN hS h0 h7 hd hd2 (by omega) (by omega) hl
        obtain ⟨ρ1, e2, f2, g2⟩ := pGo_skip hf0 hnb hnn hd hd2 acc (tn i - tc - 1) ρ tc (plv (ρ 1)) h0 (by omega) hB.2.1.2 hN.2.1.2 h7 hl (fun x hx1 y y1 y2 q => by
          rw [hx x hx1] at q
          have := htb x hx1
          have q2 := (nI_eq (by omega) (by omega)).1 q
          by_cases z : x < i
          · have := hJ x z
            omega
          · by_cases z2 : x = i
            · subst z2; omega
            · have := htn i x (by omega) hx1
              omega)
        have same1 := pDry_n g2 hnb
        obtain ⟨ρ2, f3, g3, e3⟩ := pm_sec (ρ := ρ1) (tc := tc + (tn i - tc - 1)) g2.1 (by omega) (by rw [same1 1 (by omega)]; exact hB.2.1.2) hnb (by rw [same1 7 (by omega)]; exact h7) hd hd2 (fun b hb => ⟨g2.2.1 b hb, Nat.le_trans (Nat.sub_le _ _) (hl b hb).2⟩)
        have gg := pDry_t g2 g3
        rw [show tc + (tn i - tc - 1) + 1 = tn i by omega] at gg g3 e3
        have m2 : tc / dr ≤ (tc + (tn i - tc - 1)) / dr := Nat.div_le_div_right (by omega)
        have m3 : (tc + (tn i - tc - 1)) / dr ≤ tn i / dr := Nat.div_le_div_right (by omega)
        rw [show (tc + (tn i - tc - 1)) / dr - tc / dr + (tn i / dr - (tc + (tn i - tc - 1)) / dr) = tn i / dr - tc / dr by omega] at gg
        obtain ⟨b1, n1, s1⟩ := g1 _ gg
        have same := pDry_n gg hnb
        have hx2 : ∀ x, x < nn → ρ2 1 (61 + 6 * x) = nI (tn x) := fun x hx1 => by rw [same _ (by omega)]; exact hx x hx1
        have hat : fn_X7_noteAt gl_kd ρ2 0 (nI (tn i)) = some (nI i, ρ2) := by
          rcases pm_nat (μ := ρ2) (v := nI (tn i)) n1.2.1.2 hnn with ⟨x, y1, y2, _, y3⟩ | ⟨y1, y2⟩
          · rw [hx2 x y1] at y2
            have := htb x y1
            have y4 := (nI_eq (by omega) (by omega)).1 y2
            have : x = i := by
              rcases Nat.lt_trichotomy x i with z | z | z
              · have := htn x i z hi1; omega
              · exact z
              · have := htn i x z y1; omega
            subst this
            exact y3
          · exact absurd (hx2 i hi1) (y1 i hi1)
        obtain ⟨κ2, ρ3, p1, p2, p3, p4, p5, p6, p7, p8, p9, p10, p11⟩ := p_play hk b1 n1 s1 hi1
        have e4 : fn_X7_second gl_kd ρ1 0 = some (nI i, ρ3) := by
          rw [e3, hat, pb_s, if_neg (nI_pos (by omega)), p2, pb_s]
        have e5 : pGo f (tn i - tc) ρ acc ρ3 (g acc i (ρ3 1)) := by
          have h1 : pGo f 1 ρ1 acc ρ3 (g acc i (ρ3 1)) := ⟨nI i, ρ3, e4, by rw [p8 0 (by omega), gg.1, g2.1, nI_1, show tc + (tn i - tc - 1) + 1 = tn i by omega], by rw [p8 1 (by omega), same 1 (by omega), same1 1 (by omega)], Or.inr ⟨i, hi4, rfl⟩, fun c hc => by rw [p4 c hc, f3 c hc], rfl, by rw [hf _ _ _ hi4]⟩
          have := pGo_add (f := f) (tn i - tc - 1) 1 ρ ρ1 ρ3 acc acc _ e2 h1
          rw [show tn i - tc - 1 + 1 = tn i - tc by omega] at this
          exact this
        have hx3 : ∀ x, x < nn → ρ3 1 (61 + 6 * x) = nI (tn x) := fun x hx1 => by rw [p8 _ (by omega)]; exact hx2 x hx1
        obtain ⟨κ', ρ', x1, x2, x3, x4, x5, x6, x7, x8, x9, x10, x11, x12, x13⟩ := ih n (i + 1) κ2 ρ3 (tn i) (c2 + 1) (g acc i (ρ3 1)) (by omega) (by omega) p5 p6 p7 (by rw [p8 0 (by omega)]; exact gg.1) (by rw [p8 7 (by omega), same 7 (by omega)]; exact h7) (by omega) (by omega) hx3 (fun x hx1 => by
          by_cases q : x = i
          · subst q; exact Or.inl (Nat.le_refl _)
          · have := htn x i (by omega) hi1
            exact Or.inl (by omega)) (fun x y1 y2 y3 => by have := htn i x (by omega) y2; omega)
        refine ⟨κ', ρ', ?_, ?_, x3, x4, x5, x6, fun a ha => by rw [x7 a ha, p3 a (by omega), f1 a ha], fun a ha => by rw [x8 a ha, p4 a ha, f3 a ha, f2 a ha], fun x hx w hw => ?_, x10, fun x y1 y2 y3 y4 => ?_, fun ha => x12 (p11 (Acc_dry gg hB.2.1.2 hnb hl ha)), fun q h1 h2 => by rw [x13 q h1 h2, p8 q (by omega), same q (by omega)]⟩
        · rw [e1, pb_s, p1, pb_s, pfold_s, if_pos (by omega)]
          exact x1
        · have := pGo_add (f := f) (tn i - tc) (T - tn i) ρ ρ3 ρ' acc _ _ e5 x2
          rw [show tn i - tc + (T - tn i) = T - tc by omega] at this
          rw [pfold_s, if_pos (by omega), ← hg acc i (ρ3 1) (ρ' 1) (fun w hw => (x9 i (by omega) w hw).symm)]
          exact this
        · rw [x9 x (by omega) w hw, p8 _ (by omega), same _ (by omega)]
        · by_cases q : x = i
          · subst q
            have w2 := x9 x (by omega) 2 (by omega)
            have w3 := x9 x (by omega) 3 (by omega)
            rw [w2, w3]
            exact ⟨p9, p10⟩
          · exact x11 x (by omega) y2 y3 y4
/-- the times of a row -/
def ptn (s : Nat → Int32) (x : Nat) : Nat := (s (61 + 6 * x)).toNatClampNeg
theorem rN_tn {μ : gx_M} {c nn : Nat} {s : Nat → Int32} (h : rN μ c s nn) : (∀ x, x < nn → s (61 + 6 * x) = nI (ptn s x)) ∧ (∀ x, x < nn → ptn s x ≤ 3600) ∧ (∀ x y, x < y → y < nn → ptn s x < ptn s y) := by
  have a : ∀ x, x < nn → s (61 + 6 * x) = nI (ptn s x) ∧ ptn s x ≤ 3600 := fun x hx => by
    obtain ⟨_, _, _, ⟨k, h1, h2⟩, _⟩ := h.2.2.1 x hx
    unfold ptn
    rw [h2, nI_clamp (by omega)]
    exact ⟨rfl, h1⟩
  refine ⟨fun x hx => (a x hx).1, fun x hx => (a x hx).2, fun x y h1 h2 => ?_⟩
  have := h.2.2.2 x y h1 h2
  rw [(a x (by omega)).1, (a y h2).1] at this
  have b1 := (a x (by omega)).2
  have b2 := (a y h2).2
  exact (pn_lt (by omega) (by omega)).1 this
/-- advance as a whole -/
theorem ADVt {α : Type} {t T nn nb t0 : Nat} {κ ρ : gx_M} (f : α → Int32 → gx_M → α) (g : α → Nat → (Nat → Int32) → α) (acc : α) (hk : pKT t) (hf0 : ∀ a m, f a (-1) m = a) (hf : ∀ a x m, x < 40 → f a (nI x) m = g a x (m 1)) (hg : ∀ a x s s', (∀ w, w < 6 → s (61 + 6 * x + w) = s' (61 + 6 * x + w)) → g a x s = g a x s') (hT : T ≤ 3600) (hB : rB κ (t + 1) (ρ 1) nb) (hN : rN κ (t + 12) (ρ 1) nn) (hS : rS κ t (ρ 1)) (h0 : ρ 1 0 = nI t0) (ht : t0 ≤ T) :
    ∃ κ' ρ', fn_X4_advance gl_kd κ t (nI T) = some (pfold (fun a _ _ => a + 1) (ptn (ρ 1)) t0 T (ρ' 1) 0 0 nn, κ') ∧ pGo f (T - t0) ρ acc ρ' (pfold g (ptn (ρ 1)) t0 T (ρ' 1) acc 0 nn) ∧ rB κ' (t + 1) (ρ' 1) nb ∧ rN κ' (t + 12) (ρ' 1) nn ∧ rS κ' t (ρ' 1) ∧ ρ' 1 0 = nI T ∧ (∀ a, (a < t ∨ t + 25 ≤ a) → κ' a = κ a) ∧ (∀ a, a ≠ 1 → ρ' a = ρ a) ∧ (∀ x, x < nn → ρ' 1 (61 + 6 * x) = nI (ptn (ρ 1) x)) ∧ (∀ x, x < nn → t0 < ptn (ρ 1) x → ptn (ρ 1) x ≤ T → ρ' 1 (61 + 6 * x + 2) = 1 ∧ (0 < nb ↔ ¬ ρ' 1 (61 + 6 * x + 3) = -1)) ∧ (Acc (ρ 1) → Acc (ρ' 1)) ∧ (∀ q, 7 ≤ q → q < 11 → ρ' 1 q = ρ 1 q) := by
  obtain ⟨z1, z2, z3⟩ := rN_tn hN
  obtain ⟨dr, d1, d2, d3⟩ := hS.2.2.2
  have hnn := hN.1
  obtain ⟨κ', ρ', x1, x2, x3, x4, x5, x6, x7, x8, x9, x10, x11, x12, x13⟩ := ADV (t0 := t0) f g hk hf0 hf hg hT d1 d2 z3 z2 nn gx_F 0 κ ρ t0 0 acc (by omega) (by unfold gx_F; omega) hB hN hS h0 d3 ht (Nat.le_refl _) z1 (fun x hx => absurd hx (by omega)) (fun x _ _ h => h)
  exact ⟨κ', ρ', x1, x2, x3, x4, x5, x6, x7, x8, x10, fun x => x11 x (by omega), x12, x13⟩
