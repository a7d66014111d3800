/-! ===== going on in time ===== -/
theorem p_play {κ ρ : gx_M} {t nb nn i : Nat} (hk : pKT t) (hB : rB κ (t + 1) (ρ 1) nb) (hN : rN κ (t + 12) (ρ 1) nn) (hS : rS κ t (ρ 1)) (hi : i < nn) : ∃ κ' ρ', fn_X4_playNote gl_kd κ t (nI i) = some (0, κ') ∧ fn_X7_plays gl_kd ρ 0 (nI i) = some (0, ρ') ∧ (∀ a, (a < t + 1 ∨ t + 23 ≤ a) → κ' a = κ a) ∧ (∀ a, a ≠ 1 → ρ' a = ρ a) ∧ rB κ' (t + 1) (ρ' 1) nb ∧ rN κ' (t + 12) (ρ' 1) nn ∧ rS κ' t (ρ' 1) ∧ (∀ q, (q < 3 ∨ (7 ≤ q ∧ q < 11) ∨ (61 ≤ q ∧ (q < 63 + 6 * i ∨ 67 + 6 * i ≤ q))) → ρ' 1 q = ρ 1 q) ∧ ρ' 1 (61 + 6 * i + 2) = 1 ∧ (0 < nb ↔ ¬ ρ' 1 (61 + 6 * i + 3) = -1) ∧ (Acc (ρ 1) → Acc (ρ' 1)) := by
  have hnn := hN.1
  have hi4 : i < 40 := by omega
  have h10 : κ (t + 24) 3 = ρ 1 10 := hS.2.2.1 3 (by decide)
  have h8 : κ (t + 24) 1 = ρ 1 8 := hS.2.2.1 1 (by decide)
  rw [pTG_e, pg_s3 hk, pb_s, h10, pTM_e, pm_set3, pb_s]
  have fin : ∀ (κ1 ρ1 : gx_M), rB κ1 (t + 1) (ρ1 1) nb → rN κ1 (t + 12) (ρ1 1) nn → rS κ1 t (ρ1 1) → (∀ a, (a < t + 1 ∨ t + 12 ≤ a) → κ1 a = κ a) → (∀ a, a ≠ 1 → ρ1 a = ρ a) → (∀ q, (q < 3 ∨ (7 ≤ q ∧ q < 11) ∨ 61 ≤ q) → ρ1 1 q = ρ 1 q) → (Acc (ρ 1) → Acc (ρ1 1)) → ∃ κ' ρ', pTG gl_kd κ1 t (nI i) = some (0, κ') ∧ pTM gl_kd ρ1 0 (nI i) = some (0, ρ') ∧ (∀ a, (a < t + 1 ∨ t + 23 ≤ a) → κ' a = κ a) ∧ (∀ a, a ≠ 1 → ρ' a = ρ a) ∧ rB κ' (t + 1) (ρ' 1) nb ∧ rN κ' (t + 12) (ρ' 1) nn ∧ rS κ' t (ρ' 1) ∧ (∀ q, (q < 3 ∨ (7 ≤ q ∧ q < 11) ∨ (61 ≤ q ∧ (q < 63 + 6 * i ∨ 67 + 6 * i ≤ q))) → ρ' 1 q = ρ 1 q) ∧ ρ' 1 (61 + 6 * i + 2) = 1 ∧ (0 < nb ↔ ¬ ρ' 1 (61 + 6 * i + 3) = -1) ∧ (Acc (ρ 1) → Acc (ρ' 1)) := by
    intro κ1 ρ1 b1 n1 s1 f1 f2 f3 f4
    obtain ⟨κ', ρ', e1, e2, e3, e4, e5, e6, e7, e8⟩ := p_tail hk b1 n1 s1 hi
    exact ⟨κ', ρ', e1, e2, fun a ha => by rw [e3 a (by omega), f1 a (by omega)], fun a ha => by rw [e4 a ha, f2 a ha], rB_c b1 (fun a h1 h2 => e3 a (by omega)) (fun j h1 h2 => e6 j (by omega)), e5, rS_c s1 (by rw [e3 t (by omega)]) (e3 (t + 24) (by omega)) (fun j h1 h2 => e6 j (by omega)), fun q hq => by rw [e6 q (by omega), f3 q (by omega)], e7, e8, fun ha => Acc_c (f4 ha) (fun j hj => e6 j (by omega))⟩
  by_cases h1 : ρ 1 10 = 1
  · rw [if_pos h1, if_pos h1, pg_s1 hk, pb_s, pg_beg hk.2.1 hi4, pb_s, pm_beg hi4, pb_s, h8, pbeg_c (f' := fun x => ρ 1 (61 + 6 * x)) (n := nn) (fun x hx => (hN.2.2.1 x hx).1) hi]
    by_cases h2 : pbeg (fun x => ρ 1 (61 + 6 * x)) (ρ 1 8) i = 0
    · rw [if_pos h2, if_pos h2]
      exact fin κ ρ hB hN hS (fun _ _ => rfl) (fun _ _ => rfl) (fun _ _ => rfl) (fun h => h)
    · rw [if_neg h2, if_neg h2]
      have hnb := hB.1
      obtain ⟨κ1, ρ1, e1, e2, e3, e4, e5, e6, e7⟩ := pl_fil (kG := fun m11 y12 => some (0, m11)) (kM := fun m13 y14 => some (0, m13)) hk.1 nb gx_F 0 κ ρ hB (by omega) (by unfold gx_F; omega)
      have e1' : fn_X0_fillToMarks gl_kd κ (t + 1) = some (0, κ1) := e1
      have e2' : fn_X7_fills gl_kd ρ 0 = some (0, ρ1) := e2
      rw [e1', e2', pb_s, pb_s]
      exact fin κ1 ρ1 e3 (rN_c hN (fun a h1 h2 => e4 a (by omega)) (fun j h1 h2 => e6 j (by omega) (by omega) (by omega))) (rS_c hS (by rw [e4 t (by omega)]) (e4 (t + 24) (by omega)) (fun j h1 h2 => e6 j (by omega) (by omega) (by omega))) (fun a ha => e4 a (by omega)) e5 (fun q hq => e6 q (by omega) (by omega) (by omega)) e7
  · rw [if_neg h1, if_neg h1]
    exact fin κ ρ hB hN hS (fun _ _ => rfl) (fun _ _ => rfl) (fun _ _ => rfl) (fun h => h)
/-- the reference's seconds, with something gathered -/
def pGo {α : Type} (f : α → Int32 → gx_M → α) : Nat → gx_M → α → gx_M → α → Prop
  | 0, ρ, a, ρ', a' => ρ' = ρ ∧ a' = a
  | d + 1, ρ, a, ρ', a' => ∃ r m, fn_X7_second gl_kd ρ 0 = some (r, m) ∧ m 1 0 = ρ 1 0 + 1 ∧ m 1 1 = ρ 1 1 ∧ (r = -1 ∨ ∃ x, x < 40 ∧ r = nI x) ∧ (∀ c, c ≠ 1 → m c = ρ c) ∧ pGo f d m (f a r m) ρ' a'
theorem pGo_add {α : Type} {f : α → Int32 → gx_M → α} : ∀ (d1 d2 : Nat) (ρ ρ1 ρ2 : gx_M) (a a1 a2 : α), pGo f d1 ρ a ρ1 a1 → pGo f d2 ρ1 a1 ρ2 a2 → pGo f (d1 + d2) ρ a ρ2 a2
  | 0, d2, ρ, ρ1, ρ2, a, a1, a2, h, h2 => by
    rw [Nat.zero_add]
    obtain ⟨rfl, rfl⟩ : ρ1 = ρ ∧ a1 = a := h
    exact h2
  | d1 + 1, d2, ρ, ρ1, ρ2, a, a1, a2, h, h2 => by
    rw [show d1 + 1 + d2 = d1 + d2 + 1 by omega]
    obtain ⟨r, m, q1, q2, q3, q4, q5, q6⟩ := h
    exact ⟨r, m, q1, q2, q3, q4, q5, pGo_add d1 d2 m ρ1 ρ2 _ a1 a2 q6 h2⟩
theorem psn_0 (lv : Nat → Nat) : ∀ m i, psn (fun b => min 0 (lv b)) i m = 0
  | 0, _ => rfl
  | m + 1, i => by rw [psn_s, psn_0 lv m, Nat.zero_min]
theorem pDry_0 {s : Nat → Int32} {nb T : Nat} {lv : Nat → Nat} (h0 : s 0 = nI T) (hl : ∀ b, b < nb → s (11 + 5 * b + 2) = nI (lv b) ∧ lv b ≤ 1000) : pDry s s nb lv 0 T :=
  ⟨h0, fun b hb => (hl b hb).1, by rw [psn_0, nI_0, Int32.add_zero], fun _ _ _ _ => rfl⟩
theorem pDry_n {s s' : Nat → Int32} {nb k T : Nat} {lv : Nat → Nat} (h : pDry s s' nb lv k T) (hnb : nb ≤ 10) (q : Nat) (h1 : 61 ≤ q ∨ q = 1 ∨ q = 2 ∨ q = 3 ∨ q = 5 ∨ q = 6 ∨ (7 ≤ q ∧ q < 11)) : s' q = s q := h.2.2.2 q (by omega) (by omega) (fun b hb => by omega)
theorem pGo_skip {α : Type} {f : α → Int32 → gx_M → α} (hf0 : ∀ a m, f a (-1) m = a) {nb nn dr : Nat} (hnb : nb ≤ 10) (hnn : nn ≤ 40) (hd : 1 ≤ dr) (hd2 : dr ≤ 600) (a : α) : ∀ (d : Nat) (ρ : gx_M) (tc : Nat) (lv : Nat → Nat), ρ 1 0 = nI tc → tc + d ≤ 3600 → ρ 1 1 = nI nb → ρ 1 2 = nI nn → ρ 1 7 = nI dr → (∀ b, b < nb → ρ 1 (11 + 5 * b + 2) = nI (lv b) ∧ lv b ≤ 1000) → (∀ x, x < nn → ∀ y, tc < y → y ≤ tc + d → ¬ ρ 1 (61 + 6 * x) = nI y) → ∃ ρ', pGo f d ρ a ρ' a ∧ (∀ a, a ≠ 1 → ρ' a = ρ a) ∧ pDry (ρ 1) (ρ' 1) nb lv ((tc + d) / dr - tc / dr) (tc + d) := by
  intro d
  induction d with
  | zero =>
    intro ρ tc lv h0 ht h1 h2 h7 hl hx
    refine ⟨ρ, ⟨rfl, rfl⟩, fun _ _ => rfl, ?_⟩
    rw [Nat.add_zero, Nat.sub_self]
    exact pDry_0 h0 hl
  | succ d ih =>
    intro ρ tc lv h0 ht h1 h2 h7 hl hx
    obtain ⟨ρ1, f1, g1, e1⟩ := pm_sec h0 (by omega) h1 hnb h7 hd hd2 hl
    have same := pDry_n g1 hnb
    have e2 : fn_X7_second gl_kd ρ 0 = some (-1, ρ1) := by
      rw [e1]
      rcases pm_nat (μ := ρ1) (v := nI (tc + 1)) (by rw [same 2 (by omega)]; exact h2) hnn with ⟨x, x1, x2, _, x3⟩ | ⟨x1, x2⟩
      · rw [same _ (by omega)] at x2
        exact absurd x2 (hx x x1 (tc + 1) (by omega) (by omega))
      · rw [x2, pb_s, if_pos (by decide)]
    obtain ⟨ρ', e3, f3, g3⟩ := ih ρ1 (tc + 1) (fun b => lv b - ((tc + 1) / dr - tc / dr)) g1.1 (by omega) (by rw [same 1 (by omega)]; exact h1) (by rw [same 2 (by omega)]; exact h2) (by rw [same 7 (by omega)]; exact h7) (fun b hb => ⟨g1.2.1 b hb, Nat.le_trans (Nat.sub_le _ _) (hl b hb).2⟩) (fun x hx1 y y1 y2 => by rw [same _ (by omega)]; exact hx x hx1 y (by omega) (by omega))
    refine ⟨ρ', ?_, fun a ha => by rw [f3 a ha, f1 a ha], ?_⟩
    · exact ⟨-1, ρ1, e2, by rw [g1.1, h0, nI_1], same 1 (by omega), Or.inl rfl, f1, by rw [hf0]; exact e3⟩
    · have := pDry_t g1 g3
      have m1 := (p_div1 (t := tc) (d := dr) hd).2
      have m2 : (tc + 1) / dr ≤ (tc + 1 + d) / dr := Nat.div_le_div_right (by omega)
      rw [show (tc + 1) / dr - tc / dr + ((tc + 1 + d) / dr - (tc + 1) / dr) = (tc + 1 + d) / dr - tc / dr by omega] at this
      rw [show tc + (d + 1) = tc + 1 + d by omega]
      exact this
def plv (s : Nat → Int32) (b : Nat) : Nat := (s (11 + 5 * b + 2)).toNatClampNeg
theorem rB_lvs {μ : gx_M} {c nb : Nat} {s : Nat → Int32} (h : rB μ c s nb) : ∀ b, b < nb → s (11 + 5 * b + 2) = nI (plv s b) ∧ plv s b ≤ 1000 := fun b hb => by
  obtain ⟨_, _, _, _, _, ⟨L, h1, h2⟩, _⟩ := h.2.2.2 b hb
  unfold plv
  rw [h2, nI_clamp (by omega)]
  exact ⟨rfl, h1⟩
theorem pg_dU {κ : gx_M} {t nb nn tc dr T : Nat} {s : Nat → Int32} {lv : Nat → Nat} (hk : pKT t) (hB : rB κ (t + 1) s nb) (hN : rN κ (t + 12) s nn) (hS : rS κ t s) (h0 : s 0 = nI tc) (h7 : s 7 = nI dr) (hd : 1 ≤ dr) (hd2 : dr ≤ 600) (ht : tc ≤ T) (hT : T ≤ 3600) (hl : ∀ b, b < nb → s (11 + 5 * b + 2) = nI (lv b) ∧ lv b ≤ 1000) :
    ∃ κ', fn_X4_dryUntil gl_kd κ t (nI T) = some (0, κ') ∧ (∀ a, (a < t ∨ t + 25 ≤ a) → κ' a = κ a) ∧ ∀ s', pDry s s' nb lv (T / dr - tc / dr) T → rB κ' (t + 1) s' nb ∧ rN κ' (t + 12) s' nn ∧ rS κ' t s' := by
  have hnb := hB.1
  have k0 : κ (t + 24) 0 = s 7 := hS.2.2.1 0 (by decide)
  have m2 : tc / dr ≤ T / dr := Nat.div_le_div_right ht
  have m3 : T / dr ≤ T := Nat.div_le_self _ _
  unfold fn_X4_dryUntil
  rw [pg_s0 hk, pb_s, k0, h7, if_neg (nI_nle (by omega) (by omega)), if_pos (nI_ne0 (by omega) (by omega)), if_pos (nI_ne0 (by omega) (by omega)), hS.1, h0, pk_div (by omega) (by omega) (by omega), pk_div (by omega) (by omega) (by omega), pk_sub m2]
  obtain ⟨κ1, e1, e2, e3, e4, e5, e6⟩ := pl_dryG (k := T / dr - tc / dr) (kont := fun m6 y7 => some (0, m6)) hk.1 hnb (Nat.le_trans (Nat.sub_le _ _) (Nat.le_trans m3 (by omega))) lv nb gx_F 0 κ hB.2.1.1 (fun b _ hb => ⟨(hB.2.2.2 b hb).2.2.1.trans (hl b hb).1, (hl b hb).2⟩) (by omega) (by unfold gx_F; omega)
  have e1' : fn_X0_dry gl_kd κ (t + 1) (nI (T / dr - tc / dr)) = some (0, κ1) := e1
  rw [e1', pb_s]
  refine ⟨_, rfl, fun a ha => by rw [gx_u_n (by omega), e2 a (by omega) (by omega)], fun s' hs => ?_⟩
  have same := pDry_n hs hnb
  obtain ⟨a1, ⟨a2, a3⟩, ⟨a4, a5, a6, a7⟩, a8⟩ := hB
  refine ⟨⟨a1, ⟨?_, ?_⟩, ⟨?_, ?_, ?_, ?_⟩, fun b hb => ?_⟩, rN_c hN (fun a h1 h2 => by rw [gx_u_n (by omega), e2 a (by omega) (by omega)]) (fun j h1 h2 => same j (by omega)), ⟨by rw [pw_s, hs.1], ⟨T, hT, hs.1⟩, fun w hw => by rw [gx_u_n (by omega), e2 _ (by omega) (by omega), hS.2.2.1 w hw, same _ (by omega)], ⟨dr, hd, hd2, by rw [same 7 (by omega)]; exact h7⟩⟩⟩
  · rw [gx_u_n (by omega), e3 5 (by decide), a2]
  · rw [same 1 (by omega), a3]
  · rw [gx_u_n (by omega), e3 6 (by decide), a4, same 3 (by omega)]
  · rw [gx_u_n (by omega), e4, a5, hs.2.2.1]
  · rw [gx_u_n (by omega), e3 8 (by decide), a6, same 5 (by omega)]
  · rw [gx_u_n (by omega), e3 9 (by decide), a7, same 6 (by omega)]
  · obtain ⟨p1, p2, p3, p4, p5, p6, p7, p8, p9, p10⟩ := a8 b hb
    have w : ∀ q, (q = 0 ∨ q = 1 ∨ q = 3 ∨ q = 4) → s' (11 + 5 * b + q) = s (11 + 5 * b + q) := fun q hq => hs.2.2.2 _ (by omega) (by omega) (fun d hd => by omega)
    have w0 : s' (11 + 5 * b) = s (11 + 5 * b) := w 0 (by omega)
    have hL := (hl b hb).2
    refine ⟨?_, ?_, ?_, ?_, ?_, ⟨lv b - (T / dr - tc / dr), by omega, hs.2.1 b hb⟩, ?_, ?_, ?_, ?_⟩
    · rw [gx_u_n (by omega), e2 _ (by omega) (by omega), p1, w0]
    · rw [gx_u_n (by omega), e2 _ (by omega) (by omega), p2, w 1 (by omega)]
    · rw [gx_u_n (by omega), e5 b (by omega) hb, hs.2.1 b hb]
    · rw [gx_u_n (by omega), e2 _ (by omega) (by omega), p4, w 3 (by omega)]
    · rw [gx_u_n (by omega), e2 _ (by omega) (by omega), p5, w 4 (by omega)]
    · rw [w 3 (by omega)]; exact p7
    · rw [w 4 (by omega)]; exact p8
    · rw [w0]; exact p9
    · rw [w 1 (by omega)]; exact p10
