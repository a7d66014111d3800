/-! ===== playing a note ===== -/
theorem pab_sub {A B : Nat} (hA : A < 1000000) (hB : B < 1000000) : 0 ≤ pab (nI A - nI B) := by
  unfold pab
  by_cases h : B ≤ A
  · rw [pk_sub h, if_pos (nI_pos' (by omega))]
    exact nI_pos' (by omega)
  · have hn : ¬ (0 : Int32) ≤ nI A - nI B := by
      rw [Int32.le_iff_toInt_le, pk_sub_toInt (by omega) (by omega), Int32.toInt_zero]
      omega
    rw [if_neg hn, Int32.zero_sub, Int32.neg_sub, pk_sub (by omega)]
    exact nI_pos' (by omega)
theorem ppt_b {a d l p : Nat} (ha : a ≤ 6000) (hd : d ≤ 2400) (hl : l ≤ 1000) (hp : p ≤ 6000) : 0 ≤ pab (ppt (nI a) (nI d) (nI l) - nI p) := by
  have b1 : d * l ≤ 2400 * 1000 := Nat.mul_le_mul hd hl
  have b2 : d * l * l ≤ 2400 * 1000 * 1000 := Nat.mul_le_mul b1 hl
  have e : ppt (nI a) (nI d) (nI l) = nI a - nI (d * l * l / 1000000) := by
    unfold ppt
    rw [nI_l (by omega), nI_l (by omega), lN_mul, lN_mul, show (1000000 : Int64) = lN 1000000 from rfl, pk_lDiv (by omega) (by decide) (by decide), lN_i]
  rw [e]
  generalize d * l * l = y at b2
  have e2 : nI a - nI (y / 1000000) - nI p = nI a - nI (y / 1000000 + p) := by
    rw [← nI_add, Int32.sub_eq_add_neg (nI a) (nI (y / 1000000) + nI p), Int32.neg_add, Int32.sub_eq_add_neg, Int32.sub_eq_add_neg, Int32.sub_eq_add_neg, Int32.add_assoc]
  rw [e2]
  exact pab_sub (by omega) (by omega)
theorem pl_fil {c nb : Nat} {kG kM : gx_M → Int32 → Option (Int32 × gx_M)} (hk : pKB c) : ∀ (m n i : Nat) (κ ρ : gx_M), rB κ c (ρ 1) nb → i + m = nb → m < n → ∃ κ' ρ', lf_X0_fillToMarks_2 gl_kd c kG n κ (nI i) = kG κ' (nI nb) ∧ lf_X7_fills_2 gl_kd 0 kM n ρ (nI i) = kM ρ' (nI nb) ∧ rB κ' c (ρ' 1) nb ∧ (∀ a, (a < c ∨ c + 11 ≤ a) → κ' a = κ a) ∧ (∀ a, a ≠ 1 → ρ' a = ρ a) ∧ (∀ q, q ≠ 3 → q ≠ 5 → (q < 11 ∨ 61 ≤ q) → ρ' 1 q = ρ 1 q) ∧ (Acc (ρ 1) → Acc (ρ' 1)) := by
  intro m
  induction m with
  | zero =>
    intro n i κ ρ hB hi hm
    obtain ⟨n, rfl⟩ : ∃ q, n = q + 1 := ⟨n - 1, by omega⟩
    have e : i = nb := by omega
    subst e
    have hnb := hB.1
    refine ⟨κ, ρ, ?_, ?_, hB, fun _ _ => rfl, fun _ _ => rfl, fun _ _ _ _ => rfl, fun h => h⟩
    · rw [lf_X0_fillToMarks_2, hB.2.1.1, if_pos (nI_le (Nat.le_refl _) (by omega))]
    · rw [lf_X7_fills_2]
      simp only [Nat.zero_add, pk1, px1, pt1, if_true, eq_self, hB.2.1.2]
      rw [if_pos (nI_le (Nat.le_refl _) (by omega))]
  | succ m ih =>
    intro n i κ ρ hB hi hm
    obtain ⟨n, rfl⟩ : ∃ q, n = q + 1 := ⟨n - 1, by omega⟩
    have hnb := hB.1
    obtain ⟨hb10, L, M, C, hL1, hM1, hC1, kL, kM2, kC, hL, hM, hC⟩ := rB_b (b := i) hB (by omega)
    rw [lf_X0_fillToMarks_2, hB.2.1.1, if_neg (nI_ge (by omega) (by omega)), pg_get (c + 8) 10 rfl hk.2.2.2.1 hb10 (by decide), pb_s, pg_get (c + 6) 10 rfl hk.2.2.1 hb10 (by decide), pb_s, kL, kM2, nI_1]
    rw [lf_X7_fills_2]
    simp only [Nat.zero_add, pk1, px1, pt1, if_true, eq_self, hB.2.1.2]
    rw [if_neg (nI_ge (by omega) (by omega)), pm_of2 hb10, pb_s, pm_of3 hb10, pb_s, hL, hM, nI_1]
    by_cases h : M ≤ L
    · have hn : nI M - nI L ≤ (0 : Int32) := by
        rw [Int32.le_iff_toInt_le, pk_sub_toInt (by omega) (by omega), Int32.toInt_zero]
        omega
      rw [if_pos hn, if_pos (nI_le h (by omega))]
      exact ih n (i + 1) κ ρ hB (by omega) (by omega)
    · rw [pk_sub (by omega), if_neg (nI_nle (by omega) (by omega)), if_neg (nI_ge (by omega) (by omega)), pg_get (c + 8) 10 rfl hk.2.2.2.1 hb10 (by decide), pb_s, gx_u_n (show c + 8 ≠ c by omega), kM2, pg_hold (L := M) (C := C) hk hb10 (by rw [gx_u_n (by omega)]; exact kC) (by omega) (by omega), pb_s, pm_of3 hb10, pb_s, pm_of2 hb10, pb_s, hL, hM, pk_sub (by omega)]
      obtain ⟨ρ1, t1, t2, t3⟩ := pm_comes (ρ := ρ) (L := L) (C := C) (p := M - L) hb10 hL hC (by omega) (by omega) (by omega)
      rw [t1, pb_s]
      have hB2 := rB_lv (b := i) (x := nI (min M C)) (rB_f8 (x := ρ 1 5 + nI (M - C)) (rB_f6 (x := ρ 1 3 + nI (M - L)) hB)) ⟨min M C, by omega, rfl⟩
      rw [show L + (M - L) = M by omega] at t3
      rw [← t3] at hB2
      rw [hB.2.2.1.1, show gx_u κ c 6 (ρ 1 3 + nI (M - L)) c 8 = ρ 1 5 by rw [pw_n (Or.inr (by decide)), hB.2.2.1.2.2.1]]
      obtain ⟨κ', ρ', e1, e2, e3, e4, e5, e6, e7⟩ := ih n (i + 1) _ ρ1 hB2 (by omega) (by omega)
      refine ⟨κ', ρ', e1, e2, e3, fun a ha => ?_, fun a ha => by rw [e5 a ha, t2 a ha], fun q h3 h5 hq => ?_, fun ha => e7 ?_⟩
      · rw [e4 a ha]
        simp (disch := omega) only [gx_u_n]
      · rw [e6 q h3 h5 hq, t3]
        simp (disch := omega) only [pu_n]
      · rw [t3]
        refine Acc_lv ha hB.2.1.2 hnb (b := i) (by omega) (by simp (disch := omega) only [pu_n]) (fun x hx => by simp (disch := omega) only [pu_n]) ?_
        simp (disch := omega) only [pu_s, pu_n]
        rw [hL]
        have q : nI (M - L) + nI L = nI (min M C) + nI (M - C) := by rw [nI_add, nI_add, show M - L + L = min M C + (M - C) by omega]
        have q2 : ρ 1 3 + nI (M - L) + nI L + ρ 1 4 + ρ 1 5 + ρ 1 6 = ρ 1 3 + (nI (M - L) + nI L) + ρ 1 4 + ρ 1 5 + ρ 1 6 := by ac_rfl
        rw [q2, q]
        ac_rfl
/-- the tail of playing: which bowl sounds, and how -/
def pTG (kd : Nat → Nat) (μ : gx_M) (c : Nat) (p1 : Int32) : Option (Int32 × gx_M) :=
  gx_b (fn_X2_pitchOf kd μ (c + 12) p1) (fun r4 m5 =>
gx_b (fn_X0_nearestBowl kd m5 (c + 1) r4) (fun r6 m7 =>
(if r6 = (-1) then
gx_b (fn_X2_keepSilence kd m7 (c + 12) p1) (fun _ m21 =>
some (0, m21))
else
gx_b (fn_X0_pitchOf kd m7 (c + 1) r6) (fun r9 m10 =>
gx_b (fn_X2_pitchOf kd m10 (c + 12) p1) (fun r11 m12 =>
gx_b (fn_X3_get kd m12 (c + 23) 2) (fun r13 m14 =>
(if r13 < (if 0 ≤ (r9 - r11) then (r9 - r11) else 0 - (r9 - r11)) then
gx_b (fn_X2_keepSound kd m14 (c + 12) p1 r6 (r9 - r11) 0) (fun _ m17 =>
some (0, m17))
else
gx_b (fn_X2_keepSound kd m14 (c + 12) p1 r6 (r9 - r11) 1) (fun _ m19 =>
some (0, m19)))))))))
def pTM (kd : Nat → Nat) (μ : gx_M) (c : Nat) (p1 : Int32) : Option (Int32 × gx_M) :=
  gx_b (fn_X7_has kd μ c p1 1) (fun r4 m5 =>
gx_b (fn_X7_sounds kd m5 c r4) (fun r6 m7 =>
(if r6 = (-1) then
gx_b (fn_X7_lay kd m7 c p1 2 1) (fun _ m32 =>
gx_b (fn_X7_lay kd m32 c p1 3 r6) (fun _ m34 =>
gx_b (fn_X7_lay kd m34 c p1 4 0) (fun _ m36 =>
(if r6 = (-1) then
gx_b (fn_X7_lay kd m36 c p1 5 0) (fun _ m39 =>
some (0, m39))
else
gx_b (fn_X7_size kd m36 0) (fun r40 m41 =>
gx_b (fn_X7_setting kd m41 c 2) (fun r42 m43 =>
(if r42 < r40 then
gx_b (fn_X7_lay kd m43 c p1 5 0) (fun _ m46 =>
some (0, m46))
else
gx_b (fn_X7_lay kd m43 c p1 5 1) (fun _ m48 =>
some (0, m48)))))))))
else
gx_b (fn_X7_pitch kd m7 c r6) (fun r9 m10 =>
gx_b (fn_X7_has kd m10 c p1 1) (fun r11 m12 =>
gx_b (fn_X7_lay kd m12 c p1 2 1) (fun _ m14 =>
gx_b (fn_X7_lay kd m14 c p1 3 r6) (fun _ m16 =>
gx_b (fn_X7_lay kd m16 c p1 4 (r9 - r11)) (fun _ m18 =>
(if r6 = (-1) then
gx_b (fn_X7_lay kd m18 c p1 5 0) (fun _ m21 =>
some (0, m21))
else
gx_b (fn_X7_size kd m18 (r9 - r11)) (fun r22 m23 =>
gx_b (fn_X7_setting kd m23 c 2) (fun r24 m25 =>
(if r24 < r22 then
gx_b (fn_X7_lay kd m25 c p1 5 0) (fun _ m28 =>
some (0, m28))
else
gx_b (fn_X7_lay kd m25 c p1 5 1) (fun _ m30 =>
some (0, m30))))))))))))))
theorem pTG_e (kd : Nat → Nat) (μ : gx_M) (c : Nat) (p1 : Int32) : fn_X4_playNote kd μ c p1 = gx_b (fn_X3_get kd μ (c + 23) 3) (fun r1 m2 => if r1 = 1 then gx_b (fn_X3_get kd m2 (c + 23) 1) (fun r22 m23 => gx_b (fn_X2_beginsPhrase kd m23 (c + 12) p1 r22) (fun r24 m25 => if r24 = 0 then pTG kd m25 c p1 else gx_b (fn_X0_fillToMarks kd m25 (c + 1)) (fun _ m46 => pTG kd m46 c p1))) else pTG kd m2 c p1) := rfl
theorem pTM_e (kd : Nat → Nat) (μ : gx_M) (c : Nat) (p1 : Int32) : fn_X7_plays kd μ c p1 = gx_b (fn_X7_setting kd μ c 3) (fun r1 m2 => if r1 = 1 then gx_b (fn_X7_begins kd m2 c p1) (fun r49 m50 => if r49 = 0 then pTM kd m50 c p1 else gx_b (fn_X7_fills kd m50 c) (fun _ m98 => pTM kd m98 c p1)) else pTM kd m2 c p1) := rfl
theorem pg_s0 {μ : gx_M} {t : Nat} (hk : pKT t) : fn_X3_get gl_kd μ (t + 23) 0 = some (μ (t + 24) 0, μ) := pg_get (i := 0) (t + 24) 4 rfl hk.2.2 (by decide) (by decide)
theorem pg_s1 {μ : gx_M} {t : Nat} (hk : pKT t) : fn_X3_get gl_kd μ (t + 23) 1 = some (μ (t + 24) 1, μ) := pg_get (i := 1) (t + 24) 4 rfl hk.2.2 (by decide) (by decide)
theorem pg_s2 {μ : gx_M} {t : Nat} (hk : pKT t) : fn_X3_get gl_kd μ (t + 23) 2 = some (μ (t + 24) 2, μ) := pg_get (i := 2) (t + 24) 4 rfl hk.2.2 (by decide) (by decide)
theorem pg_s3 {μ : gx_M} {t : Nat} (hk : pKT t) : fn_X3_get gl_kd μ (t + 23) 3 = some (μ (t + 24) 3, μ) := pg_get (i := 3) (t + 24) 4 rfl hk.2.2 (by decide) (by decide)
theorem pg_pit {μ : gx_M} {c i : Nat} (hk : pKN c) (hi : i < 40) : fn_X2_pitchOf gl_kd μ c (nI i) = some (μ (c + 4) i, μ) := by
  unfold fn_X2_pitchOf
  rw [pg_get (c + 4) 40 rfl hk.2.1 hi (by decide), pb_s]
/-- one note's record changes -/
theorem rN_up {κ κ' : gx_M} {c nn i : Nat} {s s' : Nat → Int32} (hN : rN κ c s nn) (hc : ∀ a, (a = c + 6 ∨ a = c + 8 ∨ a = c + 10) → ∀ q, q ≠ i → κ' a q = κ a q) (hc2 : ∀ a, (a = c ∨ a = c + 2 ∨ a = c + 4) → κ' a = κ a) (hs : ∀ q, (q < 63 + 6 * i ∨ 67 + 6 * i ≤ q) → s' q = s q) (hr : NR (κ' (c + 6) i) (κ' (c + 8) i) (κ' (c + 10) i) (s' (61 + 6 * i + 2)) (s' (61 + 6 * i + 3)) (s' (61 + 6 * i + 4)) (s' (61 + 6 * i + 5))) : rN κ' c s' nn := by
  obtain ⟨h1, ⟨h2, h3⟩, h4, h5⟩ := hN
  refine ⟨h1, ⟨by rw [hc2 c (by omega), h2], by rw [hs 2 (by omega), h3]⟩, fun q hq => ?_, fun x y hx hy => by rw [hs _ (by omega), hs _ (by omega)]; exact h5 x y hx hy⟩
  by_cases e : q = i
  · subst e
    obtain ⟨p1, p2, p3, p4, p5⟩ := h4 q hq
    exact ⟨by rw [hc2 _ (by omega), p1, hs _ (by omega)], by rw [hc2 _ (by omega), p2, hs _ (by omega)], hr, by rw [hs _ (by omega)]; exact p4, by rw [hs _ (by omega)]; exact p5⟩
  · refine rn_d (h4 q hq) (fun a h1 h2 h3 => ?_) (fun j h1 h2 => hs j (by omega))
    rcases h3 with rfl | rfl | rfl | rfl | rfl
    · rw [hc2 _ (by omega)]
    · rw [hc2 _ (by omega)]
    · exact hc _ (by omega) q e
    · exact hc _ (by omega) q e
    · exact hc _ (by omega) q e
theorem p_tail {κ ρ : gx_M} {t nb nn i : Nat} (hk : pKT t) (hB : rB κ (t + 1) (ρ 1) nb) (hN : rN κ (t + 12) (ρ 1) nn) (hS : rS κ t (ρ 1)) (hi : i < nn) : ∃ κ' ρ', pTG gl_kd κ t (nI i) = some (0, κ') ∧ pTM gl_kd ρ 0 (nI i) = some (0, ρ') ∧ (∀ a, (a < t + 12 ∨ t + 23 ≤ a) → κ' a = κ a) ∧ (∀ a, a ≠ 1 → ρ' a = ρ a) ∧ rN κ' (t + 12) (ρ' 1) nn ∧ (∀ q, (q < 63 + 6 * i ∨ 67 + 6 * i ≤ q) → ρ' 1 q = ρ 1 q) ∧ ρ' 1 (61 + 6 * i + 2) = 1 ∧ (0 < nb ↔ ¬ ρ' 1 (61 + 6 * i + 3) = -1) := by
  have hnn := hN.1
  have hi4 : i < 40 := by omega
  have hnb := hB.1
  obtain ⟨p1, p2, p3, p4, ⟨P, hP1, hP⟩⟩ := hN.2.2.1 i hi
  have hbest := rB_best (p := ρ 1 (61 + 6 * i + 1)) hB
  unfold pTG pTM
  rw [pg_pit hk.2.1 hi4, pb_s, p2, pg_near hk.1 hB.2.1.1 hB.1, pb_s, hbest, pm_has1 hi4, pb_s, pm_sounds hB.2.1.2 hB.1, pb_s]
  cases e : pbest (fun b => pab (ppt (ρ 1 (11 + 5 * b)) (ρ 1 (11 + 5 * b + 1)) (ρ 1 (11 + 5 * b + 2)) - ρ 1 (61 + 6 * i + 1))) nb with
  | none =>
    rw [if_pos (show pbi none = -1 from rfl), if_pos (show pbi none = -1 from rfl)]
    unfold fn_X2_keepSilence
    rw [pg_put (t + 12 + 6) 40 rfl hk.2.1.2.2.1 hi4 (by decide), pb_s, pb_s, pm_lay2 hi4, pb_s, pm_lay3 hi4, pb_s, pm_lay4 hi4, pb_s, if_pos (show pbi none = -1 from rfl), pm_lay5 hi4, pb_s]
    refine ⟨_, _, rfl, rfl, fun a ha => by simp (disch := omega) only [gx_u_n], fun a ha => by simp (disch := omega) only [gx_u_n], ?_, fun q hq => by simp (disch := omega) only [pw_n], by simp (disch := omega) only [pw_s, pw_n], by have := pbest_none _ _ e; simp (disch := omega) only [pw_s, pw_n]; exact ⟨fun h => by omega, fun h => absurd rfl h⟩⟩
    refine rN_up (i := i) hN (fun a ha q hq => by rw [pw_n (Or.inr hq)]) (fun a ha => gx_u_n (by omega)) (fun q hq => by simp (disch := omega) only [pw_n]) ?_
    simp (disch := omega) only [pw_s, pw_n]
    exact Or.inr (Or.inl ⟨rfl, rfl, rfl, rfl⟩)
  | some j =>
    have hj := pbest_lt _ _ _ e
    have hj1 : ¬ pbi (some j) = -1 := pm1 (by omega)
    obtain ⟨g1, g2, g3, g4, g5, ⟨L, hL1, hL⟩, _, _, ⟨A, hA1, hA⟩, ⟨D, hD1, hD⟩⟩ := hB.2.2.2 j hj
    have herr : 0 ≤ pab (ppt (ρ 1 (11 + 5 * j)) (ρ 1 (11 + 5 * j + 1)) (ρ 1 (11 + 5 * j + 2)) - ρ 1 (61 + 6 * i + 1)) := by
      rw [hA, hD, hL, hP]
      exact ppt_b hA1 hD1 hL1 hP1
    rw [if_neg hj1, if_neg hj1, show pbi (some j) = nI j from rfl, pg_po hk.1 (b := j) (by omega), pb_s, pg_pit hk.2.1 hi4, pb_s, pg_s2 hk, pb_s, p2, g1, g2, g3, pm_po (b := j) (by omega), pb_s, pm_has1 hi4, pb_s, pm_lay2 hi4, pb_s, pm_lay3 hi4, pb_s, pm_lay4 hi4, pb_s, if_neg (show ¬ nI j = -1 from hj1), pm_size, pb_s, pm_set2, pb_s, hS.2.2.1 2 (by decide)]
    generalize ppt (ρ 1 (11 + 5 * j)) (ρ 1 (11 + 5 * j + 1)) (ρ 1 (11 + 5 * j + 2)) - ρ 1 (61 + 6 * i + 1) = er at herr ⊢
    have es : gx_u (gx_u (gx_u ρ 1 (61 + 6 * i + 2) 1) 1 (61 + 6 * i + 3) (nI j)) 1 (61 + 6 * i + 4) er 1 9 = ρ 1 9 := by simp (disch := omega) only [pw_n]
    rw [es]
    unfold fn_X2_keepSound
    by_cases hc : ρ 1 9 < pab er
    · rw [if_pos (show ρ 1 (7 + 2) < (if 0 ≤ er then er else 0 - er) from hc), if_pos hc, if_pos rfl, pg_put (t + 12 + 6) 40 rfl hk.2.1.2.2.1 hi4 (by decide), pb_s, pg_put (t + 12 + 8) 40 rfl hk.2.1.2.2.2.1 hi4 (by decide), pb_s, pg_put (t + 12 + 10) 40 rfl hk.2.1.2.2.2.2 hi4 (by decide), pb_s, pb_s, pm_lay5 hi4, pb_s]
      refine ⟨_, _, rfl, rfl, fun a ha => by simp (disch := omega) only [gx_u_n], fun a ha => by simp (disch := omega) only [gx_u_n], ?_, fun q hq => by simp (disch := omega) only [pw_n], by simp (disch := omega) only [pw_s, pw_n], by simp (disch := omega) only [pw_s, pw_n]; exact ⟨fun _ => hj1, fun _ => by omega⟩⟩
      refine rN_up (i := i) hN (fun a ha q hq => by simp (disch := omega) only [pw_n]) (fun a ha => by simp (disch := omega) only [gx_u_n]) (fun q hq => by simp (disch := omega) only [pw_n]) ?_
      simp (disch := omega) only [pw_s, pw_n]
      exact Or.inr (Or.inr ⟨Or.inl ⟨rfl, rfl⟩, rfl, rfl, rfl, hj1, herr⟩)
    · rw [if_neg (show ¬ ρ 1 (7 + 2) < (if 0 ≤ er then er else 0 - er) from hc), if_neg hc, if_neg (show ¬ (1 : Int32) = 0 by decide), pg_put (t + 12 + 6) 40 rfl hk.2.1.2.2.1 hi4 (by decide), pb_s, pg_put (t + 12 + 8) 40 rfl hk.2.1.2.2.2.1 hi4 (by decide), pb_s, pg_put (t + 12 + 10) 40 rfl hk.2.1.2.2.2.2 hi4 (by decide), pb_s, pb_s, pm_lay5 hi4, pb_s]
      refine ⟨_, _, rfl, rfl, fun a ha => by simp (disch := omega) only [gx_u_n], fun a ha => by simp (disch := omega) only [gx_u_n], ?_, fun q hq => by simp (disch := omega) only [pw_n], by simp (disch := omega) only [pw_s, pw_n], by simp (disch := omega) only [pw_s, pw_n]; exact ⟨fun _ => hj1, fun _ => by omega⟩⟩
      refine rN_up (i := i) hN (fun a ha q hq => by simp (disch := omega) only [pw_n]) (fun a ha => by simp (disch := omega) only [gx_u_n]) (fun q hq => by simp (disch := omega) only [pw_n]) ?_
      simp (disch := omega) only [pw_s, pw_n]
      exact Or.inr (Or.inr ⟨Or.inr ⟨rfl, rfl⟩, rfl, rfl, rfl, hj1, herr⟩)
