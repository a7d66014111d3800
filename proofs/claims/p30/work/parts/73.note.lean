/-! ===== note, worst ===== -/
theorem pg_ins5 {c p nn : Nat} {μ : gx_M} {v h : Int32} (h5 : μ c 5 = nI nn) (hk : pKN c) (hp : p ≤ nn) (hn : nn < 40) :
    ∃ μ', (gx_b (fn_X3_insert gl_kd μ (c + 1) (nI p) v (μ c 5)) fun _ m4 => gx_b (fn_X3_insert gl_kd m4 (c + 3) (nI p) h (m4 c 5)) fun _ m6 => gx_b (fn_X3_insert gl_kd m6 (c + 5) (nI p) 0 (m6 c 5)) fun _ m8 => gx_b (fn_X3_insert gl_kd m8 (c + 7) (nI p) 0 (m8 c 5)) fun _ m10 => gx_b (fn_X3_insert gl_kd m10 (c + 9) (nI p) 0 (m10 c 5)) fun _ m12 => (some (nI p, gx_u m12 c 5 (m12 c 5 + 1)) : Option (Int32 × gx_M))) = some (nI p, μ') ∧ (∀ a, (a < c ∨ c + 11 ≤ a) → μ' a = μ a) ∧ μ' c 5 = nI (nn + 1) ∧
      (∀ a, c < a → a < c + 11 → (a = c + 2 ∨ a = c + 4 ∨ a = c + 6 ∨ a = c + 8 ∨ a = c + 10) → (∀ q, p < q → q ≤ nn → μ' a q = μ a (q - 1)) ∧ (∀ q, q < p → μ' a q = μ a q)) ∧ μ' (c + 2) p = v ∧ μ' (c + 4) p = h ∧ μ' (c + 6) p = 0 := by
  obtain ⟨m1, e1, f1, u1, v1, w1⟩ := pg_ins (μ := μ) (v := v) (x := μ c 5) (c + 2) (c := c + 1) rfl hk.1 hp hn h5
  obtain ⟨m2, e2, f2, u2, v2, w2⟩ := pg_ins (μ := m1) (v := h) (x := m1 c 5) (c + 4) (c := c + 3) rfl hk.2.1 hp hn (by rw [f1 c (by omega)]; exact h5)
  obtain ⟨m3, e3, f3, u3, v3, w3⟩ := pg_ins (μ := m2) (v := 0) (x := m2 c 5) (c + 6) (c := c + 5) rfl hk.2.2.1 hp hn (by rw [f2 c (by omega), f1 c (by omega)]; exact h5)
  obtain ⟨m4, e4, f4, u4, v4, w4⟩ := pg_ins (μ := m3) (v := 0) (x := m3 c 5) (c + 8) (c := c + 7) rfl hk.2.2.2.1 hp hn (by rw [f3 c (by omega), f2 c (by omega), f1 c (by omega)]; exact h5)
  obtain ⟨m5, e5, f5, u5, v5, w5⟩ := pg_ins (μ := m4) (v := 0) (x := m4 c 5) (c + 10) (c := c + 9) rfl hk.2.2.2.2 hp hn (by rw [f4 c (by omega), f3 c (by omega), f2 c (by omega), f1 c (by omega)]; exact h5)
  have g5 : m5 c = μ c := by rw [f5 c (by omega), f4 c (by omega), f3 c (by omega), f2 c (by omega), f1 c (by omega)]
  refine ⟨_, by rw [e1, pb_s, e2, pb_s, e3, pb_s, e4, pb_s, e5, pb_s], fun a ha => by rw [gx_u_n (by omega), f5 a (by omega), f4 a (by omega), f3 a (by omega), f2 a (by omega), f1 a (by omega)], by rw [pw_s, g5, h5, nI_1], fun a h1 h2 h3 => ?_, ?_, ?_, ?_⟩
  rotate_left
  · rw [gx_u_n (by omega), f5 _ (by omega), f4 _ (by omega), f3 _ (by omega), f2 _ (by omega), w1]
  · rw [gx_u_n (by omega), f5 _ (by omega), f4 _ (by omega), f3 _ (by omega), w2]
  · rw [gx_u_n (by omega), f5 _ (by omega), f4 _ (by omega), w3]
  rcases h3 with rfl | rfl | rfl | rfl | rfl
  · rw [gx_u_n (by omega), f5 _ (by omega), f4 _ (by omega), f3 _ (by omega), f2 _ (by omega)]
    exact ⟨u1, v1⟩
  · rw [gx_u_n (by omega), f5 _ (by omega), f4 _ (by omega), f3 _ (by omega), ← f1 (c + 4) (by omega)]
    exact ⟨u2, v2⟩
  · rw [gx_u_n (by omega), f5 _ (by omega), f4 _ (by omega), ← f1 (c + 6) (by omega), ← f2 (c + 6) (by omega)]
    exact ⟨u3, v3⟩
  · rw [gx_u_n (by omega), f5 _ (by omega), ← f1 (c + 8) (by omega), ← f2 (c + 8) (by omega), ← f3 (c + 8) (by omega)]
    exact ⟨u4, v4⟩
  · rw [gx_u_n (by omega), ← f1 (c + 10) (by omega), ← f2 (c + 10) (by omega), ← f3 (c + 10) (by omega), ← f4 (c + 10) (by omega)]
    exact ⟨u5, v5⟩
theorem rN_so {μ : gx_M} {c nn : Nat} {s : Nat → Int32} (h : rN μ c s nn) : ∀ i j, i < j → j < nn → μ (c + 2) i < μ (c + 2) j := fun i j h1 h2 => by
  rw [(h.2.2.1 i (by omega)).1, (h.2.2.1 j h2).1]
  exact h.2.2.2 i j h1 h2
theorem pPl_c {f g : Nat → Int32} {nn p : Nat} {v : Int32} (h : pPl f nn p v) (hc : ∀ x, x < nn → g x = f x) : pPl g nn p v :=
  ⟨h.1, fun x hx => by have := h.1; rw [hc x (by omega)]; exact h.2.1 x hx, fun x h1 h2 => by rw [hc x h2]; exact h.2.2 x h1 h2⟩
theorem pAt_c {f g : Nat → Int32} {nn : Nat} {v : Int32} (h : pAt f nn v) (hc : ∀ x, x < nn → g x = f x) : pAt g nn v := by
  obtain ⟨x, h1, h2⟩ := h
  exact ⟨x, h1, by rw [hc x h1, h2]⟩
theorem t_ins {κ : gx_M} {s : Nat → Int32} {t nb nn : Nat} {v h : Int32} (hk : pKT t) (hB : rB κ (t + 1) s nb) (hN : rN κ (t + 12) s nn) (hS : rS κ t s) (hn : nn < 40) (hno : ¬ pAt (fun x => s (61 + 6 * x)) nn v) (hv : sm v 3600) (hh : sm h 6000) :
    ∃ κ1 p, fn_X2_insert gl_kd κ (t + 12) v h = some (nI p, κ1) ∧ (∀ a, (a < t + 12 ∨ t + 23 ≤ a) → κ1 a = κ a) ∧ κ1 (t + 12) 5 = nI (nn + 1) ∧ pPl (fun x => s (61 + 6 * x)) nn p v ∧ ∀ s', pIns s s' nn p v h → (∀ j, (j < 2 ∨ (3 ≤ j ∧ j < 61)) → s' j = s j) → RT κ1 t s' := by
  obtain ⟨p, e, hp⟩ := pg_plc (v := v) hk.2.1 hN.2.1.1 hN.1 (rN_so hN)
  have hp2 : pPl (fun x => s (61 + 6 * x)) nn p v := pPl_c hp (fun x hx => (hN.2.2.1 x hx).1.symm)
  obtain ⟨κ1, x1, x2, x3, x4, x5, x6, x7⟩ := pg_ins5 (v := v) (h := h) hN.2.1.1 hk.2.1 hp.1 hn
  refine ⟨κ1, p, ?_, fun a ha => x2 a (by omega), x3, hp2, fun s' hi hj => ?_⟩
  · unfold fn_X2_insert
    rw [e, pb_s]
    exact x1
  · obtain ⟨i1, i2, i3, i4, i5, i6⟩ := hi
    have hpn := hp2.1
    refine RT_N (t := t) (nn := nn + 1) hB ?_ hS (fun a ha => x2 a (by omega)) hj
    refine ⟨by omega, ⟨x3, i1⟩, fun q hq => ?_, fun i j hi hj => ?_⟩
    · rcases Nat.lt_trichotomy q p with z | z | z
      · exact rn_d (hN.2.2.1 q (by omega)) (fun a h1 h2 h3 => (x4 a h1 h2 h3).2 q z) (fun j h1 h2 => i2 j (by omega) (by omega))
      · subst z
        exact ⟨by rw [x5, i4], by rw [x6, i5], Or.inl ⟨x7, i6⟩, by rw [i4]; exact hv, by rw [i5]; exact hh⟩
      · exact rn_mv (hN.2.2.1 (q - 1) (by omega)) (fun a h1 h2 h3 => (x4 a h1 h2 h3).1 q z (by omega)) (fun w hw => i3 q z (by omega) w hw)
    · have lo : ∀ q, q < p → s' (61 + 6 * q) = s (61 + 6 * q) := fun q z => i2 _ (by omega) (by omega)
      have up : ∀ q, p < q → q ≤ nn → s' (61 + 6 * q) = s (61 + 6 * (q - 1)) := fun q z1 z2 => i3 q z1 z2 0 (by omega)
      rcases Nat.lt_trichotomy i p with z | z | z
      · rw [lo i z]
        rcases Nat.lt_trichotomy j p with y | y | y
        · rw [lo j y]; exact hN.2.2.2 i j hi (by omega)
        · subst y
          rw [i4]
          exact Int32.not_le.1 (hp2.2.1 i z)
        · rw [up j y (by omega)]; exact hN.2.2.2 i (j - 1) (by omega) (by omega)
      · subst z
        rw [i4, up j hi (by omega)]
        refine Int32.lt_of_le_of_ne (hp2.2.2 (j - 1) (by omega) (by omega)) (fun q => hno ⟨j - 1, by omega, q.symm⟩)
      · rw [up i z (by omega), up j (by omega) (by omega)]
        exact hN.2.2.2 (i - 1) (j - 1) (by omega) (by omega)
theorem s_note (a1 a2 : Int32) : chg (fun μ => fn_X6_note gl_kd μ 6 a1 a2) := by
  intro μ h
  obtain ⟨nb, nn, hB, hN, hS⟩ := h.1
  have hn5 : μ 19 5 = nI nn := hN.2.1.1
  have hb1 : μ 1 1 = nI nb := hB.2.1.2
  have hn2 : μ 1 2 = nI nn := hN.2.1.2
  have hnn := hN.1
  have hti : ∀ x, x < nn → μ (19 + 2) x = μ 1 (61 + 6 * x) := fun x hx => (hN.2.2.1 x hx).1
  unfold fn_X6_note fn_X2_isFull
  simp only [Nat.reduceAdd]
  by_cases h1 : pwi a1 0 3600 = 0
  · exact ch_err h (by rw [pg_within, pb_s, if_pos h1]) (by decide)
  by_cases h2 : pwi a2 0 6000 = 0
  · exact ch_err h (by rw [pg_within, pb_s, if_neg h1, pg_within, pb_s, if_pos h2]) (by decide)
  rcases pg_hasAt (μ := μ) (c := 19) (v := a1) pKN_19 hn5 hnn (rN_so hN) with ⟨g1, g2⟩ | ⟨g1, g2⟩
  · exact ch_err h (by rw [pg_within, pb_s, if_neg h1, pg_within, pb_s, if_neg h2, g2, pb_s, if_neg (by decide)]) (by decide)
  · have hno : ¬ pAt (fun x => μ 1 (61 + 6 * x)) nn a1 := fun q => g1 (pAt_c q hti)
    by_cases h4 : nn < 40
    · refine k_recd h (fun κ e hT => ?_)
      obtain ⟨hB2, hN2, hS2⟩ := RT_at hT hb1 hB.1 hn2 hN.1
      obtain ⟨κ1, p, x1, x2, x3, x4, x5⟩ := t_ins (t := 7) (v := a1) (h := a2) pKT_7 hB2 hN2 hS2 h4 hno (by obtain ⟨j, _, h6, h7⟩ := pwi_n (a := 0) (b := 3600) (by decide) (by decide) h1; exact ⟨j, h6, h7⟩) (by obtain ⟨j, _, h6, h7⟩ := pwi_n (a := 0) (b := 6000) (by decide) (by decide) h2; exact ⟨j, h6, h7⟩)
      obtain ⟨ρ2, t1, t2, t3⟩ := pm_new (ρ := μ) (nn := nn) (p := p) (v := a1) (h := a2) hn2 h4 x4 hno
      have hj := x4.1
      exact ⟨nI p, κ1, ρ2 1, by rw [pg_within, pb_s, if_neg h1, pg_within, pb_s, if_neg h2, g2, pb_s, if_pos rfl, hn5, if_pos (show nI nn < 40 from nI_lt (b := 40) h4 (by decide)), pb_s, if_pos rfl, e, pb_s, x1, pb_s], fun a ha => x2 a (by omega), x5 _ t3 (fun j hj => t3.2.1 j (by omega) (by omega)), fun hs ha => ⟨nI_nn (by omega), Acc_c ha (fun j hj => t3.2.1 j (by omega) (by omega)), SNN_c hs (fun j h1 h2 => t3.2.1 j (by omega) (by omega))⟩⟩
    · have e40 : nn = 40 := by omega
      subst e40
      exact ch_err h (by rw [pg_within, pb_s, if_neg h1, pg_within, pb_s, if_neg h2, g2, pb_s, if_pos rfl, hn5, if_neg (show ¬ nI 40 < 40 by decide), pb_s, if_neg (by decide)]) (by decide)
/-- ranks -/
theorem pg_es {μ : gx_M} {c i : Nat} (hk : pKN c) (hi : i < 40) : fn_X2_errorSize gl_kd μ c (nI i) = some (pab (μ (c + 10) i), μ) := by
  unfold fn_X2_errorSize
  rw [pg_get (c + 10) 40 rfl hk.2.2.2.2 hi (by decide), pb_s]
  rfl
def prk (sd : Nat → Int32) (ab : Nat → Int32) (j b : Nat) : Int32 := if sd b = 0 then 0 else if ab b ≤ ab j then (if ab b = ab j then (if j ≤ b then 0 else 1) else 0) else 1
theorem pl_rkG {μ : gx_M} {c nn j : Nat} {k : gx_M → Int32 → Int32 → Option (Int32 × gx_M)} (hk : pKN c) (h5 : μ c 5 = nI nn) (hn : nn ≤ 40) (hj : j < nn) : ∀ (m n i : Nat) (x : Int32), i + m = nn → m < n → lf_X2_rankOf_4 gl_kd c (nI j) k n μ x (nI i) = k μ (x + psf (prk (fun b => psnd (μ (c + 6) b)) (fun b => pab (μ (c + 10) b)) j) i m) (nI nn) := by
  intro m
  induction m with
  | zero =>
    intro n i x hi hm
    obtain ⟨n, rfl⟩ : ∃ q, n = q + 1 := ⟨n - 1, by omega⟩
    have e : i = nn := by omega
    subst e
    rw [lf_X2_rankOf_4, h5, if_pos (nI_le (Nat.le_refl _) (by omega))]
    unfold psf
    rw [Int32.add_zero]
  | succ m ih =>
    intro n i x hi hm
    obtain ⟨n, rfl⟩ : ∃ q, n = q + 1 := ⟨n - 1, by omega⟩
    have hi4 : i < 40 := by omega
    have hj4 : j < 40 := by omega
    rw [lf_X2_rankOf_4, h5, if_neg (nI_ge (by omega) (by omega)), pg_es hk hi4, pb_s, pg_es hk hj4, pb_s, nI_1, psf_s, ← Int32.add_assoc, ← ih n (i + 1) _ (by omega) (by omega)]
    unfold prk
    dsimp only
    by_cases h1 : pab (μ (c + 10) i) ≤ pab (μ (c + 10) j)
    · rw [if_pos h1, if_pos h1, pg_es hk hi4, pb_s, pg_es hk hj4, pb_s]
      by_cases h2 : pab (μ (c + 10) i) = pab (μ (c + 10) j)
      · rw [if_pos h2, if_pos h2]
        by_cases h3 : j ≤ i
        · rw [if_pos (nI_le h3 (by omega)), if_pos h3, pg_snd hk hi4, pb_s, ite_self, ite_self, Int32.add_zero]
        · rw [if_neg (nI_ge (by omega) (by omega)), if_neg h3, pg_snd hk hi4, pb_s]
          by_cases h4 : psnd (μ (c + 6) i) = 0
          · rw [if_pos h4, if_pos h4, Int32.add_zero]
          · rw [if_neg h4, if_neg h4]
      · rw [if_neg h2, if_neg h2, pg_snd hk hi4, pb_s, ite_self, ite_self, Int32.add_zero]
    · rw [if_neg h1, if_neg h1, pg_es hk hi4, pb_s, pg_es hk hj4, pb_s]
      have h2 : ¬ pab (μ (c + 10) i) = pab (μ (c + 10) j) := fun q => h1 (by rw [q]; exact Int32.le_refl _)
      rw [if_neg h2, pg_snd hk hi4, pb_s]
      by_cases h4 : psnd (μ (c + 6) i) = 0
      · rw [if_pos h4, if_pos h4, Int32.add_zero]
      · rw [if_neg h4, if_neg h4]
def prm (sd : Nat → Int32) (ab : Nat → Int32) (j b : Nat) : Int32 := if sd b = 0 then 0 else if 0 < ab b - ab j then 1 else if ab b - ab j = 0 then (if j ≤ b then 0 else 1) else 0
theorem pl_rkM {μ : gx_M} {nn j : Nat} {k : gx_M → Int32 → Int32 → Option (Int32 × gx_M)} (h2 : μ 1 2 = nI nn) (hn : nn ≤ 40) (hj : j < nn) : ∀ (m n i : Nat) (x : Int32), i + m = nn → m < n → lf_X7_standAhead_4 gl_kd 0 (nI j) k n μ x (nI i) = k μ (x + psf (prm (fun b => phsd (μ 1 (61 + 6 * b + 2)) (μ 1 (61 + 6 * b + 3))) (fun b => pab (μ 1 (61 + 6 * b + 4))) j) i m) (nI nn) := by
  intro m
  induction m with
  | zero =>
    intro n i x hi hm
    obtain ⟨n, rfl⟩ : ∃ q, n = q + 1 := ⟨n - 1, by omega⟩
    have e : i = nn := by omega
    subst e
    rw [lf_X7_standAhead_4]
    simp only [Nat.zero_add, pk1, px2, pt2, if_true, eq_self, h2]
    rw [if_pos (nI_le (Nat.le_refl _) (by omega))]
    unfold psf
    rw [Int32.add_zero]
  | succ m ih =>
    intro n i x hi hm
    obtain ⟨n, rfl⟩ : ∃ q, n = q + 1 := ⟨n - 1, by omega⟩
    have hi4 : i < 40 := by omega
    have hj4 : j < 40 := by omega
    rw [lf_X7_standAhead_4]
    simp only [Nat.zero_add, pk1, px2, pt2, if_true, eq_self, h2]
    rw [if_neg (nI_ge (by omega) (by omega)), pm_has4 hi4, pb_s, pm_size, pb_s, pm_has4 hj4, pb_s, pm_size, pb_s, pm_snd hi4, pb_s, nI_1, psf_s, ← Int32.add_assoc, ← ih n (i + 1) _ (by omega) (by omega)]
    unfold prm
    dsimp only
    by_cases h1 : phsd (μ 1 (61 + 6 * i + 2)) (μ 1 (61 + 6 * i + 3)) = 0
    · rw [if_pos h1, if_pos h1]
    · rw [if_neg h1, if_neg h1]
      by_cases h3 : 0 < pab (μ 1 (61 + 6 * i + 4)) - pab (μ 1 (61 + 6 * j + 4))
      · rw [if_pos h3, if_pos h3]
      · rw [if_neg h3, if_neg h3]
        by_cases h4 : pab (μ 1 (61 + 6 * i + 4)) - pab (μ 1 (61 + 6 * j + 4)) = 0
        · rw [if_pos h4, if_pos h4]
          by_cases h5 : j ≤ i
          · rw [if_pos (nI_le h5 (by omega)), if_pos h5]
          · rw [if_neg (nI_ge (by omega) (by omega)), if_neg h5]
        · rw [if_neg h4, if_neg h4]
theorem p_cmp {x y : Int32} (hx : 0 ≤ x) (hy : 0 ≤ y) : (0 < x - y ↔ ¬ x ≤ y) ∧ (x - y = 0 ↔ x = y) := by
  rw [Int32.le_iff_toInt_le, Int32.toInt_zero] at hx hy
  obtain ⟨a, ha, rfl⟩ := nI_of (x := x) (by rw [Int32.lt_iff_toInt_lt, Int32.toInt_zero]; omega)
  obtain ⟨b, hb, rfl⟩ := nI_of (x := y) (by rw [Int32.lt_iff_toInt_lt, Int32.toInt_zero]; omega)
  by_cases h : b ≤ a
  · rw [pk_sub h, pn_le ha hb, pn_eq ha hb]
    refine ⟨?_, ?_⟩
    · rw [show (0 : Int32) = nI 0 from rfl, pn_lt (by omega) (by omega)]; omega
    · rw [show (0 : Int32) = nI 0 from rfl, pn_eq (by omega) (by omega)]; omega
  · have e : nI a - nI b = -nI (b - a) := by rw [← pk_sub (show a ≤ b by omega), Int32.neg_sub]
    have hneg : (-nI (b - a)).toInt = -((b - a : Nat) : Int) := by
      rw [Int32.toInt_neg, nI_toInt (by omega)]
      rw [Int.bmod_eq_of_le] <;> omega
    rw [e, pn_le ha hb, pn_eq ha hb]
    refine ⟨?_, ?_⟩
    · rw [Int32.lt_iff_toInt_lt, hneg, Int32.toInt_zero]; omega
    · rw [← Int32.toInt_inj, hneg, Int32.toInt_zero]; omega
