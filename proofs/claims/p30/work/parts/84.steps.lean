/-! ===== the law's steps over the ghost row ===== -/
def LSt (μ : gx_M) : Prop := Sim μ ∧ Acc (μ 1) ∧ SNN (μ 1)
theorem LS_step {μ μ1 μ2 : gx_M} {r : Int32} (h : LSt μ) (hs : Sim μ2) (hk : KD μ r μ1 μ2) : LSt μ2 ∧ ((r < -100000 ∧ μ1 = μ ∧ μ2 = μ) ∨ (0 ≤ r ∧ PUSH μ μ2)) := by
  obtain ⟨k1, k2, k3⟩ := hk
  rcases k3 with ⟨r1, e1, e2⟩ | ⟨p, n⟩
  · subst e2
    exact ⟨h, Or.inl ⟨r1, e1, rfl⟩⟩
  · obtain ⟨n1, n2, n3⟩ := n h.2.2 h.2.1
    exact ⟨⟨hs, n2, n3⟩, Or.inr ⟨n1, p⟩⟩
/-- Sim doesn't look at the trial, nor beyond the object -/
theorem Sim_q {μ κ : gx_M} (h : Sim μ) (f : ∀ a, (a < 32 ∨ (57 ≤ a ∧ a < 187)) → κ a = μ a) : Sim κ := by
  refine ⟨RT_c h.1 (fun a h1 h2 => f a (by omega)) (fun j _ => by rw [f 1 (by omega)]), ?_, ?_⟩
  · rw [f 2 (by omega), f 0 (by omega)]
    exact SH_c h.2.1 (fun a h1 h2 => f a (by omega)) (fun _ _ => rfl)
  · rw [f 4 (by omega), f 0 (by omega)]
    exact SX_c h.2.2 (by rw [f 184 (by omega)]) (by rw [f 186 (by omega)]) (fun _ _ => rfl)
theorem LS_q {μ κ : gx_M} (h : LSt μ) (f : ∀ a, (a < 32 ∨ (57 ≤ a ∧ a < 187)) → κ a = μ a) : LSt κ := by
  refine ⟨Sim_q h.1 f, ?_, ?_⟩
  · rw [f 1 (by omega)]; exact h.2.1
  · rw [f 1 (by omega)]; exact h.2.2
/-- a history of five stays one of five -/
theorem PUSH_5 {μ μ2 : gx_M} (h : PUSH μ μ2) (h5 : μ 0 3 = nI 5) : μ2 0 3 = nI 5 ∧ (∀ j q, j < 4 → q < 301 → μ2 2 (301 * j + q) = μ 2 (301 * (j + 1) + q)) ∧ ∀ q, q < 301 → μ2 2 (301 * 4 + q) = μ 1 q := by
  obtain ⟨hs, hs', a1, a2, a3, a4⟩ := h
  have e : hs = 5 := (nI_eq (by omega) (by decide)).1 (a1.symm.trans h5)
  subst e
  rcases a3 with ⟨q, _⟩ | ⟨_, b1, b2, b3⟩
  · exact absurd q (by decide)
  · subst b1
    exact ⟨a4, b2, b3⟩
theorem PUSH_n {μ μ2 : gx_M} {k : Nat} (h : PUSH μ μ2) (h5 : μ 0 3 = nI (min k 5)) : μ2 0 3 = nI (min (k + 1) 5) := by
  obtain ⟨hs, hs', a1, a2, a3, a4⟩ := h
  have e : hs = min k 5 := (nI_eq (by omega) (by omega)).1 (a1.symm.trans h5)
  rw [a4]
  rcases a3 with ⟨q, q2, _⟩ | ⟨q, q2, _⟩
  · rw [show hs' = min (k + 1) 5 by omega]
  · rw [show hs' = min (k + 1) 5 by omega]
/-- a bowl more -/
theorem q_bowl {μ : gx_M} {a1 a2 : Int32} {k : Nat} (h : LSt μ) (hk : μ 1 1 = nI k) (hk10 : k < 10) (h1 : ¬ pwi a1 0 6000 = 0) (h2 : ¬ pwi a2 1 2400 = 0) : ∃ μ1 μ2, fn_X6_bowl gl_kd μ 6 a1 a2 = some (nI k, μ1) ∧ (∀ a, 6 ≤ a → μ2 a = μ1 a) ∧ LSt μ2 ∧ PUSH μ μ2 ∧ μ2 1 1 = nI (k + 1) := by
  obtain ⟨r, μ1, μ2, e, hs, hkd⟩ := s_bowl a1 a2 μ h.1
  obtain ⟨hl, hc⟩ := LS_step h hs hkd
  -- what the class answers, and its number of bowls
  obtain ⟨nb, nn, hB, hN, hS⟩ := h.1.1
  have hb5 : μ 8 5 = nI nb := hB.2.1.1
  have en : nb = k := (nI_eq (by have := hB.1; omega) (by omega)).1 (hB.2.1.2.symm.trans hk)
  subst en
  obtain ⟨κ, ek, f, _⟩ := pg_rec h.1.1 h.1.2.1
  have hb5k : κ 8 5 = nI nb := by rw [f 8 (by omega), hb5]
  have x1 := pg_app (μ := κ) (c := 8) (p := a1) (q := a2) pKB_8 hb5k hk10
  have e' : fn_X6_bowl gl_kd μ 6 a1 a2 = some (nI nb, gx_u (gx_u (gx_u (gx_u (gx_u (gx_u κ (8 + 2) nb a1) (8 + 4) nb a2) (8 + 6) nb 0) (8 + 8) nb 0) (8 + 10) nb 1000) 8 5 (nI (nb + 1))) := by
    unfold fn_X6_bowl fn_X0_size
    simp only [Nat.reduceAdd] at x1 ⊢
    rw [pg_within, pb_s, if_neg h1, pg_within, pb_s, if_neg h2, pb_s, hb5, if_pos (show nI nb < 10 from nI_lt (b := 10) hk10 (by decide)), ek, pb_s, x1, pb_s, pb_s, pw_s, nI_pred]
  have e2 := Option.some.inj (e.symm.trans e')
  have er : r = nI nb := congrArg Prod.fst e2
  have em : μ1 = _ := congrArg Prod.snd e2
  have m5 : μ1 8 5 = nI (nb + 1) := by
    rw [em]
    simp only [pw_s]
  have e0 : fn_X6_bowl gl_kd μ 6 a1 a2 = some (r, μ1) := e
  refine ⟨μ1, μ2, by rw [e0, er], hkd.1, hl, ?_, ?_⟩
  · rcases hc with ⟨q, _⟩ | ⟨_, q⟩
    · rw [er] at q
      exact absurd (nI_nn (n := nb) (by omega)) (Int32.not_le.2 (Int32.lt_trans q (by decide)))
    · exact q
  · obtain ⟨nb2, nn2, hB2, _⟩ := hl.1.1
    have m6 : μ2 8 5 = nI (nb + 1) := by rw [hkd.1 8 (by decide), m5]
    rw [hB2.2.1.2]
    exact hB2.2.1.1.symm.trans m6
theorem q_bowl10 {μ : gx_M} (h : LSt μ) (hk : μ 1 1 = nI 10) : fn_X6_bowl gl_kd μ 6 0 1 = some (-100003, μ) ∧ fn_X6_bowl gl_kd μ 6 0 0 = some (-100001, μ) := by
  obtain ⟨nb, nn, hB, hN, hS⟩ := h.1.1
  have hb5 : μ 8 5 = nI nb := hB.2.1.1
  have en : nb = 10 := (nI_eq (by have := hB.1; omega) (by decide)).1 (hB.2.1.2.symm.trans hk)
  subst en
  refine ⟨?_, r_bowl2 (by decide) (by decide)⟩
  unfold fn_X6_bowl fn_X0_size
  simp only [Nat.reduceAdd]
  rw [pg_within, pb_s, if_neg (by decide), pg_within, pb_s, if_neg (by decide), pb_s, hb5, if_neg (show ¬ nI 10 < 10 by decide)]
/-- part: a number below n -/
def pt (v n : Int32) : Int32 := (v &&& 2147483647) - (v &&& 2147483647) / n * n
theorem q_part {kd : Nat → Nat} {μ : gx_M} {v n : Int32} (h : ¬ n = 0) : fn_L_part kd μ v n = some (pt v n, μ) := by
  unfold fn_L_part
  rw [if_pos h]
  rfl
theorem i_mask (v : Int32) : ¬ (v &&& 2147483647) < 0 := by
  rw [Int32.lt_iff_toInt_lt, Int32.toInt_zero]
  show ¬ (v &&& 2147483647).toBitVec.toInt < 0
  rw [Int32.toBitVec_and, BitVec.toInt_eq_msb_cond, BitVec.msb_and, show (2147483647 : Int32).toBitVec.msb = false by decide, Bool.and_false]
  simp only [Bool.false_eq_true, if_false]
  omega
theorem pt_in (v : Int32) {n : Nat} (h0 : 0 < n) (h : n < 2147483648) : ∃ j, j < n ∧ pt v (nI n) = nI j := by
  obtain ⟨a, ha, e⟩ := nI_of (i_mask v)
  unfold pt
  rw [e]
  exact ⟨a % n, Nat.mod_lt _ h0, pk_rem ha h0 (by omega)⟩
/-- what the long array keeps: the hashes of the last states -/
def WAS (μ : gx_M) (c : Nat) : Prop := ∀ j, 1 ≤ j → j ≤ 5 → j ≤ c → gx_lng (μ 187) (c - j) = hv (cut (fun q => μ 2 (301 * (5 - j) + q)))
theorem lng_s (μ : gx_M) (c i : Nat) (x : Int64) : gx_lng (gx_ul μ c i x c) i = x := by
  rw [gx_ul_s]
  exact if_pos rfl
theorem lng_n {μ : gx_M} {c i k : Nat} {x : Int64} (h : k ≠ i) : gx_lng (gx_ul μ c i x c) k = gx_lng (μ c) k := by
  rw [gx_ul_s]
  exact if_neg h
theorem gx_ul_n {μ : gx_M} {c a i : Nat} {x : Int64} (h : a ≠ c) : gx_ul μ c i x a = μ a := by
  unfold gx_ul
  rw [gx_u_n h, gx_u_n h]
theorem WAS_err {μ : gx_M} {c : Nat} {v : Int64} (h : WAS μ c) : WAS (gx_ul μ 187 c v) c := fun j h1 h2 h3 => by
  rw [lng_n (by omega), h j h1 h2 h3, gx_ul_n (by decide)]
theorem WAS_push {μ μ2 : gx_M} {c : Nat} (h : WAS μ c) (hp : PUSH (gx_ul μ 187 c (hv (cut (μ 1)))) μ2) (h5 : μ 0 3 = nI 5) (h187 : μ2 187 = gx_ul μ 187 c (hv (cut (μ 1))) 187) : WAS μ2 (c + 1) := fun j h1 h2 h3 => by
  obtain ⟨p1, p2, p3⟩ := PUSH_5 hp (by rw [gx_ul_n (by decide)]; exact h5)
  rw [h187]
  by_cases e : j = 1
  · subst e
    rw [show c + 1 - 1 = c by omega, lng_s]
    refine congrArg hv (cut_e (fun q hq => ?_))
    rw [show 5 - 1 = 4 by omega, p3 q hq, gx_ul_n (by decide)]
  · rw [lng_n (by omega), show c + 1 - j = c - (j - 1) by omega, h (j - 1) (by omega) (by omega) (by omega)]
    refine congrArg hv (cut_e (fun q hq => ?_))
    rw [p2 (5 - j) q (by omega) hq, gx_ul_n (by decide), show 5 - (j - 1) = 5 - j + 1 by omega]
theorem q_stateC {μ : gx_M} (h : LSt μ) : fn_L_state gl_kd μ 6 = some (hv (cut (μ 1)), μ) := q_state (RT_cut h.1.1)
theorem q_acc {μ : gx_M} (h : LSt μ) : fn_X6_count gl_kd μ 6 20 = some (μ 1 3, μ) ∧ fn_X6_count gl_kd μ 6 21 = some (psf (fun b => μ 1 (11 + 5 * b + 2)) 0 (μ 1 1).toNatClampNeg, μ) ∧ fn_X6_count gl_kd μ 6 22 = some (μ 1 4, μ) ∧ fn_X6_count gl_kd μ 6 23 = some (μ 1 5, μ) ∧ fn_X6_count gl_kd μ 6 24 = some (μ 1 6, μ) ∧ μ 1 3 = psf (fun b => μ 1 (11 + 5 * b + 2)) 0 (μ 1 1).toNatClampNeg + μ 1 4 + μ 1 5 + μ 1 6 := by
  refine ⟨c_count h.1.1 20 (by decide) (by decide) (by decide), c_count h.1.1 21 (by decide) (by decide) (by decide), c_count h.1.1 22 (by decide) (by decide) (by decide), c_count h.1.1 23 (by decide) (by decide) (by decide), c_count h.1.1 24 (by decide) (by decide) (by decide), ?_⟩
  obtain ⟨n, h1, h2, h3⟩ := h.2.1
  rw [h2, nI_clamp (by omega)]
  exact h3
theorem sm_init : LSt gl_init := by
  refine ⟨⟨⟨0, 0, ⟨by decide, ⟨by decide, by decide⟩, ⟨by decide, by decide, by decide, by decide⟩, fun b hb => absurd hb (by omega)⟩, ⟨by decide, ⟨by decide, by decide⟩, fun b hb => absurd hb (by omega), fun i j _ hj => absurd hj (by omega)⟩, by decide, ⟨0, by decide, by decide⟩, fun w hw => ?_, 60, by decide, by decide, by decide⟩, ⟨0, 0, by decide, by decide, by decide, by decide, by decide, fun j hj => absurd hj (by omega)⟩, ⟨0, by decide, by decide, by decide, fun j hj => absurd hj (by omega), fun j _ _ => rfl⟩⟩, ⟨0, by decide, by decide, by decide⟩, fun w hw => ?_⟩
  · match w, hw with
    | 0, _ => decide
    | 1, _ => decide
    | 2, _ => decide
    | 3, _ => decide
  · match w, hw with
    | 0, _ => decide
    | 1, _ => decide
    | 2, _ => decide
    | 3, _ => decide
