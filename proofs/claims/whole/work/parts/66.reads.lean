/-! ===== reads on bowls, settings ===== -/
theorem s_bowlOf (a1 a2 : Int32) : gl_ok Sim (fun μ => fn_X6_bowlOf gl_kd μ 6 a1 a2) (fun μ => fn_X7_bowlOf gl_kd μ 0 a1 a2) := by
  intro μ h
  obtain ⟨nb, nn, hB, hN, hS⟩ := h.1
  have hb5 : μ 8 5 = nI nb := hB.2.1.1
  have hb1 : μ 1 1 = nI nb := hB.2.1.2
  unfold fn_X6_bowlOf fn_X7_bowlOf
  simp only [Nat.reduceAdd]
  by_cases h1 : phas a1 nb = 0
  · exact ⟨_, μ, μ, by rw [pg_hasB hb5, pb_s, if_pos h1], by rw [pm_isBowl hb1 hB.1, pb_s, if_pos h1], h⟩
  · obtain ⟨b, hb, rfl⟩ := phas_n (by have := hB.1; omega) h1
    obtain ⟨hb10, L, M, C, hL1, hM1, hC1, kL, kM, kC, hL, hM, hC⟩ := rB_b hB hb
    obtain ⟨g1, g2, g3, g4, g5, _⟩ := hB.2.2.2 b hb
    have kp : ∀ d, ppt (μ (8 + 2) b) (μ (8 + 4) b) d = ppt (μ 1 (11 + 5 * b)) (μ 1 (11 + 5 * b + 1)) d := fun d => by
      rw [show μ (8 + 2) b = μ 1 (11 + 5 * b) from g1, show μ (8 + 4) b = μ 1 (11 + 5 * b + 1) from g2]
    by_cases h2 : pwi a2 0 6 = 0
    · refine ⟨-100001, μ, μ, ?_, by rw [pm_isBowl hb1 hB.1, pb_s, if_neg h1, pm_in, pb_s, if_pos h2], h⟩
      rw [pg_hasB hb5, pb_s, if_neg h1]
      unfold fn_X0_property
      rw [if_neg (show ¬ a2 = 0 from fun q => by subst q; exact absurd h2 (by decide)), if_neg (show ¬ a2 = 1 from fun q => by subst q; exact absurd h2 (by decide)), if_neg (show ¬ a2 = 2 from fun q => by subst q; exact absurd h2 (by decide)), if_neg (show ¬ a2 = 3 from fun q => by subst q; exact absurd h2 (by decide)), if_neg (show ¬ a2 = 4 from fun q => by subst q; exact absurd h2 (by decide)), if_neg (show ¬ a2 = 5 from fun q => by subst q; exact absurd h2 (by decide)), if_neg (show ¬ a2 = 6 from fun q => by subst q; exact absurd h2 (by decide)), pb_s]
    · obtain ⟨w, hw0, hw6, rfl⟩ := pwi_n (a := 0) (b := 6) (by decide) (by decide) h2
      have hm : ∃ X, X = (if C < M then C else M) ∧ ∀ (k : Int32 → gx_M → Option (Int32 × gx_M)) (k2 : Int32 → gx_M → Option (Int32 × gx_M)), True := ⟨_, rfl, fun _ _ => trivial⟩
      rw [pg_hasB hb5, pb_s, if_neg h1]
      have hmodel : ∀ (Y : Int32), (∀ m, (m = C ∨ m = M) → m = min C M → (if 5 ≤ nI w then (if nI w = 5 then gx_b (fn_X7_pitch gl_kd μ 0 (nI b)) (fun r m => some (r, m)) else gx_b (fn_X7_pitchBy gl_kd μ 0 (nI b) (nI m)) (fun r m => some (r, m))) else gx_b (fn_X7_of gl_kd μ 0 (nI b) (nI w)) (fun r m => some (r, m))) = some (Y, μ)) → (gx_b (fn_X7_isBowl gl_kd μ 0 (nI b)) fun r1 m2 => if r1 = 0 then some (-100001, m2) else gx_b (fn_X7_in gl_kd m2 (nI w) 0 6) fun r4 m5 => if r4 = 0 then some (-100001, m5) else gx_b (fn_X7_of gl_kd m5 0 (nI b) 3) fun r7 m8 => gx_b (fn_X7_of gl_kd m8 0 (nI b) 4) fun r9 m10 => if r9 ≤ r7 then gx_b (fn_X7_of gl_kd m10 0 (nI b) 4) fun r12 m13 => if 5 ≤ nI w then if nI w = 5 then gx_b (fn_X7_pitch gl_kd m13 0 (nI b)) fun r18 m19 => some (r18, m19) else gx_b (fn_X7_pitchBy gl_kd m13 0 (nI b) r12) fun r16 m17 => some (r16, m17) else gx_b (fn_X7_of gl_kd m13 0 (nI b) (nI w)) fun r20 m21 => some (r20, m21) else gx_b (fn_X7_of gl_kd m10 0 (nI b) 3) fun r22 m23 => if 5 ≤ nI w then if nI w = 5 then gx_b (fn_X7_pitch gl_kd m23 0 (nI b)) fun r28 m29 => some (r28, m29) else gx_b (fn_X7_pitchBy gl_kd m23 0 (nI b) r22) fun r26 m27 => some (r26, m27) else gx_b (fn_X7_of gl_kd m23 0 (nI b) (nI w)) fun r30 m31 => some (r30, m31)) = some (Y, μ) := by
        intro Y hY
        rw [pm_isBowl hb1 hB.1, pb_s, if_neg h1, pm_in, pb_s, if_neg h2, pm_of3 hb10, pb_s, pm_of4 hb10, pb_s, hM, hC]
        by_cases hCM : C ≤ M
        · rw [if_pos (nI_le hCM (by omega)), pm_of4 hb10, pb_s, hC]
          exact hY C (Or.inl rfl) (by omega)
        · rw [if_neg (nI_ge (by omega) (by omega)), pm_of3 hb10, pb_s, hM]
          exact hY M (Or.inr rfl) (by omega)
      unfold fn_X0_property
      rcases (show w = 0 ∨ w = 1 ∨ w = 2 ∨ w = 3 ∨ w = 4 ∨ w = 5 ∨ w = 6 by omega) with rfl | rfl | rfl | rfl | rfl | rfl | rfl
      · refine ⟨μ 1 (11 + 5 * b), μ, μ, ?_, hmodel _ (fun m _ _ => ?_), h⟩
        · rw [if_pos (show nI 0 = 0 from rfl), pg_get (8 + 2) 10 rfl pKB_8.1 hb10 (by decide), pb_s, pb_s]
          rw [show μ (8 + 2) b = μ 1 (11 + 5 * b) from g1]
        · rw [if_neg (show ¬ 5 ≤ nI 0 by decide), show nI 0 = 0 from rfl, pm_of0 hb10, pb_s]
      · refine ⟨μ 1 (11 + 5 * b + 1), μ, μ, ?_, hmodel _ (fun m _ _ => ?_), h⟩
        · rw [if_neg (show ¬ nI 1 = 0 by decide), if_pos (show nI 1 = 1 from rfl), pg_get (8 + 4) 10 rfl pKB_8.2.1 hb10 (by decide), pb_s, pb_s]
          rw [show μ (8 + 4) b = μ 1 (11 + 5 * b + 1) from g2]
        · rw [if_neg (show ¬ 5 ≤ nI 1 by decide), show nI 1 = 1 from rfl, pm_of1 hb10, pb_s]
      · refine ⟨μ 1 (11 + 5 * b + 2), μ, μ, ?_, hmodel _ (fun m _ _ => ?_), h⟩
        · rw [if_neg (show ¬ nI 2 = 0 by decide), if_neg (show ¬ nI 2 = 1 by decide), if_pos (show nI 2 = 2 from rfl), pg_get (8 + 6) 10 rfl pKB_8.2.2.1 hb10 (by decide), pb_s, pb_s]
          rw [show μ (8 + 6) b = μ 1 (11 + 5 * b + 2) from g3]
        · rw [if_neg (show ¬ 5 ≤ nI 2 by decide), show nI 2 = 2 from rfl, pm_of2 hb10, pb_s]
      · refine ⟨μ 1 (11 + 5 * b + 3), μ, μ, ?_, hmodel _ (fun m _ _ => ?_), h⟩
        · rw [if_neg (show ¬ nI 3 = 0 by decide), if_neg (show ¬ nI 3 = 1 by decide), if_neg (show ¬ nI 3 = 2 by decide), if_pos (show nI 3 = 3 from rfl), pg_get (8 + 8) 10 rfl pKB_8.2.2.2.1 hb10 (by decide), pb_s, pb_s]
          rw [show μ (8 + 8) b = μ 1 (11 + 5 * b + 3) from g4]
        · rw [if_neg (show ¬ 5 ≤ nI 3 by decide), show nI 3 = 3 from rfl, pm_of3 hb10, pb_s]
      · refine ⟨μ 1 (11 + 5 * b + 4), μ, μ, ?_, hmodel _ (fun m _ _ => ?_), h⟩
        · rw [if_neg (show ¬ nI 4 = 0 by decide), if_neg (show ¬ nI 4 = 1 by decide), if_neg (show ¬ nI 4 = 2 by decide), if_neg (show ¬ nI 4 = 3 by decide), if_pos (show nI 4 = 4 from rfl), pg_get (8 + 10) 10 rfl pKB_8.2.2.2.2 hb10 (by decide), pb_s, pb_s]
          rw [show μ (8 + 10) b = μ 1 (11 + 5 * b + 4) from g5]
        · rw [if_neg (show ¬ 5 ≤ nI 4 by decide), show nI 4 = 4 from rfl, pm_of4 hb10, pb_s]
      · refine ⟨ppt (μ 1 (11 + 5 * b)) (μ 1 (11 + 5 * b + 1)) (μ 1 (11 + 5 * b + 2)), μ, μ, ?_, hmodel _ (fun m _ _ => ?_), h⟩
        · rw [if_neg (show ¬ nI 5 = 0 by decide), if_neg (show ¬ nI 5 = 1 by decide), if_neg (show ¬ nI 5 = 2 by decide), if_neg (show ¬ nI 5 = 3 by decide), if_neg (show ¬ nI 5 = 4 by decide), if_pos (show nI 5 = 5 from rfl), pg_po pKB_8 hb10, pb_s, pb_s, kp, show μ (8 + 6) b = μ 1 (11 + 5 * b + 2) from g3]
        · rw [if_pos (show 5 ≤ nI 5 by decide), if_pos (show nI 5 = 5 from rfl), pm_po hb10, pb_s]
      · refine ⟨ppt (μ 1 (11 + 5 * b)) (μ 1 (11 + 5 * b + 1)) (nI (min C M)), μ, μ, ?_, hmodel _ (fun m _ hm => ?_), h⟩
        · rw [if_neg (show ¬ nI 6 = 0 by decide), if_neg (show ¬ nI 6 = 1 by decide), if_neg (show ¬ nI 6 = 2 by decide), if_neg (show ¬ nI 6 = 3 by decide), if_neg (show ¬ nI 6 = 4 by decide), if_neg (show ¬ nI 6 = 5 by decide), if_pos (show nI 6 = 6 from rfl), pg_get (8 + 8) 10 rfl pKB_8.2.2.2.1 hb10 (by decide), pb_s, pg_get (8 + 10) 10 rfl pKB_8.2.2.2.2 hb10 (by decide), pb_s, show μ (8 + 8) b = nI M from kM, show μ (8 + 10) b = nI C from kC]
          have e : (if nI C < nI M then nI C else nI M) = nI (min C M) := by
            by_cases hh : C < M
            · rw [if_pos (nI_lt hh (by omega)), show min C M = C by omega]
            · rw [if_neg (nI_nlt (by omega) (by omega)), show min C M = M by omega]
          rw [e, pg_pw pKB_8 hb10, pb_s, pb_s, kp]
        · rw [if_pos (show 5 ≤ nI 6 by decide), if_neg (show ¬ nI 6 = 5 by decide), hm, pm_pw hb10, pb_s]
theorem plev_c {d e : Nat → Int32} (h : ∀ v, d v = e v) : ∀ n, plev d n = plev e n := fun n => by rw [show d = e from funext h]
theorem s_levelFor (a1 a2 : Int32) : gl_ok Sim (fun μ => fn_X6_levelFor gl_kd μ 6 a1 a2) (fun μ => fn_X7_levelFor gl_kd μ 0 a1 a2) := by
  intro μ h
  obtain ⟨nb, nn, hB, hN, hS⟩ := h.1
  have hb5 : μ 8 5 = nI nb := hB.2.1.1
  have hb1 : μ 1 1 = nI nb := hB.2.1.2
  unfold fn_X6_levelFor fn_X7_levelFor
  simp only [Nat.reduceAdd]
  by_cases h1 : phas a1 nb = 0
  · exact ⟨_, μ, μ, by rw [pg_hasB hb5, pb_s, if_pos h1], by rw [pm_isBowl hb1 hB.1, pb_s, if_pos h1], h⟩
  · obtain ⟨b, hb, rfl⟩ := phas_n (by have := hB.1; omega) h1
    obtain ⟨hb10, L, M, C, hL1, hM1, hC1, kL, kM, kC, hL, hM, hC⟩ := rB_b hB hb
    obtain ⟨g1, g2, g3, g4, g5, _⟩ := hB.2.2.2 b hb
    by_cases h2 : pwi a2 (-3000) 6000 = 0
    · exact ⟨_, μ, μ, by rw [pg_hasB hb5, pb_s, if_neg h1, pg_within, pb_s, if_pos h2], by rw [pm_isBowl hb1 hB.1, pb_s, if_neg h1, pm_in, pb_s, if_pos h2], h⟩
    · obtain ⟨z, hz⟩ := pl_levM (μ := μ) (p := a2) (k := fun m19 y20 y21 => some (y20, m19)) hb10 hC1 hC C gx_F 0 (by omega) (by unfold gx_F; omega)
      refine ⟨nI (plev (fun v => pab (ppt (μ 1 (11 + 5 * b)) (μ 1 (11 + 5 * b + 1)) (nI v) - a2)) C), μ, μ, ?_, ?_, h⟩
      · rw [pg_hasB hb5, pb_s, if_neg h1, pg_within, pb_s, if_neg h2, pg_lev pKB_8 hb10 hC1 kC, pb_s, show μ (8 + 2) b = μ 1 (11 + 5 * b) from g1, show μ (8 + 4) b = μ 1 (11 + 5 * b + 1) from g2]
      · rw [pm_isBowl hb1 hB.1, pb_s, if_neg h1, pm_in, pb_s, if_neg h2]
        exact hz
/-- the nearest bowl, on both sides -/
theorem rB_best {μ : gx_M} {c nb : Nat} {s : Nat → Int32} {p : Int32} (h : rB μ c s nb) : pbest (fun b => pab (ppt (μ (c + 2) b) (μ (c + 4) b) (μ (c + 6) b) - p)) nb = pbest (fun b => pab (ppt (s (11 + 5 * b)) (s (11 + 5 * b + 1)) (s (11 + 5 * b + 2)) - p)) nb := by
  refine pbest_c nb (fun b hb => ?_)
  obtain ⟨g1, g2, g3, _⟩ := h.2.2.2 b hb
  rw [g1, g2, g3]
theorem s_nearest (a1 : Int32) : gl_ok Sim (fun μ => fn_X6_nearest gl_kd μ 6 a1) (fun μ => fn_X7_nearest gl_kd μ 0 a1) := by
  intro μ h
  obtain ⟨nb, nn, hB, hN, hS⟩ := h.1
  have hb5 : μ 8 5 = nI nb := hB.2.1.1
  have hb1 : μ 1 1 = nI nb := hB.2.1.2
  unfold fn_X6_nearest fn_X7_nearest fn_X6_orNotFound
  simp only [Nat.reduceAdd]
  by_cases h1 : pwi a1 0 6000 = 0
  · exact ⟨_, μ, μ, by rw [pg_within, pb_s, if_pos h1], by rw [pm_in, pb_s, if_pos h1], h⟩
  · have hb := rB_best (p := a1) hB
    rw [pg_within, pb_s, if_neg h1, pg_near pKB_8 hb5 hB.1, pb_s, hb]
    cases e : pbest (fun b => pab (ppt (μ 1 (11 + 5 * b)) (μ 1 (11 + 5 * b + 1)) (μ 1 (11 + 5 * b + 2)) - a1)) nb with
    | none =>
      have e0 := pbest_none _ _ e
      subst e0
      refine ⟨-100004, μ, μ, by rw [if_pos (show pbi none = -1 from rfl), pb_s], ?_, h⟩
      rw [pm_in, pb_s, if_neg h1]
      simp only [Nat.zero_add, pk1, px1, pt1, if_true, eq_self, hb1]
      rw [if_pos (show nI 0 = 0 from rfl)]
    | some j =>
      have hj := pbest_lt _ _ _ e
      have := hB.1
      refine ⟨nI j, μ, μ, by rw [if_neg (show ¬ pbi (some j) = -1 from pm1 (by omega)), pb_s]; rfl, ?_, h⟩
      rw [pm_in, pb_s, if_neg h1]
      simp only [Nat.zero_add, pk1, px1, pt1, if_true, eq_self, hb1]
      rw [if_neg (nI_ne0 (by omega) (by omega)), pm_sounds hb1 hB.1, pb_s, e]
      rfl
/-- a setting's change -/
theorem tt_set {κ : gx_M} {s : Nat → Int32} {t nb nn w : Nat} {v : Int32} (hk : pKT t) (hB : rB κ (t + 1) s nb) (hN : rN κ (t + 12) s nn) (hS : rS κ t s) (hw : w < 4) (hv : w = 0 → ∃ dr, 1 ≤ dr ∧ dr ≤ 600 ∧ v = nI dr) :
    ∃ κ1, fn_X4_changeSetting gl_kd κ t (nI w) v = some (s (7 + w), κ1) ∧ (∀ a, (a < t ∨ t + 25 ≤ a) → κ1 a = κ a) ∧ RT κ1 t (upd s (7 + w) v) := by
  unfold fn_X4_changeSetting
  obtain ⟨s1, s2, s3, s4⟩ := hS
  rw [pg_get (t + 24) 4 rfl hk.2.2 hw (by decide), pb_s, pg_put (t + 24) 4 rfl hk.2.2 hw (by decide), pb_s, s3 w hw]
  refine ⟨_, rfl, fun a ha => by simp (disch := omega) only [gx_u_n], nb, nn, rB_c hB (fun a h1 h2 => gx_u_n (by omega)) (fun j h1 h2 => pu_n (by omega)), rN_c hN (fun a h1 h2 => gx_u_n (by omega)) (fun j h1 h2 => pu_n (by omega)), ?_, ?_, fun x hx => ?_, ?_⟩
  · rw [pw_n (Or.inl (by omega)), pu_n (by omega), s1]
  · rw [pu_n (by omega)]; exact s2
  · by_cases e : x = w
    · subst e
      rw [pw_s, pu_s]
    · rw [pw_n (Or.inr e), pu_n (by omega), s3 x hx]
  · by_cases e : w = 0
    · subst e
      obtain ⟨dr, h1, h2, h3⟩ := hv rfl
      exact ⟨dr, h1, h2, by rw [pu_s]; exact h3⟩
    · rw [pu_n (by omega)]; exact s4
theorem pg_isSet {kd : Nat → Nat} {μ : gx_M} {q v : Int32} : ∃ r, fn_X6_isSetting kd μ q v = some (r, μ) ∧ (∀ ρ, fn_X7_canBe kd ρ q v = some (r, ρ)) ∧ (¬ r = 0 → ∃ w, w < 4 ∧ q = nI w ∧ (w = 0 → ∃ dr, 1 ≤ dr ∧ dr ≤ 600 ∧ v = nI dr)) := by
  unfold fn_X6_isSetting fn_X7_canBe
  by_cases e0 : q = 0
  · exact ⟨pwi v 1 600, by rw [if_pos e0, pg_within, pb_s, if_pos (pwi_01 _ _ _)], fun ρ => by rw [if_pos e0, pm_in, pb_s, if_pos (pwi_01 _ _ _)], fun hr => ⟨0, by omega, e0, fun _ => pwi_n (a := 1) (b := 600) (by decide) (by decide) hr⟩⟩
  · by_cases e1 : q = 1
    · exact ⟨pwi v 1 600, by rw [if_neg e0, if_pos e1, pg_within, pb_s, if_pos (pwi_01 _ _ _)], fun ρ => by rw [if_neg e0, if_pos e1, pm_in, pb_s, if_pos (pwi_01 _ _ _)], fun hr => ⟨1, by omega, e1, fun h => absurd h (by decide)⟩⟩
    · by_cases e2 : q = 2
      · exact ⟨pwi v 0 600, by rw [if_neg e0, if_neg e1, if_pos e2, pg_within, pb_s, if_pos (pwi_01 _ _ _)], fun ρ => by rw [if_neg e0, if_neg e1, if_pos e2, pm_in, pb_s, if_pos (pwi_01 _ _ _)], fun hr => ⟨2, by omega, e2, fun h => absurd h (by decide)⟩⟩
      · by_cases e3 : q = 3
        · refine ⟨pwi v 0 1, by rw [if_neg e0, if_neg e1, if_neg e2, if_pos e3, pg_within, pb_s, if_pos (pwi_01 _ _ _)], fun ρ => ?_, fun hr => ⟨3, by omega, e3, fun h => absurd h (by decide)⟩⟩
          rw [if_neg e0, if_neg e1, if_neg e2, if_pos e3, pm_in, pb_s]
          rcases pwi_01 v 0 1 with q | q
          · rw [q, if_pos rfl]
          · rw [q, if_neg (by decide)]
        · exact ⟨0, by rw [if_neg e0, if_neg e1, if_neg e2, if_neg e3], fun ρ => by rw [if_neg e0, if_neg e1, if_neg e2, if_neg e3], fun h => absurd rfl h⟩
theorem s_set (a1 a2 : Int32) : gl_ok Sim (fun μ => fn_X6_set gl_kd μ 6 a1 a2) (fun μ => fn_X7_set gl_kd μ 0 a1 a2) := by
  intro μ h
  obtain ⟨nb, nn, hB, hN, hS⟩ := h.1
  have hb1 : μ 1 1 = nI nb := hB.2.1.2
  have hn2 : μ 1 2 = nI nn := hN.2.1.2
  unfold fn_X6_set fn_X7_set
  simp only [Nat.reduceAdd]
  obtain ⟨r, x1, x2, x3⟩ := pg_isSet (kd := gl_kd) (μ := μ) (q := a1) (v := a2)
  obtain ⟨_, _, y2, _⟩ := pg_isSet (kd := gl_kd) (μ := μ) (q := a1) (v := a2)
  by_cases h1 : r = 0
  · exact ⟨_, μ, μ, by rw [x1, pb_s, if_pos h1], by rw [x2, pb_s, if_pos h1], h⟩
  · obtain ⟨w, hw, rfl, hv⟩ := x3 h1
    refine s_recd (fx := fun μ => _) (fm := fun μ => _) h (fun κ e hT => ?_)
    obtain ⟨hB2, hN2, hS2⟩ := RT_at hT hb1 hB.1 hn2 hN.1
    obtain ⟨κ1, k1, k2, k3⟩ := tt_set (t := 7) (v := a2) pKT_7 hB2 hN2 hS2 hw hv
    refine ⟨μ 1 (7 + w), κ1, by rw [x1, pb_s, if_neg h1, e, pb_s, k1, pb_s], fun a ha => k2 a (by omega), fun ν q ρ e2 r2 => ?_⟩
    refine ⟨gx_u ρ 1 (7 + w) a2, ?_, fun a ha => by simp (disch := omega) only [gx_u_n], ?_⟩
    · rw [x2, pb_s, if_neg h1, e2, pb_s, pm_setting w rfl (by omega), pb_s, r2, show (7 : Int32) = nI 7 from rfl, nI_add, pm_c (7 + w) (by omega), if_pos rfl, nI_clamp (by omega)]
    · rw [gx_u_s, r2]
      exact k3
