/-! ===== settings ===== -/
/-- the nearest bowl, on both sides -/
theorem rB_best {μ : gx_M} {c nb : Nat} {s : Nat → Int32} {p : Int32} (h : rB μ c s nb) : pbest (fun b => pab (ppt (μ (c + 2) b) (μ (c + 4) b) (μ (c + 6) b) - p)) nb = pbest (fun b => pab (ppt (s (11 + 5 * b)) (s (11 + 5 * b + 1)) (s (11 + 5 * b + 2)) - p)) nb := by
  refine pbest_c nb (fun b hb => ?_)
  obtain ⟨g1, g2, g3, _⟩ := h.2.2.2 b hb
  rw [g1, g2, g3]
/-- a setting's change -/
theorem tt_set {κ : gx_M} {s : Nat → Int32} {t nb nn w : Nat} {v : Int32} (hk : pKT t) (hB : rB κ (t + 1) s nb) (hN : rN κ (t + 12) s nn) (hS : rS κ t s) (hw : w < 4) (hv : w = 0 → ∃ dr, 1 ≤ dr ∧ dr ≤ 600 ∧ v = nI dr) :
    ∃ κ1, fn_X4_changeSetting gl_kd κ t (nI w) v = some (s (7 + w), κ1) ∧ (∀ a, (a < t ∨ t + 25 ≤ a) → κ1 a = κ a) ∧ RT κ1 t (upd s (7 + w) v) := by
  unfold fn_X4_changeSetting
  obtain ⟨s1, s2, s3, s4⟩ := hS
  rw [pg_get (t + 24) 4 rfl hk.2.2 hw (by decide), pb_s, pg_put (t + 24) 4 rfl hk.2.2 hw (by decide), pb_s, s3 w hw]
  refine ⟨_, rfl, fun a ha => by simp (disch := omega) only [gx_u_n], nb, nn, rB_c hB (fun a h1 h2 => gx_u_n (by omega)) (fun j h1 h2 => pu_n (by omega)), rN_c hN (fun a h1 h2 => gx_u_n (by omega)) (fun j h1 h2 => pu_n (by omega)), ?_, ?_, fun x hx => ?_, ?_⟩
  · rw [pw_n (Or.inl (by omega)), pu_n (by omega), s1]
  · rw [pu_n (by omega)]; exact s2
  · by_cases e : x = w
    · subst e
      rw [pw_s, pu_s]
    · rw [pw_n (Or.inr e), pu_n (by omega), s3 x hx]
  · by_cases e : w = 0
    · subst e
      obtain ⟨dr, h1, h2, h3⟩ := hv rfl
      exact ⟨dr, h1, h2, by rw [pu_s]; exact h3⟩
    · rw [pu_n (by omega)]; exact s4
theorem pwi_nn {p : Int32} {a b : Nat} (ha : a < 2147483648) (hb : b < 2147483648) (h : ¬ pwi p (nI a) (nI b) = 0) : 0 ≤ p := by
  obtain ⟨j, _, h2, rfl⟩ := pwi_n ha hb h
  exact nI_nn (by omega)
theorem pg_isSet2 {kd : Nat → Nat} {μ : gx_M} {q v : Int32} : ∃ r, fn_X6_isSetting kd μ q v = some (r, μ) ∧ True ∧ (¬ r = 0 → ∃ w, w < 4 ∧ q = nI w ∧ (w = 0 → ∃ dr, 1 ≤ dr ∧ dr ≤ 600 ∧ v = nI dr) ∧ 0 ≤ v) := by
  unfold fn_X6_isSetting
  by_cases e0 : q = 0
  · exact ⟨pwi v 1 600, by rw [if_pos e0, pg_within, pb_s, if_pos (pwi_01 _ _ _)], trivial, fun hr => ⟨0, by omega, e0, fun _ => pwi_n (a := 1) (b := 600) (by decide) (by decide) hr, pwi_nn (a := 1) (b := 600) (by decide) (by decide) hr⟩⟩
  · by_cases e1 : q = 1
    · exact ⟨pwi v 1 600, by rw [if_neg e0, if_pos e1, pg_within, pb_s, if_pos (pwi_01 _ _ _)], trivial, fun hr => ⟨1, by omega, e1, fun h => absurd h (by decide), pwi_nn (a := 1) (b := 600) (by decide) (by decide) hr⟩⟩
    · by_cases e2 : q = 2
      · exact ⟨pwi v 0 600, by rw [if_neg e0, if_neg e1, if_pos e2, pg_within, pb_s, if_pos (pwi_01 _ _ _)], trivial, fun hr => ⟨2, by omega, e2, fun h => absurd h (by decide), pwi_nn (a := 0) (b := 600) (by decide) (by decide) hr⟩⟩
      · by_cases e3 : q = 3
        · exact ⟨pwi v 0 1, by rw [if_neg e0, if_neg e1, if_neg e2, if_pos e3, pg_within, pb_s, if_pos (pwi_01 _ _ _)], trivial, fun hr => ⟨3, by omega, e3, fun h => absurd h (by decide), pwi_nn (a := 0) (b := 1) (by decide) (by decide) hr⟩⟩
        · exact ⟨0, by rw [if_neg e0, if_neg e1, if_neg e2, if_neg e3], trivial, fun h => absurd rfl h⟩
theorem s_set (a1 a2 : Int32) : chg (fun μ => fn_X6_set gl_kd μ 6 a1 a2) := by
  intro μ h
  obtain ⟨nb, nn, hB, hN, hS⟩ := h.1
  have hb1 : μ 1 1 = nI nb := hB.2.1.2
  have hn2 : μ 1 2 = nI nn := hN.2.1.2
  unfold fn_X6_set
  simp only [Nat.reduceAdd]
  obtain ⟨r, x1, x2, x3⟩ := pg_isSet2 (kd := gl_kd) (μ := μ) (q := a1) (v := a2)
  by_cases h1 : r = 0
  · exact ch_err h (by rw [x1, pb_s, if_pos h1]) (by decide)
  · obtain ⟨w, hw, rfl, hv, h0⟩ := x3 h1
    refine k_recd h (fun κ e hT => ?_)
    obtain ⟨hB2, hN2, hS2⟩ := RT_at hT hb1 hB.1 hn2 hN.1
    obtain ⟨κ1, k1, k2, k3⟩ := tt_set (t := 7) (v := a2) pKT_7 hB2 hN2 hS2 hw hv
    refine ⟨μ 1 (7 + w), κ1, _, by rw [x1, pb_s, if_neg h1, e, pb_s, k1, pb_s], fun a ha => k2 a (by omega), k3, fun hs ha => ⟨hs w hw, Acc_c ha (fun j hj => pu_n (by omega)), fun x hx => ?_⟩⟩
    by_cases q : x = w
    · subst q
      rw [pu_s]
      exact h0
    · rw [pu_n (by omega)]
      exact hs x hx
