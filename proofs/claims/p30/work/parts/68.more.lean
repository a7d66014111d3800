/-! ===== undo, the text's keys, rewind, transpose ===== -/
theorem pg_res {κ : gx_M} {nx hs : Nat} {s : Nat → Int32} (h3 : κ 57 1 = nI nx) (h4 : κ 57 2 = nI (hs + 1)) (h2 : nx < 5) (h5 : hs < 5) (hT : RT κ (59 + 25 * ((nx + 4) % 5)) s) : ∃ κ', fn_X1_restore gl_kd κ 57 7 = some (0, κ') ∧ (∀ a, (a < 7 ∨ 32 ≤ a) → a ≠ 57 → κ' a = κ a) ∧ κ' 57 1 = nI ((nx + 4) % 5) ∧ κ' 57 2 = nI hs ∧ RT κ' 7 s := by
  unfold fn_X1_restore
  have q3 : κ 57 1 + 5 - 1 - (κ 57 1 + 5 - 1) / 5 * 5 = nI ((nx + 4) % 5) := by
    rw [h3, show (5 : Int32) = nI 5 from rfl, nI_add, show nx + 5 = nx + 4 + 1 from rfl, nI_pred, pk_rem (by omega) (by decide) (by decide)]
  rw [q3]
  have q4 : (if gx_u κ 57 1 (nI ((nx + 4) % 5)) 57 2 - 1 < 0 then 0 else gx_u κ 57 1 (nI ((nx + 4) % 5)) 57 2 - 1) = nI hs := by
    rw [pw_n (Or.inr (by decide)), h4, nI_pred, if_neg (nI_pos (by omega))]
  rw [q4, pw_n (Or.inr (by decide)), pw_s, if_pos (pg_ix (by omega) (by decide)), nI_clamp (by omega), show 57 + 1 + 1 + 25 * ((nx + 4) % 5) = 59 + 25 * ((nx + 4) % 5) by omega]
  obtain ⟨m, e, f, g⟩ := pg_cpyT (μ := gx_u (gx_u κ 57 1 (nI ((nx + 4) % 5))) 57 2 (nI hs)) (c := 7) (c1 := 59 + 25 * ((nx + 4) % 5)) pKT_7 (pKT_h _ (by omega)) (by omega) (RT_c hT (fun a h1 h2 => by rw [gx_u_n (by omega), gx_u_n (by omega)]) (fun _ _ => rfl))
  rw [e, pb_s]
  refine ⟨m, rfl, fun a h1 h2 => by rw [f a (by omega), gx_u_n h2, gx_u_n h2], ?_, ?_, g⟩
  · rw [f 57 (by omega), pw_n (Or.inr (by decide)), pw_s]
  · rw [f 57 (by omega), pw_s]
theorem s_undo {μ : gx_M} (h : Sim μ) : (μ 0 3 = 0 ∧ fn_X6_undo gl_kd μ 6 = some (-100002, μ)) ∨ ∃ hs μ1 μ2, hs < 5 ∧ μ 0 3 = nI (hs + 1) ∧ fn_X6_undo gl_kd μ 6 = some (nI hs, μ1) ∧ (∀ a, 6 ≤ a → μ2 a = μ1 a) ∧ (∀ a, 187 ≤ a → μ1 a = μ a) ∧ μ2 0 3 = nI hs ∧ μ2 2 = μ 2 ∧ (∀ q, q < 301 → μ2 1 q = μ 2 (301 * hs + q)) ∧ Sim μ2 := by
  obtain ⟨hs, nx, h1, h2, h3, h4, h5, h6⟩ := h.2.1
  unfold fn_X6_undo fn_X1_size
  simp only [Nat.reduceAdd]
  by_cases e0 : hs = 0
  · subst e0
    exact Or.inl ⟨h5, by rw [pb_s, h4, if_pos (show nI 0 = 0 from rfl)]⟩
  · obtain ⟨hs, rfl⟩ : ∃ q, hs = q + 1 := ⟨hs - 1, by omega⟩
    have hT := h6 hs (by omega)
    rw [show (nx + 5 - (hs + 1) + hs) % 5 = (nx + 4) % 5 by omega] at hT
    obtain ⟨κ', r1, r2, r3, r4, r5⟩ := pg_res h3 h4 h2 (by omega) hT
    have hk : ∀ a, a < 7 → κ' a = μ a := fun a ha => r2 a (by omega) (by omega)
    have h03 : gx_u κ' 0 3 (κ' 0 3 - 1) 0 3 = nI hs := by
      rw [pw_s, hk 0 (by decide), h5, nI_pred]
    obtain ⟨m, t1, t2, t3, t4⟩ := pl_und (hs := hs) (by omega) (k := fun m3 y4 => some (m3 0 3, m3)) 301 gx_F 0 (gx_u κ' 0 3 (κ' 0 3 - 1)) h03 (by omega) (by unfold gx_F; omega)
    have f6 : ∀ a, 6 ≤ a → m a = κ' a := fun a ha => by rw [t2 a (by omega), gx_u_n (by omega)]
    refine Or.inr ⟨hs, κ', m, by omega, h5, ?_, f6, fun a ha => r2 a (by omega) (by omega), by rw [t2 0 (by decide), h03], by rw [t2 2 (by decide), gx_u_n (by decide), hk 2 (by decide)], fun q hq => by rw [t3 q (by omega) hq, gx_u_n (by decide), hk 2 (by decide)], ?_⟩
    · rw [pb_s, h4, if_neg (nI_ne0 (by omega) (by omega)), r1, pb_s, pb_s, r4]
    · refine ⟨RT_c r5 (fun a h1 h2 => f6 a (by omega)) (fun j hj => ?_), ⟨hs, (nx + 4) % 5, by omega, by omega, by rw [f6 57 (by decide), r3], by rw [f6 57 (by decide), r4], by rw [t2 0 (by decide), h03], fun j hj => ?_⟩, ?_⟩
      · have := t3 j (by omega) hj
        rw [this, gx_u_n (by decide), hk 2 (by decide)]
      · have := h6 j (by omega)
        rw [show (nx + 5 - (hs + 1) + j) % 5 = ((nx + 4) % 5 + 5 - hs + j) % 5 by omega] at this
        refine RT_c this (fun a h1 h2 => by rw [f6 a (by omega), r2 a (by omega) (by omega)]) (fun q hq => ?_)
        rw [t2 2 (by decide), gx_u_n (by decide), hk 2 (by decide)]
      · rw [t2 0 (by decide), pw_n (Or.inr (by decide)), t2 4 (by decide), gx_u_n (by decide), hk 0 (by decide), hk 4 (by decide)]
        exact SX_c h.2.2 (by rw [f6 184 (by decide), r2 184 (by omega) (by decide)]) (by rw [f6 186 (by decide), r2 186 (by omega) (by decide)]) (fun _ _ => rfl)
/-- rewind -/
theorem pl_fgt {c nn : Nat} {k : gx_M → Int32 → Option (Int32 × gx_M)} (hk : pKN c) (hn : nn ≤ 40) : ∀ (m n i : Nat) (μ : gx_M), μ c 5 = nI nn → i + m = nn → m < n → ∃ μ', lf_X2_forgetPlaying_2 gl_kd c k n μ (nI i) = k μ' (nI nn) ∧ (∀ a, a ≠ c + 6 → μ' a = μ a) ∧ (∀ q, i ≤ q → q < nn → μ' (c + 6) q = 0) ∧ (∀ q, (q < i ∨ nn ≤ q) → μ' (c + 6) q = μ (c + 6) q) := by
  intro m
  induction m with
  | zero =>
    intro n i μ h1 hi hm
    obtain ⟨n, rfl⟩ : ∃ q, n = q + 1 := ⟨n - 1, by omega⟩
    have e : i = nn := by omega
    subst e
    refine ⟨μ, ?_, fun _ _ => rfl, fun q h1 h2 => absurd h2 (by omega), fun _ _ => rfl⟩
    rw [lf_X2_forgetPlaying_2, h1, if_pos (nI_le (Nat.le_refl _) (by omega))]
  | succ m ih =>
    intro n i μ h1 hi hm
    obtain ⟨n, rfl⟩ : ∃ q, n = q + 1 := ⟨n - 1, by omega⟩
    rw [lf_X2_forgetPlaying_2, h1, if_neg (nI_ge (by omega) (by omega)), pg_put (c + 6) 40 rfl hk.2.2.1 (i := i) (by omega) (by decide), pb_s, nI_1]
    obtain ⟨μ', e1, e2, e3, e4⟩ := ih n (i + 1) (gx_u μ (c + 6) i 0) (by rw [gx_u_n (by omega), h1]) (by omega) (by omega)
    refine ⟨μ', e1, fun a ha => by rw [e2 a ha, gx_u_n ha], fun q h1 h2 => ?_, fun p hp => by rw [e4 p (by omega), pw_n (Or.inr (by omega))]⟩
    by_cases hq : q = i
    · subst hq
      rw [e4 q (by omega), pw_s]
    · exact e3 q (by omega) h2
theorem pl_rew {nn : Nat} {q1 : Int32} {k : gx_M → Int32 → Option (Int32 × gx_M)} (hn : nn ≤ 40) : ∀ (m n i : Nat) (μ : gx_M), μ 1 2 = nI nn → i + m = nn → m < n → ∃ μ', lf_X7_rewind_20 gl_kd 0 q1 k n μ (nI i) = k μ' (nI nn) ∧ (∀ a, a ≠ 1 → μ' a = μ a) ∧ (∀ q, i ≤ q → q < nn → μ' 1 (61 + 6 * q + 2) = 0) ∧ (∀ q, (q < 61 + 6 * i ∨ (∀ d, d < 40 → q ≠ 61 + 6 * d + 2 ∧ q ≠ 61 + 6 * d + 3)) → μ' 1 q = μ 1 q) := by
  intro m
  induction m with
  | zero =>
    intro n i μ h1 hi hm
    obtain ⟨n, rfl⟩ : ∃ q, n = q + 1 := ⟨n - 1, by omega⟩
    have e : i = nn := by omega
    subst e
    refine ⟨μ, ?_, fun _ _ => rfl, fun q h1 h2 => absurd h2 (by omega), fun _ _ => rfl⟩
    rw [lf_X7_rewind_20]
    simp only [Nat.zero_add, pk1, px2, pt2, if_true, eq_self, h1]
    rw [if_pos (nI_le (Nat.le_refl _) (by omega))]
  | succ m ih =>
    intro n i μ h1 hi hm
    obtain ⟨n, rfl⟩ : ∃ q, n = q + 1 := ⟨n - 1, by omega⟩
    rw [lf_X7_rewind_20]
    simp only [Nat.zero_add, pk1, px2, pt2, if_true, eq_self, h1]
    rw [if_neg (nI_ge (by omega) (by omega)), pm_lay2 (b := i) (by omega), pb_s, pm_lay3 (b := i) (by omega), pb_s, nI_1]
    obtain ⟨μ', e1, e2, e3, e4⟩ := ih n (i + 1) (gx_u (gx_u μ 1 (61 + 6 * i + 2) 0) 1 (61 + 6 * i + 3) (-1)) (by rw [pw_n (Or.inr (by omega)), pw_n (Or.inr (by omega)), h1]) (by omega) (by omega)
    refine ⟨μ', e1, fun a ha => by rw [e2 a ha, gx_u_n ha, gx_u_n ha], fun q h1 h2 => ?_, fun p hp => ?_⟩
    · by_cases hq : q = i
      · subst hq
        rw [e4 _ (Or.inl (by omega)), pw_n (Or.inr (by omega)), pw_s]
      · exact e3 q (by omega) h2
    · rcases hp with hp | hp
      · rw [e4 p (Or.inl (by omega)), pw_n (Or.inr (by omega)), pw_n (Or.inr (by omega))]
      · have := hp i (by omega)
        rw [e4 p (Or.inr hp), pw_n (Or.inr (by omega)), pw_n (Or.inr (by omega))]
theorem s_rewind : chg (fun μ => fn_X6_rewind gl_kd μ 6) := by
  intro μ h
  obtain ⟨nb, nn, hB, hN, hS⟩ := h.1
  have hb1 : μ 1 1 = nI nb := hB.2.1.2
  have hn2 : μ 1 2 = nI nn := hN.2.1.2
  have hn40 := hN.1
  unfold fn_X6_rewind fn_X4_time fn_X4_startAgain fn_X2_forgetPlaying
  simp only [Nat.reduceAdd]
  refine k_recd h (fun κ e hT => ?_)
  obtain ⟨hB2, hN2, hS2⟩ := RT_at hT hb1 hB.1 hn2 hN.1
  obtain ⟨κ1, e1, e2, e3, e4⟩ := pl_fgt (c := 19) (k := fun m4 y5 => some (0, m4)) pKN_19 hn40 nn gx_F 0 (gx_u κ 7 3 0) (by rw [gx_u_n (by decide)]; exact hN2.2.1.1) (by omega) (by unfold gx_F; omega)
  have e1' : lf_X2_forgetPlaying_2 gl_kd 19 (fun m4 y5 => some (0, m4)) gx_F (gx_u κ 7 3 0) 0 = some (0, κ1) := e1
  obtain ⟨ρ2, t1, t2, t3, t4⟩ := pl_rew (nn := nn) (q1 := μ 1 0) (k := fun m8 y9 => some (μ 1 0, m8)) hn40 nn gx_F 0 (gx_u μ 1 0 0) (by rw [pw_n (Or.inr (by decide)), hn2]) (by omega) (by unfold gx_F; omega)
  refine ⟨μ 1 0, κ1, ρ2 1, by rw [e, pb_s, pb_s, e1', pb_s, pb_s, show κ 7 3 = μ 1 0 from hS2.1], fun a ha => by rw [e2 a (by omega), gx_u_n (by omega)], ⟨nb, nn, ?_, ?_, ?_⟩, fun hs ha => ⟨?_, Acc_c ha (fun j hj => by rw [t4 j (by omega), pw_n (Or.inr (by omega))]), SNN_c hs (fun j h1 h2 => by rw [t4 j (by omega), pw_n (Or.inr (by omega))])⟩⟩
  · exact rB_c hB2 (fun a h1 h2 => by rw [e2 a (by omega), gx_u_n (by omega)]) (fun j h1 h2 => by rw [t4 j (Or.inl (by omega)), pw_n (Or.inr (by omega))])
  · refine ⟨hn40, ⟨by rw [e2 _ (by omega), gx_u_n (by omega)]; exact hN2.2.1.1, by rw [t4 2 (Or.inl (by omega)), pw_n (Or.inr (by omega)), hn2]⟩, fun i hi => ?_, fun i j hi hj => ?_⟩
    · obtain ⟨p1, p2, p3, p4, p5⟩ := hN2.2.2.1 i hi
      have w0 : ρ2 1 (61 + 6 * i) = μ 1 (61 + 6 * i) := by rw [t4 _ (Or.inr (fun d _ => by omega)), pw_n (Or.inr (by omega))]
      have w1 : ρ2 1 (61 + 6 * i + 1) = μ 1 (61 + 6 * i + 1) := by rw [t4 _ (Or.inr (fun d _ => by omega)), pw_n (Or.inr (by omega))]
      refine ⟨?_, ?_, Or.inl ⟨e3 i (by omega) hi, t3 i (by omega) hi⟩, ?_, ?_⟩
      · rw [e2 _ (by omega), gx_u_n (by omega), p1, w0]
      · rw [e2 _ (by omega), gx_u_n (by omega), p2, w1]
      · rw [w0]; exact p4
      · rw [w1]; exact p5
    · rw [t4 _ (Or.inr (fun d _ => by omega)), pw_n (Or.inr (by omega)), t4 _ (Or.inr (fun d _ => by omega)), pw_n (Or.inr (by omega))]
      exact hN2.2.2.2 i j hi hj
  · obtain ⟨s1, s2, s3, s4⟩ := hS2
    have w : ∀ j, 0 < j → j < 11 → ρ2 1 j = μ 1 j := fun j h1 h2 => by rw [t4 _ (Or.inl (by omega)), pw_n (Or.inr (by omega))]
    have w0 : ρ2 1 0 = 0 := by rw [t4 _ (Or.inl (by omega)), pw_s]
    refine ⟨?_, ⟨0, by omega, w0⟩, fun x hx => ?_, ?_⟩
    · rw [e2 _ (by omega), pw_s, w0]
    · rw [e2 _ (by omega), gx_u_n (by omega), s3 x hx, w _ (by omega) (by omega)]
    · rw [w 7 (by omega) (by omega)]; exact s4
  · obtain ⟨t0, h1, h2⟩ := hS.2.1
    rw [h2]
    exact nI_nn (by omega)
