/-! ===== fault, enter, the start, and all of it ===== -/
theorem p_text {μ : gx_M} (h : Sim μ) : ∃ κ', fn_X6_tryText gl_kd μ 6 = some (0, κ') ∧ (∀ a, (a < 32 ∨ 57 ≤ a) → a ≠ 184 → κ' a = μ a) ∧ κ' 184 1 = μ 184 1 ∧ ∀ ρ : gx_M, (∀ a, a < 6 → ρ a = μ a) → ∃ ρ', fn_X7_reasonOfText gl_kd ρ 0 = some (κ' 184 7, ρ') ∧ (∀ a, a ≠ 0 → a ≠ 5 → ρ' a = ρ a) ∧ (∀ f, f < 6 → ρ' 0 f = ρ 0 f) ∧ (¬ κ' 184 7 = 0 → κ' 184 6 = ρ' 0 10) ∧
    (κ' 184 7 = 0 → ∀ (σ : gx_M) (kM : gx_M → Int32 → Option (Int32 × gx_M)), σ 1 = μ 1 → σ 4 = μ 4 → σ 0 5 = μ 0 5 → σ 0 6 = 0 → ∃ σ' x', lf_X7_enter_21 gl_kd 0 kM gx_F σ 0 = kM σ' (nI x') ∧ κ' 184 5 = nI x' ∧ RT κ' 32 (σ' 1) ∧ (∀ a, a ≠ 0 → a ≠ 1 → σ' a = σ a) ∧ (∀ f, f < 6 → σ' 0 f = σ 0 f)) := by
  obtain ⟨nb, nn, hB, hN, hS⟩ := h.1
  obtain ⟨n, n1, n2, n3, n4, n5⟩ := h.2.2
  obtain ⟨κ, e, f1, hT2⟩ := pg_cpyT (μ := μ) (c := 32) (c1 := 7) pKT_32 pKT_7 (by omega) h.1
  obtain ⟨hB2, hN2, hS2⟩ := RT_at hT2 hB.2.1.2 hB.1 hN.2.1.2 hN.1
  have hX : pTx (gx_u (gx_u (gx_u κ 184 2 0) 184 5 0) 184 7 0) n (μ 4) := ⟨n1, by simp (disch := omega) only [pw_n]; rw [f1 184 (by omega), n2], fun j hj => by simp (disch := omega) only [pw_n]; rw [f1 186 (by omega), n4 j hj], fun j h1 h2 => by simp (disch := omega) only [pw_n]; rw [f1 186 (by omega), n5 j h1 h2]⟩
  have run := fun (ρ : gx_M) (hρ : ∀ a, a < 6 → ρ a = μ a) => pl_read (n := n) (nb := nb) (nn := nn) (tx := μ 4) (kG := fun m9 y10 => some (0, m9)) n gx_F gx_F 0 0 (gx_u (gx_u (gx_u κ 184 2 0) 184 5 0) 184 7 0) (gx_u ρ 0 6 0) (μ 1) (by omega) (by unfold gx_F; omega) (by unfold gx_F; omega) (by omega) (by omega) hX ⟨by rw [pw_n (Or.inr (by decide)), hρ 0 (by decide), n3], fun j hj => by rw [gx_u_n (by decide), hρ 4 (by decide)]⟩ (by simp (disch := omega) only [pw_s, pw_n]; rfl) (by rw [pw_s]; rfl) (pw_s _ _ _ _) (by simp (disch := omega) only [pw_s, pw_n]; rfl) (rB_c hB2 (fun a h1 h2 => by simp (disch := omega) only [gx_u_n]) (fun _ _ _ => rfl)) (rN_c hN2 (fun a h1 h2 => by simp (disch := omega) only [gx_u_n]) (fun _ _ _ => rfl)) (rS_c hS2 (by simp (disch := omega) only [pw_n]) (by simp (disch := omega) only [gx_u_n]) (fun _ _ _ => rfl)) (by rw [gx_u_n (by decide), hρ 1 (by decide)]; exact hN.2.1.2) (fun v => by
      rw [gx_u_n (show (1 : Nat) ≠ 0 by decide), hρ 1 (by decide)]
      constructor
      · exact fun q => Or.inl q
      · rintro (q | ⟨j, j1, _⟩)
        · exact q
        · exact absurd j1 (by omega))
  obtain ⟨κ', ρ0, r0, z0, x1, x2, x3, x4, x5, x6, x7, x8, x9⟩ := run μ (fun _ _ => rfl)
  refine ⟨κ', ?_, fun a ha hb => by rw [x4 a ha hb]; simp (disch := omega) only [gx_u_n]; exact f1 a (by omega), by rw [x5, n2], fun ρ hρ => ?_⟩
  · unfold fn_X6_tryText fn_X5_readInto
    simp only [Nat.reduceAdd]
    rw [e, pb_s]
    have x1' : lf_X5_readInto_22 gl_kd 184 44 (fun m9 y10 => some (0, m9)) gx_F (gx_u (gx_u (gx_u κ 184 2 0) 184 5 0) 184 7 0) 0 = some (0, κ') := x1
    rw [x1', pb_s]
  · obtain ⟨κ2, ρ', r, z, y1, y2, y3, y4, y5, y6, y7, y8, y9⟩ := run ρ hρ
    rw [x1] at y1
    have q : κ' = κ2 := congrArg Prod.snd (Option.some.inj y1)
    subst q
    subst y3
    refine ⟨ρ', ?_, fun a h0 h5 => by rw [y6 a h0 h5, gx_u_n h0], fun f hf => by rw [y7 f hf, pw_n (Or.inr (by omega))], y8, fun hr σ kM s1 s4 s5 s6 => ?_⟩
    · unfold fn_X7_reasonOfText
      exact y2
    · exact y9 hr σ gx_F kM (by unfold gx_F; omega) ⟨by rw [s5, n3], fun j hj => by rw [s4]⟩ (by rw [s6]; rfl) (by rw [s1]; exact rB_c hB2 (fun a h1 h2 => by simp (disch := omega) only [gx_u_n]) (fun _ _ _ => rfl)) (by rw [s1]; exact rN_c hN2 (fun a h1 h2 => by simp (disch := omega) only [gx_u_n]) (fun _ _ _ => rfl)) (by rw [s1]; exact rS_c hS2 (by simp (disch := omega) only [pw_n]) (by simp (disch := omega) only [gx_u_n]) (fun _ _ _ => rfl))
theorem Sim_tx {μ ρ' : gx_M} (h : Sim μ) (hm : ∀ a, a ≠ 0 → a ≠ 5 → (a < 32 ∨ 57 ≤ a) → a ≠ 184 → ρ' a = μ a) (h0 : ∀ f, f < 6 → ρ' 0 f = μ 0 f) (h1 : ρ' 184 1 = μ 184 1) : Sim ρ' := by
  refine ⟨RT_c h.1 (fun a h1 h2 => hm a (by omega) (by omega) (by omega) (by omega)) (fun j _ => by rw [hm 1 (by decide) (by decide) (by decide) (by decide)]), ?_, ?_⟩
  · rw [hm 2 (by decide) (by decide) (by decide) (by decide), h0 3 (by decide)]
    exact SH_c h.2.1 (fun a h1 h2 => hm a (by omega) (by omega) (by omega) (by omega)) (fun _ _ => rfl)
  · rw [hm 4 (by decide) (by decide) (by decide) (by decide), h0 5 (by decide)]
    exact SX_c h.2.2 h1 (hm 186 (by decide) (by decide) (by decide) (by decide)) (fun _ _ => rfl)
theorem s_fault (a1 : Int32) : gl_ok Sim (fun μ => fn_X6_fault gl_kd μ 6 a1) (fun μ => fn_X7_fault gl_kd μ 0 a1) := by
  intro μ h
  unfold fn_X6_fault fn_X7_fault fn_X5_faultReason fn_X5_faultPlace
  simp only [Nat.reduceAdd]
  by_cases h1 : pwi a1 0 1 = 0
  · exact ⟨_, μ, μ, by rw [pg_within, pb_s, if_pos h1], by rw [pm_in, pb_s, if_pos h1], h⟩
  obtain ⟨κ', x1, x2, x3, x4⟩ := p_text h
  obtain ⟨ρ', y1, y2, y3, y4, _⟩ := x4 κ' (fun a ha => x2 a (by omega) (by omega))
  have hs : Sim ρ' := Sim_tx h (fun a h0 h5 ha hb => by rw [y2 a h0 h5, x2 a ha hb]) (fun f hf => by rw [y3 f hf, x2 0 (by omega) (by decide)]) (by rw [y2 184 (by decide) (by decide), x3])
  by_cases h2 : κ' 184 7 = 0
  · exact ⟨-100004, κ', ρ', by rw [pg_within, pb_s, if_neg h1, x1, pb_s, pb_s, if_pos h2], by rw [pm_in, pb_s, if_neg h1, y1, pb_s, if_pos h2], hs⟩
  · by_cases h3 : a1 = 0
    · exact ⟨κ' 184 6, κ', ρ', by rw [pg_within, pb_s, if_neg h1, x1, pb_s, pb_s, if_neg h2, if_pos h3, pb_s], by rw [pm_in, pb_s, if_neg h1, y1, pb_s, if_neg h2, if_pos h3, y4 h2], hs⟩
    · exact ⟨κ' 184 7, κ', ρ', by rw [pg_within, pb_s, if_neg h1, x1, pb_s, pb_s, if_neg h2, if_neg h3, pb_s], by rw [pm_in, pb_s, if_neg h1, y1, pb_s, if_neg h2, if_neg h3], hs⟩
theorem s_enter : gl_ok Sim (fun μ => fn_X6_enter gl_kd μ 6) (fun μ => fn_X7_enter gl_kd μ 0) := by
  intro μ h
  unfold fn_X6_enter fn_X7_enter fn_X5_faultReason fn_X5_notesRead
  simp only [Nat.reduceAdd]
  obtain ⟨κ', x1, x2, x3, x4⟩ := p_text h
  by_cases h2 : κ' 184 7 = 0
  · have hT' : RT κ' 7 (μ 1) := RT_c h.1 (fun a h1 h2 => x2 a (by omega) (by omega)) (fun _ _ => rfl)
    have hH' : SH κ' (μ 2) (μ 0 3) := SH_c h.2.1 (fun a h1 h2 => x2 a (by omega) (by omega)) (fun _ _ => rfl)
    obtain ⟨κ2, e, f, g⟩ := pg_rec hT' hH'
    obtain ⟨hs, nx, hs5, _, _, _, hs3, _⟩ := h.2.1
    -- a first reading, for the copy's sake
    obtain ⟨ρ0, _, _, _, _, w0⟩ := x4 μ (fun _ _ => rfl)
    obtain ⟨σ0, c0, _, _, v0, _, _⟩ := w0 h2 (gx_u μ 0 6 0) (fun m13 y14 => some (y14, m13)) (by rw [gx_u_n (by decide)]) (by rw [gx_u_n (by decide)]) (by rw [pw_n (Or.inr (by decide))]) (pw_s _ _ _ _)
    obtain ⟨κ3, k1, k2, _⟩ := pg_cpyT (μ := κ2) (c := 7) (c1 := 32) pKT_7 pKT_32 (by omega) (RT_c v0 (fun a h1 h2 => f a (by omega)) (fun _ _ => rfl))
    have low : ∀ a, a < 6 → κ3 a = μ a := fun a ha => by rw [k2 a (by omega), f a (by omega), x2 a (by omega) (by omega)]
    obtain ⟨ρ1, y1, y2, y3, _, y5⟩ := x4 κ3 low
    obtain ⟨ρr, hs', r1, r2, r3, r4, r5⟩ := pm_rec (ρ := ρ1) (hs := hs) (by rw [y3 3 (by decide), low 0 (by decide)]; exact hs3) hs5
    obtain ⟨σ', x', t1, t2, t3, t4, t5⟩ := y5 h2 (gx_u ρr 0 6 0) (fun m13 y14 => some (y14, m13)) (by rw [gx_u_n (by decide), r4 1 (by decide) (by decide), y2 1 (by decide) (by decide), low 1 (by decide)]) (by rw [gx_u_n (by decide), r4 4 (by decide) (by decide), y2 4 (by decide) (by decide), low 4 (by decide)]) (by rw [pw_n (Or.inr (by decide)), r5 5 (by decide), y3 5 (by decide), low 0 (by decide)]) (pw_s _ _ _ _)
    obtain ⟨κ3', k1', _, k3'⟩ := pg_cpyT (μ := κ2) (c := 7) (c1 := 32) pKT_7 pKT_32 (by omega) (RT_c t3 (fun a h1 h2 => f a (by omega)) (fun _ _ => rfl))
    rw [k1] at k1'
    have q : κ3 = κ3' := congrArg Prod.snd (Option.some.inj k1')
    subst q
    have hi6 : ∀ a, 6 ≤ a → σ' a = κ3 a := fun a ha => by rw [t4 a (by omega) (by omega), gx_u_n (by omega), r4 a (by omega) (by omega), y2 a (by omega) (by omega)]
    have k184 : κ3 184 = κ' 184 := by rw [k2 184 (by omega), f 184 (by omega)]
    refine ⟨nI x', κ3, σ', by rw [x1, pb_s, pb_s, if_pos h2, e, pb_s, k1, pb_s, pb_s, k184, t2], by rw [y1, pb_s, if_pos h2, r1, pb_s]; exact t1, RT_c k3' (fun a h1 h2 => hi6 a (by omega)) (fun _ _ => rfl), ?_, ?_⟩
    · rw [t4 2 (by decide) (by decide), gx_u_n (by decide), t5 3 (by decide), pw_n (Or.inr (by decide)), r3]
      rw [y2 2 (by decide) (by decide), low 2 (by decide), y2 1 (by decide) (by decide), low 1 (by decide)] at r2
      exact SH_c (g _ hs hs' hs3 hs5 r2) (fun a h1 h2 => by rw [hi6 a (by omega), k2 a (by omega)]) (fun _ _ => rfl)
    · rw [t5 5 (by decide), pw_n (Or.inr (by decide)), r5 5 (by decide), y3 5 (by decide), low 0 (by decide), t4 4 (by decide) (by decide), gx_u_n (by decide), r4 4 (by decide) (by decide), y2 4 (by decide) (by decide), low 4 (by decide)]
      exact SX_c h.2.2 (by rw [hi6 184 (by decide), k184, x3]) (by rw [hi6 186 (by decide), k2 186 (by omega), f 186 (by omega), x2 186 (by omega) (by decide)]) (fun _ _ => rfl)
  · obtain ⟨ρ', y1, y2, y3, y4, _⟩ := x4 κ' (fun a ha => x2 a (by omega) (by omega))
    exact ⟨-100002, κ', ρ', by rw [x1, pb_s, pb_s, if_neg h2], by rw [y1, pb_s, if_neg h2], Sim_tx h (fun a h0 h5 ha hb => by rw [y2 a h0 h5, x2 a ha hb]) (fun f hf => by rw [y3 f hf, x2 0 (by omega) (by decide)]) (by rw [y2 184 (by decide) (by decide), x3])⟩
theorem sm_init : Sim gl_init := by
  refine ⟨⟨0, 0, ⟨by decide, ⟨by decide, by decide⟩, ⟨by decide, by decide, by decide, by decide⟩, fun b hb => absurd hb (by omega)⟩, ⟨by decide, ⟨by decide, by decide⟩, fun b hb => absurd hb (by omega), fun i j _ hj => absurd hj (by omega)⟩, by decide, ⟨0, by decide, by decide⟩, fun w hw => ?_, 60, by decide, by decide, by decide⟩, ⟨0, 0, by decide, by decide, by decide, by decide, by decide, fun j hj => absurd hj (by omega)⟩, ⟨0, by decide, by decide, by decide, fun j hj => absurd hj (by omega), fun j _ _ => rfl⟩⟩
  match w, hw with
  | 0, _ => decide
  | 1, _ => decide
  | 2, _ => decide
  | 3, _ => decide
theorem sm_all : gl_Sims Sim :=
  ⟨s_bowl, s_remove, s_pour, s_spill, s_crack, s_mark, s_bowlOf, s_levelFor, s_nearest, s_set, s_count, s_undo, s_note, s_drop, s_transpose, s_noteOf, s_run, s_rewind, s_worst, s_wouldBe, s_firstFalse, s_leastTolerance, s_pitchAt, s_type, s_clearText, s_fault, s_enter⟩
