/-! ===== the relation between the class's tables and the reference's row ===== -/
def sm (x : Int32) (N : Nat) : Prop := ∃ k, k ≤ N ∧ x = nI k
def rb (μ : gx_M) (c : Nat) (s : Nat → Int32) (b : Nat) : Prop :=
  μ (c + 2) b = s (11 + 5 * b) ∧ μ (c + 4) b = s (11 + 5 * b + 1) ∧ μ (c + 6) b = s (11 + 5 * b + 2) ∧ μ (c + 8) b = s (11 + 5 * b + 3) ∧ μ (c + 10) b = s (11 + 5 * b + 4) ∧ sm (s (11 + 5 * b + 2)) 1000 ∧ sm (s (11 + 5 * b + 3)) 1000 ∧ sm (s (11 + 5 * b + 4)) 1000 ∧ sm (s (11 + 5 * b)) 6000 ∧ sm (s (11 + 5 * b + 1)) 2400
def rB (μ : gx_M) (c : Nat) (s : Nat → Int32) (nb : Nat) : Prop :=
  nb ≤ 10 ∧ (μ c 5 = nI nb ∧ s 1 = nI nb) ∧ (μ c 6 = s 3 ∧ μ c 7 = s 4 ∧ μ c 8 = s 5 ∧ μ c 9 = s 6) ∧ ∀ b, b < nb → rb μ c s b
/-- a note's playing: outcome, bowl, error; played, by, error, clean -/
def NR (o bw er p y e cl : Int32) : Prop := (o = 0 ∧ p = 0) ∨ (o = 1 ∧ p = 1 ∧ y = -1 ∧ cl = 0) ∨ (((o = 2 ∧ cl = 0) ∨ (o = 3 ∧ cl = 1)) ∧ p = 1 ∧ y = bw ∧ er = e ∧ ¬ y = -1 ∧ 0 ≤ pab e)
def rn (μ : gx_M) (c : Nat) (s : Nat → Int32) (i : Nat) : Prop :=
  μ (c + 2) i = s (61 + 6 * i) ∧ μ (c + 4) i = s (61 + 6 * i + 1) ∧ NR (μ (c + 6) i) (μ (c + 8) i) (μ (c + 10) i) (s (61 + 6 * i + 2)) (s (61 + 6 * i + 3)) (s (61 + 6 * i + 4)) (s (61 + 6 * i + 5)) ∧ sm (s (61 + 6 * i)) 3600 ∧ sm (s (61 + 6 * i + 1)) 6000
def rN (μ : gx_M) (c : Nat) (s : Nat → Int32) (nn : Nat) : Prop :=
  nn ≤ 40 ∧ (μ c 5 = nI nn ∧ s 2 = nI nn) ∧ (∀ i, i < nn → rn μ c s i) ∧ (∀ i j, i < j → j < nn → s (61 + 6 * i) < s (61 + 6 * j))
def rS (μ : gx_M) (t : Nat) (s : Nat → Int32) : Prop :=
  μ t 3 = s 0 ∧ sm (s 0) 3600 ∧ (∀ w, w < 4 → μ (t + 24) w = s (7 + w)) ∧ ∃ dr, 1 ≤ dr ∧ dr ≤ 600 ∧ s 7 = nI dr
def RT (μ : gx_M) (t : Nat) (s : Nat → Int32) : Prop := ∃ nb nn, rB μ (t + 1) s nb ∧ rN μ (t + 12) s nn ∧ rS μ t s
def pKN (c : Nat) : Prop := gl_kd (c + 2) = 140 ∧ gl_kd (c + 4) = 140 ∧ gl_kd (c + 6) = 140 ∧ gl_kd (c + 8) = 140 ∧ gl_kd (c + 10) = 140
def pKT (t : Nat) : Prop := pKB (t + 1) ∧ pKN (t + 12) ∧ gl_kd (t + 24) = 104
theorem pKT_7 : pKT 7 := by unfold pKT pKB pKN; decide
theorem pKT_32 : pKT 32 := by unfold pKT pKB pKN; decide
theorem pKT_h : ∀ i, i < 5 → pKT (59 + 25 * i)
  | 0, _ => by unfold pKT pKB pKN; decide
  | 1, _ => by unfold pKT pKB pKN; decide
  | 2, _ => by unfold pKT pKB pKN; decide
  | 3, _ => by unfold pKT pKB pKN; decide
  | 4, _ => by unfold pKT pKB pKN; decide
/-- what the relation looks at -/
theorem rb_c {μ μ' : gx_M} {c b : Nat} {s s' : Nat → Int32} (h : rb μ c s b) (hm : ∀ a, c < a → a < c + 11 → μ' a b = μ a b) (hs : ∀ j, 11 + 5 * b ≤ j → j < 16 + 5 * b → s' j = s j) : rb μ' c s' b := by
  unfold rb at h ⊢
  rw [hm (c + 2) (by omega) (by omega), hm (c + 4) (by omega) (by omega), hm (c + 6) (by omega) (by omega), hm (c + 8) (by omega) (by omega), hm (c + 10) (by omega) (by omega), hs (11 + 5 * b) (by omega) (by omega), hs (11 + 5 * b + 1) (by omega) (by omega), hs (11 + 5 * b + 2) (by omega) (by omega), hs (11 + 5 * b + 3) (by omega) (by omega), hs (11 + 5 * b + 4) (by omega) (by omega)]
  exact h
theorem rn_c {μ μ' : gx_M} {c i : Nat} {s s' : Nat → Int32} (h : rn μ c s i) (hm : ∀ a, c < a → a < c + 11 → μ' a i = μ a i) (hs : ∀ j, 61 + 6 * i ≤ j → j < 67 + 6 * i → s' j = s j) : rn μ' c s' i := by
  unfold rn at h ⊢
  rw [hm (c + 2) (by omega) (by omega), hm (c + 4) (by omega) (by omega), hm (c + 6) (by omega) (by omega), hm (c + 8) (by omega) (by omega), hm (c + 10) (by omega) (by omega), hs (61 + 6 * i) (by omega) (by omega), hs (61 + 6 * i + 1) (by omega) (by omega), hs (61 + 6 * i + 2) (by omega) (by omega), hs (61 + 6 * i + 3) (by omega) (by omega), hs (61 + 6 * i + 4) (by omega) (by omega), hs (61 + 6 * i + 5) (by omega) (by omega)]
  exact h
theorem rB_c {μ μ' : gx_M} {c nb : Nat} {s s' : Nat → Int32} (h : rB μ c s nb) (hm : ∀ a, c ≤ a → a < c + 11 → μ' a = μ a) (hs : ∀ j, j < 61 → (j = 1 ∨ (3 ≤ j ∧ j ≤ 6) ∨ 11 ≤ j) → s' j = s j) : rB μ' c s' nb := by
  obtain ⟨h1, ⟨h2, h3⟩, ⟨h4, h5, h6, h7⟩, h8⟩ := h
  refine ⟨h1, ⟨?_, ?_⟩, ⟨?_, ?_, ?_, ?_⟩, fun b hb => rb_c (h8 b hb) (fun a ha hb => by rw [hm a (by omega) (by omega)]) (fun j hj hk => hs j (by omega) (by omega))⟩
  · rw [hm c (by omega) (by omega), h2]
  · rw [hs 1 (by omega) (by omega), h3]
  · rw [hm c (by omega) (by omega), h4, hs 3 (by omega) (by omega)]
  · rw [hm c (by omega) (by omega), h5, hs 4 (by omega) (by omega)]
  · rw [hm c (by omega) (by omega), h6, hs 5 (by omega) (by omega)]
  · rw [hm c (by omega) (by omega), h7, hs 6 (by omega) (by omega)]
theorem rN_c {μ μ' : gx_M} {c nn : Nat} {s s' : Nat → Int32} (h : rN μ c s nn) (hm : ∀ a, c ≤ a → a < c + 11 → μ' a = μ a) (hs : ∀ j, j < 301 → (j = 2 ∨ 61 ≤ j) → s' j = s j) : rN μ' c s' nn := by
  obtain ⟨h1, ⟨h2, h3⟩, h4, h5⟩ := h
  refine ⟨h1, ⟨?_, ?_⟩, fun i hi => rn_c (h4 i hi) (fun a ha hb => by rw [hm a (by omega) (by omega)]) (fun j hj hk => hs j (by omega) (by omega)), fun i j hi hj => ?_⟩
  · rw [hm c (by omega) (by omega), h2]
  · rw [hs 2 (by omega) (by omega), h3]
  · rw [hs (61 + 6 * i) (by omega) (by omega), hs (61 + 6 * j) (by omega) (by omega)]
    exact h5 i j hi hj
theorem rS_c {μ μ' : gx_M} {t : Nat} {s s' : Nat → Int32} (h : rS μ t s) (hm : μ' t 3 = μ t 3) (hm2 : μ' (t + 24) = μ (t + 24)) (hs : ∀ j, j < 11 → (j = 0 ∨ 7 ≤ j) → s' j = s j) : rS μ' t s' := by
  obtain ⟨h1, h2, h3, h4⟩ := h
  refine ⟨?_, ?_, fun w hw => ?_, ?_⟩
  · rw [hm, h1, hs 0 (by omega) (by omega)]
  · rw [hs 0 (by omega) (by omega)]; exact h2
  · rw [hm2, h3 w hw, hs (7 + w) (by omega) (by omega)]
  · rw [hs 7 (by omega) (by omega)]; exact h4
theorem RT_c {μ μ' : gx_M} {t : Nat} {s s' : Nat → Int32} (h : RT μ t s) (hm : ∀ a, t ≤ a → a < t + 25 → μ' a = μ a) (hs : ∀ j, j < 301 → s' j = s j) : RT μ' t s' := by
  obtain ⟨nb, nn, h1, h2, h3⟩ := h
  exact ⟨nb, nn, rB_c h1 (fun a h1 h2 => hm a (by omega) (by omega)) (fun j h1 _ => hs j (by omega)), rN_c h2 (fun a h1 h2 => hm a (by omega) (by omega)) (fun j h1 _ => hs j (by omega)), rS_c h3 (by rw [hm t (by omega) (by omega)]) (hm (t + 24) (by omega) (by omega)) (fun j h1 _ => hs j (by omega))⟩
/-- one change -/
theorem rB_f6 {μ : gx_M} {c nb : Nat} {s : Nat → Int32} {x : Int32} (h : rB μ c s nb) : rB (gx_u μ c 6 x) c (upd s 3 x) nb := by
  obtain ⟨h1, ⟨h2, h3⟩, ⟨h4, h5, h6, h7⟩, h8⟩ := h
  refine ⟨h1, ⟨?_, ?_⟩, ⟨?_, ?_, ?_, ?_⟩, fun b hb => rb_c (h8 b hb) (fun a ha hb => by simp (disch := omega) only [pw_n]) (fun j hj hk => by simp (disch := omega) only [pu_n])⟩ <;> simp (disch := omega) only [pw_s, pw_n, pu_s, pu_n, h2, h3, h4, h5, h6, h7]
theorem rB_f7 {μ : gx_M} {c nb : Nat} {s : Nat → Int32} {x : Int32} (h : rB μ c s nb) : rB (gx_u μ c 7 x) c (upd s 4 x) nb := by
  obtain ⟨h1, ⟨h2, h3⟩, ⟨h4, h5, h6, h7⟩, h8⟩ := h
  refine ⟨h1, ⟨?_, ?_⟩, ⟨?_, ?_, ?_, ?_⟩, fun b hb => rb_c (h8 b hb) (fun a ha hb => by simp (disch := omega) only [pw_n]) (fun j hj hk => by simp (disch := omega) only [pu_n])⟩ <;> simp (disch := omega) only [pw_s, pw_n, pu_s, pu_n, h2, h3, h4, h5, h6, h7]
theorem rB_f8 {μ : gx_M} {c nb : Nat} {s : Nat → Int32} {x : Int32} (h : rB μ c s nb) : rB (gx_u μ c 8 x) c (upd s 5 x) nb := by
  obtain ⟨h1, ⟨h2, h3⟩, ⟨h4, h5, h6, h7⟩, h8⟩ := h
  refine ⟨h1, ⟨?_, ?_⟩, ⟨?_, ?_, ?_, ?_⟩, fun b hb => rb_c (h8 b hb) (fun a ha hb => by simp (disch := omega) only [pw_n]) (fun j hj hk => by simp (disch := omega) only [pu_n])⟩ <;> simp (disch := omega) only [pw_s, pw_n, pu_s, pu_n, h2, h3, h4, h5, h6, h7]
theorem rB_f9 {μ : gx_M} {c nb : Nat} {s : Nat → Int32} {x : Int32} (h : rB μ c s nb) : rB (gx_u μ c 9 x) c (upd s 6 x) nb := by
  obtain ⟨h1, ⟨h2, h3⟩, ⟨h4, h5, h6, h7⟩, h8⟩ := h
  refine ⟨h1, ⟨?_, ?_⟩, ⟨?_, ?_, ?_, ?_⟩, fun b hb => rb_c (h8 b hb) (fun a ha hb => by simp (disch := omega) only [pw_n]) (fun j hj hk => by simp (disch := omega) only [pu_n])⟩ <;> simp (disch := omega) only [pw_s, pw_n, pu_s, pu_n, h2, h3, h4, h5, h6, h7]
theorem rB_lv {μ : gx_M} {c nb b : Nat} {s : Nat → Int32} {x : Int32} (h : rB μ c s nb) (hx : sm x 1000) : rB (gx_u μ (c + 6) b x) c (upd s (11 + 5 * b + 2) x) nb := by
  obtain ⟨h1, ⟨h2, h3⟩, ⟨h4, h5, h6, h7⟩, h8⟩ := h
  refine ⟨h1, ⟨?_, ?_⟩, ⟨?_, ?_, ?_, ?_⟩, fun d hd => ?_⟩
  rotate_right
  · by_cases e : d = b
    · subst e
      obtain ⟨g1, g2, g3, g4, g5, g6, g7, g8⟩ := h8 d hd
      refine ⟨?_, ?_, ?_, ?_, ?_, ?_, ?_, ?_⟩ <;> simp (disch := omega) only [pw_s, pw_n, pu_s, pu_n] <;> first | assumption | exact ⟨hx, g8.2⟩
    · exact rb_c (h8 d hd) (fun a ha hb => by simp (disch := omega) only [pw_n]) (fun j hj hk => by simp (disch := omega) only [pu_n])
  all_goals simp (disch := omega) only [pw_s, pw_n, pu_s, pu_n, h2, h3, h4, h5, h6, h7]
theorem rB_mk {μ : gx_M} {c nb b : Nat} {s : Nat → Int32} {x : Int32} (h : rB μ c s nb) (hx : sm x 1000) : rB (gx_u μ (c + 8) b x) c (upd s (11 + 5 * b + 3) x) nb := by
  obtain ⟨h1, ⟨h2, h3⟩, ⟨h4, h5, h6, h7⟩, h8⟩ := h
  refine ⟨h1, ⟨?_, ?_⟩, ⟨?_, ?_, ?_, ?_⟩, fun d hd => ?_⟩
  rotate_right
  · by_cases e : d = b
    · subst e
      obtain ⟨g1, g2, g3, g4, g5, g6, g7, g8⟩ := h8 d hd
      refine ⟨?_, ?_, ?_, ?_, ?_, ?_, ?_, ?_⟩ <;> simp (disch := omega) only [pw_s, pw_n, pu_s, pu_n] <;> first | assumption | exact ⟨hx, g8.2⟩
    · exact rb_c (h8 d hd) (fun a ha hb => by simp (disch := omega) only [pw_n]) (fun j hj hk => by simp (disch := omega) only [pu_n])
  all_goals simp (disch := omega) only [pw_s, pw_n, pu_s, pu_n, h2, h3, h4, h5, h6, h7]
theorem rB_ck {μ : gx_M} {c nb b : Nat} {s : Nat → Int32} {x : Int32} (h : rB μ c s nb) (hx : sm x 1000) : rB (gx_u μ (c + 10) b x) c (upd s (11 + 5 * b + 4) x) nb := by
  obtain ⟨h1, ⟨h2, h3⟩, ⟨h4, h5, h6, h7⟩, h8⟩ := h
  refine ⟨h1, ⟨?_, ?_⟩, ⟨?_, ?_, ?_, ?_⟩, fun d hd => ?_⟩
  rotate_right
  · by_cases e : d = b
    · subst e
      obtain ⟨g1, g2, g3, g4, g5, g6, g7, g8⟩ := h8 d hd
      refine ⟨?_, ?_, ?_, ?_, ?_, ?_, ?_, ?_⟩ <;> simp (disch := omega) only [pw_s, pw_n, pu_s, pu_n] <;> first | assumption | exact ⟨hx, g8.2⟩
    · exact rb_c (h8 d hd) (fun a ha hb => by simp (disch := omega) only [pw_n]) (fun j hj hk => by simp (disch := omega) only [pu_n])
  all_goals simp (disch := omega) only [pw_s, pw_n, pu_s, pu_n, h2, h3, h4, h5, h6, h7]
