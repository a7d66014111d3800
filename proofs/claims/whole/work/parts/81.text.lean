/-! ===== reading the text ===== -/
def pTx (κ : gx_M) (n : Nat) (tx : Nat → Int32) : Prop := n ≤ 100 ∧ κ 184 1 = nI n ∧ (∀ j, j < n → κ 186 j = tx j) ∧ (∀ j, n ≤ j → j < 100 → κ 186 j = 0)
def pTr (ρ : gx_M) (n : Nat) (tx : Nat → Int32) : Prop := ρ 0 5 = nI n ∧ (∀ j, j < n → ρ 4 j = tx j)
/-- the class's text changes only in its own places -/
def fG (κ κ' : gx_M) (S : Nat → Prop) : Prop := (∀ a, a ≠ 184 → κ' a = κ a) ∧ ∀ f, ¬ S f → κ' 184 f = κ 184 f
def fM (ρ ρ' : gx_M) (S : Nat → Prop) : Prop := (∀ a, a ≠ 0 → ρ' a = ρ a) ∧ ∀ f, ¬ S f → ρ' 0 f = ρ 0 f
theorem pTx_c {κ κ' : gx_M} {n : Nat} {tx : Nat → Int32} {S : Nat → Prop} (h : pTx κ n tx) (hf : fG κ κ' S) (h1 : ¬ S 1) : pTx κ' n tx := by
  obtain ⟨a1, a2, a3, a4⟩ := h
  exact ⟨a1, by rw [hf.2 1 h1, a2], fun j hj => by rw [hf.1 186 (by decide), a3 j hj], fun j h1 h2 => by rw [hf.1 186 (by decide), a4 j h1 h2]⟩
theorem pTr_c {ρ ρ' : gx_M} {n : Nat} {tx : Nat → Int32} {S : Nat → Prop} (h : pTr ρ n tx) (hf : fM ρ ρ' S) (h1 : ¬ S 5) : pTr ρ' n tx := by
  obtain ⟨a2, a3⟩ := h
  exact ⟨by rw [hf.2 5 h1, a2], fun j hj => by rw [hf.1 4 (by decide), a3 j hj]⟩
theorem pg_chr {κ : gx_M} {n p : Nat} {tx : Nat → Int32} (h : pTx κ n tx) (hp : p ≤ 200) : fn_X3_get gl_kd κ 185 (nI p) = some (if p < n then tx p else 0, κ) := by
  obtain ⟨a1, a2, a3, a4⟩ := h
  by_cases h1 : p < 100
  · rw [pg_get (c := 185) 186 100 rfl rfl h1 (by decide)]
    by_cases h2 : p < n
    · rw [if_pos h2, a3 p h2]
    · rw [if_neg h2, a4 p (by omega) h1]
  · rw [pg_getO (c := 185) 186 100 rfl rfl (by omega) (by omega), if_neg (by omega)]
theorem pm_ix4 {p n : Nat} (h : p < n) (hn : n ≤ 100) : gx_ix (nI p) (gl_kd 4 - 100) = true := pg_ix (show p < 100 by omega) (by decide)
theorem pl_num {n p0 : Nat} {tx : Nat → Int32} {kG : gx_M → Int32 → Int32 → Option (Int32 × gx_M)} {kM : gx_M → Int32 → Option (Int32 × gx_M)} (hp0 : p0 ≤ 100) : ∀ (m fG2 fM2 j w : Nat) (κ ρ : gx_M) (x y : Int32), j + m = 4 → m < fG2 → m < fM2 → pTx κ n tx → pTr ρ n tx → κ 184 2 = nI (p0 + j) → ρ 0 6 = nI (p0 + j) → w < 10 ^ j → ((j = 0 ∧ x = -1 ∧ y = 0 ∧ w = 0) ∨ (0 < j ∧ x = nI w ∧ y = nI w)) → (j = 0 ∨ p0 + j ≤ n) →
    ∃ κ' ρ' x' y' z j', lf_X5_readNumber_4 gl_kd 184 kG fG2 κ x (nI j) = kG κ' x' z ∧ lf_X7_digits_7 gl_kd 0 (nI p0) kM fM2 ρ y = kM ρ' y' ∧ fG κ κ' (fun f => f = 2) ∧ fM ρ ρ' (fun f => f = 6) ∧ κ' 184 2 = nI (p0 + j') ∧ ρ' 0 6 = nI (p0 + j') ∧ j ≤ j' ∧ j' ≤ 4 ∧ (j' = 0 ∨ p0 + j' ≤ n) ∧ ((j' = 0 ∧ x' = -1) ∨ (0 < j' ∧ x' = y' ∧ ∃ w, w < 10000 ∧ x' = nI w)) := by
  intro m
  induction m with
  | zero =>
    intro g1 g2 j w κ ρ x y hj hg1 hg2 hx hr hk hm hw hs hn
    obtain ⟨g1, rfl⟩ : ∃ q, g1 = q + 1 := ⟨g1 - 1, by omega⟩
    obtain ⟨g2, rfl⟩ : ∃ q, g2 = q + 1 := ⟨g2 - 1, by omega⟩
    have e : j = 4 := by omega
    subst e
    rcases hs with ⟨h0, _⟩ | ⟨_, hx1, hy1⟩
    · exact absurd h0 (by decide)
    refine ⟨κ, ρ, x, y, nI 4, 4, ?_, ?_, ⟨fun _ _ => rfl, fun _ _ => rfl⟩, ⟨fun _ _ => rfl, fun _ _ => rfl⟩, hk, hm, Nat.le_refl _, Nat.le_refl _, hn, Or.inr ⟨by decide, hx1.trans hy1.symm, w, by omega, hx1⟩⟩
    · rw [lf_X5_readNumber_4, if_pos (show (4 : Int32) ≤ nI 4 by decide)]
    · rw [lf_X7_digits_7, hm, show nI p0 + 4 = nI (p0 + 4) from nI_add p0 4, if_pos (nI_le (Nat.le_refl _) (by omega))]
  | succ m ih =>
    intro g1 g2 j w κ ρ x y hj hg1 hg2 hx hr hk hm hw hs hn
    obtain ⟨g1, rfl⟩ : ∃ q, g1 = q + 1 := ⟨g1 - 1, by omega⟩
    obtain ⟨g2, rfl⟩ : ∃ q, g2 = q + 1 := ⟨g2 - 1, by omega⟩
    have hn100 := hx.1
    have hend : (j = 0 ∧ x = -1) ∨ (0 < j ∧ x = y ∧ ∃ w, w < 10000 ∧ x = nI w) := by
      rcases hs with ⟨h0, h1, _, _⟩ | ⟨h0, h1, h2⟩
      · exact Or.inl ⟨h0, h1⟩
      · have : 10 ^ j ≤ 10 ^ 4 := Nat.pow_le_pow_right (by decide) (by omega)
        exact Or.inr ⟨h0, h1.trans h2.symm, w, by omega, h1⟩
    rw [lf_X5_readNumber_4, if_neg (show ¬ (4 : Int32) ≤ nI j from nI_ge (b := 4) (by omega) (by omega)), hk, pg_chr hx (by omega), pb_s, pg_within, pb_s]
    rw [lf_X7_digits_7, hm, show nI p0 + 4 = nI (p0 + 4) from nI_add p0 4, if_neg (nI_ge (by omega) (by omega)), hr.1]
    simp only [Nat.zero_add]
    by_cases c : p0 + j < n
    · rw [if_pos c, if_neg (nI_ge c (by omega)), pm_ix4 c hn100, if_pos rfl, nI_clamp (by omega), hr.2 _ c, pm_in, pb_s]
      by_cases d : pwi (tx (p0 + j)) 48 57 = 0
      · rw [if_pos d, if_pos d]
        exact ⟨κ, ρ, x, y, nI j, j, rfl, rfl, ⟨fun _ _ => rfl, fun _ _ => rfl⟩, ⟨fun _ _ => rfl, fun _ _ => rfl⟩, hk, hm, Nat.le_refl _, by omega, hn, hend⟩
      · rw [if_neg d, if_neg d, hk, pg_chr hx (by omega), pb_s, if_pos c, hk, hm, pm_ix4 c hn100, if_pos rfl, nI_clamp (by omega), hr.2 _ c, nI_1, nI_1]
        obtain ⟨ch, h48, h57, hch⟩ := pwi_n (a := 48) (b := 57) (by decide) (by decide) d
        have val : ((if x < 0 then 0 else x) * 10 + tx (p0 + j)) - 48 = nI (10 * w + (ch - 48)) ∧ (10 * y + tx (p0 + j)) - 48 = nI (10 * w + (ch - 48)) := by
          have hh : nI (10 * w) + nI ch - 48 = nI (10 * w + (ch - 48)) := by
            rw [nI_add, show (48 : Int32) = nI 48 from rfl, pk_sub (by omega), show 10 * w + ch - 48 = 10 * w + (ch - 48) by omega]
          have h3 : (10 : Int32) * nI w = nI (10 * w) := by rw [show (10 : Int32) = nI 10 from rfl, pk_mul]
          have h4 : nI w * (10 : Int32) = nI (10 * w) := by rw [show (10 : Int32) = nI 10 from rfl, pk_mul, Nat.mul_comm]
          have hw2 : w < 1000 := by
            have : 10 ^ j ≤ 10 ^ 3 := Nat.pow_le_pow_right (by decide) (by omega)
            omega
          rw [hch]
          rcases hs with ⟨_, rfl, rfl, rfl⟩ | ⟨_, rfl, rfl⟩
          · rw [if_pos (by decide), ← nI_0, h3, h4, hh]
            exact ⟨rfl, rfl⟩
          · rw [if_neg (nI_pos (by omega)), h3, h4, hh]
            exact ⟨rfl, rfl⟩
        rw [val.1, val.2]
        have hw' : 10 * w + (ch - 48) < 10 ^ (j + 1) := by
          rw [Nat.pow_succ]
          omega
        obtain ⟨κ', ρ', x', y', z, j', e1, e2, e3, e4, e5, e6, e7, e8, e9, e10⟩ := ih g1 g2 (j + 1) (10 * w + (ch - 48)) (gx_u κ 184 2 (nI (p0 + j + 1))) (gx_u ρ 0 6 (nI (p0 + j + 1))) _ _ (by omega) (by omega) (by omega) (pTx_c hx (S := fun f => f = 2) ⟨fun a ha => gx_u_n ha, fun f hf => pw_n (Or.inr hf)⟩ (by decide)) (pTr_c hr (S := fun f => f = 6) ⟨fun a ha => gx_u_n ha, fun f hf => pw_n (Or.inr hf)⟩ (by decide)) (pw_s _ _ _ _) (pw_s _ _ _ _) hw' (Or.inr ⟨by omega, rfl, rfl⟩) (Or.inr (by omega))
        exact ⟨κ', ρ', x', y', z, j', e1, e2, ⟨fun a ha => by rw [e3.1 a ha, gx_u_n ha], fun f hf => by rw [e3.2 f hf, pw_n (Or.inr hf)]⟩, ⟨fun a ha => by rw [e4.1 a ha, gx_u_n ha], fun f hf => by rw [e4.2 f hf, pw_n (Or.inr hf)]⟩, e5, e6, by omega, e8, e9, e10⟩
    · rw [if_neg c, if_pos (nI_le (by omega) (by omega)), if_pos (show pwi 0 48 57 = 0 by decide)]
      exact ⟨κ, ρ, x, y, nI j, j, rfl, rfl, ⟨fun _ _ => rfl, fun _ _ => rfl⟩, ⟨fun _ _ => rfl, fun _ _ => rfl⟩, hk, hm, Nat.le_refl _, by omega, hn, hend⟩
/-- a number -/
theorem p_num {κ ρ : gx_M} {n p : Nat} {tx : Nat → Int32} (hp : p ≤ 100) (hx : pTx κ n tx) (hr : pTr ρ n tx) (hk : κ 184 2 = nI p) (hm : ρ 0 6 = nI p) : ∃ κ' ρ' v j, fn_X5_readNumber gl_kd κ 184 = some (v, κ') ∧ fn_X7_digits gl_kd ρ 0 = some (v, ρ') ∧ fG κ κ' (fun f => f = 2) ∧ fM ρ ρ' (fun f => f = 6) ∧ κ' 184 2 = nI (p + j) ∧ ρ' 0 6 = nI (p + j) ∧ j ≤ 4 ∧ (j = 0 ∨ p + j ≤ n) ∧ ((j = 0 ∧ v = -1) ∨ (0 < j ∧ ∃ w, w < 10000 ∧ v = nI w)) := by
  obtain ⟨κ', ρ', x', y', z, j, e1, e2, e3, e4, e5, e6, e7, e8, e9, e10⟩ := pl_num (kG := fun m9 y10 y11 => some (y10, m9)) (kM := fun m6 y7 => if m6 0 6 = nI p then some (-1, m6) else some (y7, m6)) hp 4 gx_F gx_F 0 0 κ ρ (-1) 0 (by omega) (by unfold gx_F; omega) (by unfold gx_F; omega) hx hr hk hm (by decide) (Or.inl ⟨rfl, rfl, rfl, rfl⟩) (Or.inl rfl)
  refine ⟨κ', ρ', x', j, e1, ?_, e3, e4, e5, e6, e8, e9, ?_⟩
  · unfold fn_X7_digits
    rw [hm]
    refine e2.trans ?_
    rw [e6]
    rcases e10 with ⟨h0, h1⟩ | ⟨h0, h1, _⟩
    · subst h0
      rw [Nat.add_zero, if_pos rfl, h1]
    · rw [if_neg (fun q => by have := (nI_eq (by omega) (by omega)).1 q; omega), h1]
  · rcases e10 with ⟨h0, h1⟩ | ⟨h0, h1, h2⟩
    · exact Or.inl ⟨h0, h1⟩
    · exact Or.inr ⟨h0, h2⟩
/-- a mark -/
theorem p_chr {κ ρ : gx_M} {n p : Nat} {tx : Nat → Int32} {ch : Int32} (hch : ¬ ch = 0) (hp : p ≤ 150) (hx : pTx κ n tx) (hr : pTr ρ n tx) (hk : κ 184 2 = nI p) (hm : ρ 0 6 = nI p) : ∃ κ' ρ' v, fn_X5_readCharacter gl_kd κ 184 ch = some (v, κ') ∧ fn_X7_takes gl_kd ρ 0 ch = some (v, ρ') ∧ fG κ κ' (fun f => f = 2) ∧ fM ρ ρ' (fun f => f = 6) ∧ (v = 0 ∨ (v = 1 ∧ p < n ∧ κ' 184 2 = nI (p + 1) ∧ ρ' 0 6 = nI (p + 1))) := by
  have hn100 := hx.1
  unfold fn_X5_readCharacter fn_X7_takes
  simp only [Nat.reduceAdd, Nat.zero_add]
  rw [hk, pg_chr hx (by omega), pb_s, hk, hr.1, hm, nI_1]
  by_cases c : p < n
  · rw [if_pos c, if_neg (nI_ge c (by omega)), pm_ix4 c hn100, if_pos rfl, nI_clamp (by omega), hr.2 _ c]
    by_cases d : tx p = ch
    · rw [if_pos d, if_pos d]
      exact ⟨_, _, 1, rfl, rfl, ⟨fun a ha => gx_u_n ha, fun f hf => pw_n (Or.inr hf)⟩, ⟨fun a ha => gx_u_n ha, fun f hf => pw_n (Or.inr hf)⟩, Or.inr ⟨rfl, c, pw_s _ _ _ _, pw_s _ _ _ _⟩⟩
    · rw [if_neg d, if_neg d]
      exact ⟨_, _, 0, rfl, rfl, ⟨fun a ha => gx_u_n ha, fun f hf => pw_n (Or.inr hf)⟩, ⟨fun a ha => gx_u_n ha, fun f hf => pw_n (Or.inr hf)⟩, Or.inl rfl⟩
  · rw [if_neg c, if_pos (nI_le (by omega) (by omega)), if_neg (fun q => hch q.symm)]
    exact ⟨_, _, 0, rfl, rfl, ⟨fun a ha => gx_u_n ha, fun f hf => pw_n (Or.inr hf)⟩, ⟨fun a ha => gx_u_n ha, fun f hf => pw_n (Or.inr hf)⟩, Or.inl rfl⟩
theorem fG_t {κ κ1 κ2 : gx_M} {S1 S2 : Nat → Prop} (h1 : fG κ κ1 S1) (h2 : fG κ1 κ2 S2) : fG κ κ2 (fun f => S1 f ∨ S2 f) := ⟨fun a ha => by rw [h2.1 a ha, h1.1 a ha], fun f hf => by rw [h2.2 f (fun q => hf (Or.inr q)), h1.2 f (fun q => hf (Or.inl q))]⟩
theorem fM_t {κ κ1 κ2 : gx_M} {S1 S2 : Nat → Prop} (h1 : fM κ κ1 S1) (h2 : fM κ1 κ2 S2) : fM κ κ2 (fun f => S1 f ∨ S2 f) := ⟨fun a ha => by rw [h2.1 a ha, h1.1 a ha], fun f hf => by rw [h2.2 f (fun q => hf (Or.inr q)), h1.2 f (fun q => hf (Or.inl q))]⟩
theorem fG_w {κ κ1 : gx_M} {S1 S2 : Nat → Prop} (h1 : fG κ κ1 S1) (h : ∀ f, S1 f → S2 f) : fG κ κ1 S2 := ⟨h1.1, fun f hf => h1.2 f (fun q => hf (h f q))⟩
theorem fM_w {κ κ1 : gx_M} {S1 S2 : Nat → Prop} (h1 : fM κ κ1 S1) (h : ∀ f, S1 f → S2 f) : fM κ κ1 S2 := ⟨h1.1, fun f hf => h1.2 f (fun q => hf (h f q))⟩
theorem fG_u {κ : gx_M} {j : Nat} {v : Int32} : fG κ (gx_u κ 184 j v) (fun f => f = j) := ⟨fun a ha => gx_u_n ha, fun f hf => pw_n (Or.inr hf)⟩
theorem fM_u {κ : gx_M} {j : Nat} {v : Int32} : fM κ (gx_u κ 0 j v) (fun f => f = j) := ⟨fun a ha => gx_u_n ha, fun f hf => pw_n (Or.inr hf)⟩
/-- a note in the text -/
theorem p_form {κ ρ : gx_M} {n p : Nat} {tx : Nat → Int32} (hp : p ≤ 100) (hx : pTx κ n tx) (hr : pTr ρ n tx) (hk : κ 184 2 = nI p) (hm : ρ 0 6 = nI p) : ∃ κ' ρ' v, fn_X5_readNote gl_kd κ 184 = some (v, κ') ∧ fn_X7_isFormed gl_kd ρ 0 = some (v, ρ') ∧ fG κ κ' (fun f => f = 2 ∨ f = 3 ∨ f = 4) ∧ fM ρ ρ' (fun f => f = 6 ∨ f = 7 ∨ f = 8) ∧ (v = 0 ∨ (v = 1 ∧ ∃ w1 w2 p', w1 < 10000 ∧ w2 < 10000 ∧ κ' 184 3 = nI w1 ∧ κ' 184 4 = nI w2 ∧ ρ' 0 7 = nI w1 ∧ ρ' 0 8 = nI w2 ∧ κ' 184 2 = nI p' ∧ ρ' 0 6 = nI p' ∧ p + 4 ≤ p' ∧ p' ≤ n)) := by
  have hn100 := hx.1
  unfold fn_X5_readNote fn_X7_isFormed
  obtain ⟨κ1, ρ1, v1, j1, a1, a2, a3, a4, a5, a6, a7, a8, a9⟩ := p_num hp hx hr hk hm
  rw [a1, pb_s, a2, pb_s, pw_s, pw_s]
  rcases a9 with ⟨b0, b1⟩ | ⟨b0, w1, b1, b2⟩
  · rw [if_pos b1, if_pos (show v1 < 0 by rw [b1]; decide)]
    exact ⟨_, _, 0, rfl, rfl, fG_w (fG_t a3 fG_u) (by omega), fM_w (fM_t a4 fM_u) (by omega), Or.inl rfl⟩
  rw [if_neg (show ¬ v1 = -1 by rw [b2]; exact pm1 (by omega)), if_neg (show ¬ v1 < 0 by rw [b2]; exact nI_pos (by omega))]
  have x1 := pTx_c hx (fG_t a3 (fG_u (j := 3) (v := v1))) (by decide)
  have r1 := pTr_c hr (fM_t a4 (fM_u (j := 7) (v := v1))) (by decide)
  obtain ⟨κ2, ρ2, v2, c1, c2, c3, c4, c5⟩ := p_chr (ch := 58) (p := p + j1) (by decide) (by omega) x1 r1 (by rw [pw_n (Or.inr (by decide)), a5]) (by rw [pw_n (Or.inr (by decide)), a6])
  rw [c1, pb_s, c2, pb_s]
  rcases c5 with rfl | ⟨rfl, c6, c7, c8⟩
  · rw [if_pos rfl, if_pos rfl]
    exact ⟨_, _, 0, rfl, rfl, fG_w (fG_t (fG_t a3 fG_u) c3) (by omega), fM_w (fM_t (fM_t a4 fM_u) c4) (by omega), Or.inl rfl⟩
  rw [if_neg (by decide), if_neg (by decide)]
  have x2 := pTx_c x1 c3 (by decide)
  have r2 := pTr_c r1 c4 (by decide)
  obtain ⟨κ3, ρ3, v3, j3, d1, d2, d3, d4, d5, d6, d7, d8, d9⟩ := p_num (p := p + j1 + 1) (by omega) x2 r2 c7 c8
  rw [d1, pb_s, d2, pb_s, pw_s, pw_s]
  rcases d9 with ⟨g0, g1⟩ | ⟨g0, w2, g1, g2⟩
  · rw [if_pos g1, if_pos (show v3 < 0 by rw [g1]; decide)]
    exact ⟨_, _, 0, rfl, rfl, fG_w (fG_t (fG_t (fG_t (fG_t a3 fG_u) c3) d3) fG_u) (by omega), fM_w (fM_t (fM_t (fM_t (fM_t a4 fM_u) c4) d4) fM_u) (by omega), Or.inl rfl⟩
  rw [if_neg (show ¬ v3 = -1 by rw [g2]; exact pm1 (by omega)), if_neg (show ¬ v3 < 0 by rw [g2]; exact nI_pos (by omega))]
  have x3 := pTx_c x2 (fG_t d3 (fG_u (j := 4) (v := v3))) (by decide)
  have r3 := pTr_c r2 (fM_t d4 (fM_u (j := 8) (v := v3))) (by decide)
  obtain ⟨κ4, ρ4, v4, k1, k2, k3, k4, k5⟩ := p_chr (ch := 59) (p := p + j1 + 1 + j3) (by decide) (by omega) x3 r3 (by rw [pw_n (Or.inr (by decide)), d5]) (by rw [pw_n (Or.inr (by decide)), d6])
  rw [k1, pb_s, k2, pb_s]
  rcases k5 with rfl | ⟨rfl, k6, k7, k8⟩
  · rw [if_pos rfl, if_pos rfl]
    exact ⟨_, _, 0, rfl, rfl, fG_w (fG_t (fG_t (fG_t (fG_t (fG_t a3 fG_u) c3) d3) fG_u) k3) (by omega), fM_w (fM_t (fM_t (fM_t (fM_t (fM_t a4 fM_u) c4) d4) fM_u) k4) (by omega), Or.inl rfl⟩
  rw [if_neg (by decide), if_neg (by decide)]
  refine ⟨_, _, 1, rfl, rfl, fG_w (fG_t (fG_t (fG_t (fG_t (fG_t a3 fG_u) c3) d3) fG_u) k3) (by omega), fM_w (fM_t (fM_t (fM_t (fM_t (fM_t a4 fM_u) c4) d4) fM_u) k4) (by omega), Or.inr ⟨rfl, w1, w2, p + j1 + 1 + j3 + 1, b1, g1, ?_, ?_, ?_, ?_, k7, k8, by omega, by omega⟩⟩
  · rw [k3.2 3 (by decide), pw_n (Or.inr (by decide)), d3.2 3 (by decide), c3.2 3 (by decide), pw_s, b2]
  · rw [k3.2 4 (by decide), pw_s, g2]
  · rw [k4.2 7 (by decide), pw_n (Or.inr (by decide)), d4.2 7 (by decide), c4.2 7 (by decide), pw_s, b2]
  · rw [k4.2 8 (by decide), pw_s, g2]
