/-! ===== the hash of a state, and what is refused ===== -/
theorem pL_s {β : Type} (a : Int64) (m : gx_M) (k : Int64 → gx_M → Option β) : gx_bL (some (a, m)) k = k a m := rfl
def hmx (h : Int64) (v : Int32) : Int64 := 31 * h + v.toInt64
def h25 (s : Nat → Int32) : Int64 → Nat → Nat → Int64
  | h, _, 0 => h
  | h, i, m + 1 => h25 s (if i = 7 then h else if i = 8 then h else hmx h (ck s i)) (i + 1) m
def hrw (f : Nat → Int32) : Int64 → Nat → Nat → Int64
  | h, _, 0 => h
  | h, i, m + 1 => hrw f (hmx h (f i)) (i + 1) m
/-- the hash of all that a table holds -/
def hv (s : Nat → Int32) : Int64 := hrw (fun k => nk s (k / 7) (k % 7)) (hrw (fun k => bk s (k / 7) (k % 7)) (h25 s 5 0 25) 0 (7 * (s 1).toNatClampNeg)) 0 (7 * (s 2).toNatClampNeg)
theorem pl_h25 {μ : gx_M} {s : Nat → Int32} (hT : RT μ 7 s) {k : gx_M → Int64 → Int32 → Option (Int64 × gx_M)} : ∀ (m n i : Nat) (h : Int64), i + m = 25 → m < n → lf_L_state_6 gl_kd 6 k n μ h (nI i) = k μ (h25 s h i m) (nI 25) := by
  intro m
  induction m with
  | zero =>
    intro n i h hi hm
    obtain ⟨n, rfl⟩ : ∃ q, n = q + 1 := ⟨n - 1, by omega⟩
    have e : i = 25 := by omega
    subst e
    rw [lf_L_state_6, if_pos (show (25 : Int32) ≤ nI 25 by decide)]
    rfl
  | succ m ih =>
    intro n i h hi hm
    obtain ⟨n, rfl⟩ : ∃ q, n = q + 1 := ⟨n - 1, by omega⟩
    rw [lf_L_state_6, if_neg (show ¬ (25 : Int32) ≤ nI i from nI_ge (b := 25) (by omega) (by decide))]
    show _ = k μ (h25 s (if i = 7 then h else if i = 8 then h else hmx h (ck s i)) (i + 1) m) (nI 25)
    by_cases e7 : i = 7
    · subst e7
      rw [if_pos (show nI 7 = 7 from rfl), if_pos rfl]
      exact ih n 8 h (by omega) (by omega)
    · rw [if_neg (show ¬ nI i = 7 from fun q => e7 ((nI_eq (b := 7) (by omega) (by decide)).1 q)), if_neg e7]
      by_cases e8 : i = 8
      · subst e8
        rw [if_pos (show nI 8 = 8 from rfl), if_pos rfl]
        exact ih n 9 h (by omega) (by omega)
      · rw [if_neg (show ¬ nI i = 8 from fun q => e8 ((nI_eq (b := 8) (by omega) (by decide)).1 q)), if_neg e8, c_count hT i (by omega) e7 e8, pb_s]
        unfold fn_L_mixed
        rw [pL_s, nI_1]
        exact ih n (i + 1) _ (by omega) (by omega)
theorem pl_h43 {μ : gx_M} {s : Nat → Int32} (hT : RT μ 7 s) {nb nn : Nat} (hB : rB μ 8 s nb) (hN : rN μ 19 s nn) (hS : rS μ 7 s) {k : gx_M → Int64 → Int32 → Option (Int64 × gx_M)} : ∀ (m n i : Nat) (h : Int64), i + m = 7 * nb → m < n → lf_L_state_43 gl_kd 6 k n μ h (nI i) = k μ (hrw (fun k => bk s (k / 7) (k % 7)) h i m) (nI (7 * nb)) := by
  have hnb := hB.1
  have hnn := hN.1
  have e1 : ck s 1 = nI nb := hB.2.1.2
  intro m
  induction m with
  | zero =>
    intro n i h hi hm
    obtain ⟨n, rfl⟩ : ∃ q, n = q + 1 := ⟨n - 1, by omega⟩
    have e : i = 7 * nb := by omega
    subst e
    rw [lf_L_state_43, show (1 : Int32) = nI 1 from rfl, c_count hT 1 (by decide) (by decide) (by decide), pb_s, e1, show (7 : Int32) = nI 7 from rfl, pk_mul, if_pos (nI_le (Nat.le_refl _) (by omega))]
    rfl
  | succ m ih =>
    intro n i h hi hm
    obtain ⟨n, rfl⟩ : ∃ q, n = q + 1 := ⟨n - 1, by omega⟩
    rw [lf_L_state_43, show (1 : Int32) = nI 1 from rfl, c_count hT 1 (by decide) (by decide) (by decide), pb_s, e1, show (7 : Int32) = nI 7 from rfl, pk_mul, if_neg (nI_ge (by omega) (by omega)), pk_rem (by omega) (by decide) (by decide), pk_div (by omega) (by decide) (by decide), c_bowlOf hB (by omega) (Nat.mod_lt _ (by decide)), pb_s]
    unfold fn_L_mixed
    rw [pL_s, nI_add]
    exact ih n (i + 1) _ (by omega) (by omega)
theorem pl_h81 {μ : gx_M} {s : Nat → Int32} (hT : RT μ 7 s) {nb nn : Nat} (hB : rB μ 8 s nb) (hN : rN μ 19 s nn) (hS : rS μ 7 s) {k : gx_M → Int64 → Int32 → Option (Int64 × gx_M)} : ∀ (m n i : Nat) (h : Int64), i + m = 7 * nn → m < n → lf_L_state_81 gl_kd 6 k n μ h (nI i) = k μ (hrw (fun k => nk s (k / 7) (k % 7)) h i m) (nI (7 * nn)) := by
  have hnb := hB.1
  have hnn := hN.1
  have e1 : ck s 2 = nI nn := hN.2.1.2
  intro m
  induction m with
  | zero =>
    intro n i h hi hm
    obtain ⟨n, rfl⟩ : ∃ q, n = q + 1 := ⟨n - 1, by omega⟩
    have e : i = 7 * nn := by omega
    subst e
    rw [lf_L_state_81, show (2 : Int32) = nI 2 from rfl, c_count hT 2 (by decide) (by decide) (by decide), pb_s, e1, show (7 : Int32) = nI 7 from rfl, pk_mul, if_pos (nI_le (Nat.le_refl _) (by omega))]
    rfl
  | succ m ih =>
    intro n i h hi hm
    obtain ⟨n, rfl⟩ : ∃ q, n = q + 1 := ⟨n - 1, by omega⟩
    rw [lf_L_state_81, show (2 : Int32) = nI 2 from rfl, c_count hT 2 (by decide) (by decide) (by decide), pb_s, e1, show (7 : Int32) = nI 7 from rfl, pk_mul, if_neg (nI_ge (by omega) (by omega)), pk_rem (by omega) (by decide) (by decide), pk_div (by omega) (by decide) (by decide), c_noteOf hN hS (by omega) (Nat.mod_lt _ (by decide)), pb_s]
    unfold fn_L_mixed
    rw [pL_s, nI_1]
    exact ih n (i + 1) _ (by omega) (by omega)
theorem q_state {μ : gx_M} {s : Nat → Int32} (hT : RT μ 7 s) : fn_L_state gl_kd μ 6 = some (hv s, μ) := by
  obtain ⟨nb, nn, hB, hN, hS⟩ := id hT
  have hnb := hB.1
  have hnn := hN.1
  unfold fn_L_state
  rw [show (0 : Int32) = nI 0 from rfl, pl_h25 hT 25 gx_F 0 5 (by omega) (by unfold gx_F; omega), pl_h43 hT hB hN hS (7 * nb) gx_F 0 _ (by omega) (by unfold gx_F; omega), pl_h81 hT hB hN hS (7 * nn) gx_F 0 _ (by omega) (by unfold gx_F; omega)]
  unfold hv
  rw [hB.2.1.2, hN.2.1.2, nI_clamp (by omega), nI_clamp (by omega)]
theorem hv_c {s s' : Nat → Int32} (h : s = s') : hv s = hv s' := by rw [h]
/-- a row without what lies behind its end -/
def cut (s : Nat → Int32) : Nat → Int32 := fun q => if q < 301 then s q else 0
theorem cut_e {s s' : Nat → Int32} (h : ∀ q, q < 301 → s q = s' q) : cut s = cut s' := by
  funext q
  unfold cut
  by_cases hq : q < 301
  · rw [if_pos hq, if_pos hq, h q hq]
  · rw [if_neg hq, if_neg hq]
theorem RT_cut {μ : gx_M} {t : Nat} {s : Nat → Int32} (h : RT μ t s) : RT μ t (cut s) := RT_c h (fun _ _ _ => rfl) (fun j hj => if_pos hj)
theorem phas_self (n : Nat) (h : n < 2147483648) : phas (nI n) n = 0 := by
  unfold phas
  rw [if_neg (nI_pos h), if_pos (Int32.le_refl _)]
theorem phas_m1 (n : Nat) : phas (-1) n = 0 := by
  unfold phas
  rw [if_pos (by decide)]
theorem phas_0 {n : Nat} (h : 0 < n) (h2 : n < 2147483648) : ¬ phas 0 n = 0 := by
  rw [show (0 : Int32) = nI 0 from rfl, phas_t h h2]
  decide
theorem phas_1 {n : Nat} (h : 1 < n) (h2 : n < 2147483648) : ¬ phas 1 n = 0 := by
  rw [show (1 : Int32) = nI 1 from rfl, phas_t h h2]
  decide
section RF
variable {μ : gx_M} {nb nn : Nat}
theorem r_bowl1 {a b : Int32} (h : pwi a 0 6000 = 0) : fn_X6_bowl gl_kd μ 6 a b = some (-100001, μ) := by
  unfold fn_X6_bowl
  simp only [Nat.reduceAdd]
  rw [pg_within, pb_s, if_pos h]
theorem r_bowl2 {a b : Int32} (h1 : ¬ pwi a 0 6000 = 0) (h : pwi b 1 2400 = 0) : fn_X6_bowl gl_kd μ 6 a b = some (-100001, μ) := by
  unfold fn_X6_bowl
  simp only [Nat.reduceAdd]
  rw [pg_within, pb_s, if_neg h1, pg_within, pb_s, if_pos h]
theorem r_near {a : Int32} (h : pwi a 0 6000 = 0) : fn_X6_nearest gl_kd μ 6 a = some (-100001, μ) := by
  unfold fn_X6_nearest
  simp only [Nat.reduceAdd]
  rw [pg_within, pb_s, if_pos h]
theorem r_remove {a : Int32} (hb5 : μ 8 5 = nI nb) (h : phas a nb = 0) : fn_X6_remove gl_kd μ 6 a = some (-100001, μ) := by
  unfold fn_X6_remove
  simp only [Nat.reduceAdd]
  rw [pg_hasB hb5, pb_s, if_pos h]
theorem r_pour {a b : Int32} (hb5 : μ 8 5 = nI nb) (h : phas a nb = 0) : fn_X6_pour gl_kd μ 6 a b = some (-100001, μ) := by
  unfold fn_X6_pour
  simp only [Nat.reduceAdd]
  rw [pg_hasB hb5, pb_s, if_pos h]
theorem r_spill {a b : Int32} (hb5 : μ 8 5 = nI nb) (h : phas a nb = 0) : fn_X6_spill gl_kd μ 6 a b = some (-100001, μ) := by
  unfold fn_X6_spill
  simp only [Nat.reduceAdd]
  rw [pg_hasB hb5, pb_s, if_pos h]
theorem r_crack {a b : Int32} (hb5 : μ 8 5 = nI nb) (h : phas a nb = 0) : fn_X6_crack gl_kd μ 6 a b = some (-100001, μ) := by
  unfold fn_X6_crack
  simp only [Nat.reduceAdd]
  rw [pg_hasB hb5, pb_s, if_pos h]
theorem r_mark {a b : Int32} (hb5 : μ 8 5 = nI nb) (h : phas a nb = 0) : fn_X6_mark gl_kd μ 6 a b = some (-100001, μ) := by
  unfold fn_X6_mark
  simp only [Nat.reduceAdd]
  rw [pg_hasB hb5, pb_s, if_pos h]
theorem r_bowlOf {a b : Int32} (hb5 : μ 8 5 = nI nb) (h : phas a nb = 0) : fn_X6_bowlOf gl_kd μ 6 a b = some (-100001, μ) := by
  unfold fn_X6_bowlOf
  simp only [Nat.reduceAdd]
  rw [pg_hasB hb5, pb_s, if_pos h]
theorem r_levelFor {a b : Int32} (hb5 : μ 8 5 = nI nb) (h : phas a nb = 0) : fn_X6_levelFor gl_kd μ 6 a b = some (-100001, μ) := by
  unfold fn_X6_levelFor
  simp only [Nat.reduceAdd]
  rw [pg_hasB hb5, pb_s, if_pos h]
theorem r_pitchAt {a b : Int32} (hb5 : μ 8 5 = nI nb) (h : phas a nb = 0) : fn_X6_pitchAt gl_kd μ 6 a b = some (-100001, μ) := by
  unfold fn_X6_pitchAt
  simp only [Nat.reduceAdd]
  rw [pg_hasB hb5, pb_s, if_pos h]
theorem r_pour2 {a b : Int32} (hb5 : μ 8 5 = nI nb) (h1 : ¬ phas a nb = 0) (h : pwi b 1 1000 = 0) : fn_X6_pour gl_kd μ 6 a b = some (-100001, μ) := by
  unfold fn_X6_pour
  simp only [Nat.reduceAdd]
  rw [pg_hasB hb5, pb_s, if_neg h1, pg_within, pb_s, if_pos h]
theorem r_spill2 {a b : Int32} (hb5 : μ 8 5 = nI nb) (h1 : ¬ phas a nb = 0) (h : pwi b 1 1000 = 0) : fn_X6_spill gl_kd μ 6 a b = some (-100001, μ) := by
  unfold fn_X6_spill
  simp only [Nat.reduceAdd]
  rw [pg_hasB hb5, pb_s, if_neg h1, pg_within, pb_s, if_pos h]
theorem r_crack2 {a b : Int32} (hb5 : μ 8 5 = nI nb) (h1 : ¬ phas a nb = 0) (h : pwi b 0 1000 = 0) : fn_X6_crack gl_kd μ 6 a b = some (-100001, μ) := by
  unfold fn_X6_crack
  simp only [Nat.reduceAdd]
  rw [pg_hasB hb5, pb_s, if_neg h1, pg_within, pb_s, if_pos h]
theorem r_mark2 {a b : Int32} (hb5 : μ 8 5 = nI nb) (h1 : ¬ phas a nb = 0) (h : pwi b 0 1000 = 0) : fn_X6_mark gl_kd μ 6 a b = some (-100001, μ) := by
  unfold fn_X6_mark
  simp only [Nat.reduceAdd]
  rw [pg_hasB hb5, pb_s, if_neg h1, pg_within, pb_s, if_pos h]
theorem r_levelFor2 {a b : Int32} (hb5 : μ 8 5 = nI nb) (h1 : ¬ phas a nb = 0) (h : pwi b (-3000) 6000 = 0) : fn_X6_levelFor gl_kd μ 6 a b = some (-100001, μ) := by
  unfold fn_X6_levelFor
  simp only [Nat.reduceAdd]
  rw [pg_hasB hb5, pb_s, if_neg h1, pg_within, pb_s, if_pos h]
theorem r_bowlOf2 {a b : Int32} (hb5 : μ 8 5 = nI nb) (h1 : ¬ phas a nb = 0) (h : pwi b 0 6 = 0) : fn_X6_bowlOf gl_kd μ 6 a b = some (-100001, μ) := by
  unfold fn_X6_bowlOf
  simp only [Nat.reduceAdd]
  rw [pg_hasB hb5, pb_s, if_neg h1]
  unfold fn_X0_property
  rw [if_neg (show ¬ b = 0 from fun q => by subst q; exact absurd h (by decide)), if_neg (show ¬ b = 1 from fun q => by subst q; exact absurd h (by decide)), if_neg (show ¬ b = 2 from fun q => by subst q; exact absurd h (by decide)), if_neg (show ¬ b = 3 from fun q => by subst q; exact absurd h (by decide)), if_neg (show ¬ b = 4 from fun q => by subst q; exact absurd h (by decide)), if_neg (show ¬ b = 5 from fun q => by subst q; exact absurd h (by decide)), if_neg (show ¬ b = 6 from fun q => by subst q; exact absurd h (by decide)), pb_s]
theorem r_noteOf2 {a b : Int32} (hn5 : μ 19 5 = nI nn) (h1 : ¬ phas a nn = 0) (h : pwi b 0 6 = 0) : fn_X6_noteOf gl_kd μ 6 a b = some (-100001, μ) := by
  unfold fn_X6_noteOf
  simp only [Nat.reduceAdd]
  rw [pg_hasN hn5, pb_s, if_neg h1, pg_st1, pb_s]
  unfold fn_X2_property
  rw [if_neg (show ¬ b = 0 from fun q => by subst q; exact absurd h (by decide)), if_neg (show ¬ b = 1 from fun q => by subst q; exact absurd h (by decide)), if_neg (show ¬ b = 2 from fun q => by subst q; exact absurd h (by decide)), if_neg (show ¬ b = 3 from fun q => by subst q; exact absurd h (by decide)), if_neg (show ¬ b = 4 from fun q => by subst q; exact absurd h (by decide)), if_neg (show ¬ b = 5 from fun q => by subst q; exact absurd h (by decide)), if_neg (show ¬ b = 6 from fun q => by subst q; exact absurd h (by decide)), pb_s]
theorem r_pitchAt2 {a b : Int32} (hb5 : μ 8 5 = nI nb) (h1 : ¬ phas a nb = 0) (h : pwi b (μ 7 3) 3600 = 0) : fn_X6_pitchAt gl_kd μ 6 a b = some (-100001, μ) := by
  unfold fn_X6_pitchAt fn_X4_time
  simp only [Nat.reduceAdd]
  rw [pg_hasB hb5, pb_s, if_neg h1, pb_s, pg_within, pb_s, if_pos h]
theorem pwi_hi {p lo hi : Int32} (h : hi < p) : pwi p lo hi = 0 := by
  unfold pwi
  rw [if_pos h, ite_self]
theorem pwi_lo {p lo hi : Int32} (h : p < lo) : pwi p lo hi = 0 := by
  unfold pwi
  rw [if_pos h]
theorem i_pred {n : Nat} (h : n < 100000) : nI n - 1 < nI n := by
  by_cases e : n = 0
  · subst e
    decide
  · obtain ⟨m, rfl⟩ : ∃ q, n = q + 1 := ⟨n - 1, by omega⟩
    rw [nI_pred]
    exact nI_lt (by omega) (by omega)
theorem r_note1 {a b : Int32} (h : pwi a 0 3600 = 0) : fn_X6_note gl_kd μ 6 a b = some (-100001, μ) := by
  unfold fn_X6_note
  simp only [Nat.reduceAdd]
  rw [pg_within, pb_s, if_pos h]
theorem r_note2 {a b : Int32} (h1 : ¬ pwi a 0 3600 = 0) (h : pwi b 0 6000 = 0) : fn_X6_note gl_kd μ 6 a b = some (-100001, μ) := by
  unfold fn_X6_note
  simp only [Nat.reduceAdd]
  rw [pg_within, pb_s, if_neg h1, pg_within, pb_s, if_pos h]
theorem r_drop {a : Int32} (hn5 : μ 19 5 = nI nn) (h : phas a nn = 0) : fn_X6_drop gl_kd μ 6 a = some (-100001, μ) := by
  unfold fn_X6_drop
  simp only [Nat.reduceAdd]
  rw [pg_hasN hn5, pb_s, if_pos h]
theorem r_noteOf {a b : Int32} (hn5 : μ 19 5 = nI nn) (h : phas a nn = 0) : fn_X6_noteOf gl_kd μ 6 a b = some (-100001, μ) := by
  unfold fn_X6_noteOf
  simp only [Nat.reduceAdd]
  rw [pg_hasN hn5, pb_s, if_pos h]
theorem r_wouldBe {a : Int32} (hn5 : μ 19 5 = nI nn) (h : phas a nn = 0) : fn_X6_wouldBe gl_kd μ 6 a = some (-100001, μ) := by
  unfold fn_X6_wouldBe
  simp only [Nat.reduceAdd]
  rw [pg_hasN hn5, pb_s, if_pos h]
theorem r_trans1 {a b c : Int32} (hn5 : μ 19 5 = nI nn) (h : phas a nn = 0 ∨ phas b nn = 0) : fn_X6_transpose gl_kd μ 6 a b c = some (-100001, μ) := by
  unfold fn_X6_transpose
  simp only [Nat.reduceAdd]
  by_cases h1 : phas a nn = 0
  · rw [pg_hasN hn5, pb_s, if_pos h1]
  · rw [pg_hasN hn5, pb_s, if_neg h1, pg_hasN hn5, pb_s, if_pos (h.resolve_left h1)]
theorem r_trans2 {a b c : Int32} (hn5 : μ 19 5 = nI nn) (h1 : ¬ phas a nn = 0) (h2 : ¬ phas b nn = 0) (h : b < a) : fn_X6_transpose gl_kd μ 6 a b c = some (-100001, μ) := by
  unfold fn_X6_transpose
  simp only [Nat.reduceAdd]
  rw [pg_hasN hn5, pb_s, if_neg h1, pg_hasN hn5, pb_s, if_neg h2, if_pos h]
theorem r_trans3 {a b c : Int32} (hn5 : μ 19 5 = nI nn) (h1 : ¬ phas a nn = 0) (h2 : ¬ phas b nn = 0) (h3 : ¬ b < a) (h : pwi c (-6000) 6000 = 0 ∨ c = 0) : fn_X6_transpose gl_kd μ 6 a b c = some (-100001, μ) := by
  unfold fn_X6_transpose
  simp only [Nat.reduceAdd]
  by_cases h4 : pwi c (-6000) 6000 = 0
  · rw [pg_hasN hn5, pb_s, if_neg h1, pg_hasN hn5, pb_s, if_neg h2, if_neg h3, pg_within, pb_s, if_pos h4]
  · rw [pg_hasN hn5, pb_s, if_neg h1, pg_hasN hn5, pb_s, if_neg h2, if_neg h3, pg_within, pb_s, if_neg h4, if_pos (h.resolve_left h4)]
theorem r_trans4 {j : Nat} {c : Int32} (hn5 : μ 19 5 = nI nn) (hnn : nn ≤ 40) (hj : j < nn) (h4 : ¬ pwi c (-6000) 6000 = 0) (h5 : ¬ c = 0) (h : pwi (μ 23 0 + c) 0 6000 = 0) : fn_X6_transpose gl_kd μ 6 0 (nI j) c = some (-100002, μ) := by
  unfold fn_X6_transpose fn_X2_canShift
  simp only [Nat.reduceAdd]
  rw [pg_hasN hn5, pb_s, if_neg (phas_0 (by omega) (by omega)), pg_hasN hn5, pb_s, phas_t hj (by omega), if_neg (by decide), if_neg (show ¬ nI j < 0 from nI_pos (by omega)), pg_within, pb_s, if_neg h4, if_neg h5]
  rcases pl_canG (μ := μ) (c := 19) (j := j) (q1 := 0) (q3 := c) (k := fun m7 y8 => some (1, m7)) pKN_19 (by omega) (j + 1) gx_F 0 (by omega) (by unfold gx_F; omega) with ⟨_, g⟩ | ⟨g0, g⟩
  · rw [show (0 : Int32) = nI 0 from rfl] at g ⊢
    rw [g, pb_s, if_pos rfl]
  · exact absurd h (g0 0 (Nat.le_refl _) (by omega))
end RF
