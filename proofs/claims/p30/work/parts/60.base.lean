/-! ===== plain mathematics: the specs' words in closed form ===== -/
theorem pb_s {β : Type} (a : Int32) (m : gx_M) (k : Int32 → gx_M → Option β) : gx_b (some (a, m)) k = k a m := rfl
theorem pu_s (f : Nat → Int32) (k : Nat) (x : Int32) : upd f k x k = x := by simp [upd]
theorem pu_n {f : Nat → Int32} {k j : Nat} {x : Int32} (h : j ≠ k) : upd f k x j = f j := by simp [upd, h]
theorem pw_s (μ : gx_M) (c j : Nat) (v : Int32) : gx_u μ c j v c j = v := by rw [gx_u_s, pu_s]
theorem pw_n {μ : gx_M} {c a j i : Nat} {v : Int32} (h : a ≠ c ∨ i ≠ j) : gx_u μ c j v a i = μ a i := by
  by_cases ha : a = c
  · subst ha
    rw [gx_u_s, pu_n (h.resolve_left (fun q => q rfl))]
  · rw [gx_u_n ha]
theorem pg_ix {i N : Nat} (h : i < N) (hN : N < 2147483648) : gx_ix (nI i) N = true := decide_eq_true (vp_in_nI h hN)
theorem pn_f {c : Prop} [Decidable c] {α : Type} {a b : α} (h : ¬ c) : (if c then a else b) = b := if_neg h
theorem pn_lt {a b : Nat} (ha : a < 2147483648) (hb : b < 2147483648) : nI a < nI b ↔ a < b := nI_ltI ha hb
theorem pn_le {a b : Nat} (ha : a < 2147483648) (hb : b < 2147483648) : nI a ≤ nI b ↔ a ≤ b := nI_leI ha hb
theorem pn_eq {a b : Nat} (ha : a < 2147483648) (hb : b < 2147483648) : nI a = nI b ↔ a = b := nI_eq ha hb
/-- Row.get, Row.put, Row.add in range -/
theorem pg_get {kd : Nat → Nat} {μ : gx_M} {c i : Nat} (r N : Nat) (hr : c + 1 = r) (hk : kd r = 100 + N) (hi : i < N) (hN : N < 100000) : fn_X3_get kd μ c (nI i) = some (μ r i, μ) := by
  subst hr
  unfold fn_X3_get
  rw [hk, show 100 + N - 100 = N by omega, if_neg (nI_pos (by omega)), if_neg (nI_ge hi (by omega)), if_pos (pg_ix hi (by omega)), nI_clamp (by omega)]
theorem pg_getO {kd : Nat → Nat} {μ : gx_M} {c i : Nat} (r N : Nat) (hr : c + 1 = r) (hk : kd r = 100 + N) (hi : N ≤ i) (hN : i < 100000) : fn_X3_get kd μ c (nI i) = some (0, μ) := by
  subst hr
  unfold fn_X3_get
  rw [hk, show 100 + N - 100 = N by omega, if_neg (nI_pos (by omega)), if_pos (nI_le hi (by omega))]
theorem pg_put {kd : Nat → Nat} {μ : gx_M} {c i : Nat} {v : Int32} (r N : Nat) (hr : c + 1 = r) (hk : kd r = 100 + N) (hi : i < N) (hN : N < 100000) : fn_X3_put kd μ c (nI i) v = some (0, gx_u μ r i v) := by
  subst hr
  unfold fn_X3_put
  rw [hk, show 100 + N - 100 = N by omega, if_neg (nI_pos (by omega)), if_neg (nI_ge hi (by omega)), if_pos (pg_ix hi (by omega)), nI_clamp (by omega)]
theorem pg_add {kd : Nat → Nat} {μ : gx_M} {c i : Nat} {v : Int32} (r N : Nat) (hr : c + 1 = r) (hk : kd r = 100 + N) (hi : i < N) (hN : N < 100000) : fn_X3_add kd μ c (nI i) v = some (0, gx_u μ r i (μ r i + v)) := by
  unfold fn_X3_add
  rw [pg_get r N hr hk hi hN, pb_s, pg_put r N hr hk hi hN, pb_s]
/-- the reference's own reads and writes -/
theorem pm_i5 (b w : Nat) {wi : Int32} (hw : wi = nI w) : (11 + (5 * nI b)) + wi = nI (11 + 5 * b + w) := by
  rw [hw, show (11 : Int32) = nI 11 from rfl, show (5 : Int32) = nI 5 from rfl, pk_mul, nI_add, nI_add]
theorem pm_i6 (b w : Nat) {wi : Int32} (hw : wi = nI w) : (61 + (6 * nI b)) + wi = nI (61 + 6 * b + w) := by
  rw [hw, show (61 : Int32) = nI 61 from rfl, show (6 : Int32) = nI 6 from rfl, pk_mul, nI_add, nI_add]
theorem pm_of {μ : gx_M} {b : Nat} {wi : Int32} (w : Nat) (hw : wi = nI w) (h : 11 + 5 * b + w < 301) : fn_X7_of gl_kd μ 0 (nI b) wi = some (μ 1 (11 + 5 * b + w), μ) := by
  unfold fn_X7_of
  rw [pm_i5 b w hw, show gl_kd (0 + 1) - 100 = 301 from rfl, if_pos (pg_ix h (by omega)), nI_clamp (by omega)]
theorem pm_put {μ : gx_M} {b : Nat} {wi v : Int32} (w : Nat) (hw : wi = nI w) (h : 11 + 5 * b + w < 301) : fn_X7_put gl_kd μ 0 (nI b) wi v = some (0, gx_u μ 1 (11 + 5 * b + w) v) := by
  unfold fn_X7_put
  rw [pm_i5 b w hw, show gl_kd (0 + 1) - 100 = 301 from rfl, if_pos (pg_ix h (by omega)), nI_clamp (by omega)]
theorem pm_has {μ : gx_M} {b : Nat} {wi : Int32} (w : Nat) (hw : wi = nI w) (h : 61 + 6 * b + w < 301) : fn_X7_has gl_kd μ 0 (nI b) wi = some (μ 1 (61 + 6 * b + w), μ) := by
  unfold fn_X7_has
  rw [pm_i6 b w hw, show gl_kd (0 + 1) - 100 = 301 from rfl, if_pos (pg_ix h (by omega)), nI_clamp (by omega)]
theorem pm_lay {μ : gx_M} {b : Nat} {wi v : Int32} (w : Nat) (hw : wi = nI w) (h : 61 + 6 * b + w < 301) : fn_X7_lay gl_kd μ 0 (nI b) wi v = some (0, gx_u μ 1 (61 + 6 * b + w) v) := by
  unfold fn_X7_lay
  rw [pm_i6 b w hw, show gl_kd (0 + 1) - 100 = 301 from rfl, if_pos (pg_ix h (by omega)), nI_clamp (by omega)]
theorem pm_setting {μ : gx_M} {wi : Int32} (w : Nat) (hw : wi = nI w) (h : w < 200) : fn_X7_setting gl_kd μ 0 wi = some (μ 1 (7 + w), μ) := by
  unfold fn_X7_setting
  rw [hw, show (7 : Int32) = nI 7 from rfl, nI_add, show gl_kd (0 + 1) - 100 = 301 from rfl, if_pos (pg_ix (by omega) (by omega)), nI_clamp (by omega)]
/-- a fixed place of the state row -/
theorem pm_c (i : Nat) (h : i < 301) : gx_ix (nI i) (gl_kd (0 + 1) - 100) = true := pg_ix (show i < 301 from h) (by decide)
theorem pm_t (i : Nat) (h : i < 301) : Int32.toNatClampNeg (nI i) = i := nI_clamp (by omega)
/-- within: 1 or 0 -/
def pwi (p lo hi : Int32) : Int32 := if p < lo then 0 else if hi < p then 0 else 1
theorem pg_within {kd : Nat → Nat} {μ : gx_M} {p lo hi : Int32} : fn_X6_isWithin kd μ p lo hi = some (pwi p lo hi, μ) := by
  unfold fn_X6_isWithin pwi
  split
  · rfl
  · split <;> rfl
theorem pm_in {kd : Nat → Nat} {μ : gx_M} {p lo hi : Int32} : fn_X7_in kd μ p lo hi = some (pwi p lo hi, μ) := by
  unfold fn_X7_in pwi
  split
  · rfl
  · split <;> rfl
theorem pwi_01 (p lo hi : Int32) : pwi p lo hi = 0 ∨ pwi p lo hi = 1 := by
  unfold pwi
  split
  · exact Or.inl rfl
  · split
    · exact Or.inl rfl
    · exact Or.inr rfl
/-- within two small numbers: a number -/
theorem pwi_n {p : Int32} {a b : Nat} (ha : a < 2147483648) (hb : b < 2147483648) (h : ¬ pwi p (nI a) (nI b) = 0) : ∃ j : Nat, a ≤ j ∧ j ≤ b ∧ p = nI j := by
  unfold pwi at h
  by_cases h1 : p < nI a
  · rw [if_pos h1] at h; exact absurd rfl h
  · rw [if_neg h1] at h
    by_cases h2 : nI b < p
    · rw [if_pos h2] at h; exact absurd rfl h
    · rw [Int32.lt_iff_toInt_lt, nI_toInt ha] at h1
      rw [Int32.lt_iff_toInt_lt, nI_toInt hb] at h2
      obtain ⟨j, hj, rfl⟩ := nI_of (x := p) (by rw [Int32.lt_iff_toInt_lt, Int32.toInt_zero]; omega)
      rw [nI_toInt hj] at h1 h2
      exact ⟨j, by omega, by omega, rfl⟩
theorem pwi_t {a b j : Nat} (h1 : a ≤ j) (h2 : j ≤ b) (hb : b < 2147483648) : pwi (nI j) (nI a) (nI b) = 1 := by
  unfold pwi
  rw [if_neg (by rw [pn_lt (by omega) (by omega)]; omega), if_neg (by rw [pn_lt (by omega) (by omega)]; omega)]
/-- the size of a number -/
def pab (x : Int32) : Int32 := if 0 ≤ x then x else 0 - x
theorem pm_size {kd : Nat → Nat} {μ : gx_M} {x : Int32} : fn_X7_size kd μ x = some (pab x, μ) := by
  unfold fn_X7_size pab
  by_cases h : x < 0
  · have h2 : ¬ 0 ≤ x := by
      rw [Int32.lt_iff_toInt_lt] at h
      rw [Int32.le_iff_toInt_le]
      omega
    simp [h, h2]
  · have h2 : 0 ≤ x := by
      rw [Int32.lt_iff_toInt_lt] at h
      rw [Int32.le_iff_toInt_le]
      omega
    simp [h, h2]
/-- the pitch -/
def ppt (ba de lv : Int32) : Int32 := ba - (((de.toInt64 * lv.toInt64) * lv.toInt64) / 1000000).toInt32
/-- a sum -/
def psf (f : Nat → Int32) : Nat → Nat → Int32
  | _, 0 => 0
  | i, m + 1 => f i + psf f (i + 1) m
theorem psf_c {f g : Nat → Int32} : ∀ (m i : Nat), (∀ b, i ≤ b → b < i + m → f b = g b) → psf f i m = psf g i m
  | 0, _, _ => rfl
  | m + 1, i, h => by
    unfold psf
    rw [h i (by omega) (by omega), psf_c m (i + 1) (fun b h1 h2 => h b (by omega) (by omega))]
