/-! ===== counts ===== -/
theorem pl_nwG {μ : gx_M} {c nn : Nat} {v : Int32} {k : gx_M → Int32 → Int32 → Option (Int32 × gx_M)} (hk : pKN c) (h5 : μ c 5 = nI nn) (hn : nn ≤ 40) : ∀ (m n i : Nat) (x : Int32), i + m = nn → m < n → lf_X2_notesWith_4 gl_kd c v k n μ x (nI i) = k μ (x + psf (fun b => if μ (c + 6) b = v then 1 else 0) i m) (nI nn) := by
  intro m
  induction m with
  | zero =>
    intro n i x hi hm
    obtain ⟨n, rfl⟩ : ∃ q, n = q + 1 := ⟨n - 1, by omega⟩
    have e : i = nn := by omega
    subst e
    rw [lf_X2_notesWith_4, h5, if_pos (nI_le (Nat.le_refl _) (by omega))]
    unfold psf
    rw [Int32.add_zero]
  | succ m ih =>
    intro n i x hi hm
    obtain ⟨n, rfl⟩ : ∃ q, n = q + 1 := ⟨n - 1, by omega⟩
    rw [lf_X2_notesWith_4, h5, if_neg (nI_ge (by omega) (by omega)), pg_get (c + 6) 40 rfl hk.2.2.1 (i := i) (by omega) (by decide), pb_s, nI_1, psf_s]
    by_cases e : μ (c + 6) i = v
    · rw [if_pos e, if_pos e, ih n (i + 1) _ (by omega) (by omega), Int32.add_assoc]
    · rw [if_neg e, if_neg e, ih n (i + 1) _ (by omega) (by omega), Int32.zero_add]
theorem pg_nw {μ : gx_M} {c nn : Nat} {v : Int32} (hk : pKN c) (h5 : μ c 5 = nI nn) (hn : nn ≤ 40) : fn_X2_notesWith gl_kd μ c v = some (psf (fun b => if μ (c + 6) b = v then 1 else 0) 0 nn, μ) := by
  unfold fn_X2_notesWith
  have := pl_nwG (v := v) (k := fun m5 y6 y7 => some (y6, m5)) hk h5 hn nn gx_F 0 0 (by omega) (by unfold gx_F; omega)
  rw [Int32.zero_add] at this
  exact this
theorem psf_n {f g : Nat → Int32} : ∀ (m i : Nat), (∀ b, i ≤ b → b < i + m → f b + g b = 1) → nI m - psf f i m = psf g i m
  | 0, i, _ => show nI 0 - (0 : Int32) = 0 by decide
  | m + 1, i, h => by
    have := psf_n m (i + 1) (fun b h1 h2 => h b (by omega) (by omega))
    rw [psf_s, psf_s, ← this, ← nI_1, ← h i (by omega) (by omega)]
    generalize psf f (i + 1) m = x
    generalize f i = y
    generalize g i = z
    generalize nI m = w
    rw [Int32.sub_eq_add_neg, Int32.sub_eq_add_neg, Int32.neg_add, Int32.sub_eq_add_neg]
    rw [show w + (y + z) + (-y + -x) = (y + -y) + (z + (w + -x)) by ac_rfl, Int32.add_right_neg, Int32.zero_add]
/-- three counts -/
theorem rN_nw {μ : gx_M} {c nn : Nat} {s : Nat → Int32} (h : rN μ c s nn) :
    nI nn - psf (fun b => if μ (c + 6) b = 0 then 1 else 0) 0 nn = psf (fun b => if s (61 + 6 * b + 2) = 1 then 1 else 0) 0 nn ∧
    psf (fun b => if μ (c + 6) b = 3 then 1 else 0) 0 nn = psf (fun b => if s (61 + 6 * b + 2) = 1 then (if s (61 + 6 * b + 5) = 1 then 1 else 0) else 0) 0 nn ∧
    psf (fun b => if μ (c + 6) b = 1 then 1 else 0) 0 nn = psf (fun b => if s (61 + 6 * b + 2) = 1 then (if s (61 + 6 * b + 3) = -1 then 1 else 0) else 0) 0 nn := by
  refine ⟨psf_n nn 0 (fun b _ hb => ?_), psf_c nn 0 (fun b _ hb => ?_), psf_c nn 0 (fun b _ hb => ?_)⟩
  · rcases (h.2.2.1 b (by omega)).2.2.1 with ⟨z1, z2⟩ | ⟨z1, z2, z3, z4⟩ | ⟨⟨z0, _⟩ | ⟨z0, _⟩, z1, _⟩
    · rw [z1, z2]; decide
    · rw [z1, z2]; decide
    · rw [z0, z1]; decide
    · rw [z0, z1]; decide
  · rcases (h.2.2.1 b (by omega)).2.2.1 with ⟨z1, z2⟩ | ⟨z1, z2, z3, z4⟩ | ⟨⟨z0, z9⟩ | ⟨z0, z9⟩, z1, _⟩
    · rw [z1, z2, if_neg (by decide), if_neg (by decide)]
    · rw [z1, z2, z4]; decide
    · rw [z0, z1, z9]; decide
    · rw [z0, z1, z9]; decide
  · rcases (h.2.2.1 b (by omega)).2.2.1 with ⟨z1, z2⟩ | ⟨z1, z2, z3, z4⟩ | ⟨⟨z0, z9⟩ | ⟨z0, z9⟩, z1, z2, z3, z4, z5⟩
    · rw [z1, z2, if_neg (by decide), if_neg (by decide)]
    · rw [z1, z2, z3]; decide
    · rw [z0, z1, if_neg z4]; decide
    · rw [z0, z1, if_neg z4]; decide
