/-! ===== a memory laid anew: its numbers are forced and kept as rows; the world looks no further ===== -/
noncomputable def gx_fn {β : Type} (n : Nat) (k : Nat → β) : β := Nat.rec (motive := fun _ => β) (k 0) (fun m _ => k (m + 1)) n
theorem gx_fn_eq {β : Type} (n : Nat) (k : Nat → β) : gx_fn n k = k n := by cases n <;> rfl
noncomputable def gx_tr {β : Type} (f : Nat → Int32) : Nat → List Nat → (List Nat → β) → β
  | 0, acc, k => k acc
  | n + 1, acc, k => gx_fn (f n).toBitVec.toNat (fun v => gx_tr f n (v :: acc) k)
noncomputable def gx_ts {β : Type} (μ : gx_M) : List (Nat × Nat) → List (Nat × List Nat) → (List (Nat × List Nat) → β) → β
  | [], acc, k => k acc
  | (c, n) :: r, acc, k => gx_tr (μ c) n [] (fun row => gx_ts μ r ((c, row) :: acc) k)
def gx_lk : List (Nat × List Nat) → Nat → Option (List Nat)
  | [], _ => none
  | (c, row) :: r, a => if a = c then some row else gx_lk r a
def gx_gt : List Nat → Nat → Nat
  | [], _ => 0
  | v :: _, 0 => v
  | _ :: r, j + 1 => gx_gt r j
def gx_me (μ : gx_M) (D : List (Nat × List Nat)) : gx_M := fun a => match gx_lk D a with
  | some row => fun j => Int32.ofBitVec (BitVec.ofNat 32 (gx_gt row j))
  | none => μ a
def gx_cl : List (Nat × Nat) := [(7, 4), (8, 10), (10, 10), (12, 10), (14, 10), (16, 10), (18, 10), (19, 6), (21, 40), (23, 40), (25, 40), (27, 40), (29, 40), (31, 4), (57, 3), (184, 8), (186, 100)]
noncomputable def gx_nrm {β : Type} (μ : gx_M) (k : gx_M → β) : β := gx_ts μ gx_cl [] (fun D => k (gx_me μ D))
noncomputable def gx_nf (μ : gx_M) : gx_M := gx_nrm μ (fun m => m)
def gx_tabs (f : Nat → Int32) : Nat → List Nat → List Nat
  | 0, acc => acc
  | n + 1, acc => gx_tabs f n ((f n).toBitVec.toNat :: acc)
theorem gx_tr_eq {β : Type} (f : Nat → Int32) (k : List Nat → β) : ∀ (n : Nat) (acc : List Nat), gx_tr f n acc k = k (gx_tabs f n acc)
  | 0, acc => rfl
  | n + 1, acc => by
    show gx_fn _ _ = _
    rw [gx_fn_eq]
    exact gx_tr_eq f k n _
def gx_all (μ : gx_M) : List (Nat × Nat) → List (Nat × List Nat) → List (Nat × List Nat)
  | [], acc => acc
  | (c, n) :: r, acc => gx_all μ r ((c, gx_tabs (μ c) n []) :: acc)
theorem gx_ts_eq {β : Type} (μ : gx_M) (k : List (Nat × List Nat) → β) : ∀ (l : List (Nat × Nat)) (acc : List (Nat × List Nat)), gx_ts μ l acc k = k (gx_all μ l acc)
  | [], acc => rfl
  | (c, n) :: r, acc => by
    show gx_tr _ _ _ _ = _
    rw [gx_tr_eq]
    exact gx_ts_eq μ k r _
theorem gx_nrm_eq {β : Type} (μ : gx_M) (k : gx_M → β) : gx_nrm μ k = k (gx_nf μ) := by
  unfold gx_nf gx_nrm
  rw [gx_ts_eq, gx_ts_eq]
theorem gx_gt_tab (f : Nat → Int32) : ∀ (n : Nat) (acc : List Nat) (j : Nat), gx_gt (gx_tabs f n acc) j = if j < n then (f j).toBitVec.toNat else gx_gt acc (j - n)
  | 0, acc, j => by
    show gx_gt acc j = _
    rw [if_neg (by omega), Nat.sub_zero]
  | n + 1, acc, j => by
    show gx_gt (gx_tabs f n _) j = _
    rw [gx_gt_tab f n _ j]
    by_cases h : j < n
    · rw [if_pos h, if_pos (by omega)]
    · rw [if_neg h]
      by_cases e : j = n
      · subst e
        rw [Nat.sub_self, if_pos (by omega)]
        rfl
      · rw [if_neg (by omega)]
        obtain ⟨d, rfl⟩ : ∃ d, j = n + 1 + d := ⟨j - (n + 1), by omega⟩
        rw [show n + 1 + d - n = d + 1 by omega, show n + 1 + d - (n + 1) = d by omega]
        rfl
theorem gx_all_lk (μ : gx_M) (ln : Nat → Nat) : ∀ (l : List (Nat × Nat)) (acc : List (Nat × List Nat)), (∀ p ∈ l, ln p.1 ≤ p.2) → (∀ a row, gx_lk acc a = some row → ∀ j, j < ln a → gx_gt row j = (μ a j).toBitVec.toNat) → ∀ a row, gx_lk (gx_all μ l acc) a = some row → ∀ j, j < ln a → gx_gt row j = (μ a j).toBitVec.toNat
  | [], acc, _, h => h
  | (c, n) :: r, acc, hl, h => by
    refine gx_all_lk μ ln r _ (fun p hp => hl p (List.mem_cons_of_mem _ hp)) (fun a row hr j hj => ?_)
    unfold gx_lk at hr
    by_cases e : a = c
    · subst e
      rw [if_pos rfl] at hr
      cases hr
      have h1 : ln a ≤ n := hl (a, n) List.mem_cons_self
      rw [gx_gt_tab, if_pos (by omega)]
    · rw [if_neg e] at hr
      exact h a row hr j hj
theorem gx_nf_at (μ : gx_M) (ln : Nat → Nat) (hl : ∀ p ∈ gx_cl, ln p.1 ≤ p.2) (a j : Nat) (hj : j < ln a) : gx_nf μ a j = μ a j := by
  have h := gx_all_lk μ ln gx_cl [] hl (fun a row hr => by cases hr) a
  unfold gx_nf gx_nrm
  rw [gx_ts_eq]
  show gx_me μ (gx_all μ gx_cl []) a j = _
  rcases (show gx_lk (gx_all μ gx_cl []) a = none ∨ ∃ row, gx_lk (gx_all μ gx_cl []) a = some row by
    cases gx_lk (gx_all μ gx_cl []) a with
    | none => exact Or.inl rfl
    | some row => exact Or.inr ⟨row, rfl⟩) with e | ⟨row, e⟩
  · simp only [gx_me, e]
  · simp only [gx_me, e]
    rw [h row e j hj, BitVec.ofNat_toNat, BitVec.setWidth_eq]
    rfl
def gx_nok (Y : gx_Y) : Prop := ∀ (μ : gx_M) (c : Nat), gy_in Y c → ∀ j, j < gx_len Y c → gx_nf μ c j = μ c j
theorem gx_nok_of {Y : gx_Y} (hl : ∀ p ∈ gx_cl, gx_len Y p.1 ≤ p.2) : gx_nok Y := fun μ c _ j hj => gx_nf_at μ (gx_len Y) hl c j hj
theorem gw_nrm {l : Launch} {own : String} {cc : ByteArray} {nL fr lo : Nat} {ret : Option FieldType} {Y : gx_Y} {Post : Value → gx_M → Prop} {K : gx_KT} {pc : Nat} {μ : gx_M} {L : List (Nat × Value)} {st : List Value} {α : Type} {rr : α} (h : gx_K l own cc nL fr lo ret Y Post K) (hn : gx_nok Y) {k : gx_M → Option α} (hf : gx_nrm μ k = some rr) (kk : k (gx_nf μ) = some rr → K (gx_nf μ) pc L st) : K μ pc L st :=
  gw_same h (fun c hc j hj => hn μ c hc j hj) (kk (by rw [gx_nrm_eq] at hf; exact hf))
/-- a weaker end -/
theorem gx_K_mono {l : Launch} {own : String} {cc : ByteArray} {nL fr lo : Nat} {ret : Option FieldType} {Y : gx_Y} {Post Post' : Value → gx_M → Prop} {K : gx_KT} (h : gx_K l own cc nL fr lo ret Y Post K) (hp : ∀ v μ, Post' v μ → Post v μ) : gx_K l own cc nL fr lo ret Y Post' K := by
  obtain ⟨p, e, s, m, args, below, meth, c0, Q, A0, cells, slots, cR, sR, hx, hb, hml, hown, hts, hK, hI, hN, hA, hcs, hss, hKe, hri, hrv, hrl⟩ := h
  exact ⟨p, e, s, m, args, below, meth, c0, Q, A0, cells, slots, cR, sR, hx, hb, hml, hown, hts, hK, hI, hN, hA, hcs, hss, hKe, fun μ pc L v ty h1 h2 h3 h4 => hri μ pc L v ty h1 h2 h3 (hp _ _ h4), fun μ pc L h1 h2 h3 => hrv μ pc L h1 h2 (hp _ _ h3), fun μ pc L v h1 h2 h3 => hrl μ pc L v h1 h2 (hp _ _ h3)⟩
