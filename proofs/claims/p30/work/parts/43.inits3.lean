/-- the same cell, said in another way -/
theorem gz_same {l : Launch} {own : String} {cc : ByteArray} {nL fr lo mc ms : Nat} {D : va_G} {cI cT : ClassId} {Post : va_W → Prop} {K : gz_KT} {pc cells slots : Nat} {L : List (Nat × Value)} {st : List Value} (h : gz_K l own cc nL fr lo mc ms D cI cT Post K) {pre rest : va_W} {q n : Nat} {f g : Nat → Option Nat} (hfg : ∀ j, j < n → f j = g j)
    (kk : K (pre ++ (q, .inl (cT, (n, .inr (.inr (.inr (.inr g)))))) :: rest) pc L st cells slots) : K (pre ++ (q, .inl (cT, (n, .inr (.inr (.inr (.inr f)))))) :: rest) pc L st cells slots := by
  obtain ⟨p, e, s, m, args, below, meth, c0, Q, A0, hx, hb, hml, hown, hts, hSs, hin0, hA, rfl, hrv⟩ := h
  intro H locs ls hP hD hS hl
  have e1 : vp_cell cT (n, .inr (.inr (.inr (.inr f)))) = vp_cell cT (n, .inr (.inr (.inr (.inr g)))) := by
    show arrV cT n (fun j => va_rf (f j)) = arrV cT n (fun j => va_rf (g j))
    unfold arrV
    have : (fun j : Fin n => va_rf (f j.val)) = (fun j : Fin n => va_rf (g j.val)) := funext fun j => by rw [hfg j.val j.isLt]
    rw [this]
  have key : ∀ (k : Nat) (z : Nat × va_E), (pre ++ (q, Sum.inl (cT, (n, .inr (.inr (.inr (.inr g)))))) :: rest : va_W)[k]? = some z → ∃ z0, (pre ++ (q, Sum.inl (cT, (n, .inr (.inr (.inr (.inr f)))))) :: rest : va_W)[k]? = some z0 ∧ z0.1 = z.1 ∧ ∀ H : Heap, va_at D vwCl z0 H → va_at D vwCl z H := by
    intro k z hz
    by_cases hk : k < pre.length
    · rw [List.getElem?_append_left hk] at hz ⊢
      exact ⟨z, hz, rfl, fun _ x => x⟩
    · rw [List.getElem?_append_right (by omega)] at hz ⊢
      match k - pre.length, hz with
      | 0, hz =>
        cases hz
        refine ⟨_, rfl, rfl, fun H hH => ?_⟩
        show H[q]? = some (vp_cell cT (n, .inr (.inr (.inr (.inr g)))))
        rw [← e1]
        exact hH
      | i + 1, hz => exact ⟨z, hz, rfl, fun _ x => x⟩
  refine kk H locs ls (fun k z hz => ?_) ⟨fun i j a b hi hj hab => ?_, fun k z hz => ?_⟩ hS hl
  · obtain ⟨z0, h1, -, h3⟩ := key k z hz
    exact h3 H (hP k z0 h1)
  · obtain ⟨a0, ha0, ea, -⟩ := key i a hi
    obtain ⟨b0, hb0, eb, -⟩ := key j b hj
    exact hD.1 i j a0 b0 ha0 hb0 (ea.trans (hab.trans eb.symm))
  · obtain ⟨z0, h1, h2, -⟩ := key k z hz
    rw [← h2]
    exact hD.2 k z0 h1
/-! layouts side by side -/
theorem gz_fld_shift (kind a : Nat) (t : Nat → Nat) (c : Nat) (row : Nat → Int32) (k : Nat) : gx_fld kind t (a + c) row k = gx_fld kind (fun j => t (a + j)) c row k := by
  unfold gx_fld
  split <;> first | (simp only [Nat.add_assoc]; done) | rfl
theorem gx_cell_eq {Y Y' : gx_Y} {μ μ' : gx_M} {c c' : Nat} (h1 : gy_k Y c = gy_k Y' c') (hI : gy_I Y = gy_I Y') (hT : gy_T Y = gy_T Y') (hJ : gy_J Y = gy_J Y') (hf : gy_k Y' c' < 9 → gx_fs (gy_k Y' c') (gy_a Y) c (μ c) = gx_fs (gy_k Y' c') (gy_a Y') c' (μ' c')) (ht : gy_k Y' c' = 9 → ∀ i, gy_a Y (c + 1 + 25 * i) = gy_a Y' (c' + 1 + 25 * i)) (hm : μ c = μ' c') : gx_cell Y μ c = gx_cell Y' μ' c' := by
  unfold gx_cell
  rw [h1]
  by_cases h9 : gy_k Y' c' < 9
  · rw [if_pos h9, if_pos h9, hf h9]
  · rw [if_neg h9, if_neg h9]
    by_cases h99 : gy_k Y' c' = 9
    · rw [if_pos h99, if_pos h99, hT]
      simp only [ht h99]
    · rw [if_neg h99, if_neg h99]
      by_cases h10 : gy_k Y' c' = 10
      · rw [if_pos h10, if_pos h10, hJ, hm]
      · rw [if_neg h10, if_neg h10, hI, hm]
theorem gz_app (D : va_G) (cI cT : ClassId) (kd1 kd2 : List Nat) (t : Nat → Nat) (μ : gx_M) : gx_ws (gz_Y D cI cT (kd1 ++ kd2) t) μ = gx_ws (gz_Y D cI cT kd1 t) μ ++ gx_ws (gz_Y D cI cT kd2 (fun j => t (kd1.length + j))) (fun j => μ (kd1.length + j)) := by
  have hk1 : ∀ j, j < kd1.length → (kd1 ++ kd2).getD j 0 = kd1.getD j 0 := fun j hj => by simp [List.getD, List.getElem?_append_left hj]
  have hk2 : ∀ j, (kd1 ++ kd2).getD (kd1.length + j) 0 = kd2.getD j 0 := fun j => by simp [List.getD, List.getElem?_append_right]
  apply List.ext_getElem?
  intro i
  by_cases hi : i < kd1.length
  · rw [List.getElem?_append_left (by simp [gx_ws, gz_Y, gy_n]; exact hi), gz_ws_get (by show i < (kd1 ++ kd2).length; simp; omega), gz_ws_get (by show i < kd1.length; exact hi)]
    refine congrArg some (Prod.ext rfl ?_)
    exact gx_cell_eq (hk1 i hi) rfl rfl rfl (fun _ => rfl) (fun _ _ => rfl) rfl
  · by_cases hl : i < kd1.length + kd2.length
    · obtain ⟨j, rfl⟩ : ∃ j, i = kd1.length + j := ⟨i - kd1.length, by omega⟩
      rw [List.getElem?_append_right (by simp [gx_ws, gz_Y, gy_n]), gz_ws_get (by show kd1.length + j < (kd1 ++ kd2).length; simp; omega)]
      rw [show kd1.length + j - (gx_ws (gz_Y D cI cT kd1 t) μ).length = j by simp [gx_ws, gz_Y, gy_n], gz_ws_get (by show j < kd2.length; omega)]
      refine congrArg some (Prod.ext rfl ?_)
      refine gx_cell_eq (Y := gz_Y D cI cT (kd1 ++ kd2) t) (Y' := gz_Y D cI cT kd2 (fun j => t (kd1.length + j))) (μ' := fun j => μ (kd1.length + j)) (c' := j) (hk2 j) rfl rfl rfl (fun _ => ?_) (fun _ i => ?_) rfl
      · unfold gx_fs
        exact List.map_congr_left (fun k _ => gz_fld_shift _ _ _ _ _ _)
      · show t (kd1.length + j + 1 + 25 * i) = t (kd1.length + (j + 1 + 25 * i))
        simp only [Nat.add_assoc]
    · rw [List.getElem?_eq_none (by simp [gx_ws, gz_Y, gy_n]; omega), List.getElem?_eq_none (by simp [gx_ws, gz_Y, gy_n]; omega)]
def gz_ok (n j k : Nat) : Bool := match k with
  | 1 => decide (j + 23 < n)
  | 2 => decide (j + 9 < n)
  | 3 => decide (j + 9 < n)
  | 4 => decide (j + 1 < n)
  | 5 => decide (j + 1 < n)
  | k => decide (100 ≤ k)
def gz_closed (kdl : List Nat) : Bool := (List.range kdl.length).all (fun j => gz_ok kdl.length j (kdl.getD j 0))
theorem gz_congr (D : va_G) (cI cT : ClassId) {kdl : List Nat} {t t' : Nat → Nat} {μ μ' : gx_M} (hc : gz_closed kdl = true) (ht : ∀ j, j < kdl.length → t j = t' j) (hm : ∀ j, j < kdl.length → μ j = μ' j) : gx_ws (gz_Y D cI cT kdl t) μ = gx_ws (gz_Y D cI cT kdl t') μ' := by
  unfold gx_ws
  refine List.map_congr_left (fun j hj => ?_)
  have hj : j < kdl.length := List.mem_range.mp hj
  refine Prod.ext (ht j hj) ?_
  have h1 : gz_ok kdl.length j (kdl.getD j 0) = true := List.all_eq_true.mp hc j (List.mem_range.mpr hj)
  refine gx_cell_eq rfl rfl rfl rfl (fun h9 => ?_) (fun h9 => ?_) (hm j hj)
  · show gx_fs (kdl.getD j 0) t j (μ j) = gx_fs (kdl.getD j 0) t' j (μ' j)
    have h9 : kdl.getD j 0 < 9 := h9
    rw [hm j hj]
    obtain ⟨kk, hkk⟩ : ∃ kk, kdl.getD j 0 = kk := ⟨_, rfl⟩
    rw [hkk] at h1 h9 ⊢
    unfold gx_fs
    refine List.map_congr_left (fun k _ => ?_)
    have hx : ∀ d, j + d < kdl.length → t (j + d) = t' (j + d) := fun d hd => ht _ hd
    have h09 : kk = 0 ∨ kk = 1 ∨ kk = 2 ∨ kk = 3 ∨ kk = 4 ∨ kk = 5 ∨ kk = 6 ∨ kk = 7 ∨ kk = 8 := by omega
    rcases h09 with rfl | rfl | rfl | rfl | rfl | rfl | rfl | rfl | rfl
    · exact absurd (show false = true from h1) (by decide)
    · have h2 : j + 23 < kdl.length := of_decide_eq_true h1
      have a1 := hx 1 (by omega)
      have a2 := hx 12 (by omega)
      have a3 := hx 23 (by omega)
      unfold gx_fld
      split <;> simp_all
    · have h2 : j + 9 < kdl.length := of_decide_eq_true h1
      have a1 := hx 1 (by omega)
      have a2 := hx 3 (by omega)
      have a3 := hx 5 (by omega)
      have a4 := hx 7 (by omega)
      have a5 := hx 9 (by omega)
      unfold gx_fld
      split <;> simp_all
    · have h2 : j + 9 < kdl.length := of_decide_eq_true h1
      have a1 := hx 1 (by omega)
      have a2 := hx 3 (by omega)
      have a3 := hx 5 (by omega)
      have a4 := hx 7 (by omega)
      have a5 := hx 9 (by omega)
      unfold gx_fld
      split <;> simp_all
    · have h2 : j + 1 < kdl.length := of_decide_eq_true h1
      have a1 := hx 1 (by omega)
      unfold gx_fld
      split <;> simp_all
    · have h2 : j + 1 < kdl.length := of_decide_eq_true h1
      have a1 := hx 1 (by omega)
      unfold gx_fld
      split <;> simp_all
    · exact absurd (show false = true from h1) (by decide)
    · exact absurd (show false = true from h1) (by decide)
    · exact absurd (show false = true from h1) (by decide)
  · have h9 : kdl.getD j 0 = 9 := h9
    rw [h9] at h1
    exact absurd (show false = true from h1) (by decide)
theorem gz_lt5 : ∀ i, i < 5 → ¬ (5 : Int32) ≤ nI i := lt5'
set_option maxRecDepth 100000 in
set_option maxHeartbeats 4000000 in
/-- a turn of the loop that makes the tables of the history -/
theorem gz_histstep {l : Launch} {D : va_G} {cI cT : ClassId} {Post : va_W → Prop} {K : gz_KT} (h : gz_K l RX1 cX1_init 2 4 82 126 1430 D cI cT Post K) {h0 q i : Nat} {f : Nat → Option Nat} {rest : va_W} {cells slots : Nat} (hi : i < 5) (hc : cells + 25 ≤ 126) (hs : slots + 285 ≤ 1430)
    (kk : ∀ t : Nat → Nat, K ((h0, .inr (1, [.ref q, .int 0, .int 0])) :: (q, .inl (cT, (5, .inr (.inr (.inr (.inr (va_up f i (some (t 0))))))))) :: (rest ++ gx_ws (gz_Y D cI cT kd_tab t) gz_tab)) 24 [(1, .int (nI (i + 1))), (0, .ref h0)] [] (cells + 25) (slots + 285)) :
    K ((h0, .inr (1, [.ref q, .int 0, .int 0])) :: (q, .inl (cT, (5, .inr (.inr (.inr (.inr f)))))) :: rest) 24 [(1, .int (nI i)), (0, .ref h0)] [] cells slots := by
  refine gz_iload_n (pc := 24) h 0 dX1_init_24 rfl rfl ?_
  refine gz_aload_n (pc := 25) h 1 dX1_init_25 rfl rfl ?_
  refine gz_get (pc := 26) (v := .ref q) h 0 0 rfl rfl inX1 (by decide) kw_fl_RX1_11 rfl dX1_init_26 ?_
  refine gz_alenT (pc := 29) (v := 5) (n := 5) h 1 rfl (by decide) dX1_init_29 ?_
  refine gz_icmp_ge (tgt := 52) (pc := 30) h dX1_init_30 (by decide) (fun c => absurd c (gz_lt5 i hi)) (fun _ => ?_)
  refine gz_aload_n (pc := 33) h 1 dX1_init_33 rfl rfl ?_
  refine gz_get (pc := 34) (v := .ref q) h 0 0 rfl rfl inX1 (by decide) kw_fl_RX1_11 rfl dX1_init_34 ?_
  refine gz_iload_n (pc := 37) h 0 dX1_init_37 rfl rfl ?_
  refine gz_new (pc := 38) (ci := 4) (fs := [.null, .null, .null, .int 0]) h inX4 tyX4 tyX4_ok kw_cl_RX1_9 kw_it_RX4 kw_in_RX4 rfl (fun j hj => by rcases (show j = 0 ∨ j = 1 ∨ j = 2 ∨ j = 3 by omega) with rfl | rfl | rfl | rfl <;> rfl) (by omega) (by omega) dX1_init_38 (fun qt => ?_)
  refine gz_dup (pc := 41) h dX1_init_41 rfl ?_
  refine gz_init (pc := 42) (cells := cells + 1) (slots := slots + 4) (st := [.ref qt, .int (nI i), .ref q]) (ws := (h0, .inr (1, [.ref q, .int 0, .int 0])) :: (q, .inl (cT, (5, .inr (.inr (.inr (.inr f)))))) :: rest) (As := []) h (ct_X4_init l D cI cT) rfl ⟨by decide, by decide, (show (parseMethodDescriptor yX4_init.desc).map (fun d => d.parameters.length) = some 0 by decide +kernel)⟩ kw_im_X4_init kw_in_RX4 kw_co_X4_init ⟨Nat.le_of_ble_eq_true rfl, Nat.le_of_ble_eq_true rfl⟩ (Nat.le_of_ble_eq_true rfl) ⟨by omega, by omega⟩ dX1_init_42 ?_ kw_ml_RX1_24
  rintro wn ⟨t, ht, rfl⟩
  subst ht
  have hq : ((h0, Sum.inr (1, [Value.ref q, .int 0, .int 0])) :: (q, Sum.inl (cT, (5, .inr (.inr (.inr (.inr f)))))) :: rest ++ gx_ws (gz_Y D cI cT kd_tab t) gz_tab : va_W)[((h0, Sum.inr (1, [Value.ref q, .int 0, .int 0])) :: (q, Sum.inl (cT, (5, .inr (.inr (.inr (.inr f)))))) :: rest : va_W).length]? = some (t 0, .inr (4, gx_fs 1 t 0 (gz_tab 0))) := by
    rw [List.getElem?_append_right (Nat.le_refl _), Nat.sub_self, gz_ws_get (show 0 < kd_tab.length from Nat.le_of_ble_eq_true rfl)]
    rfl
  refine gz_astT (pc := 45) (ws' := (h0, .inr (1, [.ref q, .int 0, .int 0])) :: (q, .inl (cT, (5, .inr (.inr (.inr (.inr (va_up f i (some (t 0))))))))) :: (rest ++ gx_ws (gz_Y D cI cT kd_tab t) gz_tab)) (n := 5) (f := f) h 1 _ rfl hq (vp_in_nI hi (by decide)) (by rw [nI_clamp (show i < 2 ^ 31 by omega)]; rfl) dX1_init_45 ?_
  refine gz_iinc (pc := 46) (v := nI (i + 1)) (L' := [(1, .int (nI (i + 1))), (0, .ref h0)]) h 0 dX1_init_46 rfl (by rw [nI_succ]; rfl) (by decide) rfl ?_
  refine gz_goto (tgt := 24) (pc := 49) h dX1_init_49 (by decide) ?_
  exact kk t
def gz_hist : gx_M := fun c => if c < 2 then gz_0 c else gz_tab ((c - 2) % 25)
def gz_ht (h0 q : Nat) (t0 t1 t2 t3 t4 : Nat → Nat) : Nat → Nat := fun j => if j = 0 then h0 else if j = 1 then q else if j < 27 then t0 (j - 2) else if j < 52 then t1 (j - 27) else if j < 77 then t2 (j - 52) else if j < 102 then t3 (j - 77) else t4 (j - 102)
theorem gz_hist_ws (D : va_G) (cI cT : ClassId) (h0 q : Nat) (t0 t1 t2 t3 t4 : Nat → Nat) : (h0, .inr (1, [.ref q, .int 0, .int 0])) :: (q, .inl (cT, (5, .inr (.inr (.inr (.inr (fun i => some (gz_ht h0 q t0 t1 t2 t3 t4 (1 + 1 + 25 * i)))))))) ) :: (((((([] : va_W) ++ gx_ws (gz_Y D cI cT kd_tab t0) gz_tab) ++ gx_ws (gz_Y D cI cT kd_tab t1) gz_tab) ++ gx_ws (gz_Y D cI cT kd_tab t2) gz_tab) ++ gx_ws (gz_Y D cI cT kd_tab t3) gz_tab) ++ gx_ws (gz_Y D cI cT kd_tab t4) gz_tab) = gx_ws (gz_Y D cI cT kd_hist (gz_ht h0 q t0 t1 t2 t3 t4)) gz_hist := by
  have hl : kd_tab.length = 25 := rfl
  rw [show kd_hist = [6, 9] ++ kd_tab ++ kd_tab ++ kd_tab ++ kd_tab ++ kd_tab from rfl, gz_app, gz_app, gz_app, gz_app, gz_app]
  rw [gz_congr D cI cT (kdl := kd_tab) (t := t0) (μ := gz_tab) (t' := fun j => gz_ht h0 q t0 t1 t2 t3 t4 ([6, 9].length + j)) (μ' := fun j => gz_hist ([6, 9].length + j)) (by decide) (fun j hj => ?_) (fun j hj => ?_),
    gz_congr D cI cT (kdl := kd_tab) (t := t1) (μ := gz_tab) (t' := fun j => gz_ht h0 q t0 t1 t2 t3 t4 (([6, 9] ++ kd_tab).length + j)) (μ' := fun j => gz_hist (([6, 9] ++ kd_tab).length + j)) (by decide) (fun j hj => ?_) (fun j hj => ?_),
    gz_congr D cI cT (kdl := kd_tab) (t := t2) (μ := gz_tab) (t' := fun j => gz_ht h0 q t0 t1 t2 t3 t4 (([6, 9] ++ kd_tab ++ kd_tab).length + j)) (μ' := fun j => gz_hist (([6, 9] ++ kd_tab ++ kd_tab).length + j)) (by decide) (fun j hj => ?_) (fun j hj => ?_),
    gz_congr D cI cT (kdl := kd_tab) (t := t3) (μ := gz_tab) (t' := fun j => gz_ht h0 q t0 t1 t2 t3 t4 (([6, 9] ++ kd_tab ++ kd_tab ++ kd_tab).length + j)) (μ' := fun j => gz_hist (([6, 9] ++ kd_tab ++ kd_tab ++ kd_tab).length + j)) (by decide) (fun j hj => ?_) (fun j hj => ?_),
    gz_congr D cI cT (kdl := kd_tab) (t := t4) (μ := gz_tab) (t' := fun j => gz_ht h0 q t0 t1 t2 t3 t4 (([6, 9] ++ kd_tab ++ kd_tab ++ kd_tab ++ kd_tab).length + j)) (μ' := fun j => gz_hist (([6, 9] ++ kd_tab ++ kd_tab ++ kd_tab ++ kd_tab).length + j)) (by decide) (fun j hj => ?_) (fun j hj => ?_)]
  · rfl
  all_goals rw [hl] at hj
  · show t4 j = gz_ht h0 q t0 t1 t2 t3 t4 (102 + j)
    unfold gz_ht
    rw [if_neg (by omega), if_neg (by omega), if_neg (by omega), if_neg (by omega), if_neg (by omega), if_neg (by omega), show 102 + j - 102 = j by omega]
  · show gz_tab j = gz_hist (102 + j)
    unfold gz_hist
    rw [if_neg (by omega), show (102 + j - 2) % 25 = j by omega]
  · show t3 j = gz_ht h0 q t0 t1 t2 t3 t4 (77 + j)
    unfold gz_ht
    rw [if_neg (by omega), if_neg (by omega), if_neg (by omega), if_neg (by omega), if_neg (by omega), if_pos (by omega), show 77 + j - 77 = j by omega]
  · show gz_tab j = gz_hist (77 + j)
    unfold gz_hist
    rw [if_neg (by omega), show (77 + j - 2) % 25 = j by omega]
  · show t2 j = gz_ht h0 q t0 t1 t2 t3 t4 (52 + j)
    unfold gz_ht
    rw [if_neg (by omega), if_neg (by omega), if_neg (by omega), if_neg (by omega), if_pos (by omega), show 52 + j - 52 = j by omega]
  · show gz_tab j = gz_hist (52 + j)
    unfold gz_hist
    rw [if_neg (by omega), show (52 + j - 2) % 25 = j by omega]
  · show t1 j = gz_ht h0 q t0 t1 t2 t3 t4 (27 + j)
    unfold gz_ht
    rw [if_neg (by omega), if_neg (by omega), if_neg (by omega), if_pos (by omega), show 27 + j - 27 = j by omega]
  · show gz_tab j = gz_hist (27 + j)
    unfold gz_hist
    rw [if_neg (by omega), show (27 + j - 2) % 25 = j by omega]
  · show t0 j = gz_ht h0 q t0 t1 t2 t3 t4 (2 + j)
    unfold gz_ht
    rw [if_neg (by omega), if_neg (by omega), if_pos (by omega), show 2 + j - 2 = j by omega]
  · show gz_tab j = gz_hist (2 + j)
    unfold gz_hist
    rw [if_neg (by omega), show (2 + j - 2) % 25 = j by omega]
set_option maxRecDepth 100000 in
set_option maxHeartbeats 4000000 in
theorem ct_X1_init (l : Launch) (D : va_G) (cI cT : ClassId) : gz_Con l yX1_init cX1_init 2 4 82 126 1430 D cI cT [] 1 [.null, .int 0, .int 0] (gz_R D cI cT kd_hist gz_hist) := by
  refine gz_Con_of (by decide) rfl (fun h0 K h => ⟨Nat.le_of_ble_eq_true rfl, ?_⟩)
  show K [(h0, .inr (1, [.null, .int 0, .int 0]))] 0 [(0, .ref h0)] [] 0 0
  refine gz_aload_n (pc := 0) h 0 dX1_init_0 rfl rfl ?_
  refine gz_objInit (pc := 1) h kw_ml_RX1_3 dX1_init_1 (Nat.le_of_ble_eq_true rfl) (Nat.le_of_ble_eq_true rfl) ?_
  refine gz_aload_n (pc := 4) h 0 dX1_init_4 rfl rfl ?_
  refine gz_iconst (v := 5) (pc := 5) h dX1_init_5 (by decide) ?_
  refine gz_newq (N := 5) (pc := 6) h kw_cl_RX1_9 (by decide) (by decide) (by decide) (Nat.le_of_ble_eq_true rfl) (Nat.le_of_ble_eq_true rfl) dX1_init_6 (fun q => ?_)
  refine gz_putF (pc := 9) (ws' := [(h0, .inr (1, [.ref q, .int 0, .int 0])), (q, .inl (cT, (5, .inr (.inr (.inr (.inr (fun _ => none)))))))]) (v := .ref q) h 0 0 rfl rfl inX1 (by decide) kw_fl_RX1_11 tyX1 tyX1_ok nmX1 (ty := .array (.object "GlassBowls$Table")) (by decide +kernel) rfl rfl (Nat.le_of_ble_eq_true rfl) rfl rfl rfl (by decide) dX1_init_9 ?_
  refine gz_aload_n (pc := 12) h 0 dX1_init_12 rfl rfl ?_
  refine gz_iconst (v := 0) (pc := 13) h dX1_init_13 (by decide) ?_
  refine gz_put (pc := 14) (ws' := [(h0, .inr (1, [.ref q, .int 0, .int 0])), (q, .inl (cT, (5, .inr (.inr (.inr (.inr (fun _ => none)))))))]) (v := .int 0) h 0 1 rfl rfl inX1 (by decide) kw_fl_RX1_17 tyX1 tyX1_ok nmX1 (ty := .int) (by decide +kernel) rfl rfl (Nat.le_of_ble_eq_true rfl) rfl rfl dX1_init_14 ?_
  refine gz_aload_n (pc := 17) h 0 dX1_init_17 rfl rfl ?_
  refine gz_iconst (v := 0) (pc := 18) h dX1_init_18 (by decide) ?_
  refine gz_put (pc := 19) (ws' := [(h0, .inr (1, [.ref q, .int 0, .int 0])), (q, .inl (cT, (5, .inr (.inr (.inr (.inr (fun _ => none)))))))]) (v := .int 0) h 0 2 rfl rfl inX1 (by decide) kw_fl_RX1_21 tyX1 tyX1_ok nmX1 (ty := .int) (by decide +kernel) rfl rfl (Nat.le_of_ble_eq_true rfl) rfl rfl dX1_init_19 ?_
  refine gz_iconst (v := nI 0) (pc := 22) h dX1_init_22 (by decide) ?_
  refine gz_istore_n (pc := 23) (L' := [(1, .int (nI 0)), (0, .ref h0)]) h dX1_init_23 rfl (by decide) rfl ?_
  refine gz_histstep h (i := 0) (rest := []) (cells := 1) (slots := 5) (by decide) (by decide) (by decide) (fun t0 => ?_)
  refine gz_histstep h (i := 1) (cells := 26) (slots := 290) (by decide) (by decide) (by decide) (fun t1 => ?_)
  refine gz_histstep h (i := 2) (cells := 51) (slots := 575) (by decide) (by decide) (by decide) (fun t2 => ?_)
  refine gz_histstep h (i := 3) (cells := 76) (slots := 860) (by decide) (by decide) (by decide) (fun t3 => ?_)
  refine gz_histstep h (i := 4) (cells := 101) (slots := 1145) (by decide) (by decide) (by decide) (fun t4 => ?_)
  refine gz_same (pre := [(h0, .inr (1, [.ref q, .int 0, .int 0]))]) (g := fun i => some (gz_ht h0 q t0 t1 t2 t3 t4 (1 + 1 + 25 * i))) h (fun j hj => by rcases (show j = 0 ∨ j = 1 ∨ j = 2 ∨ j = 3 ∨ j = 4 by omega) with rfl | rfl | rfl | rfl | rfl <;> rfl) ?_
  rw [List.singleton_append, gz_hist_ws]
  refine gz_iload_n (pc := 24) h 0 dX1_init_24 rfl rfl ?_
  refine gz_aload_n (pc := 25) h 1 dX1_init_25 rfl rfl ?_
  refine gz_get (pc := 26) (v := .ref q) h 0 0 rfl rfl inX1 (by decide) kw_fl_RX1_11 rfl dX1_init_26 ?_
  refine gz_alenT (pc := 29) (v := 5) (n := 5) h 1 rfl (by decide) dX1_init_29 ?_
  refine gz_icmp_ge (tgt := 52) (pc := 30) h dX1_init_30 (by decide) (fun _ => ?_) (fun c => absurd (by decide) c)
  exact gz_ret (pc := 52) h dX1_init_52 ⟨_, rfl, rfl⟩
def gz_bow : gx_M := fun c => if c < 1 then gz_0 c else if c < 26 then gz_tab (c - 1) else if c < 51 then gz_tab (c - 26) else if c < 178 then gz_hist (c - 51) else gz_0 (c - 178)
def gz_bt (h0 : Nat) (t1 t2 t3 t4 : Nat → Nat) : Nat → Nat := fun j => if j = 0 then h0 else if j < 26 then t1 (j - 1) else if j < 51 then t2 (j - 26) else if j < 178 then t3 (j - 51) else t4 (j - 178)
def kd_tabs : List Nat := kd_tab ++ kd_tab ++ kd_tab ++ kd_tab ++ kd_tab
set_option maxRecDepth 100000 in
/-- the history's cells: its object, the array, the tables -/
theorem gz_hist_cut (D : va_G) (cI cT : ClassId) (t : Nat → Nat) (μ : gx_M) : gx_ws (gz_Y D cI cT kd_hist t) μ = (t 0, .inr (1, [.ref (t 1), .int (μ 0 1), .int (μ 0 2)])) :: (t 1, .inl (cT, (5, .inr (.inr (.inr (.inr (fun i => some (t (1 + 1 + 25 * i)))))))) ) :: gx_ws (gz_Y D cI cT kd_tabs (fun j => t (2 + j))) (fun j => μ (2 + j)) := by
  have e : gx_ws (gz_Y D cI cT [6, 9] t) μ = [(t 0, .inr (1, [.ref (t 1), .int (μ 0 1), .int (μ 0 2)])), (t 1, .inl (cT, (5, .inr (.inr (.inr (.inr (fun i => some (t (1 + 1 + 25 * i)))))))))] := rfl
  rw [show kd_hist = [6, 9] ++ kd_tabs by decide, gz_app, e]
  rfl
set_option maxRecDepth 100000 in
theorem gz_bow_ws (D : va_G) (cI cT : ClassId) (h0 : Nat) (t1 t2 t3 t4 : Nat → Nat) : ([((h0, .inr (6, [.ref (t1 0), .ref (t2 0), .ref (t3 0), .ref (t4 0)])) : Nat × va_E)] ++ gx_ws (gz_Y D cI cT kd_tab t1) gz_tab ++ gx_ws (gz_Y D cI cT kd_tab t2) gz_tab ++ [(t3 0, .inr (1, [.ref (t3 1), .int 0, .int 0]))]) ++ (t3 1, .inl (cT, (5, .inr (.inr (.inr (.inr (fun i => some (gz_bt h0 t1 t2 t3 t4 (51 + (1 + 1 + 25 * i))))))))) ) :: (gx_ws (gz_Y D cI cT kd_tabs (fun j => t3 (2 + j))) (fun j => gz_hist (2 + j)) ++ gx_ws (gz_Y D cI cT kd_text t4) gz_0) = gx_ws (gz_Y D cI cT kd_bow (gz_bt h0 t1 t2 t3 t4)) gz_bow := by
  have hl : kd_tab.length = 25 := rfl
  have hl2 : kd_tabs.length = 125 := rfl
  have hl3 : kd_text.length = 3 := rfl
  rw [show kd_bow = [7] ++ kd_tab ++ kd_tab ++ kd_hist ++ kd_text from rfl, gz_app D cI cT ([7] ++ kd_tab ++ kd_tab ++ kd_hist) kd_text, gz_app D cI cT ([7] ++ kd_tab ++ kd_tab) kd_hist, gz_app D cI cT ([7] ++ kd_tab) kd_tab, gz_app D cI cT [7] kd_tab, gz_hist_cut]
  rw [gz_congr D cI cT (kdl := kd_tab) (t := t1) (μ := gz_tab) (t' := fun j => gz_bt h0 t1 t2 t3 t4 ([7].length + j)) (μ' := fun j => gz_bow ([7].length + j)) (by decide) (fun j hj => ?_) (fun j hj => ?_),
    gz_congr D cI cT (kdl := kd_tab) (t := t2) (μ := gz_tab) (t' := fun j => gz_bt h0 t1 t2 t3 t4 (([7] ++ kd_tab).length + j)) (μ' := fun j => gz_bow (([7] ++ kd_tab).length + j)) (by decide) (fun j hj => ?_) (fun j hj => ?_),
    gz_congr D cI cT (kdl := kd_tabs) (t := fun j => t3 (2 + j)) (μ := fun j => gz_hist (2 + j)) (t' := fun j => gz_bt h0 t1 t2 t3 t4 (([7] ++ kd_tab ++ kd_tab).length + (2 + j))) (μ' := fun j => gz_bow (([7] ++ kd_tab ++ kd_tab).length + (2 + j))) (by decide) (fun j hj => ?_) (fun j hj => ?_),
    gz_congr D cI cT (kdl := kd_text) (t := t4) (μ := gz_0) (t' := fun j => gz_bt h0 t1 t2 t3 t4 (([7] ++ kd_tab ++ kd_tab ++ kd_hist).length + j)) (μ' := fun j => gz_bow (([7] ++ kd_tab ++ kd_tab ++ kd_hist).length + j)) (by decide) (fun j hj => ?_) (fun j hj => ?_)]
  · simp only [List.append_assoc, List.cons_append, List.nil_append]
    rfl
  · rw [hl3] at hj
    show t4 j = gz_bt h0 t1 t2 t3 t4 (178 + j)
    unfold gz_bt
    rw [if_neg (by omega), if_neg (by omega), if_neg (by omega), if_neg (by omega), show 178 + j - 178 = j by omega]
  · rw [hl3] at hj
    show gz_0 j = gz_bow (178 + j)
    unfold gz_bow
    rw [if_neg (by omega), if_neg (by omega), if_neg (by omega), if_neg (by omega), show 178 + j - 178 = j by omega]
  · rw [hl2] at hj
    show t3 (2 + j) = gz_bt h0 t1 t2 t3 t4 (51 + (2 + j))
    unfold gz_bt
    rw [if_neg (by omega), if_neg (by omega), if_neg (by omega), if_pos (by omega), show 51 + (2 + j) - 51 = 2 + j by omega]
  · rw [hl2] at hj
    show gz_hist (2 + j) = gz_bow (51 + (2 + j))
    unfold gz_bow
    rw [if_neg (by omega), if_neg (by omega), if_neg (by omega), if_pos (by omega), show 51 + (2 + j) - 51 = 2 + j by omega]
  · rw [hl] at hj
    show t2 j = gz_bt h0 t1 t2 t3 t4 (26 + j)
    unfold gz_bt
    rw [if_neg (by omega), if_neg (by omega), if_pos (by omega), show 26 + j - 26 = j by omega]
  · rw [hl] at hj
    show gz_tab j = gz_bow (26 + j)
    unfold gz_bow
    rw [if_neg (by omega), if_neg (by omega), if_pos (by omega), show 26 + j - 26 = j by omega]
  · rw [hl] at hj
    show t1 j = gz_bt h0 t1 t2 t3 t4 (1 + j)
    unfold gz_bt
    rw [if_neg (by omega), if_pos (by omega), show 1 + j - 1 = j by omega]
  · rw [hl] at hj
    show gz_tab j = gz_bow (1 + j)
    unfold gz_bow
    rw [if_neg (by omega), if_pos (by omega), show 1 + j - 1 = j by omega]
set_option maxRecDepth 100000 in
set_option maxHeartbeats 4000000 in
theorem ct_X6_init (l : Launch) (D : va_G) (cI cT : ClassId) : gz_Con l yX6_init cX6_init 1 5 103 180 2112 D cI cT [] 6 [.null, .null, .null, .null] (gz_R D cI cT kd_bow gz_bow) := by
  refine gz_Con_of (by decide) rfl (fun h0 K h => ⟨Nat.le_of_ble_eq_true rfl, ?_⟩)
  show K [(h0, .inr (6, [.null, .null, .null, .null]))] 0 [(0, .ref h0)] [] 0 0
  refine gz_aload_n (pc := 0) h 0 dX6_init_0 rfl rfl ?_
  refine gz_objInit (pc := 1) h kw_ml_RX6_1 dX6_init_1 (Nat.le_of_ble_eq_true rfl) (Nat.le_of_ble_eq_true rfl) ?_
  refine gz_aload_n (pc := 4) h 0 dX6_init_4 rfl rfl ?_
  refine gz_new (pc := 5) (ci := 4) (fs := [.null, .null, .null, .int 0]) h inX4 tyX4 tyX4_ok kw_cl_RX6_7 kw_it_RX4 kw_in_RX4 rfl (fun j hj => by rcases (show j = 0 ∨ j = 1 ∨ j = 2 ∨ j = 3 by omega) with rfl | rfl | rfl | rfl <;> rfl) (Nat.le_of_ble_eq_true rfl) (Nat.le_of_ble_eq_true rfl) dX6_init_5 (fun q0 => ?_)
  refine gz_dup (pc := 8) h dX6_init_8 rfl ?_
  refine gz_init (pc := 9) (cells := 1) (slots := 4) (st := [.ref q0, .ref h0]) (ws := [(h0, .inr (6, [.null, .null, .null, .null]))]) (As := []) h (ct_X4_init l D cI cT) rfl ⟨by decide, by decide, (show (parseMethodDescriptor yX4_init.desc).map (fun d => d.parameters.length) = some 0 by decide +kernel)⟩ kw_im_X4_init kw_in_RX4 kw_co_X4_init ⟨Nat.le_of_ble_eq_true rfl, Nat.le_of_ble_eq_true rfl⟩ (Nat.le_of_ble_eq_true rfl) ⟨Nat.le_of_ble_eq_true rfl, Nat.le_of_ble_eq_true rfl⟩ dX6_init_9 ?_ kw_ml_RX6_9
  rintro wn ⟨t1, ht1, rfl⟩
  subst ht1
  refine gz_putF (pc := 12) (ws' := [(h0, .inr (6, [.ref (t1 0), .null, .null, .null]))] ++ gx_ws (gz_Y D cI cT kd_tab t1) gz_tab) (v := .ref (t1 0)) h 0 0 rfl rfl inX6 (by decide) kw_fl_RX6_10 tyX6 tyX6_ok nmX6 (ty := .object "GlassBowls$Table") (by decide +kernel) rfl rfl (Nat.le_of_ble_eq_true rfl) rfl rfl rfl (by decide) dX6_init_12 ?_
  refine gz_aload_n (pc := 15) h 0 dX6_init_15 rfl rfl ?_
  refine gz_new (pc := 16) (ci := 4) (fs := [.null, .null, .null, .int 0]) h inX4 tyX4 tyX4_ok kw_cl_RX6_7 kw_it_RX4 kw_in_RX4 rfl (fun j hj => by rcases (show j = 0 ∨ j = 1 ∨ j = 2 ∨ j = 3 by omega) with rfl | rfl | rfl | rfl <;> rfl) (Nat.le_of_ble_eq_true rfl) (Nat.le_of_ble_eq_true rfl) dX6_init_16 (fun q1 => ?_)
  refine gz_dup (pc := 19) h dX6_init_19 rfl ?_
  refine gz_init (pc := 20) (cells := 26) (slots := 289) (st := [.ref q1, .ref h0]) (ws := [(h0, .inr (6, [.ref (t1 0), .null, .null, .null]))] ++ gx_ws (gz_Y D cI cT kd_tab t1) gz_tab) (As := []) h (ct_X4_init l D cI cT) rfl ⟨by decide, by decide, (show (parseMethodDescriptor yX4_init.desc).map (fun d => d.parameters.length) = some 0 by decide +kernel)⟩ kw_im_X4_init kw_in_RX4 kw_co_X4_init ⟨Nat.le_of_ble_eq_true rfl, Nat.le_of_ble_eq_true rfl⟩ (Nat.le_of_ble_eq_true rfl) ⟨Nat.le_of_ble_eq_true rfl, Nat.le_of_ble_eq_true rfl⟩ dX6_init_20 ?_ kw_ml_RX6_9
  rintro wn ⟨t2, ht2, rfl⟩
  subst ht2
  refine gz_putF (pc := 23) (ws' := [(h0, .inr (6, [.ref (t1 0), .ref (t2 0), .null, .null]))] ++ gx_ws (gz_Y D cI cT kd_tab t1) gz_tab ++ gx_ws (gz_Y D cI cT kd_tab t2) gz_tab) (v := .ref (t2 0)) h 0 1 rfl rfl inX6 (by decide) kw_fl_RX6_16 tyX6 tyX6_ok nmX6 (ty := .object "GlassBowls$Table") (by decide +kernel) rfl rfl (Nat.le_of_ble_eq_true rfl) rfl rfl rfl (by decide) dX6_init_23 ?_
  refine gz_aload_n (pc := 26) h 0 dX6_init_26 rfl rfl ?_
  refine gz_new (pc := 27) (ci := 1) (fs := [.null, .int 0, .int 0]) h inX1 tyX1 tyX1_ok kw_cl_RX6_19 kw_it_RX1 kw_in_RX1 rfl (fun j hj => by rcases (show j = 0 ∨ j = 1 ∨ j = 2 by omega) with rfl | rfl | rfl <;> rfl) (Nat.le_of_ble_eq_true rfl) (Nat.le_of_ble_eq_true rfl) dX6_init_27 (fun q2 => ?_)
  refine gz_dup (pc := 30) h dX6_init_30 rfl ?_
  refine gz_init (pc := 31) (cells := 51) (slots := 573) (st := [.ref q2, .ref h0]) (ws := [(h0, .inr (6, [.ref (t1 0), .ref (t2 0), .null, .null]))] ++ gx_ws (gz_Y D cI cT kd_tab t1) gz_tab ++ gx_ws (gz_Y D cI cT kd_tab t2) gz_tab) (As := []) h (ct_X1_init l D cI cT) rfl ⟨by decide, by decide, (show (parseMethodDescriptor yX1_init.desc).map (fun d => d.parameters.length) = some 0 by decide +kernel)⟩ kw_im_X1_init kw_in_RX1 kw_co_X1_init ⟨Nat.le_of_ble_eq_true rfl, Nat.le_of_ble_eq_true rfl⟩ (Nat.le_of_ble_eq_true rfl) ⟨Nat.le_of_ble_eq_true rfl, Nat.le_of_ble_eq_true rfl⟩ dX6_init_31 ?_ kw_ml_RX6_21
  rintro wn ⟨t3, ht3, rfl⟩
  subst ht3
  refine gz_putF (pc := 34) (ws' := [(h0, .inr (6, [.ref (t1 0), .ref (t2 0), .ref (t3 0), .null]))] ++ gx_ws (gz_Y D cI cT kd_tab t1) gz_tab ++ gx_ws (gz_Y D cI cT kd_tab t2) gz_tab ++ gx_ws (gz_Y D cI cT kd_hist t3) gz_hist) (v := .ref (t3 0)) h 0 2 rfl rfl inX6 (by decide) kw_fl_RX6_22 tyX6 tyX6_ok nmX6 (ty := .object "GlassBowls$History") (by decide +kernel) rfl rfl (Nat.le_of_ble_eq_true rfl) rfl rfl rfl (by decide) dX6_init_34 ?_
  refine gz_aload_n (pc := 37) h 0 dX6_init_37 rfl rfl ?_
  refine gz_new (pc := 38) (ci := 5) (fs := [.null, .int 0, .int 0, .int 0, .int 0, .int 0, .int 0, .int 0]) h inX5 tyX5 tyX5_ok kw_cl_RX6_26 kw_it_RX5 kw_in_RX5 rfl (fun j hj => by rcases (show j = 0 ∨ j = 1 ∨ j = 2 ∨ j = 3 ∨ j = 4 ∨ j = 5 ∨ j = 6 ∨ j = 7 by omega) with rfl | rfl | rfl | rfl | rfl | rfl | rfl | rfl <;> rfl) (Nat.le_of_ble_eq_true rfl) (Nat.le_of_ble_eq_true rfl) dX6_init_38 (fun q3 => ?_)
  refine gz_dup (pc := 41) h dX6_init_41 rfl ?_
  refine gz_initN (pc := 42) (cells := 178) (slots := 2011) (st := [.ref q3, .ref h0]) (host := RX6) (ws := [(h0, .inr (6, [.ref (t1 0), .ref (t2 0), .ref (t3 0), .null]))] ++ gx_ws (gz_Y D cI cT kd_tab t1) gz_tab ++ gx_ws (gz_Y D cI cT kd_tab t2) gz_tab ++ gx_ws (gz_Y D cI cT kd_hist t3) gz_hist) (As := []) h (ct_X5_init l D cI cT) rfl ⟨by decide, by decide, (show (parseMethodDescriptor yX5_init.desc).map (fun d => d.parameters.length) = some 0 by decide +kernel)⟩ kw_im_X5_init kw_in_RX5 kw_co_X5_init ⟨Nat.le_of_ble_eq_true rfl, Nat.le_of_ble_eq_true rfl⟩ (Nat.le_of_ble_eq_true rfl) ⟨Nat.le_of_ble_eq_true rfl, Nat.le_of_ble_eq_true rfl⟩ dX6_init_42 ?_ (List.mem_of_getElem? (i := 2) rfl)
  rintro wn ⟨t4, ht4, rfl⟩
  subst ht4
  refine gz_putF (pc := 45) (ws' := [(h0, .inr (6, [.ref (t1 0), .ref (t2 0), .ref (t3 0), .ref (t4 0)]))] ++ gx_ws (gz_Y D cI cT kd_tab t1) gz_tab ++ gx_ws (gz_Y D cI cT kd_tab t2) gz_tab ++ gx_ws (gz_Y D cI cT kd_hist t3) gz_hist ++ gx_ws (gz_Y D cI cT kd_text t4) gz_0) (v := .ref (t4 0)) h 0 3 rfl rfl inX6 (by decide) kw_fl_RX6_29 tyX6 tyX6_ok nmX6 (ty := .object "GlassBowls$Text") (by decide +kernel) rfl rfl (Nat.le_of_ble_eq_true rfl) rfl rfl rfl (by decide) dX6_init_45 ?_
  rw [gz_hist_cut]
  have e1 : ([((h0, .inr (6, [.ref (t1 0), .ref (t2 0), .ref (t3 0), .ref (t4 0)])) : Nat × va_E)] ++ gx_ws (gz_Y D cI cT kd_tab t1) gz_tab ++ gx_ws (gz_Y D cI cT kd_tab t2) gz_tab ++ ((t3 0, .inr (1, [.ref (t3 1), .int (gz_hist 0 1), .int (gz_hist 0 2)])) :: (t3 1, .inl (cT, (5, .inr (.inr (.inr (.inr (fun i => some (t3 (1 + 1 + 25 * i)))))))) ) :: gx_ws (gz_Y D cI cT kd_tabs (fun j => t3 (2 + j))) (fun j => gz_hist (2 + j))) ++ gx_ws (gz_Y D cI cT kd_text t4) gz_0 : va_W) = ([((h0, .inr (6, [.ref (t1 0), .ref (t2 0), .ref (t3 0), .ref (t4 0)])) : Nat × va_E)] ++ gx_ws (gz_Y D cI cT kd_tab t1) gz_tab ++ gx_ws (gz_Y D cI cT kd_tab t2) gz_tab ++ [(t3 0, .inr (1, [.ref (t3 1), .int 0, .int 0]))]) ++ (t3 1, .inl (cT, (5, .inr (.inr (.inr (.inr (fun i => some (t3 (1 + 1 + 25 * i)))))))) ) :: (gx_ws (gz_Y D cI cT kd_tabs (fun j => t3 (2 + j))) (fun j => gz_hist (2 + j)) ++ gx_ws (gz_Y D cI cT kd_text t4) gz_0) := by
    simp only [List.append_assoc, List.cons_append, List.nil_append]
    rfl
  rw [e1]
  refine gz_same (g := fun i => some (gz_bt h0 t1 t2 t3 t4 (51 + (1 + 1 + 25 * i)))) h (fun j hj => by rcases (show j = 0 ∨ j = 1 ∨ j = 2 ∨ j = 3 ∨ j = 4 by omega) with rfl | rfl | rfl | rfl | rfl <;> rfl) ?_
  rw [gz_bow_ws]
  exact gz_ret (pc := 48) h dX6_init_48 ⟨_, rfl, rfl⟩
