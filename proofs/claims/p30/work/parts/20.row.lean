def fn_X3_put (kd : Nat → Nat) (μ : gx_M) (c : Nat) (p1 : Int32) (p2 : Int32) : Option (Int32 × gx_M) :=
  (if p1 < 0 then
some (0, μ)
else
(if nI (kd (c + 1) - 100) ≤ p1 then
some (0, μ)
else
(if gx_ix p1 (kd (c + 1) - 100) = true then some (0, (gx_u μ (c + 1) (Int32.toNatClampNeg p1) p2)) else none)))
set_option maxRecDepth 100000 in
set_option maxHeartbeats 4000000 in
theorem ct_X3_put (l : Launch) (Y : gx_Y) (μ : gx_M) (c : Nat) (p1 : Int32) (p2 : Int32) (rr : Int32 × gx_M) {Nc : Nat} (hc : gk_row Y c Nc) (hf : fn_X3_put (gy_k Y) μ c p1 p2 = some rr) : gx_Con l yX3_put cX3_put 3 none 0 0 Y [.ref (gy_a Y c), .int p1, .int p2] μ rr := by
  refine gx_Con_of (L0 := [(0, .ref (gy_a Y c)), (1, .int p1), (2, .int p2)]) (by decide) (Nat.le_of_ble_eq_true rfl) rfl (fun K hK => ?_)
  unfold fn_X3_put at hf
  refine gw_iload_n (pc := 0) hK 1 dX3_put_0 rfl rfl ?_
  refine gw_if_lt (tgt := 20) (pc := 1) hK dX3_put_1 (by decide) hf (fun cc1 hf => ?_) (fun cc1 hf => ?_)
  ·
    exact gw_ret_v (pc := 20) hK dX3_put_20 (Option.some.inj hf)
  ·
    refine gw_iload_n (pc := 4) hK 1 dX3_put_4 rfl rfl ?_
    refine gw_aload_n (pc := 5) hK 0 dX3_put_5 rfl rfl ?_
    refine gf_X3_13 (pc := 6) hK hc.1 dX3_put_6 ?_
    refine gw_alen (pc := 9) hK hc.2.1 (gk_100 hc.2) dX3_put_9 ?_
    refine gw_icmp_ge (tgt := 20) (pc := 10) hK dX3_put_10 (by decide) hf (fun cc2 hf => ?_) (fun cc2 hf => ?_)
    ·
      exact gw_ret_v (pc := 20) hK dX3_put_20 (Option.some.inj hf)
    ·
      refine gw_aload_n (pc := 13) hK 0 dX3_put_13 rfl rfl ?_
      refine gf_X3_13 (pc := 14) hK hc.1 dX3_put_14 ?_
      refine gw_iload_n (pc := 17) hK 1 dX3_put_17 rfl rfl ?_
      refine gw_iload_n (pc := 18) hK 2 dX3_put_18 rfl rfl ?_
      refine gw_iast (pc := 19) hK hc.2.1 (gk_100 hc.2) dX3_put_19 hf (fun hf => ?_)
      exact gw_ret_v (pc := 20) hK dX3_put_20 (Option.some.inj hf)
theorem gv_X0_52 {l : Launch} {cc : ByteArray} {nL fr lo : Nat} {ret : Option FieldType} {Y : gx_Y} {Post : Value → gx_M → Prop} {K : gx_KT} {pc : Nat} {μ : gx_M} {L : List (Nat × Value)} {st : List Value} {α : Type} {rr : α} (h : gx_K l RX0 cc nL fr lo ret Y Post K) {c : Nat} {p1 : Int32} {p2 : Int32} {Nc : Nat} (hc : gk_row Y c Nc) (d : decode cc pc = .ok (.invokevirtual 52, 3)) (hR : 0 + 1 ≤ fr ∧ 22 ≤ lo) (hst : (st.map fun v => v.category).sum ≤ 8) {k : Int32 → gx_M → Option α} (hf : gx_b (fn_X3_put (gy_k Y) μ c p1 p2) k = some rr) (kk : ∀ (r : Int32) (m : gx_M), k r m = some rr → K m (pc + 3) L (st)) : K μ pc L (.int p2 :: .int p1 :: .ref (gy_a Y c) :: st) := by
  obtain ⟨r, m, e, hk⟩ := gx_b_some hf
  exact gw_callV (As := [.int p1, .int p2]) (q := (r, m)) h hc.1 (by decide) rfl (by refine ⟨rfl, by decide, by decide, (show (parseMethodDescriptor yX3_put.desc).map (fun d => d.parameters.length) = some 2 by decide +kernel)⟩) kw_ml_RX0_52 kw_im_X3_put kw_se_X3_put kw_in_RX3 kw_co_X3_put hR hst d (ct_X3_put l Y μ c p1 p2 (r, m) hc e) (kk r m hk)
theorem gv_X2_66 {l : Launch} {cc : ByteArray} {nL fr lo : Nat} {ret : Option FieldType} {Y : gx_Y} {Post : Value → gx_M → Prop} {K : gx_KT} {pc : Nat} {μ : gx_M} {L : List (Nat × Value)} {st : List Value} {α : Type} {rr : α} (h : gx_K l RX2 cc nL fr lo ret Y Post K) {c : Nat} {p1 : Int32} {p2 : Int32} {Nc : Nat} (hc : gk_row Y c Nc) (d : decode cc pc = .ok (.invokevirtual 66, 3)) (hR : 0 + 1 ≤ fr ∧ 22 ≤ lo) (hst : (st.map fun v => v.category).sum ≤ 8) {k : Int32 → gx_M → Option α} (hf : gx_b (fn_X3_put (gy_k Y) μ c p1 p2) k = some rr) (kk : ∀ (r : Int32) (m : gx_M), k r m = some rr → K m (pc + 3) L (st)) : K μ pc L (.int p2 :: .int p1 :: .ref (gy_a Y c) :: st) := by
  obtain ⟨r, m, e, hk⟩ := gx_b_some hf
  exact gw_callV (As := [.int p1, .int p2]) (q := (r, m)) h hc.1 (by decide) rfl (by refine ⟨rfl, by decide, by decide, (show (parseMethodDescriptor yX3_put.desc).map (fun d => d.parameters.length) = some 2 by decide +kernel)⟩) kw_ml_RX2_66 kw_im_X3_put kw_se_X3_put kw_in_RX3 kw_co_X3_put hR hst d (ct_X3_put l Y μ c p1 p2 (r, m) hc e) (kk r m hk)
theorem gv_X3_23 {l : Launch} {cc : ByteArray} {nL fr lo : Nat} {ret : Option FieldType} {Y : gx_Y} {Post : Value → gx_M → Prop} {K : gx_KT} {pc : Nat} {μ : gx_M} {L : List (Nat × Value)} {st : List Value} {α : Type} {rr : α} (h : gx_K l RX3 cc nL fr lo ret Y Post K) {c : Nat} {p1 : Int32} {p2 : Int32} {Nc : Nat} (hc : gk_row Y c Nc) (d : decode cc pc = .ok (.invokevirtual 23, 3)) (hR : 0 + 1 ≤ fr ∧ 22 ≤ lo) (hst : (st.map fun v => v.category).sum ≤ 8) {k : Int32 → gx_M → Option α} (hf : gx_b (fn_X3_put (gy_k Y) μ c p1 p2) k = some rr) (kk : ∀ (r : Int32) (m : gx_M), k r m = some rr → K m (pc + 3) L (st)) : K μ pc L (.int p2 :: .int p1 :: .ref (gy_a Y c) :: st) := by
  obtain ⟨r, m, e, hk⟩ := gx_b_some hf
  exact gw_callV (As := [.int p1, .int p2]) (q := (r, m)) h hc.1 (by decide) rfl (by refine ⟨rfl, by decide, by decide, (show (parseMethodDescriptor yX3_put.desc).map (fun d => d.parameters.length) = some 2 by decide +kernel)⟩) kw_ml_RX3_23 kw_im_X3_put kw_se_X3_put kw_in_RX3 kw_co_X3_put hR hst d (ct_X3_put l Y μ c p1 p2 (r, m) hc e) (kk r m hk)
theorem gv_X4_38 {l : Launch} {cc : ByteArray} {nL fr lo : Nat} {ret : Option FieldType} {Y : gx_Y} {Post : Value → gx_M → Prop} {K : gx_KT} {pc : Nat} {μ : gx_M} {L : List (Nat × Value)} {st : List Value} {α : Type} {rr : α} (h : gx_K l RX4 cc nL fr lo ret Y Post K) {c : Nat} {p1 : Int32} {p2 : Int32} {Nc : Nat} (hc : gk_row Y c Nc) (d : decode cc pc = .ok (.invokevirtual 38, 3)) (hR : 0 + 1 ≤ fr ∧ 22 ≤ lo) (hst : (st.map fun v => v.category).sum ≤ 8) {k : Int32 → gx_M → Option α} (hf : gx_b (fn_X3_put (gy_k Y) μ c p1 p2) k = some rr) (kk : ∀ (r : Int32) (m : gx_M), k r m = some rr → K m (pc + 3) L (st)) : K μ pc L (.int p2 :: .int p1 :: .ref (gy_a Y c) :: st) := by
  obtain ⟨r, m, e, hk⟩ := gx_b_some hf
  exact gw_callV (As := [.int p1, .int p2]) (q := (r, m)) h hc.1 (by decide) rfl (by refine ⟨rfl, by decide, by decide, (show (parseMethodDescriptor yX3_put.desc).map (fun d => d.parameters.length) = some 2 by decide +kernel)⟩) kw_ml_RX4_38 kw_im_X3_put kw_se_X3_put kw_in_RX3 kw_co_X3_put hR hst d (ct_X3_put l Y μ c p1 p2 (r, m) hc e) (kk r m hk)
theorem gv_X5_42 {l : Launch} {cc : ByteArray} {nL fr lo : Nat} {ret : Option FieldType} {Y : gx_Y} {Post : Value → gx_M → Prop} {K : gx_KT} {pc : Nat} {μ : gx_M} {L : List (Nat × Value)} {st : List Value} {α : Type} {rr : α} (h : gx_K l RX5 cc nL fr lo ret Y Post K) {c : Nat} {p1 : Int32} {p2 : Int32} {Nc : Nat} (hc : gk_row Y c Nc) (d : decode cc pc = .ok (.invokevirtual 42, 3)) (hR : 0 + 1 ≤ fr ∧ 22 ≤ lo) (hst : (st.map fun v => v.category).sum ≤ 8) {k : Int32 → gx_M → Option α} (hf : gx_b (fn_X3_put (gy_k Y) μ c p1 p2) k = some rr) (kk : ∀ (r : Int32) (m : gx_M), k r m = some rr → K m (pc + 3) L (st)) : K μ pc L (.int p2 :: .int p1 :: .ref (gy_a Y c) :: st) := by
  obtain ⟨r, m, e, hk⟩ := gx_b_some hf
  exact gw_callV (As := [.int p1, .int p2]) (q := (r, m)) h hc.1 (by decide) rfl (by refine ⟨rfl, by decide, by decide, (show (parseMethodDescriptor yX3_put.desc).map (fun d => d.parameters.length) = some 2 by decide +kernel)⟩) kw_ml_RX5_42 kw_im_X3_put kw_se_X3_put kw_in_RX3 kw_co_X3_put hR hst d (ct_X3_put l Y μ c p1 p2 (r, m) hc e) (kk r m hk)
def fn_X3_copyFrom (kd : Nat → Nat) (μ : gx_M) (c : Nat) (c1 : Nat) : Option (Int32 × gx_M) :=
  (if ¬ (if nI (kd (c + 1) - 100) < nI (kd (c1 + 1) - 100) then nI (kd (c + 1) - 100) else nI (kd (c1 + 1) - 100)) < 0 ∧ Int32.toNatClampNeg (if nI (kd (c + 1) - 100) < nI (kd (c1 + 1) - 100) then nI (kd (c + 1) - 100) else nI (kd (c1 + 1) - 100)) ≤ kd (c1 + 1) - 100 ∧ Int32.toNatClampNeg (if nI (kd (c + 1) - 100) < nI (kd (c1 + 1) - 100) then nI (kd (c + 1) - 100) else nI (kd (c1 + 1) - 100)) ≤ kd (c + 1) - 100 then some (0, (gx_r μ (c + 1) (va_cpy (μ (c1 + 1)) (μ (c + 1)) 0 0 (Int32.toNatClampNeg (if nI (kd (c + 1) - 100) < nI (kd (c1 + 1) - 100) then nI (kd (c + 1) - 100) else nI (kd (c1 + 1) - 100)))))) else none)
set_option maxRecDepth 100000 in
set_option maxHeartbeats 4000000 in
theorem ct_X3_copyFrom (l : Launch) (Y : gx_Y) (μ : gx_M) (c : Nat) (c1 : Nat) (rr : Int32 × gx_M) {Nc : Nat} {Nc1 : Nat} (hc : gk_row Y c Nc) (hc1 : gk_row Y c1 Nc1) (hf : fn_X3_copyFrom (gy_k Y) μ c c1 = some rr) : gx_Con l yX3_copyFrom cX3_copyFrom 2 none 1 40 Y [.ref (gy_a Y c), .ref (gy_a Y c1)] μ rr := by
  refine gx_Con_of (L0 := [(0, .ref (gy_a Y c)), (1, .ref (gy_a Y c1))]) (by decide) (Nat.le_of_ble_eq_true rfl) rfl (fun K hK => ?_)
  unfold fn_X3_copyFrom at hf
  refine gw_aload_n (pc := 0) hK 1 dX3_copyFrom_0 rfl rfl ?_
  refine gw_ifnull (pc := 1) hK dX3_copyFrom_1 ?_
  refine gw_aload_n (pc := 4) hK 1 dX3_copyFrom_4 rfl rfl ?_
  refine gf_X3_13 (pc := 5) hK hc1.1 dX3_copyFrom_5 ?_
  refine gw_iconst (v := 0) (pc := 8) hK dX3_copyFrom_8 (by decide) ?_
  refine gw_aload_n (pc := 9) hK 0 dX3_copyFrom_9 rfl rfl ?_
  refine gf_X3_13 (pc := 10) hK hc.1 dX3_copyFrom_10 ?_
  refine gw_iconst (v := 0) (pc := 13) hK dX3_copyFrom_13 (by decide) ?_
  refine gw_aload_n (pc := 14) hK 1 dX3_copyFrom_14 rfl rfl ?_
  refine gf_X3_13 (pc := 15) hK hc1.1 dX3_copyFrom_15 ?_
  refine gw_alen (pc := 18) hK hc1.2.1 (gk_100 hc1.2) dX3_copyFrom_18 ?_
  refine gw_aload_n (pc := 19) hK 0 dX3_copyFrom_19 rfl rfl ?_
  refine gf_X3_13 (pc := 20) hK hc.1 dX3_copyFrom_20 ?_
  refine gw_alen (pc := 23) hK hc.2.1 (gk_100 hc.2) dX3_copyFrom_23 ?_
  refine gw_mmin (pc := 24) hK kw_ml_RX3_27 dX3_copyFrom_24 (Nat.le_of_ble_eq_true rfl) (Nat.le_of_ble_eq_true rfl) ?_
  refine gw_copy (pc := 27) hK hc1.2.1 (gk_100 hc1.2) hc.2.1 (gk_100 hc.2) kw_ml_RX3_30 dX3_copyFrom_27 (Nat.le_of_ble_eq_true rfl) (by decide) hf (fun hf => ?_)
  exact gw_ret_v (pc := 30) hK dX3_copyFrom_30 (Option.some.inj hf)
theorem gv_X0_87 {l : Launch} {cc : ByteArray} {nL fr lo : Nat} {ret : Option FieldType} {Y : gx_Y} {Post : Value → gx_M → Prop} {K : gx_KT} {pc : Nat} {μ : gx_M} {L : List (Nat × Value)} {st : List Value} {α : Type} {rr : α} (h : gx_K l RX0 cc nL fr lo ret Y Post K) {c : Nat} {c1 : Nat} {Nc : Nat} {Nc1 : Nat} (hc : gk_row Y c Nc) (hc1 : gk_row Y c1 Nc1) (d : decode cc pc = .ok (.invokevirtual 87, 3)) (hR : 1 + 1 ≤ fr ∧ 61 ≤ lo) (hst : (st.map fun v => v.category).sum ≤ 8) {k : Int32 → gx_M → Option α} (hf : gx_b (fn_X3_copyFrom (gy_k Y) μ c c1) k = some rr) (kk : ∀ (r : Int32) (m : gx_M), k r m = some rr → K m (pc + 3) L (st)) : K μ pc L (.ref (gy_a Y c1) :: .ref (gy_a Y c) :: st) := by
  obtain ⟨r, m, e, hk⟩ := gx_b_some hf
  exact gw_callV (As := [.ref (gy_a Y c1)]) (q := (r, m)) h hc.1 (by decide) rfl (by refine ⟨rfl, by decide, by decide, (show (parseMethodDescriptor yX3_copyFrom.desc).map (fun d => d.parameters.length) = some 1 by decide +kernel)⟩) kw_ml_RX0_87 kw_im_X3_copyFrom kw_se_X3_copyFrom kw_in_RX3 kw_co_X3_copyFrom hR hst d (ct_X3_copyFrom l Y μ c c1 (r, m) hc hc1 e) (kk r m hk)
theorem gv_X2_96 {l : Launch} {cc : ByteArray} {nL fr lo : Nat} {ret : Option FieldType} {Y : gx_Y} {Post : Value → gx_M → Prop} {K : gx_KT} {pc : Nat} {μ : gx_M} {L : List (Nat × Value)} {st : List Value} {α : Type} {rr : α} (h : gx_K l RX2 cc nL fr lo ret Y Post K) {c : Nat} {c1 : Nat} {Nc : Nat} {Nc1 : Nat} (hc : gk_row Y c Nc) (hc1 : gk_row Y c1 Nc1) (d : decode cc pc = .ok (.invokevirtual 96, 3)) (hR : 1 + 1 ≤ fr ∧ 61 ≤ lo) (hst : (st.map fun v => v.category).sum ≤ 8) {k : Int32 → gx_M → Option α} (hf : gx_b (fn_X3_copyFrom (gy_k Y) μ c c1) k = some rr) (kk : ∀ (r : Int32) (m : gx_M), k r m = some rr → K m (pc + 3) L (st)) : K μ pc L (.ref (gy_a Y c1) :: .ref (gy_a Y c) :: st) := by
  obtain ⟨r, m, e, hk⟩ := gx_b_some hf
  exact gw_callV (As := [.ref (gy_a Y c1)]) (q := (r, m)) h hc.1 (by decide) rfl (by refine ⟨rfl, by decide, by decide, (show (parseMethodDescriptor yX3_copyFrom.desc).map (fun d => d.parameters.length) = some 1 by decide +kernel)⟩) kw_ml_RX2_96 kw_im_X3_copyFrom kw_se_X3_copyFrom kw_in_RX3 kw_co_X3_copyFrom hR hst d (ct_X3_copyFrom l Y μ c c1 (r, m) hc hc1 e) (kk r m hk)
theorem gv_X4_98 {l : Launch} {cc : ByteArray} {nL fr lo : Nat} {ret : Option FieldType} {Y : gx_Y} {Post : Value → gx_M → Prop} {K : gx_KT} {pc : Nat} {μ : gx_M} {L : List (Nat × Value)} {st : List Value} {α : Type} {rr : α} (h : gx_K l RX4 cc nL fr lo ret Y Post K) {c : Nat} {c1 : Nat} {Nc : Nat} {Nc1 : Nat} (hc : gk_row Y c Nc) (hc1 : gk_row Y c1 Nc1) (d : decode cc pc = .ok (.invokevirtual 98, 3)) (hR : 1 + 1 ≤ fr ∧ 61 ≤ lo) (hst : (st.map fun v => v.category).sum ≤ 8) {k : Int32 → gx_M → Option α} (hf : gx_b (fn_X3_copyFrom (gy_k Y) μ c c1) k = some rr) (kk : ∀ (r : Int32) (m : gx_M), k r m = some rr → K m (pc + 3) L (st)) : K μ pc L (.ref (gy_a Y c1) :: .ref (gy_a Y c) :: st) := by
  obtain ⟨r, m, e, hk⟩ := gx_b_some hf
  exact gw_callV (As := [.ref (gy_a Y c1)]) (q := (r, m)) h hc.1 (by decide) rfl (by refine ⟨rfl, by decide, by decide, (show (parseMethodDescriptor yX3_copyFrom.desc).map (fun d => d.parameters.length) = some 1 by decide +kernel)⟩) kw_ml_RX4_98 kw_im_X3_copyFrom kw_se_X3_copyFrom kw_in_RX3 kw_co_X3_copyFrom hR hst d (ct_X3_copyFrom l Y μ c c1 (r, m) hc hc1 e) (kk r m hk)
def fn_X3_get (kd : Nat → Nat) (μ : gx_M) (c : Nat) (p1 : Int32) : Option (Int32 × gx_M) :=
  (if p1 < 0 then
some (0, μ)
else
(if nI (kd (c + 1) - 100) ≤ p1 then
some (0, μ)
else
(if gx_ix p1 (kd (c + 1) - 100) = true then some (μ (c + 1) (Int32.toNatClampNeg p1), μ) else none)))
set_option maxRecDepth 100000 in
set_option maxHeartbeats 4000000 in
theorem ct_X3_get (l : Launch) (Y : gx_Y) (μ : gx_M) (c : Nat) (p1 : Int32) (rr : Int32 × gx_M) {Nc : Nat} (hc : gk_row Y c Nc) (hf : fn_X3_get (gy_k Y) μ c p1 = some rr) : gx_Con l yX3_get cX3_get 2 (some .int) 0 0 Y [.ref (gy_a Y c), .int p1] μ rr := by
  refine gx_Con_of (L0 := [(0, .ref (gy_a Y c)), (1, .int p1)]) (by decide) (Nat.le_of_ble_eq_true rfl) rfl (fun K hK => ?_)
  unfold fn_X3_get at hf
  refine gw_iload_n (pc := 0) hK 1 dX3_get_0 rfl rfl ?_
  refine gw_if_lt (tgt := 22) (pc := 1) hK dX3_get_1 (by decide) hf (fun cc1 hf => ?_) (fun cc1 hf => ?_)
  ·
    refine gw_iconst (v := 0) (pc := 22) hK dX3_get_22 (by decide) ?_
    exact gw_ret_i (pc := 23) hK dX3_get_23 (Option.some.inj hf)
  ·
    refine gw_iload_n (pc := 4) hK 1 dX3_get_4 rfl rfl ?_
    refine gw_aload_n (pc := 5) hK 0 dX3_get_5 rfl rfl ?_
    refine gf_X3_13 (pc := 6) hK hc.1 dX3_get_6 ?_
    refine gw_alen (pc := 9) hK hc.2.1 (gk_100 hc.2) dX3_get_9 ?_
    refine gw_icmp_ge (tgt := 22) (pc := 10) hK dX3_get_10 (by decide) hf (fun cc2 hf => ?_) (fun cc2 hf => ?_)
    ·
      refine gw_iconst (v := 0) (pc := 22) hK dX3_get_22 (by decide) ?_
      exact gw_ret_i (pc := 23) hK dX3_get_23 (Option.some.inj hf)
    ·
      refine gw_aload_n (pc := 13) hK 0 dX3_get_13 rfl rfl ?_
      refine gf_X3_13 (pc := 14) hK hc.1 dX3_get_14 ?_
      refine gw_iload_n (pc := 17) hK 1 dX3_get_17 rfl rfl ?_
      refine gw_iald (pc := 18) hK hc.2.1 (gk_100 hc.2) dX3_get_18 hf (fun hf => ?_)
      refine gw_goto (tgt := 23) (pc := 19) hK dX3_get_19 (by decide) ?_
      exact gw_ret_i (pc := 23) hK dX3_get_23 (Option.some.inj hf)
theorem gv_X0_48 {l : Launch} {cc : ByteArray} {nL fr lo : Nat} {ret : Option FieldType} {Y : gx_Y} {Post : Value → gx_M → Prop} {K : gx_KT} {pc : Nat} {μ : gx_M} {L : List (Nat × Value)} {st : List Value} {α : Type} {rr : α} (h : gx_K l RX0 cc nL fr lo ret Y Post K) {c : Nat} {p1 : Int32} {Nc : Nat} (hc : gk_row Y c Nc) (d : decode cc pc = .ok (.invokevirtual 48, 3)) (hR : 0 + 1 ≤ fr ∧ 21 ≤ lo) (hst : (st.map fun v => v.category).sum ≤ 8) {k : Int32 → gx_M → Option α} (hf : gx_b (fn_X3_get (gy_k Y) μ c p1) k = some rr) (kk : ∀ (r : Int32) (m : gx_M), k r m = some rr → K m (pc + 3) L (.int r :: st)) : K μ pc L (.int p1 :: .ref (gy_a Y c) :: st) := by
  obtain ⟨r, m, e, hk⟩ := gx_b_some hf
  exact gw_callV (As := [.int p1]) (q := (r, m)) h hc.1 (by decide) rfl (by refine ⟨rfl, by decide, by decide, (show (parseMethodDescriptor yX3_get.desc).map (fun d => d.parameters.length) = some 1 by decide +kernel)⟩) kw_ml_RX0_48 kw_im_X3_get kw_se_X3_get kw_in_RX3 kw_co_X3_get hR hst d (ct_X3_get l Y μ c p1 (r, m) hc e) (kk r m hk)
theorem gv_X2_36 {l : Launch} {cc : ByteArray} {nL fr lo : Nat} {ret : Option FieldType} {Y : gx_Y} {Post : Value → gx_M → Prop} {K : gx_KT} {pc : Nat} {μ : gx_M} {L : List (Nat × Value)} {st : List Value} {α : Type} {rr : α} (h : gx_K l RX2 cc nL fr lo ret Y Post K) {c : Nat} {p1 : Int32} {Nc : Nat} (hc : gk_row Y c Nc) (d : decode cc pc = .ok (.invokevirtual 36, 3)) (hR : 0 + 1 ≤ fr ∧ 21 ≤ lo) (hst : (st.map fun v => v.category).sum ≤ 8) {k : Int32 → gx_M → Option α} (hf : gx_b (fn_X3_get (gy_k Y) μ c p1) k = some rr) (kk : ∀ (r : Int32) (m : gx_M), k r m = some rr → K m (pc + 3) L (.int r :: st)) : K μ pc L (.int p1 :: .ref (gy_a Y c) :: st) := by
  obtain ⟨r, m, e, hk⟩ := gx_b_some hf
  exact gw_callV (As := [.int p1]) (q := (r, m)) h hc.1 (by decide) rfl (by refine ⟨rfl, by decide, by decide, (show (parseMethodDescriptor yX3_get.desc).map (fun d => d.parameters.length) = some 1 by decide +kernel)⟩) kw_ml_RX2_36 kw_im_X3_get kw_se_X3_get kw_in_RX3 kw_co_X3_get hR hst d (ct_X3_get l Y μ c p1 (r, m) hc e) (kk r m hk)
theorem gv_X3_19 {l : Launch} {cc : ByteArray} {nL fr lo : Nat} {ret : Option FieldType} {Y : gx_Y} {Post : Value → gx_M → Prop} {K : gx_KT} {pc : Nat} {μ : gx_M} {L : List (Nat × Value)} {st : List Value} {α : Type} {rr : α} (h : gx_K l RX3 cc nL fr lo ret Y Post K) {c : Nat} {p1 : Int32} {Nc : Nat} (hc : gk_row Y c Nc) (d : decode cc pc = .ok (.invokevirtual 19, 3)) (hR : 0 + 1 ≤ fr ∧ 21 ≤ lo) (hst : (st.map fun v => v.category).sum ≤ 8) {k : Int32 → gx_M → Option α} (hf : gx_b (fn_X3_get (gy_k Y) μ c p1) k = some rr) (kk : ∀ (r : Int32) (m : gx_M), k r m = some rr → K m (pc + 3) L (.int r :: st)) : K μ pc L (.int p1 :: .ref (gy_a Y c) :: st) := by
  obtain ⟨r, m, e, hk⟩ := gx_b_some hf
  exact gw_callV (As := [.int p1]) (q := (r, m)) h hc.1 (by decide) rfl (by refine ⟨rfl, by decide, by decide, (show (parseMethodDescriptor yX3_get.desc).map (fun d => d.parameters.length) = some 1 by decide +kernel)⟩) kw_ml_RX3_19 kw_im_X3_get kw_se_X3_get kw_in_RX3 kw_co_X3_get hR hst d (ct_X3_get l Y μ c p1 (r, m) hc e) (kk r m hk)
theorem gv_X4_42 {l : Launch} {cc : ByteArray} {nL fr lo : Nat} {ret : Option FieldType} {Y : gx_Y} {Post : Value → gx_M → Prop} {K : gx_KT} {pc : Nat} {μ : gx_M} {L : List (Nat × Value)} {st : List Value} {α : Type} {rr : α} (h : gx_K l RX4 cc nL fr lo ret Y Post K) {c : Nat} {p1 : Int32} {Nc : Nat} (hc : gk_row Y c Nc) (d : decode cc pc = .ok (.invokevirtual 42, 3)) (hR : 0 + 1 ≤ fr ∧ 21 ≤ lo) (hst : (st.map fun v => v.category).sum ≤ 8) {k : Int32 → gx_M → Option α} (hf : gx_b (fn_X3_get (gy_k Y) μ c p1) k = some rr) (kk : ∀ (r : Int32) (m : gx_M), k r m = some rr → K m (pc + 3) L (.int r :: st)) : K μ pc L (.int p1 :: .ref (gy_a Y c) :: st) := by
  obtain ⟨r, m, e, hk⟩ := gx_b_some hf
  exact gw_callV (As := [.int p1]) (q := (r, m)) h hc.1 (by decide) rfl (by refine ⟨rfl, by decide, by decide, (show (parseMethodDescriptor yX3_get.desc).map (fun d => d.parameters.length) = some 1 by decide +kernel)⟩) kw_ml_RX4_42 kw_im_X3_get kw_se_X3_get kw_in_RX3 kw_co_X3_get hR hst d (ct_X3_get l Y μ c p1 (r, m) hc e) (kk r m hk)
theorem gv_X5_74 {l : Launch} {cc : ByteArray} {nL fr lo : Nat} {ret : Option FieldType} {Y : gx_Y} {Post : Value → gx_M → Prop} {K : gx_KT} {pc : Nat} {μ : gx_M} {L : List (Nat × Value)} {st : List Value} {α : Type} {rr : α} (h : gx_K l RX5 cc nL fr lo ret Y Post K) {c : Nat} {p1 : Int32} {Nc : Nat} (hc : gk_row Y c Nc) (d : decode cc pc = .ok (.invokevirtual 74, 3)) (hR : 0 + 1 ≤ fr ∧ 21 ≤ lo) (hst : (st.map fun v => v.category).sum ≤ 8) {k : Int32 → gx_M → Option α} (hf : gx_b (fn_X3_get (gy_k Y) μ c p1) k = some rr) (kk : ∀ (r : Int32) (m : gx_M), k r m = some rr → K m (pc + 3) L (.int r :: st)) : K μ pc L (.int p1 :: .ref (gy_a Y c) :: st) := by
  obtain ⟨r, m, e, hk⟩ := gx_b_some hf
  exact gw_callV (As := [.int p1]) (q := (r, m)) h hc.1 (by decide) rfl (by refine ⟨rfl, by decide, by decide, (show (parseMethodDescriptor yX3_get.desc).map (fun d => d.parameters.length) = some 1 by decide +kernel)⟩) kw_ml_RX5_74 kw_im_X3_get kw_se_X3_get kw_in_RX3 kw_co_X3_get hR hst d (ct_X3_get l Y μ c p1 (r, m) hc e) (kk r m hk)
def lf_X3_insert_3 (kd : Nat → Nat) (c0 : Nat) (q1 : Int32) (q2 : Int32) (q3 : Int32) (k : gx_M → Int32 → Option (Int32 × gx_M)) : Nat → gx_M → Int32 → Option (Int32 × gx_M)
  | 0, _, _ => none
  | n + 1, μ, x4 => (if x4 ≤ q1 then
k μ x4
else
gx_b (fn_X3_get kd μ c0 (x4 - 1)) (fun r2 m3 =>
gx_b (fn_X3_put kd m3 c0 x4 r2) (fun _ m5 =>
lf_X3_insert_3 kd c0 q1 q2 q3 k n m5 (x4 + (-1)))))
def fn_X3_insert (kd : Nat → Nat) (μ : gx_M) (c : Nat) (p1 : Int32) (p2 : Int32) (p3 : Int32) : Option (Int32 × gx_M) :=
  lf_X3_insert_3 kd c p1 p2 p3 (fun m6 y7 =>
gx_b (fn_X3_put kd m6 c p1 p2) (fun _ m9 =>
some (0, m9))) gx_F μ p3
set_option maxRecDepth 100000 in
set_option maxHeartbeats 4000000 in
theorem lt_X3_insert_3 {l : Launch} {Y : gx_Y} {rr : Int32 × gx_M} {K : gx_KT} (hK : gx_K l RX3 cX3_insert 5 1 22 none Y (gx_P rr) K) (c0 : Nat) (q1 : Int32) (q2 : Int32) (q3 : Int32) {Nc0 : Nat} (hc0 : gk_row Y c0 Nc0) (k : gx_M → Int32 → Option (Int32 × gx_M)) (hx : ∀ (μ : gx_M) (x4 : Int32), k μ x4 = some rr → K μ 29 [(0, .ref (gy_a Y c0)), (1, .int q1), (2, .int q2), (3, .int q3), (4, .int x4)] []) :
    ∀ (n : Nat) (μ : gx_M) (x4 : Int32), lf_X3_insert_3 (gy_k Y) c0 q1 q2 q3 k n μ x4 = some rr → K μ 3 [(0, .ref (gy_a Y c0)), (1, .int q1), (2, .int q2), (3, .int q3), (4, .int x4)] [] := by
  intro n
  induction n with
  | zero =>
    intro μ x4 hf
    exact absurd hf (by simp [lf_X3_insert_3])
  | succ n ih =>
    intro μ x4 hf
    rw [lf_X3_insert_3] at hf
    refine gw_iload (pc := 3) hK 4 dX3_insert_3 rfl ?_
    refine gw_iload_n (pc := 5) hK 1 dX3_insert_5 rfl rfl ?_
    refine gw_icmp_le (tgt := 29) (pc := 6) hK dX3_insert_6 (by decide) hf (fun cc1 hf => ?_) (fun cc1 hf => ?_)
    ·
      refine gw_sub (L' := [(0, .ref (gy_a Y c0)), (1, .int q1), (2, .int q2), (3, .int q3), (4, .int x4)]) hK [0, 1, 2, 3, 4] rfl (hx _ _ hf)
    ·
      refine gw_aload_n (pc := 9) hK 0 dX3_insert_9 rfl rfl ?_
      refine gw_iload (pc := 10) hK 4 dX3_insert_10 rfl ?_
      refine gw_aload_n (pc := 12) hK 0 dX3_insert_12 rfl rfl ?_
      refine gw_iload (pc := 13) hK 4 dX3_insert_13 rfl ?_
      refine gw_iconst (v := 1) (pc := 15) hK dX3_insert_15 (by decide) ?_
      refine gw_isub (pc := 16) hK dX3_insert_16 ?_
      refine gv_X3_19 (pc := 17) hK hc0 dX3_insert_17 (by decide) (Nat.le_of_ble_eq_true rfl) hf (fun r2 m3 hf => ?_)
      refine gv_X3_23 (pc := 20) hK hc0 dX3_insert_20 (by decide) (Nat.le_of_ble_eq_true rfl) hf (fun _ m5 hf => ?_)
      refine gw_iinc (v := (x4 + (-1))) (L' := [(4, .int (x4 + (-1))), (0, .ref (gy_a Y c0)), (1, .int q1), (2, .int q2), (3, .int q3)]) (pc := 23) hK 4 dX3_insert_23 rfl rfl (by decide) rfl ?_
      refine gw_goto (tgt := 3) (pc := 26) hK dX3_insert_26 (by decide) ?_
      refine gw_sub (L' := [(0, .ref (gy_a Y c0)), (1, .int q1), (2, .int q2), (3, .int q3), (4, .int (x4 + (-1)))]) hK [1, 2, 3, 4, 0] rfl (ih _ _ hf)
set_option maxRecDepth 100000 in
set_option maxHeartbeats 4000000 in
theorem ct_X3_insert (l : Launch) (Y : gx_Y) (μ : gx_M) (c : Nat) (p1 : Int32) (p2 : Int32) (p3 : Int32) (rr : Int32 × gx_M) {Nc : Nat} (hc : gk_row Y c Nc) (hf : fn_X3_insert (gy_k Y) μ c p1 p2 p3 = some rr) : gx_Con l yX3_insert cX3_insert 5 none 1 22 Y [.ref (gy_a Y c), .int p1, .int p2, .int p3] μ rr := by
  refine gx_Con_of (L0 := [(0, .ref (gy_a Y c)), (1, .int p1), (2, .int p2), (3, .int p3)]) (by decide) (Nat.le_of_ble_eq_true rfl) rfl (fun K hK => ?_)
  unfold fn_X3_insert at hf
  refine gw_iload_n (pc := 0) hK 3 dX3_insert_0 rfl rfl ?_
  refine gw_istore (L' := [(4, .int p3), (0, .ref (gy_a Y c)), (1, .int p1), (2, .int p2), (3, .int p3)]) (pc := 1) hK dX3_insert_1 (by decide) rfl ?_
  refine gw_sub (L' := [(0, .ref (gy_a Y c)), (1, .int p1), (2, .int p2), (3, .int p3), (4, .int p3)]) hK [1, 2, 3, 4, 0] rfl (lt_X3_insert_3 hK c p1 p2 p3 hc _ (fun m6 y7 hf => ?_) gx_F _ _ hf)
  refine gw_aload_n (pc := 29) hK 0 dX3_insert_29 rfl rfl ?_
  refine gw_iload_n (pc := 30) hK 1 dX3_insert_30 rfl rfl ?_
  refine gw_iload_n (pc := 31) hK 2 dX3_insert_31 rfl rfl ?_
  refine gv_X3_23 (pc := 32) hK hc dX3_insert_32 (by decide) (Nat.le_of_ble_eq_true rfl) hf (fun _ m9 hf => ?_)
  exact gw_ret_v (pc := 35) hK dX3_insert_35 (Option.some.inj hf)
theorem gv_X2_43 {l : Launch} {cc : ByteArray} {nL fr lo : Nat} {ret : Option FieldType} {Y : gx_Y} {Post : Value → gx_M → Prop} {K : gx_KT} {pc : Nat} {μ : gx_M} {L : List (Nat × Value)} {st : List Value} {α : Type} {rr : α} (h : gx_K l RX2 cc nL fr lo ret Y Post K) {c : Nat} {p1 : Int32} {p2 : Int32} {p3 : Int32} {Nc : Nat} (hc : gk_row Y c Nc) (d : decode cc pc = .ok (.invokevirtual 43, 3)) (hR : 1 + 1 ≤ fr ∧ 46 ≤ lo) (hst : (st.map fun v => v.category).sum ≤ 8) {k : Int32 → gx_M → Option α} (hf : gx_b (fn_X3_insert (gy_k Y) μ c p1 p2 p3) k = some rr) (kk : ∀ (r : Int32) (m : gx_M), k r m = some rr → K m (pc + 3) L (st)) : K μ pc L (.int p3 :: .int p2 :: .int p1 :: .ref (gy_a Y c) :: st) := by
  obtain ⟨r, m, e, hk⟩ := gx_b_some hf
  exact gw_callV (As := [.int p1, .int p2, .int p3]) (q := (r, m)) h hc.1 (by decide) rfl (by refine ⟨rfl, by decide, by decide, (show (parseMethodDescriptor yX3_insert.desc).map (fun d => d.parameters.length) = some 3 by decide +kernel)⟩) kw_ml_RX2_43 kw_im_X3_insert kw_se_X3_insert kw_in_RX3 kw_co_X3_insert hR hst d (ct_X3_insert l Y μ c p1 p2 p3 (r, m) hc e) (kk r m hk)
def fn_X3_add (kd : Nat → Nat) (μ : gx_M) (c : Nat) (p1 : Int32) (p2 : Int32) : Option (Int32 × gx_M) :=
  gx_b (fn_X3_get kd μ c p1) (fun r1 m2 =>
gx_b (fn_X3_put kd m2 c p1 (r1 + p2)) (fun _ m4 =>
some (0, m4)))
set_option maxRecDepth 100000 in
set_option maxHeartbeats 4000000 in
theorem ct_X3_add (l : Launch) (Y : gx_Y) (μ : gx_M) (c : Nat) (p1 : Int32) (p2 : Int32) (rr : Int32 × gx_M) {Nc : Nat} (hc : gk_row Y c Nc) (hf : fn_X3_add (gy_k Y) μ c p1 p2 = some rr) : gx_Con l yX3_add cX3_add 3 none 1 22 Y [.ref (gy_a Y c), .int p1, .int p2] μ rr := by
  refine gx_Con_of (L0 := [(0, .ref (gy_a Y c)), (1, .int p1), (2, .int p2)]) (by decide) (Nat.le_of_ble_eq_true rfl) rfl (fun K hK => ?_)
  unfold fn_X3_add at hf
  refine gw_aload_n (pc := 0) hK 0 dX3_add_0 rfl rfl ?_
  refine gw_iload_n (pc := 1) hK 1 dX3_add_1 rfl rfl ?_
  refine gw_aload_n (pc := 2) hK 0 dX3_add_2 rfl rfl ?_
  refine gw_iload_n (pc := 3) hK 1 dX3_add_3 rfl rfl ?_
  refine gv_X3_19 (pc := 4) hK hc dX3_add_4 (by decide) (Nat.le_of_ble_eq_true rfl) hf (fun r1 m2 hf => ?_)
  refine gw_iload_n (pc := 7) hK 2 dX3_add_7 rfl rfl ?_
  refine gw_iadd (pc := 8) hK dX3_add_8 ?_
  refine gv_X3_23 (pc := 9) hK hc dX3_add_9 (by decide) (Nat.le_of_ble_eq_true rfl) hf (fun _ m4 hf => ?_)
  exact gw_ret_v (pc := 12) hK dX3_add_12 (Option.some.inj hf)
theorem gv_X0_62 {l : Launch} {cc : ByteArray} {nL fr lo : Nat} {ret : Option FieldType} {Y : gx_Y} {Post : Value → gx_M → Prop} {K : gx_KT} {pc : Nat} {μ : gx_M} {L : List (Nat × Value)} {st : List Value} {α : Type} {rr : α} (h : gx_K l RX0 cc nL fr lo ret Y Post K) {c : Nat} {p1 : Int32} {p2 : Int32} {Nc : Nat} (hc : gk_row Y c Nc) (d : decode cc pc = .ok (.invokevirtual 62, 3)) (hR : 1 + 1 ≤ fr ∧ 44 ≤ lo) (hst : (st.map fun v => v.category).sum ≤ 8) {k : Int32 → gx_M → Option α} (hf : gx_b (fn_X3_add (gy_k Y) μ c p1 p2) k = some rr) (kk : ∀ (r : Int32) (m : gx_M), k r m = some rr → K m (pc + 3) L (st)) : K μ pc L (.int p2 :: .int p1 :: .ref (gy_a Y c) :: st) := by
  obtain ⟨r, m, e, hk⟩ := gx_b_some hf
  exact gw_callV (As := [.int p1, .int p2]) (q := (r, m)) h hc.1 (by decide) rfl (by refine ⟨rfl, by decide, by decide, (show (parseMethodDescriptor yX3_add.desc).map (fun d => d.parameters.length) = some 2 by decide +kernel)⟩) kw_ml_RX0_62 kw_im_X3_add kw_se_X3_add kw_in_RX3 kw_co_X3_add hR hst d (ct_X3_add l Y μ c p1 p2 (r, m) hc e) (kk r m hk)
theorem gv_X2_55 {l : Launch} {cc : ByteArray} {nL fr lo : Nat} {ret : Option FieldType} {Y : gx_Y} {Post : Value → gx_M → Prop} {K : gx_KT} {pc : Nat} {μ : gx_M} {L : List (Nat × Value)} {st : List Value} {α : Type} {rr : α} (h : gx_K l RX2 cc nL fr lo ret Y Post K) {c : Nat} {p1 : Int32} {p2 : Int32} {Nc : Nat} (hc : gk_row Y c Nc) (d : decode cc pc = .ok (.invokevirtual 55, 3)) (hR : 1 + 1 ≤ fr ∧ 44 ≤ lo) (hst : (st.map fun v => v.category).sum ≤ 8) {k : Int32 → gx_M → Option α} (hf : gx_b (fn_X3_add (gy_k Y) μ c p1 p2) k = some rr) (kk : ∀ (r : Int32) (m : gx_M), k r m = some rr → K m (pc + 3) L (st)) : K μ pc L (.int p2 :: .int p1 :: .ref (gy_a Y c) :: st) := by
  obtain ⟨r, m, e, hk⟩ := gx_b_some hf
  exact gw_callV (As := [.int p1, .int p2]) (q := (r, m)) h hc.1 (by decide) rfl (by refine ⟨rfl, by decide, by decide, (show (parseMethodDescriptor yX3_add.desc).map (fun d => d.parameters.length) = some 2 by decide +kernel)⟩) kw_ml_RX2_55 kw_im_X3_add kw_se_X3_add kw_in_RX3 kw_co_X3_add hR hst d (ct_X3_add l Y μ c p1 p2 (r, m) hc e) (kk r m hk)
def lf_X3_delete_2 (kd : Nat → Nat) (c0 : Nat) (q1 : Int32) (q2 : Int32) (k : gx_M → Int32 → Option (Int32 × gx_M)) : Nat → gx_M → Int32 → Option (Int32 × gx_M)
  | 0, _, _ => none
  | n + 1, μ, x3 => (if (q2 - 1) ≤ x3 then
k μ x3
else
gx_b (fn_X3_get kd μ c0 (x3 + 1)) (fun r2 m3 =>
gx_b (fn_X3_put kd m3 c0 x3 r2) (fun _ m5 =>
lf_X3_delete_2 kd c0 q1 q2 k n m5 (x3 + 1))))
def fn_X3_delete (kd : Nat → Nat) (μ : gx_M) (c : Nat) (p1 : Int32) (p2 : Int32) : Option (Int32 × gx_M) :=
  lf_X3_delete_2 kd c p1 p2 (fun m6 y7 =>
some (0, m6)) gx_F μ p1
set_option maxRecDepth 100000 in
set_option maxHeartbeats 4000000 in
theorem lt_X3_delete_2 {l : Launch} {Y : gx_Y} {rr : Int32 × gx_M} {K : gx_KT} (hK : gx_K l RX3 cX3_delete 4 1 22 none Y (gx_P rr) K) (c0 : Nat) (q1 : Int32) (q2 : Int32) {Nc0 : Nat} (hc0 : gk_row Y c0 Nc0) (k : gx_M → Int32 → Option (Int32 × gx_M)) (hx : ∀ (μ : gx_M) (x3 : Int32), k μ x3 = some rr → K μ 27 [(0, .ref (gy_a Y c0)), (1, .int q1), (2, .int q2), (3, .int x3)] []) :
    ∀ (n : Nat) (μ : gx_M) (x3 : Int32), lf_X3_delete_2 (gy_k Y) c0 q1 q2 k n μ x3 = some rr → K μ 2 [(0, .ref (gy_a Y c0)), (1, .int q1), (2, .int q2), (3, .int x3)] [] := by
  intro n
  induction n with
  | zero =>
    intro μ x3 hf
    exact absurd hf (by simp [lf_X3_delete_2])
  | succ n ih =>
    intro μ x3 hf
    rw [lf_X3_delete_2] at hf
    refine gw_iload_n (pc := 2) hK 3 dX3_delete_2 rfl rfl ?_
    refine gw_iload_n (pc := 3) hK 2 dX3_delete_3 rfl rfl ?_
    refine gw_iconst (v := 1) (pc := 4) hK dX3_delete_4 (by decide) ?_
    refine gw_isub (pc := 5) hK dX3_delete_5 ?_
    refine gw_icmp_ge (tgt := 27) (pc := 6) hK dX3_delete_6 (by decide) hf (fun cc1 hf => ?_) (fun cc1 hf => ?_)
    ·
      refine gw_sub (L' := [(0, .ref (gy_a Y c0)), (1, .int q1), (2, .int q2), (3, .int x3)]) hK [0, 1, 2, 3] rfl (hx _ _ hf)
    ·
      refine gw_aload_n (pc := 9) hK 0 dX3_delete_9 rfl rfl ?_
      refine gw_iload_n (pc := 10) hK 3 dX3_delete_10 rfl rfl ?_
      refine gw_aload_n (pc := 11) hK 0 dX3_delete_11 rfl rfl ?_
      refine gw_iload_n (pc := 12) hK 3 dX3_delete_12 rfl rfl ?_
      refine gw_iconst (v := 1) (pc := 13) hK dX3_delete_13 (by decide) ?_
      refine gw_iadd (pc := 14) hK dX3_delete_14 ?_
      refine gv_X3_19 (pc := 15) hK hc0 dX3_delete_15 (by decide) (Nat.le_of_ble_eq_true rfl) hf (fun r2 m3 hf => ?_)
      refine gv_X3_23 (pc := 18) hK hc0 dX3_delete_18 (by decide) (Nat.le_of_ble_eq_true rfl) hf (fun _ m5 hf => ?_)
      refine gw_iinc (v := (x3 + 1)) (L' := [(3, .int (x3 + 1)), (0, .ref (gy_a Y c0)), (1, .int q1), (2, .int q2)]) (pc := 21) hK 3 dX3_delete_21 rfl rfl (by decide) rfl ?_
      refine gw_goto (tgt := 2) (pc := 24) hK dX3_delete_24 (by decide) ?_
      refine gw_sub (L' := [(0, .ref (gy_a Y c0)), (1, .int q1), (2, .int q2), (3, .int (x3 + 1))]) hK [1, 2, 3, 0] rfl (ih _ _ hf)
set_option maxRecDepth 100000 in
set_option maxHeartbeats 4000000 in
theorem ct_X3_delete (l : Launch) (Y : gx_Y) (μ : gx_M) (c : Nat) (p1 : Int32) (p2 : Int32) (rr : Int32 × gx_M) {Nc : Nat} (hc : gk_row Y c Nc) (hf : fn_X3_delete (gy_k Y) μ c p1 p2 = some rr) : gx_Con l yX3_delete cX3_delete 4 none 1 22 Y [.ref (gy_a Y c), .int p1, .int p2] μ rr := by
  refine gx_Con_of (L0 := [(0, .ref (gy_a Y c)), (1, .int p1), (2, .int p2)]) (by decide) (Nat.le_of_ble_eq_true rfl) rfl (fun K hK => ?_)
  unfold fn_X3_delete at hf
  refine gw_iload_n (pc := 0) hK 1 dX3_delete_0 rfl rfl ?_
  refine gw_istore_n (L' := [(3, .int p1), (0, .ref (gy_a Y c)), (1, .int p1), (2, .int p2)]) (pc := 1) hK dX3_delete_1 rfl (by decide) rfl ?_
  refine gw_sub (L' := [(0, .ref (gy_a Y c)), (1, .int p1), (2, .int p2), (3, .int p1)]) hK [1, 2, 3, 0] rfl (lt_X3_delete_2 hK c p1 p2 hc _ (fun m6 y7 hf => ?_) gx_F _ _ hf)
  exact gw_ret_v (pc := 27) hK dX3_delete_27 (Option.some.inj hf)
theorem gv_X0_56 {l : Launch} {cc : ByteArray} {nL fr lo : Nat} {ret : Option FieldType} {Y : gx_Y} {Post : Value → gx_M → Prop} {K : gx_KT} {pc : Nat} {μ : gx_M} {L : List (Nat × Value)} {st : List Value} {α : Type} {rr : α} (h : gx_K l RX0 cc nL fr lo ret Y Post K) {c : Nat} {p1 : Int32} {p2 : Int32} {Nc : Nat} (hc : gk_row Y c Nc) (d : decode cc pc = .ok (.invokevirtual 56, 3)) (hR : 1 + 1 ≤ fr ∧ 45 ≤ lo) (hst : (st.map fun v => v.category).sum ≤ 8) {k : Int32 → gx_M → Option α} (hf : gx_b (fn_X3_delete (gy_k Y) μ c p1 p2) k = some rr) (kk : ∀ (r : Int32) (m : gx_M), k r m = some rr → K m (pc + 3) L (st)) : K μ pc L (.int p2 :: .int p1 :: .ref (gy_a Y c) :: st) := by
  obtain ⟨r, m, e, hk⟩ := gx_b_some hf
  exact gw_callV (As := [.int p1, .int p2]) (q := (r, m)) h hc.1 (by decide) rfl (by refine ⟨rfl, by decide, by decide, (show (parseMethodDescriptor yX3_delete.desc).map (fun d => d.parameters.length) = some 2 by decide +kernel)⟩) kw_ml_RX0_56 kw_im_X3_delete kw_se_X3_delete kw_in_RX3 kw_co_X3_delete hR hst d (ct_X3_delete l Y μ c p1 p2 (r, m) hc e) (kk r m hk)
theorem gv_X2_47 {l : Launch} {cc : ByteArray} {nL fr lo : Nat} {ret : Option FieldType} {Y : gx_Y} {Post : Value → gx_M → Prop} {K : gx_KT} {pc : Nat} {μ : gx_M} {L : List (Nat × Value)} {st : List Value} {α : Type} {rr : α} (h : gx_K l RX2 cc nL fr lo ret Y Post K) {c : Nat} {p1 : Int32} {p2 : Int32} {Nc : Nat} (hc : gk_row Y c Nc) (d : decode cc pc = .ok (.invokevirtual 47, 3)) (hR : 1 + 1 ≤ fr ∧ 45 ≤ lo) (hst : (st.map fun v => v.category).sum ≤ 8) {k : Int32 → gx_M → Option α} (hf : gx_b (fn_X3_delete (gy_k Y) μ c p1 p2) k = some rr) (kk : ∀ (r : Int32) (m : gx_M), k r m = some rr → K m (pc + 3) L (st)) : K μ pc L (.int p2 :: .int p1 :: .ref (gy_a Y c) :: st) := by
  obtain ⟨r, m, e, hk⟩ := gx_b_some hf
  exact gw_callV (As := [.int p1, .int p2]) (q := (r, m)) h hc.1 (by decide) rfl (by refine ⟨rfl, by decide, by decide, (show (parseMethodDescriptor yX3_delete.desc).map (fun d => d.parameters.length) = some 2 by decide +kernel)⟩) kw_ml_RX2_47 kw_im_X3_delete kw_se_X3_delete kw_in_RX3 kw_co_X3_delete hR hst d (ct_X3_delete l Y μ c p1 p2 (r, m) hc e) (kk r m hk)
