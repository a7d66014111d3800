def fn_X7_has (kd : Nat → Nat) (μ : gx_M) (c : Nat) (p1 : Int32) (p2 : Int32) : Option (Int32 × gx_M) :=
  (if gx_ix ((61 + (6 * p1)) + p2) (kd (c + 1) - 100) = true then some (μ (c + 1) (Int32.toNatClampNeg ((61 + (6 * p1)) + p2)), μ) else none)
set_option maxRecDepth 100000 in
set_option maxHeartbeats 4000000 in
theorem ct_X7_has (l : Launch) (Y : gx_Y) (μ : gx_M) (c : Nat) (p1 : Int32) (p2 : Int32) (rr : Int32 × gx_M) (hc : gk_mod Y c) (hf : fn_X7_has (gy_k Y) μ c p1 p2 = some rr) : gx_Con l yX7_has cX7_has 3 (some .int) 0 0 Y [.ref (gy_a Y c), .int p1, .int p2] μ rr := by
  refine gx_Con_of (L0 := [(0, .ref (gy_a Y c)), (1, .int p1), (2, .int p2)]) (by decide) (Nat.le_of_ble_eq_true rfl) rfl (fun K hK => ?_)
  unfold fn_X7_has at hf
  refine gw_aload_n (pc := 0) hK 0 dX7_has_0 rfl rfl ?_
  refine gf_X7_7 (pc := 1) hK hc.1 dX7_has_1 ?_
  refine gw_bipush (v := 61) (pc := 4) hK dX7_has_4 (by decide) ?_
  refine gw_bipush (v := 6) (pc := 6) hK dX7_has_6 (by decide) ?_
  refine gw_iload_n (pc := 8) hK 1 dX7_has_8 rfl rfl ?_
  refine gw_imul (pc := 9) hK dX7_has_9 ?_
  refine gw_iadd (pc := 10) hK dX7_has_10 ?_
  refine gw_iload_n (pc := 11) hK 2 dX7_has_11 rfl rfl ?_
  refine gw_iadd (pc := 12) hK dX7_has_12 ?_
  refine gw_iald (pc := 13) hK hc.2.1.1 (gk_100 hc.2.1) dX7_has_13 hf (fun hf => ?_)
  exact gw_ret_i (pc := 14) hK dX7_has_14 (Option.some.inj hf)
theorem gv_X7_81 {l : Launch} {cc : ByteArray} {nL fr lo : Nat} {ret : Option FieldType} {Y : gx_Y} {Post : Int32 → gx_M → Prop} {K : gx_KT} {pc : Nat} {μ : gx_M} {L : List (Nat × Value)} {st : List Value} {rr : Int32 × gx_M} (h : gx_K l RX7 cc nL fr lo ret Y Post K) {c : Nat} {p1 : Int32} {p2 : Int32} (hc : gk_mod Y c) (d : decode cc pc = .ok (.invokevirtual 81, 3)) (hR : 0 + 1 ≤ fr ∧ 22 ≤ lo) (hst : (st.map fun v => v.category).sum ≤ 8) {k : Int32 → gx_M → Option (Int32 × gx_M)} (hf : gx_b (fn_X7_has (gy_k Y) μ c p1 p2) k = some rr) (kk : ∀ (r : Int32) (m : gx_M), k r m = some rr → K m (pc + 3) L (.int r :: st)) : K μ pc L (.int p2 :: .int p1 :: .ref (gy_a Y c) :: st) := by
  obtain ⟨r, m, e, hk⟩ := gx_b_some hf
  exact gw_callV (As := [.int p1, .int p2]) (q := (r, m)) h hc.1 (by decide) rfl (by refine ⟨rfl, by decide, by decide, (show (parseMethodDescriptor yX7_has.desc).map (fun d => d.parameters.length) = some 2 by decide +kernel)⟩) kw_ml_RX7_81 kw_im_X7_has kw_se_X7_has kw_in_RX7 kw_co_X7_has hR hst d (ct_X7_has l Y μ c p1 p2 (r, m) hc e) (kk r m hk)
def fn_X7_setting (kd : Nat → Nat) (μ : gx_M) (c : Nat) (p1 : Int32) : Option (Int32 × gx_M) :=
  (if gx_ix (7 + p1) (kd (c + 1) - 100) = true then some (μ (c + 1) (Int32.toNatClampNeg (7 + p1)), μ) else none)
set_option maxRecDepth 100000 in
set_option maxHeartbeats 4000000 in
theorem ct_X7_setting (l : Launch) (Y : gx_Y) (μ : gx_M) (c : Nat) (p1 : Int32) (rr : Int32 × gx_M) (hc : gk_mod Y c) (hf : fn_X7_setting (gy_k Y) μ c p1 = some rr) : gx_Con l yX7_setting cX7_setting 2 (some .int) 0 0 Y [.ref (gy_a Y c), .int p1] μ rr := by
  refine gx_Con_of (L0 := [(0, .ref (gy_a Y c)), (1, .int p1)]) (by decide) (Nat.le_of_ble_eq_true rfl) rfl (fun K hK => ?_)
  unfold fn_X7_setting at hf
  refine gw_aload_n (pc := 0) hK 0 dX7_setting_0 rfl rfl ?_
  refine gf_X7_7 (pc := 1) hK hc.1 dX7_setting_1 ?_
  refine gw_bipush (v := 7) (pc := 4) hK dX7_setting_4 (by decide) ?_
  refine gw_iload_n (pc := 6) hK 1 dX7_setting_6 rfl rfl ?_
  refine gw_iadd (pc := 7) hK dX7_setting_7 ?_
  refine gw_iald (pc := 8) hK hc.2.1.1 (gk_100 hc.2.1) dX7_setting_8 hf (fun hf => ?_)
  exact gw_ret_i (pc := 9) hK dX7_setting_9 (Option.some.inj hf)
theorem gv_X7_78 {l : Launch} {cc : ByteArray} {nL fr lo : Nat} {ret : Option FieldType} {Y : gx_Y} {Post : Int32 → gx_M → Prop} {K : gx_KT} {pc : Nat} {μ : gx_M} {L : List (Nat × Value)} {st : List Value} {rr : Int32 × gx_M} (h : gx_K l RX7 cc nL fr lo ret Y Post K) {c : Nat} {p1 : Int32} (hc : gk_mod Y c) (d : decode cc pc = .ok (.invokevirtual 78, 3)) (hR : 0 + 1 ≤ fr ∧ 21 ≤ lo) (hst : (st.map fun v => v.category).sum ≤ 8) {k : Int32 → gx_M → Option (Int32 × gx_M)} (hf : gx_b (fn_X7_setting (gy_k Y) μ c p1) k = some rr) (kk : ∀ (r : Int32) (m : gx_M), k r m = some rr → K m (pc + 3) L (.int r :: st)) : K μ pc L (.int p1 :: .ref (gy_a Y c) :: st) := by
  obtain ⟨r, m, e, hk⟩ := gx_b_some hf
  exact gw_callV (As := [.int p1]) (q := (r, m)) h hc.1 (by decide) rfl (by refine ⟨rfl, by decide, by decide, (show (parseMethodDescriptor yX7_setting.desc).map (fun d => d.parameters.length) = some 1 by decide +kernel)⟩) kw_ml_RX7_78 kw_im_X7_setting kw_se_X7_setting kw_in_RX7 kw_co_X7_setting hR hst d (ct_X7_setting l Y μ c p1 (r, m) hc e) (kk r m hk)
def fn_X7_begins (kd : Nat → Nat) (μ : gx_M) (c : Nat) (p1 : Int32) : Option (Int32 × gx_M) :=
  (if p1 = 0 then
some (1, μ)
else
gx_b (fn_X7_has kd μ c p1 0) (fun r2 m3 =>
gx_b (fn_X7_has kd m3 c (p1 - 1) 0) (fun r4 m5 =>
gx_b (fn_X7_setting kd m5 c 1) (fun r6 m7 =>
(if (r2 - r4) < r6 then
some (0, m7)
else
some (1, m7))))))
set_option maxRecDepth 100000 in
set_option maxHeartbeats 4000000 in
theorem ct_X7_begins (l : Launch) (Y : gx_Y) (μ : gx_M) (c : Nat) (p1 : Int32) (rr : Int32 × gx_M) (hc : gk_mod Y c) (hf : fn_X7_begins (gy_k Y) μ c p1 = some rr) : gx_Con l yX7_begins cX7_begins 2 (some .boolean) 1 22 Y [.ref (gy_a Y c), .int p1] μ rr := by
  refine gx_Con_of (L0 := [(0, .ref (gy_a Y c)), (1, .int p1)]) (by decide) (Nat.le_of_ble_eq_true rfl) rfl (fun K hK => ?_)
  unfold fn_X7_begins at hf
  refine gw_iload_n (pc := 0) hK 1 dX7_begins_0 rfl rfl ?_
  refine gw_if_eq (tgt := 27) (pc := 1) hK dX7_begins_1 (by decide) hf (fun cc1 hf => ?_) (fun cc1 hf => ?_)
  ·
    refine gw_iconst (v := 1) (pc := 27) hK dX7_begins_27 (by decide) ?_
    refine gw_goto (tgt := 32) (pc := 28) hK dX7_begins_28 (by decide) ?_
    exact gw_ret_z (pc := 32) hK dX7_begins_32 rfl (Option.some.inj hf)
  ·
    refine gw_aload_n (pc := 4) hK 0 dX7_begins_4 rfl rfl ?_
    refine gw_iload_n (pc := 5) hK 1 dX7_begins_5 rfl rfl ?_
    refine gw_iconst (v := 0) (pc := 6) hK dX7_begins_6 (by decide) ?_
    refine gv_X7_81 (pc := 7) hK hc dX7_begins_7 (by decide) (Nat.le_of_ble_eq_true rfl) hf (fun r2 m3 hf => ?_)
    refine gw_aload_n (pc := 10) hK 0 dX7_begins_10 rfl rfl ?_
    refine gw_iload_n (pc := 11) hK 1 dX7_begins_11 rfl rfl ?_
    refine gw_iconst (v := 1) (pc := 12) hK dX7_begins_12 (by decide) ?_
    refine gw_isub (pc := 13) hK dX7_begins_13 ?_
    refine gw_iconst (v := 0) (pc := 14) hK dX7_begins_14 (by decide) ?_
    refine gv_X7_81 (pc := 15) hK hc dX7_begins_15 (by decide) (Nat.le_of_ble_eq_true rfl) hf (fun r4 m5 hf => ?_)
    refine gw_isub (pc := 18) hK dX7_begins_18 ?_
    refine gw_aload_n (pc := 19) hK 0 dX7_begins_19 rfl rfl ?_
    refine gw_iconst (v := 1) (pc := 20) hK dX7_begins_20 (by decide) ?_
    refine gv_X7_78 (pc := 21) hK hc dX7_begins_21 (by decide) (Nat.le_of_ble_eq_true rfl) hf (fun r6 m7 hf => ?_)
    refine gw_icmp_lt (tgt := 31) (pc := 24) hK dX7_begins_24 (by decide) hf (fun cc8 hf => ?_) (fun cc8 hf => ?_)
    ·
      refine gw_iconst (v := 0) (pc := 31) hK dX7_begins_31 (by decide) ?_
      exact gw_ret_z (pc := 32) hK dX7_begins_32 rfl (Option.some.inj hf)
    ·
      refine gw_iconst (v := 1) (pc := 27) hK dX7_begins_27 (by decide) ?_
      refine gw_goto (tgt := 32) (pc := 28) hK dX7_begins_28 (by decide) ?_
      exact gw_ret_z (pc := 32) hK dX7_begins_32 rfl (Option.some.inj hf)
theorem gv_X7_97 {l : Launch} {cc : ByteArray} {nL fr lo : Nat} {ret : Option FieldType} {Y : gx_Y} {Post : Int32 → gx_M → Prop} {K : gx_KT} {pc : Nat} {μ : gx_M} {L : List (Nat × Value)} {st : List Value} {rr : Int32 × gx_M} (h : gx_K l RX7 cc nL fr lo ret Y Post K) {c : Nat} {p1 : Int32} (hc : gk_mod Y c) (d : decode cc pc = .ok (.invokevirtual 97, 3)) (hR : 1 + 1 ≤ fr ∧ 43 ≤ lo) (hst : (st.map fun v => v.category).sum ≤ 8) {k : Int32 → gx_M → Option (Int32 × gx_M)} (hf : gx_b (fn_X7_begins (gy_k Y) μ c p1) k = some rr) (kk : ∀ (r : Int32) (m : gx_M), k r m = some rr → K m (pc + 3) L (.int r :: st)) : K μ pc L (.int p1 :: .ref (gy_a Y c) :: st) := by
  obtain ⟨r, m, e, hk⟩ := gx_b_some hf
  exact gw_callV (As := [.int p1]) (q := (r, m)) h hc.1 (by decide) rfl (by refine ⟨rfl, by decide, by decide, (show (parseMethodDescriptor yX7_begins.desc).map (fun d => d.parameters.length) = some 1 by decide +kernel)⟩) kw_ml_RX7_97 kw_im_X7_begins kw_se_X7_begins kw_in_RX7 kw_co_X7_begins hR hst d (ct_X7_begins l Y μ c p1 (r, m) hc e) (kk r m hk)
def fn_X7_in (kd : Nat → Nat) (μ : gx_M) (p0 : Int32) (p1 : Int32) (p2 : Int32) : Option (Int32 × gx_M) :=
  (if p0 < p1 then
some (0, μ)
else
(if p2 < p0 then
some (0, μ)
else
some (1, μ)))
set_option maxRecDepth 100000 in
set_option maxHeartbeats 4000000 in
theorem ct_X7_in (l : Launch) (Y : gx_Y) (μ : gx_M) (p0 : Int32) (p1 : Int32) (p2 : Int32) (rr : Int32 × gx_M) (hf : fn_X7_in (gy_k Y) μ p0 p1 p2 = some rr) : gx_Con l yX7_in cX7_in 3 (some .boolean) 0 0 Y [.int p0, .int p1, .int p2] μ rr := by
  refine gx_Con_of (L0 := [(0, .int p0), (1, .int p1), (2, .int p2)]) (by decide) (Nat.le_of_ble_eq_true rfl) rfl (fun K hK => ?_)
  unfold fn_X7_in at hf
  refine gw_iload_n (pc := 0) hK 0 dX7_in_0 rfl rfl ?_
  refine gw_iload_n (pc := 1) hK 1 dX7_in_1 rfl rfl ?_
  refine gw_icmp_lt (tgt := 14) (pc := 2) hK dX7_in_2 (by decide) hf (fun cc1 hf => ?_) (fun cc1 hf => ?_)
  ·
    refine gw_iconst (v := 0) (pc := 14) hK dX7_in_14 (by decide) ?_
    exact gw_ret_z (pc := 15) hK dX7_in_15 rfl (Option.some.inj hf)
  ·
    refine gw_iload_n (pc := 5) hK 0 dX7_in_5 rfl rfl ?_
    refine gw_iload_n (pc := 6) hK 2 dX7_in_6 rfl rfl ?_
    refine gw_icmp_gt (tgt := 14) (pc := 7) hK dX7_in_7 (by decide) hf (fun cc2 hf => ?_) (fun cc2 hf => ?_)
    ·
      refine gw_iconst (v := 0) (pc := 14) hK dX7_in_14 (by decide) ?_
      exact gw_ret_z (pc := 15) hK dX7_in_15 rfl (Option.some.inj hf)
    ·
      refine gw_iconst (v := 1) (pc := 10) hK dX7_in_10 (by decide) ?_
      refine gw_goto (tgt := 15) (pc := 11) hK dX7_in_11 (by decide) ?_
      exact gw_ret_z (pc := 15) hK dX7_in_15 rfl (Option.some.inj hf)
theorem gv_X7_25 {l : Launch} {cc : ByteArray} {nL fr lo : Nat} {ret : Option FieldType} {Y : gx_Y} {Post : Int32 → gx_M → Prop} {K : gx_KT} {pc : Nat} {μ : gx_M} {L : List (Nat × Value)} {st : List Value} {rr : Int32 × gx_M} (h : gx_K l RX7 cc nL fr lo ret Y Post K) {p0 : Int32} {p1 : Int32} {p2 : Int32} (d : decode cc pc = .ok (.invokestatic 25, 3)) (hR : 0 + 1 ≤ fr ∧ 22 ≤ lo) (hst : (st.map fun v => v.category).sum ≤ 8) {k : Int32 → gx_M → Option (Int32 × gx_M)} (hf : gx_b (fn_X7_in (gy_k Y) μ p0 p1 p2) k = some rr) (kk : ∀ (r : Int32) (m : gx_M), k r m = some rr → K m (pc + 3) L (.int r :: st)) : K μ pc L (.int p2 :: .int p1 :: .int p0 :: st) := by
  obtain ⟨r, m, e, hk⟩ := gx_b_some hf
  exact gw_callS (As := [.int p0, .int p1, .int p2]) (q := (r, m)) h (by refine ⟨rfl, by decide, by decide, (show (parseMethodDescriptor yX7_in.desc).map (fun d => d.parameters.length) = some 3 by decide +kernel)⟩) kw_ml_RX7_25 kw_st_X7_in kw_in_RX7 kw_co_X7_in hR hst d (ct_X7_in l Y μ p0 p1 p2 (r, m)  e) (kk r m hk)
def fn_X7_put (kd : Nat → Nat) (μ : gx_M) (c : Nat) (p1 : Int32) (p2 : Int32) (p3 : Int32) : Option (Int32 × gx_M) :=
  (if gx_ix ((11 + (5 * p1)) + p2) (kd (c + 1) - 100) = true then some (0, (gx_u μ (c + 1) (Int32.toNatClampNeg ((11 + (5 * p1)) + p2)) p3)) else none)
set_option maxRecDepth 100000 in
set_option maxHeartbeats 4000000 in
theorem ct_X7_put (l : Launch) (Y : gx_Y) (μ : gx_M) (c : Nat) (p1 : Int32) (p2 : Int32) (p3 : Int32) (rr : Int32 × gx_M) (hc : gk_mod Y c) (hf : fn_X7_put (gy_k Y) μ c p1 p2 p3 = some rr) : gx_Con l yX7_put cX7_put 4 none 0 0 Y [.ref (gy_a Y c), .int p1, .int p2, .int p3] μ rr := by
  refine gx_Con_of (L0 := [(0, .ref (gy_a Y c)), (1, .int p1), (2, .int p2), (3, .int p3)]) (by decide) (Nat.le_of_ble_eq_true rfl) rfl (fun K hK => ?_)
  unfold fn_X7_put at hf
  refine gw_aload_n (pc := 0) hK 0 dX7_put_0 rfl rfl ?_
  refine gf_X7_7 (pc := 1) hK hc.1 dX7_put_1 ?_
  refine gw_bipush (v := 11) (pc := 4) hK dX7_put_4 (by decide) ?_
  refine gw_iconst (v := 5) (pc := 6) hK dX7_put_6 (by decide) ?_
  refine gw_iload_n (pc := 7) hK 1 dX7_put_7 rfl rfl ?_
  refine gw_imul (pc := 8) hK dX7_put_8 ?_
  refine gw_iadd (pc := 9) hK dX7_put_9 ?_
  refine gw_iload_n (pc := 10) hK 2 dX7_put_10 rfl rfl ?_
  refine gw_iadd (pc := 11) hK dX7_put_11 ?_
  refine gw_iload_n (pc := 12) hK 3 dX7_put_12 rfl rfl ?_
  refine gw_iast (pc := 13) hK hc.2.1.1 (gk_100 hc.2.1) dX7_put_13 hf (fun hf => ?_)
  exact gw_ret_v (pc := 14) hK dX7_put_14 (Option.some.inj hf)
theorem gv_X7_43 {l : Launch} {cc : ByteArray} {nL fr lo : Nat} {ret : Option FieldType} {Y : gx_Y} {Post : Int32 → gx_M → Prop} {K : gx_KT} {pc : Nat} {μ : gx_M} {L : List (Nat × Value)} {st : List Value} {rr : Int32 × gx_M} (h : gx_K l RX7 cc nL fr lo ret Y Post K) {c : Nat} {p1 : Int32} {p2 : Int32} {p3 : Int32} (hc : gk_mod Y c) (d : decode cc pc = .ok (.invokevirtual 43, 3)) (hR : 0 + 1 ≤ fr ∧ 23 ≤ lo) (hst : (st.map fun v => v.category).sum ≤ 8) {k : Int32 → gx_M → Option (Int32 × gx_M)} (hf : gx_b (fn_X7_put (gy_k Y) μ c p1 p2 p3) k = some rr) (kk : ∀ (r : Int32) (m : gx_M), k r m = some rr → K m (pc + 3) L (st)) : K μ pc L (.int p3 :: .int p2 :: .int p1 :: .ref (gy_a Y c) :: st) := by
  obtain ⟨r, m, e, hk⟩ := gx_b_some hf
  exact gw_callV (As := [.int p1, .int p2, .int p3]) (q := (r, m)) h hc.1 (by decide) rfl (by refine ⟨rfl, by decide, by decide, (show (parseMethodDescriptor yX7_put.desc).map (fun d => d.parameters.length) = some 3 by decide +kernel)⟩) kw_ml_RX7_43 kw_im_X7_put kw_se_X7_put kw_in_RX7 kw_co_X7_put hR hst d (ct_X7_put l Y μ c p1 p2 p3 (r, m) hc e) (kk r m hk)
def lf_X7_records_51 (kd : Nat → Nat) (c0 : Nat) (k : gx_M → Int32 → Option (Int32 × gx_M)) : Nat → gx_M → Int32 → Option (Int32 × gx_M)
  | 0, _, _ => none
  | n + 1, μ, x1 => (if 301 ≤ x1 then
k μ x1
else
(if gx_ix x1 (kd (c0 + 1) - 100) = true then (if gx_ix ((301 * μ c0 3) + x1) (kd (c0 + 2) - 100) = true then lf_X7_records_51 kd c0 k n (gx_u μ (c0 + 2) (Int32.toNatClampNeg ((301 * μ c0 3) + x1)) (μ (c0 + 1) (Int32.toNatClampNeg x1))) (x1 + 1) else none) else none))
def lf_X7_records_10 (kd : Nat → Nat) (c0 : Nat) (k : gx_M → Int32 → Option (Int32 × gx_M)) : Nat → gx_M → Int32 → Option (Int32 × gx_M)
  | 0, _, _ => none
  | n + 1, μ, x1 => (if 1204 ≤ x1 then
k μ x1
else
(if gx_ix (x1 + 301) (kd (c0 + 2) - 100) = true then (if gx_ix x1 (kd (c0 + 2) - 100) = true then lf_X7_records_10 kd c0 k n (gx_u μ (c0 + 2) (Int32.toNatClampNeg x1) (μ (c0 + 2) (Int32.toNatClampNeg (x1 + 301)))) (x1 + 1) else none) else none))
def fn_X7_records (kd : Nat → Nat) (μ : gx_M) (c : Nat) : Option (Int32 × gx_M) :=
  (if μ c 3 = 5 then
lf_X7_records_10 kd c (fun m6 y7 =>
lf_X7_records_51 kd c (fun m8 y9 =>
some (0, (gx_u m8 c 3 (m8 c 3 + 1)))) gx_F (gx_u m6 c 3 (m6 c 3 - 1)) 0) gx_F μ 0
else
lf_X7_records_51 kd c (fun m3 y4 =>
some (0, (gx_u m3 c 3 (m3 c 3 + 1)))) gx_F μ 0)
set_option maxRecDepth 100000 in
set_option maxHeartbeats 4000000 in
theorem lt_X7_records_51 {l : Launch} {Y : gx_Y} {rr : Int32 × gx_M} {K : gx_KT} (hK : gx_K l RX7 cX7_records 2 0 0 none Y (fun r m => (r, m) = rr) K) (c0 : Nat) (hc0 : gk_mod Y c0) (k : gx_M → Int32 → Option (Int32 × gx_M)) (hx : ∀ (μ : gx_M) (x1 : Int32), k μ x1 = some rr → K μ 85 [(0, .ref (gy_a Y c0)), (1, .int x1)] []) :
    ∀ (n : Nat) (μ : gx_M) (x1 : Int32), lf_X7_records_51 (gy_k Y) c0 k n μ x1 = some rr → K μ 51 [(0, .ref (gy_a Y c0)), (1, .int x1)] [] := by
  intro n
  induction n with
  | zero =>
    intro μ x1 hf
    exact absurd hf (by simp [lf_X7_records_51])
  | succ n ih =>
    intro μ x1 hf
    rw [lf_X7_records_51] at hf
    refine gw_iload_n (pc := 51) hK 1 dX7_records_51 rfl rfl ?_
    refine gw_sipush (v := 301) (pc := 52) hK dX7_records_52 (by decide) ?_
    refine gw_icmp_ge (tgt := 85) (pc := 55) hK dX7_records_55 (by decide) hf (fun cc2 hf => ?_) (fun cc2 hf => ?_)
    ·
      refine gw_sub (L' := [(0, .ref (gy_a Y c0)), (1, .int x1)]) hK [0, 1] rfl (hx _ _ hf)
    ·
      refine gw_aload_n (pc := 58) hK 0 dX7_records_58 rfl rfl ?_
      refine gf_X7_13 (pc := 59) hK hc0.1 dX7_records_59 ?_
      refine gw_sipush (v := 301) (pc := 62) hK dX7_records_62 (by decide) ?_
      refine gw_aload_n (pc := 65) hK 0 dX7_records_65 rfl rfl ?_
      refine gf_X7_29 (pc := 66) hK hc0.1 dX7_records_66 ?_
      refine gw_imul (pc := 69) hK dX7_records_69 ?_
      refine gw_iload_n (pc := 70) hK 1 dX7_records_70 rfl rfl ?_
      refine gw_iadd (pc := 71) hK dX7_records_71 ?_
      refine gw_aload_n (pc := 72) hK 0 dX7_records_72 rfl rfl ?_
      refine gf_X7_7 (pc := 73) hK hc0.1 dX7_records_73 ?_
      refine gw_iload_n (pc := 76) hK 1 dX7_records_76 rfl rfl ?_
      refine gw_iald (pc := 77) hK hc0.2.1.1 (gk_100 hc0.2.1) dX7_records_77 hf (fun hf => ?_)
      refine gw_iast (pc := 78) hK hc0.2.2.1.1 (gk_100 hc0.2.2.1) dX7_records_78 hf (fun hf => ?_)
      refine gw_iinc (v := (x1 + 1)) (L' := [(1, .int (x1 + 1)), (0, .ref (gy_a Y c0))]) (pc := 79) hK 1 dX7_records_79 rfl rfl (by decide) rfl ?_
      refine gw_goto (tgt := 51) (pc := 82) hK dX7_records_82 (by decide) ?_
      refine gw_sub (L' := [(0, .ref (gy_a Y c0)), (1, .int (x1 + 1))]) hK [1, 0] rfl (ih _ _ hf)
set_option maxRecDepth 100000 in
set_option maxHeartbeats 4000000 in
theorem lt_X7_records_10 {l : Launch} {Y : gx_Y} {rr : Int32 × gx_M} {K : gx_KT} (hK : gx_K l RX7 cX7_records 2 0 0 none Y (fun r m => (r, m) = rr) K) (c0 : Nat) (hc0 : gk_mod Y c0) (k : gx_M → Int32 → Option (Int32 × gx_M)) (hx : ∀ (μ : gx_M) (x1 : Int32), k μ x1 = some rr → K μ 39 [(0, .ref (gy_a Y c0)), (1, .int x1)] []) :
    ∀ (n : Nat) (μ : gx_M) (x1 : Int32), lf_X7_records_10 (gy_k Y) c0 k n μ x1 = some rr → K μ 10 [(0, .ref (gy_a Y c0)), (1, .int x1)] [] := by
  intro n
  induction n with
  | zero =>
    intro μ x1 hf
    exact absurd hf (by simp [lf_X7_records_10])
  | succ n ih =>
    intro μ x1 hf
    rw [lf_X7_records_10] at hf
    refine gw_iload_n (pc := 10) hK 1 dX7_records_10 rfl rfl ?_
    refine gw_sipush (v := 1204) (pc := 11) hK dX7_records_11 (by decide) ?_
    refine gw_icmp_ge (tgt := 39) (pc := 14) hK dX7_records_14 (by decide) hf (fun cc5 hf => ?_) (fun cc5 hf => ?_)
    ·
      refine gw_sub (L' := [(0, .ref (gy_a Y c0)), (1, .int x1)]) hK [0, 1] rfl (hx _ _ hf)
    ·
      refine gw_aload_n (pc := 17) hK 0 dX7_records_17 rfl rfl ?_
      refine gf_X7_13 (pc := 18) hK hc0.1 dX7_records_18 ?_
      refine gw_iload_n (pc := 21) hK 1 dX7_records_21 rfl rfl ?_
      refine gw_aload_n (pc := 22) hK 0 dX7_records_22 rfl rfl ?_
      refine gf_X7_13 (pc := 23) hK hc0.1 dX7_records_23 ?_
      refine gw_iload_n (pc := 26) hK 1 dX7_records_26 rfl rfl ?_
      refine gw_sipush (v := 301) (pc := 27) hK dX7_records_27 (by decide) ?_
      refine gw_iadd (pc := 30) hK dX7_records_30 ?_
      refine gw_iald (pc := 31) hK hc0.2.2.1.1 (gk_100 hc0.2.2.1) dX7_records_31 hf (fun hf => ?_)
      refine gw_iast (pc := 32) hK hc0.2.2.1.1 (gk_100 hc0.2.2.1) dX7_records_32 hf (fun hf => ?_)
      refine gw_iinc (v := (x1 + 1)) (L' := [(1, .int (x1 + 1)), (0, .ref (gy_a Y c0))]) (pc := 33) hK 1 dX7_records_33 rfl rfl (by decide) rfl ?_
      refine gw_goto (tgt := 10) (pc := 36) hK dX7_records_36 (by decide) ?_
      refine gw_sub (L' := [(0, .ref (gy_a Y c0)), (1, .int (x1 + 1))]) hK [1, 0] rfl (ih _ _ hf)
set_option maxRecDepth 100000 in
set_option maxHeartbeats 4000000 in
theorem ct_X7_records (l : Launch) (Y : gx_Y) (μ : gx_M) (c : Nat) (rr : Int32 × gx_M) (hc : gk_mod Y c) (hf : fn_X7_records (gy_k Y) μ c = some rr) : gx_Con l yX7_records cX7_records 2 none 0 0 Y [.ref (gy_a Y c)] μ rr := by
  refine gx_Con_of (L0 := [(0, .ref (gy_a Y c))]) (by decide) (Nat.le_of_ble_eq_true rfl) rfl (fun K hK => ?_)
  unfold fn_X7_records at hf
  refine gw_aload_n (pc := 0) hK 0 dX7_records_0 rfl rfl ?_
  refine gf_X7_29 (pc := 1) hK hc.1 dX7_records_1 ?_
  refine gw_iconst (v := 5) (pc := 4) hK dX7_records_4 (by decide) ?_
  refine gw_icmp_ne (tgt := 49) (pc := 5) hK dX7_records_5 (by decide) hf (fun cc1 hf => ?_) (fun cc1 hf => ?_)
  ·
    refine gw_iconst (v := 0) (pc := 49) hK dX7_records_49 (by decide) ?_
    refine gw_istore_n (L' := [(1, .int 0), (0, .ref (gy_a Y c))]) (pc := 50) hK dX7_records_50 rfl (by decide) rfl ?_
    refine gw_sub (L' := [(0, .ref (gy_a Y c)), (1, .int 0)]) hK [1, 0] rfl (lt_X7_records_51 hK c hc _ (fun m3 y4 hf => ?_) gx_F _ _ hf)
    refine gw_aload_n (pc := 85) hK 0 dX7_records_85 rfl rfl ?_
    refine gw_dup (pc := 86) hK dX7_records_86 rfl ?_
    refine gf_X7_29 (pc := 87) hK hc.1 dX7_records_87 ?_
    refine gw_iconst (v := 1) (pc := 90) hK dX7_records_90 (by decide) ?_
    refine gw_iadd (pc := 91) hK dX7_records_91 ?_
    refine gp_X7_29 (pc := 92) hK hc.1 dX7_records_92 ?_
    exact gw_ret_v (pc := 95) hK dX7_records_95 (Option.some.inj hf)
  ·
    refine gw_iconst (v := 0) (pc := 8) hK dX7_records_8 (by decide) ?_
    refine gw_istore_n (L' := [(1, .int 0), (0, .ref (gy_a Y c))]) (pc := 9) hK dX7_records_9 rfl (by decide) rfl ?_
    refine gw_sub (L' := [(0, .ref (gy_a Y c)), (1, .int 0)]) hK [1, 0] rfl (lt_X7_records_10 hK c hc _ (fun m6 y7 hf => ?_) gx_F _ _ hf)
    refine gw_aload_n (pc := 39) hK 0 dX7_records_39 rfl rfl ?_
    refine gw_dup (pc := 40) hK dX7_records_40 rfl ?_
    refine gf_X7_29 (pc := 41) hK hc.1 dX7_records_41 ?_
    refine gw_iconst (v := 1) (pc := 44) hK dX7_records_44 (by decide) ?_
    refine gw_isub (pc := 45) hK dX7_records_45 ?_
    refine gp_X7_29 (pc := 46) hK hc.1 dX7_records_46 ?_
    refine gw_iconst (v := 0) (pc := 49) hK dX7_records_49 (by decide) ?_
    refine gw_istore_n (L' := [(1, .int 0), (0, .ref (gy_a Y c))]) (pc := 50) hK dX7_records_50 rfl (by decide) rfl ?_
    refine gw_sub (L' := [(0, .ref (gy_a Y c)), (1, .int 0)]) hK [1, 0] rfl (lt_X7_records_51 hK c hc _ (fun m8 y9 hf => ?_) gx_F _ _ hf)
    refine gw_aload_n (pc := 85) hK 0 dX7_records_85 rfl rfl ?_
    refine gw_dup (pc := 86) hK dX7_records_86 rfl ?_
    refine gf_X7_29 (pc := 87) hK hc.1 dX7_records_87 ?_
    refine gw_iconst (v := 1) (pc := 90) hK dX7_records_90 (by decide) ?_
    refine gw_iadd (pc := 91) hK dX7_records_91 ?_
    refine gp_X7_29 (pc := 92) hK hc.1 dX7_records_92 ?_
    exact gw_ret_v (pc := 95) hK dX7_records_95 (Option.some.inj hf)
theorem gv_X7_53 {l : Launch} {cc : ByteArray} {nL fr lo : Nat} {ret : Option FieldType} {Y : gx_Y} {Post : Int32 → gx_M → Prop} {K : gx_KT} {pc : Nat} {μ : gx_M} {L : List (Nat × Value)} {st : List Value} {rr : Int32 × gx_M} (h : gx_K l RX7 cc nL fr lo ret Y Post K) {c : Nat} (hc : gk_mod Y c) (d : decode cc pc = .ok (.invokevirtual 53, 3)) (hR : 0 + 1 ≤ fr ∧ 21 ≤ lo) (hst : (st.map fun v => v.category).sum ≤ 8) {k : Int32 → gx_M → Option (Int32 × gx_M)} (hf : gx_b (fn_X7_records (gy_k Y) μ c) k = some rr) (kk : ∀ (r : Int32) (m : gx_M), k r m = some rr → K m (pc + 3) L (st)) : K μ pc L (.ref (gy_a Y c) :: st) := by
  obtain ⟨r, m, e, hk⟩ := gx_b_some hf
  exact gw_callV (As := []) (q := (r, m)) h hc.1 (by decide) rfl (by refine ⟨rfl, by decide, by decide, (show (parseMethodDescriptor yX7_records.desc).map (fun d => d.parameters.length) = some 0 by decide +kernel)⟩) kw_ml_RX7_53 kw_im_X7_records kw_se_X7_records kw_in_RX7 kw_co_X7_records hR hst d (ct_X7_records l Y μ c (r, m) hc e) (kk r m hk)
def fn_X7_bowl (kd : Nat → Nat) (μ : gx_M) (c : Nat) (p1 : Int32) (p2 : Int32) : Option (Int32 × gx_M) :=
  gx_b (fn_X7_in kd μ p1 0 6000) (fun r1 m2 =>
(if r1 = 0 then
some ((-100001), m2)
else
gx_b (fn_X7_in kd m2 p2 1 2400) (fun r4 m5 =>
(if r4 = 0 then
some ((-100001), m5)
else
(if gx_ix 1 (kd (c + 1) - 100) = true then (if m5 (c + 1) (Int32.toNatClampNeg 1) = 10 then
some ((-100003), m5)
else
gx_b (fn_X7_records kd m5 c) (fun _ m9 =>
(if gx_ix 1 (kd (c + 1) - 100) = true then gx_b (fn_X7_put kd m9 c (m9 (c + 1) (Int32.toNatClampNeg 1)) 0 p1) (fun _ m11 =>
gx_b (fn_X7_put kd m11 c (m9 (c + 1) (Int32.toNatClampNeg 1)) 1 p2) (fun _ m13 =>
gx_b (fn_X7_put kd m13 c (m9 (c + 1) (Int32.toNatClampNeg 1)) 2 0) (fun _ m15 =>
gx_b (fn_X7_put kd m15 c (m9 (c + 1) (Int32.toNatClampNeg 1)) 3 0) (fun _ m17 =>
gx_b (fn_X7_put kd m17 c (m9 (c + 1) (Int32.toNatClampNeg 1)) 4 1000) (fun _ m19 =>
(if gx_ix 1 (kd (c + 1) - 100) = true then (if gx_ix 1 (kd (c + 1) - 100) = true then some (m9 (c + 1) (Int32.toNatClampNeg 1), (gx_u m19 (c + 1) (Int32.toNatClampNeg 1) (m19 (c + 1) (Int32.toNatClampNeg 1) + 1))) else none) else none)))))) else none))) else none)))))
set_option maxRecDepth 100000 in
set_option maxHeartbeats 4000000 in
theorem ct_X7_bowl (l : Launch) (Y : gx_Y) (μ : gx_M) (c : Nat) (p1 : Int32) (p2 : Int32) (rr : Int32 × gx_M) (hc : gk_mod Y c) (hf : fn_X7_bowl (gy_k Y) μ c p1 p2 = some rr) : gx_Con l yX7_bowl cX7_bowl 4 (some .int) 1 23 Y [.ref (gy_a Y c), .int p1, .int p2] μ rr := by
  refine gx_Con_of (L0 := [(0, .ref (gy_a Y c)), (1, .int p1), (2, .int p2)]) (by decide) (Nat.le_of_ble_eq_true rfl) rfl (fun K hK => ?_)
  unfold fn_X7_bowl at hf
  refine gw_iload_n (pc := 0) hK 1 dX7_bowl_0 rfl rfl ?_
  refine gw_iconst (v := 0) (pc := 1) hK dX7_bowl_1 (by decide) ?_
  refine gw_sipush (v := 6000) (pc := 2) hK dX7_bowl_2 (by decide) ?_
  refine gv_X7_25 (pc := 5) hK dX7_bowl_5 (by decide) (Nat.le_of_ble_eq_true rfl) hf (fun r1 m2 hf => ?_)
  refine gw_if_eq (tgt := 22) (pc := 8) hK dX7_bowl_8 (by decide) hf (fun cc3 hf => ?_) (fun cc3 hf => ?_)
  ·
    refine gw_ldc (pc := 22) hK dX7_bowl_22 kw_k_RX7_51 ?_
    exact gw_ret_i (pc := 24) hK dX7_bowl_24 (Option.some.inj hf)
  ·
    refine gw_iload_n (pc := 11) hK 2 dX7_bowl_11 rfl rfl ?_
    refine gw_iconst (v := 1) (pc := 12) hK dX7_bowl_12 (by decide) ?_
    refine gw_sipush (v := 2400) (pc := 13) hK dX7_bowl_13 (by decide) ?_
    refine gv_X7_25 (pc := 16) hK dX7_bowl_16 (by decide) (Nat.le_of_ble_eq_true rfl) hf (fun r4 m5 hf => ?_)
    refine gw_if_ne (tgt := 25) (pc := 19) hK dX7_bowl_19 (by decide) hf (fun cc6 hf => ?_) (fun cc6 hf => ?_)
    ·
      refine gw_aload_n (pc := 25) hK 0 dX7_bowl_25 rfl rfl ?_
      refine gf_X7_7 (pc := 26) hK hc.1 dX7_bowl_26 ?_
      refine gw_iconst (v := 1) (pc := 29) hK dX7_bowl_29 (by decide) ?_
      refine gw_iald (pc := 30) hK hc.2.1.1 (gk_100 hc.2.1) dX7_bowl_30 hf (fun hf => ?_)
      refine gw_bipush (v := 10) (pc := 31) hK dX7_bowl_31 (by decide) ?_
      refine gw_icmp_ne (tgt := 39) (pc := 33) hK dX7_bowl_33 (by decide) hf (fun cc7 hf => ?_) (fun cc7 hf => ?_)
      ·
        refine gw_aload_n (pc := 39) hK 0 dX7_bowl_39 rfl rfl ?_
        refine gv_X7_53 (pc := 40) hK hc dX7_bowl_40 (by decide) (Nat.le_of_ble_eq_true rfl) hf (fun _ m9 hf => ?_)
        refine gw_aload_n (pc := 43) hK 0 dX7_bowl_43 rfl rfl ?_
        refine gf_X7_7 (pc := 44) hK hc.1 dX7_bowl_44 ?_
        refine gw_iconst (v := 1) (pc := 47) hK dX7_bowl_47 (by decide) ?_
        refine gw_iald (pc := 48) hK hc.2.1.1 (gk_100 hc.2.1) dX7_bowl_48 hf (fun hf => ?_)
        refine gw_istore_n (L' := [(3, .int (m9 (c + 1) (Int32.toNatClampNeg 1))), (0, .ref (gy_a Y c)), (1, .int p1), (2, .int p2)]) (pc := 49) hK dX7_bowl_49 rfl (by decide) rfl ?_
        refine gw_aload_n (pc := 50) hK 1 dX7_bowl_50 rfl rfl ?_
        refine gw_iload_n (pc := 51) hK 0 dX7_bowl_51 rfl rfl ?_
        refine gw_iconst (v := 0) (pc := 52) hK dX7_bowl_52 (by decide) ?_
        refine gw_iload_n (pc := 53) hK 2 dX7_bowl_53 rfl rfl ?_
        refine gv_X7_43 (pc := 54) hK hc dX7_bowl_54 (by decide) (Nat.le_of_ble_eq_true rfl) hf (fun _ m11 hf => ?_)
        refine gw_aload_n (pc := 57) hK 1 dX7_bowl_57 rfl rfl ?_
        refine gw_iload_n (pc := 58) hK 0 dX7_bowl_58 rfl rfl ?_
        refine gw_iconst (v := 1) (pc := 59) hK dX7_bowl_59 (by decide) ?_
        refine gw_iload_n (pc := 60) hK 3 dX7_bowl_60 rfl rfl ?_
        refine gv_X7_43 (pc := 61) hK hc dX7_bowl_61 (by decide) (Nat.le_of_ble_eq_true rfl) hf (fun _ m13 hf => ?_)
        refine gw_aload_n (pc := 64) hK 1 dX7_bowl_64 rfl rfl ?_
        refine gw_iload_n (pc := 65) hK 0 dX7_bowl_65 rfl rfl ?_
        refine gw_iconst (v := 2) (pc := 66) hK dX7_bowl_66 (by decide) ?_
        refine gw_iconst (v := 0) (pc := 67) hK dX7_bowl_67 (by decide) ?_
        refine gv_X7_43 (pc := 68) hK hc dX7_bowl_68 (by decide) (Nat.le_of_ble_eq_true rfl) hf (fun _ m15 hf => ?_)
        refine gw_aload_n (pc := 71) hK 1 dX7_bowl_71 rfl rfl ?_
        refine gw_iload_n (pc := 72) hK 0 dX7_bowl_72 rfl rfl ?_
        refine gw_iconst (v := 3) (pc := 73) hK dX7_bowl_73 (by decide) ?_
        refine gw_iconst (v := 0) (pc := 74) hK dX7_bowl_74 (by decide) ?_
        refine gv_X7_43 (pc := 75) hK hc dX7_bowl_75 (by decide) (Nat.le_of_ble_eq_true rfl) hf (fun _ m17 hf => ?_)
        refine gw_aload_n (pc := 78) hK 1 dX7_bowl_78 rfl rfl ?_
        refine gw_iload_n (pc := 79) hK 0 dX7_bowl_79 rfl rfl ?_
        refine gw_iconst (v := 4) (pc := 80) hK dX7_bowl_80 (by decide) ?_
        refine gw_sipush (v := 1000) (pc := 81) hK dX7_bowl_81 (by decide) ?_
        refine gv_X7_43 (pc := 84) hK hc dX7_bowl_84 (by decide) (Nat.le_of_ble_eq_true rfl) hf (fun _ m19 hf => ?_)
        refine gw_aload_n (pc := 87) hK 1 dX7_bowl_87 rfl rfl ?_
        refine gf_X7_7 (pc := 88) hK hc.1 dX7_bowl_88 ?_
        refine gw_iconst (v := 1) (pc := 91) hK dX7_bowl_91 (by decide) ?_
        refine gw_dup2 (pc := 92) hK dX7_bowl_92 rfl rfl ?_
        refine gw_iald (pc := 93) hK hc.2.1.1 (gk_100 hc.2.1) dX7_bowl_93 hf (fun hf => ?_)
        refine gw_iconst (v := 1) (pc := 94) hK dX7_bowl_94 (by decide) ?_
        refine gw_iadd (pc := 95) hK dX7_bowl_95 ?_
        refine gw_iast (pc := 96) hK hc.2.1.1 (gk_100 hc.2.1) dX7_bowl_96 hf (fun hf => ?_)
        refine gw_iload_n (pc := 97) hK 0 dX7_bowl_97 rfl rfl ?_
        exact gw_ret_i (pc := 98) hK dX7_bowl_98 (Option.some.inj hf)
      ·
        refine gw_ldc (pc := 36) hK dX7_bowl_36 kw_k_RX7_52 ?_
        exact gw_ret_i (pc := 38) hK dX7_bowl_38 (Option.some.inj hf)
    ·
      refine gw_ldc (pc := 22) hK dX7_bowl_22 kw_k_RX7_51 ?_
      exact gw_ret_i (pc := 24) hK dX7_bowl_24 (Option.some.inj hf)

def fn_X7_isBowl (kd : Nat → Nat) (μ : gx_M) (c : Nat) (p1 : Int32) : Option (Int32 × gx_M) :=
  (if gx_ix 1 (kd (c + 1) - 100) = true then gx_b (fn_X7_in kd μ p1 0 (μ (c + 1) (Int32.toNatClampNeg 1) - 1)) (fun r1 m2 =>
(if r1 = 0 ∨ r1 = 1 then some (r1, m2) else none)) else none)
set_option maxRecDepth 100000 in
set_option maxHeartbeats 4000000 in
theorem ct_X7_isBowl (l : Launch) (Y : gx_Y) (μ : gx_M) (c : Nat) (p1 : Int32) (rr : Int32 × gx_M) (hc : gk_mod Y c) (hf : fn_X7_isBowl (gy_k Y) μ c p1 = some rr) : gx_Con l yX7_isBowl cX7_isBowl 2 (some .boolean) 1 22 Y [.ref (gy_a Y c), .int p1] μ rr := by
  refine gx_Con_of (L0 := [(0, .ref (gy_a Y c)), (1, .int p1)]) (by decide) (Nat.le_of_ble_eq_true rfl) rfl (fun K hK => ?_)
  unfold fn_X7_isBowl at hf
  refine gw_iload_n (pc := 0) hK 1 dX7_isBowl_0 rfl rfl ?_
  refine gw_iconst (v := 0) (pc := 1) hK dX7_isBowl_1 (by decide) ?_
  refine gw_aload_n (pc := 2) hK 0 dX7_isBowl_2 rfl rfl ?_
  refine gf_X7_7 (pc := 3) hK hc.1 dX7_isBowl_3 ?_
  refine gw_iconst (v := 1) (pc := 6) hK dX7_isBowl_6 (by decide) ?_
  refine gw_iald (pc := 7) hK hc.2.1.1 (gk_100 hc.2.1) dX7_isBowl_7 hf (fun hf => ?_)
  refine gw_iconst (v := 1) (pc := 8) hK dX7_isBowl_8 (by decide) ?_
  refine gw_isub (pc := 9) hK dX7_isBowl_9 ?_
  refine gv_X7_25 (pc := 10) hK dX7_isBowl_10 (by decide) (Nat.le_of_ble_eq_true rfl) hf (fun r1 m2 hf => ?_)
  obtain ⟨hz3, hf⟩ := gx_must hf
  exact gw_ret_z (pc := 13) hK dX7_isBowl_13 (gx_nar hz3) (Option.some.inj hf)
theorem gv_X7_56 {l : Launch} {cc : ByteArray} {nL fr lo : Nat} {ret : Option FieldType} {Y : gx_Y} {Post : Int32 → gx_M → Prop} {K : gx_KT} {pc : Nat} {μ : gx_M} {L : List (Nat × Value)} {st : List Value} {rr : Int32 × gx_M} (h : gx_K l RX7 cc nL fr lo ret Y Post K) {c : Nat} {p1 : Int32} (hc : gk_mod Y c) (d : decode cc pc = .ok (.invokevirtual 56, 3)) (hR : 1 + 1 ≤ fr ∧ 43 ≤ lo) (hst : (st.map fun v => v.category).sum ≤ 8) {k : Int32 → gx_M → Option (Int32 × gx_M)} (hf : gx_b (fn_X7_isBowl (gy_k Y) μ c p1) k = some rr) (kk : ∀ (r : Int32) (m : gx_M), k r m = some rr → K m (pc + 3) L (.int r :: st)) : K μ pc L (.int p1 :: .ref (gy_a Y c) :: st) := by
  obtain ⟨r, m, e, hk⟩ := gx_b_some hf
  exact gw_callV (As := [.int p1]) (q := (r, m)) h hc.1 (by decide) rfl (by refine ⟨rfl, by decide, by decide, (show (parseMethodDescriptor yX7_isBowl.desc).map (fun d => d.parameters.length) = some 1 by decide +kernel)⟩) kw_ml_RX7_56 kw_im_X7_isBowl kw_se_X7_isBowl kw_in_RX7 kw_co_X7_isBowl hR hst d (ct_X7_isBowl l Y μ c p1 (r, m) hc e) (kk r m hk)
def fn_X7_of (kd : Nat → Nat) (μ : gx_M) (c : Nat) (p1 : Int32) (p2 : Int32) : Option (Int32 × gx_M) :=
  (if gx_ix ((11 + (5 * p1)) + p2) (kd (c + 1) - 100) = true then some (μ (c + 1) (Int32.toNatClampNeg ((11 + (5 * p1)) + p2)), μ) else none)
set_option maxRecDepth 100000 in
set_option maxHeartbeats 4000000 in
theorem ct_X7_of (l : Launch) (Y : gx_Y) (μ : gx_M) (c : Nat) (p1 : Int32) (p2 : Int32) (rr : Int32 × gx_M) (hc : gk_mod Y c) (hf : fn_X7_of (gy_k Y) μ c p1 p2 = some rr) : gx_Con l yX7_of cX7_of 3 (some .int) 0 0 Y [.ref (gy_a Y c), .int p1, .int p2] μ rr := by
  refine gx_Con_of (L0 := [(0, .ref (gy_a Y c)), (1, .int p1), (2, .int p2)]) (by decide) (Nat.le_of_ble_eq_true rfl) rfl (fun K hK => ?_)
  unfold fn_X7_of at hf
  refine gw_aload_n (pc := 0) hK 0 dX7_of_0 rfl rfl ?_
  refine gf_X7_7 (pc := 1) hK hc.1 dX7_of_1 ?_
  refine gw_bipush (v := 11) (pc := 4) hK dX7_of_4 (by decide) ?_
  refine gw_iconst (v := 5) (pc := 6) hK dX7_of_6 (by decide) ?_
  refine gw_iload_n (pc := 7) hK 1 dX7_of_7 rfl rfl ?_
  refine gw_imul (pc := 8) hK dX7_of_8 ?_
  refine gw_iadd (pc := 9) hK dX7_of_9 ?_
  refine gw_iload_n (pc := 10) hK 2 dX7_of_10 rfl rfl ?_
  refine gw_iadd (pc := 11) hK dX7_of_11 ?_
  refine gw_iald (pc := 12) hK hc.2.1.1 (gk_100 hc.2.1) dX7_of_12 hf (fun hf => ?_)
  exact gw_ret_i (pc := 13) hK dX7_of_13 (Option.some.inj hf)
theorem gv_X7_34 {l : Launch} {cc : ByteArray} {nL fr lo : Nat} {ret : Option FieldType} {Y : gx_Y} {Post : Int32 → gx_M → Prop} {K : gx_KT} {pc : Nat} {μ : gx_M} {L : List (Nat × Value)} {st : List Value} {rr : Int32 × gx_M} (h : gx_K l RX7 cc nL fr lo ret Y Post K) {c : Nat} {p1 : Int32} {p2 : Int32} (hc : gk_mod Y c) (d : decode cc pc = .ok (.invokevirtual 34, 3)) (hR : 0 + 1 ≤ fr ∧ 22 ≤ lo) (hst : (st.map fun v => v.category).sum ≤ 8) {k : Int32 → gx_M → Option (Int32 × gx_M)} (hf : gx_b (fn_X7_of (gy_k Y) μ c p1 p2) k = some rr) (kk : ∀ (r : Int32) (m : gx_M), k r m = some rr → K m (pc + 3) L (.int r :: st)) : K μ pc L (.int p2 :: .int p1 :: .ref (gy_a Y c) :: st) := by
  obtain ⟨r, m, e, hk⟩ := gx_b_some hf
  exact gw_callV (As := [.int p1, .int p2]) (q := (r, m)) h hc.1 (by decide) rfl (by refine ⟨rfl, by decide, by decide, (show (parseMethodDescriptor yX7_of.desc).map (fun d => d.parameters.length) = some 2 by decide +kernel)⟩) kw_ml_RX7_34 kw_im_X7_of kw_se_X7_of kw_in_RX7 kw_co_X7_of hR hst d (ct_X7_of l Y μ c p1 p2 (r, m) hc e) (kk r m hk)
def fn_X7_pitchBy (kd : Nat → Nat) (μ : gx_M) (c : Nat) (p1 : Int32) (p2 : Int32) : Option (Int32 × gx_M) :=
  gx_b (fn_X7_of kd μ c p1 0) (fun r1 m2 =>
gx_b (fn_X7_of kd m2 c p1 1) (fun r3 m4 =>
some ((r1 - (((r3.toInt64 * p2.toInt64) * p2.toInt64) / 1000000).toInt32), m4)))
set_option maxRecDepth 100000 in
set_option maxHeartbeats 4000000 in
theorem ct_X7_pitchBy (l : Launch) (Y : gx_Y) (μ : gx_M) (c : Nat) (p1 : Int32) (p2 : Int32) (rr : Int32 × gx_M) (hc : gk_mod Y c) (hf : fn_X7_pitchBy (gy_k Y) μ c p1 p2 = some rr) : gx_Con l yX7_pitchBy cX7_pitchBy 3 (some .int) 1 22 Y [.ref (gy_a Y c), .int p1, .int p2] μ rr := by
  refine gx_Con_of (L0 := [(0, .ref (gy_a Y c)), (1, .int p1), (2, .int p2)]) (by decide) (Nat.le_of_ble_eq_true rfl) rfl (fun K hK => ?_)
  unfold fn_X7_pitchBy at hf
  refine gw_aload_n (pc := 0) hK 0 dX7_pitchBy_0 rfl rfl ?_
  refine gw_iload_n (pc := 1) hK 1 dX7_pitchBy_1 rfl rfl ?_
  refine gw_iconst (v := 0) (pc := 2) hK dX7_pitchBy_2 (by decide) ?_
  refine gv_X7_34 (pc := 3) hK hc dX7_pitchBy_3 (by decide) (Nat.le_of_ble_eq_true rfl) hf (fun r1 m2 hf => ?_)
  refine gw_aload_n (pc := 6) hK 0 dX7_pitchBy_6 rfl rfl ?_
  refine gw_iload_n (pc := 7) hK 1 dX7_pitchBy_7 rfl rfl ?_
  refine gw_iconst (v := 1) (pc := 8) hK dX7_pitchBy_8 (by decide) ?_
  refine gv_X7_34 (pc := 9) hK hc dX7_pitchBy_9 (by decide) (Nat.le_of_ble_eq_true rfl) hf (fun r3 m4 hf => ?_)
  refine gw_i2l (pc := 12) hK dX7_pitchBy_12 ?_
  refine gw_iload_n (pc := 13) hK 2 dX7_pitchBy_13 rfl rfl ?_
  refine gw_i2l (pc := 14) hK dX7_pitchBy_14 ?_
  refine gw_lmul (pc := 15) hK dX7_pitchBy_15 ?_
  refine gw_iload_n (pc := 16) hK 2 dX7_pitchBy_16 rfl rfl ?_
  refine gw_i2l (pc := 17) hK dX7_pitchBy_17 ?_
  refine gw_lmul (pc := 18) hK dX7_pitchBy_18 ?_
  refine gw_ldc2 (pc := 19) hK dX7_pitchBy_19 kw_kl_RX7_38 ?_
  refine gw_ldiv (pc := 22) hK dX7_pitchBy_22 (by decide) ?_
  refine gw_l2i (pc := 23) hK dX7_pitchBy_23 ?_
  refine gw_isub (pc := 24) hK dX7_pitchBy_24 ?_
  exact gw_ret_i (pc := 25) hK dX7_pitchBy_25 (Option.some.inj hf)
theorem gv_X7_40 {l : Launch} {cc : ByteArray} {nL fr lo : Nat} {ret : Option FieldType} {Y : gx_Y} {Post : Int32 → gx_M → Prop} {K : gx_KT} {pc : Nat} {μ : gx_M} {L : List (Nat × Value)} {st : List Value} {rr : Int32 × gx_M} (h : gx_K l RX7 cc nL fr lo ret Y Post K) {c : Nat} {p1 : Int32} {p2 : Int32} (hc : gk_mod Y c) (d : decode cc pc = .ok (.invokevirtual 40, 3)) (hR : 1 + 1 ≤ fr ∧ 44 ≤ lo) (hst : (st.map fun v => v.category).sum ≤ 8) {k : Int32 → gx_M → Option (Int32 × gx_M)} (hf : gx_b (fn_X7_pitchBy (gy_k Y) μ c p1 p2) k = some rr) (kk : ∀ (r : Int32) (m : gx_M), k r m = some rr → K m (pc + 3) L (.int r :: st)) : K μ pc L (.int p2 :: .int p1 :: .ref (gy_a Y c) :: st) := by
  obtain ⟨r, m, e, hk⟩ := gx_b_some hf
  exact gw_callV (As := [.int p1, .int p2]) (q := (r, m)) h hc.1 (by decide) rfl (by refine ⟨rfl, by decide, by decide, (show (parseMethodDescriptor yX7_pitchBy.desc).map (fun d => d.parameters.length) = some 2 by decide +kernel)⟩) kw_ml_RX7_40 kw_im_X7_pitchBy kw_se_X7_pitchBy kw_in_RX7 kw_co_X7_pitchBy hR hst d (ct_X7_pitchBy l Y μ c p1 p2 (r, m) hc e) (kk r m hk)
def fn_X7_pitch (kd : Nat → Nat) (μ : gx_M) (c : Nat) (p1 : Int32) : Option (Int32 × gx_M) :=
  gx_b (fn_X7_of kd μ c p1 2) (fun r1 m2 =>
gx_b (fn_X7_pitchBy kd m2 c p1 r1) (fun r3 m4 =>
some (r3, m4)))
set_option maxRecDepth 100000 in
set_option maxHeartbeats 4000000 in
theorem ct_X7_pitch (l : Launch) (Y : gx_Y) (μ : gx_M) (c : Nat) (p1 : Int32) (rr : Int32 × gx_M) (hc : gk_mod Y c) (hf : fn_X7_pitch (gy_k Y) μ c p1 = some rr) : gx_Con l yX7_pitch cX7_pitch 2 (some .int) 2 44 Y [.ref (gy_a Y c), .int p1] μ rr := by
  refine gx_Con_of (L0 := [(0, .ref (gy_a Y c)), (1, .int p1)]) (by decide) (Nat.le_of_ble_eq_true rfl) rfl (fun K hK => ?_)
  unfold fn_X7_pitch at hf
  refine gw_aload_n (pc := 0) hK 0 dX7_pitch_0 rfl rfl ?_
  refine gw_iload_n (pc := 1) hK 1 dX7_pitch_1 rfl rfl ?_
  refine gw_aload_n (pc := 2) hK 0 dX7_pitch_2 rfl rfl ?_
  refine gw_iload_n (pc := 3) hK 1 dX7_pitch_3 rfl rfl ?_
  refine gw_iconst (v := 2) (pc := 4) hK dX7_pitch_4 (by decide) ?_
  refine gv_X7_34 (pc := 5) hK hc dX7_pitch_5 (by decide) (Nat.le_of_ble_eq_true rfl) hf (fun r1 m2 hf => ?_)
  refine gv_X7_40 (pc := 8) hK hc dX7_pitch_8 (by decide) (Nat.le_of_ble_eq_true rfl) hf (fun r3 m4 hf => ?_)
  exact gw_ret_i (pc := 11) hK dX7_pitch_11 (Option.some.inj hf)
theorem gv_X7_64 {l : Launch} {cc : ByteArray} {nL fr lo : Nat} {ret : Option FieldType} {Y : gx_Y} {Post : Int32 → gx_M → Prop} {K : gx_KT} {pc : Nat} {μ : gx_M} {L : List (Nat × Value)} {st : List Value} {rr : Int32 × gx_M} (h : gx_K l RX7 cc nL fr lo ret Y Post K) {c : Nat} {p1 : Int32} (hc : gk_mod Y c) (d : decode cc pc = .ok (.invokevirtual 64, 3)) (hR : 2 + 1 ≤ fr ∧ 65 ≤ lo) (hst : (st.map fun v => v.category).sum ≤ 8) {k : Int32 → gx_M → Option (Int32 × gx_M)} (hf : gx_b (fn_X7_pitch (gy_k Y) μ c p1) k = some rr) (kk : ∀ (r : Int32) (m : gx_M), k r m = some rr → K m (pc + 3) L (.int r :: st)) : K μ pc L (.int p1 :: .ref (gy_a Y c) :: st) := by
  obtain ⟨r, m, e, hk⟩ := gx_b_some hf
  exact gw_callV (As := [.int p1]) (q := (r, m)) h hc.1 (by decide) rfl (by refine ⟨rfl, by decide, by decide, (show (parseMethodDescriptor yX7_pitch.desc).map (fun d => d.parameters.length) = some 1 by decide +kernel)⟩) kw_ml_RX7_64 kw_im_X7_pitch kw_se_X7_pitch kw_in_RX7 kw_co_X7_pitch hR hst d (ct_X7_pitch l Y μ c p1 (r, m) hc e) (kk r m hk)
def fn_X7_bowlOf (kd : Nat → Nat) (μ : gx_M) (c : Nat) (p1 : Int32) (p2 : Int32) : Option (Int32 × gx_M) :=
  gx_b (fn_X7_isBowl kd μ c p1) (fun r1 m2 =>
(if r1 = 0 then
some ((-100001), m2)
else
gx_b (fn_X7_in kd m2 p2 0 6) (fun r4 m5 =>
(if r4 = 0 then
some ((-100001), m5)
else
gx_b (fn_X7_of kd m5 c p1 3) (fun r7 m8 =>
gx_b (fn_X7_of kd m8 c p1 4) (fun r9 m10 =>
(if r9 ≤ r7 then
gx_b (fn_X7_of kd m10 c p1 4) (fun r12 m13 =>
(if 5 ≤ p2 then
(if p2 = 5 then
gx_b (fn_X7_pitch kd m13 c p1) (fun r18 m19 =>
some (r18, m19))
else
gx_b (fn_X7_pitchBy kd m13 c p1 r12) (fun r16 m17 =>
some (r16, m17)))
else
gx_b (fn_X7_of kd m13 c p1 p2) (fun r20 m21 =>
some (r20, m21))))
else
gx_b (fn_X7_of kd m10 c p1 3) (fun r22 m23 =>
(if 5 ≤ p2 then
(if p2 = 5 then
gx_b (fn_X7_pitch kd m23 c p1) (fun r28 m29 =>
some (r28, m29))
else
gx_b (fn_X7_pitchBy kd m23 c p1 r22) (fun r26 m27 =>
some (r26, m27)))
else
gx_b (fn_X7_of kd m23 c p1 p2) (fun r30 m31 =>
some (r30, m31)))))))))))
set_option maxRecDepth 100000 in
set_option maxHeartbeats 4000000 in
theorem ct_X7_bowlOf (l : Launch) (Y : gx_Y) (μ : gx_M) (c : Nat) (p1 : Int32) (p2 : Int32) (rr : Int32 × gx_M) (hc : gk_mod Y c) (hf : fn_X7_bowlOf (gy_k Y) μ c p1 p2 = some rr) : gx_Con l yX7_bowlOf cX7_bowlOf 4 (some .int) 3 65 Y [.ref (gy_a Y c), .int p1, .int p2] μ rr := by
  refine gx_Con_of (L0 := [(0, .ref (gy_a Y c)), (1, .int p1), (2, .int p2)]) (by decide) (Nat.le_of_ble_eq_true rfl) rfl (fun K hK => ?_)
  unfold fn_X7_bowlOf at hf
  refine gw_aload_n (pc := 0) hK 0 dX7_bowlOf_0 rfl rfl ?_
  refine gw_iload_n (pc := 1) hK 1 dX7_bowlOf_1 rfl rfl ?_
  refine gv_X7_56 (pc := 2) hK hc dX7_bowlOf_2 (by decide) (Nat.le_of_ble_eq_true rfl) hf (fun r1 m2 hf => ?_)
  refine gw_if_eq (tgt := 18) (pc := 5) hK dX7_bowlOf_5 (by decide) hf (fun cc3 hf => ?_) (fun cc3 hf => ?_)
  ·
    refine gw_ldc (pc := 18) hK dX7_bowlOf_18 kw_k_RX7_51 ?_
    exact gw_ret_i (pc := 20) hK dX7_bowlOf_20 (Option.some.inj hf)
  ·
    refine gw_iload_n (pc := 8) hK 2 dX7_bowlOf_8 rfl rfl ?_
    refine gw_iconst (v := 0) (pc := 9) hK dX7_bowlOf_9 (by decide) ?_
    refine gw_bipush (v := 6) (pc := 10) hK dX7_bowlOf_10 (by decide) ?_
    refine gv_X7_25 (pc := 12) hK dX7_bowlOf_12 (by decide) (Nat.le_of_ble_eq_true rfl) hf (fun r4 m5 hf => ?_)
    refine gw_if_ne (tgt := 21) (pc := 15) hK dX7_bowlOf_15 (by decide) hf (fun cc6 hf => ?_) (fun cc6 hf => ?_)
    ·
      refine gw_aload_n (pc := 21) hK 0 dX7_bowlOf_21 rfl rfl ?_
      refine gw_iload_n (pc := 22) hK 1 dX7_bowlOf_22 rfl rfl ?_
      refine gw_iconst (v := 3) (pc := 23) hK dX7_bowlOf_23 (by decide) ?_
      refine gv_X7_34 (pc := 24) hK hc dX7_bowlOf_24 (by decide) (Nat.le_of_ble_eq_true rfl) hf (fun r7 m8 hf => ?_)
      refine gw_aload_n (pc := 27) hK 0 dX7_bowlOf_27 rfl rfl ?_
      refine gw_iload_n (pc := 28) hK 1 dX7_bowlOf_28 rfl rfl ?_
      refine gw_iconst (v := 4) (pc := 29) hK dX7_bowlOf_29 (by decide) ?_
      refine gv_X7_34 (pc := 30) hK hc dX7_bowlOf_30 (by decide) (Nat.le_of_ble_eq_true rfl) hf (fun r9 m10 hf => ?_)
      refine gw_icmp_ge (tgt := 45) (pc := 33) hK dX7_bowlOf_33 (by decide) hf (fun cc11 hf => ?_) (fun cc11 hf => ?_)
      ·
        refine gw_aload_n (pc := 45) hK 0 dX7_bowlOf_45 rfl rfl ?_
        refine gw_iload_n (pc := 46) hK 1 dX7_bowlOf_46 rfl rfl ?_
        refine gw_iconst (v := 4) (pc := 47) hK dX7_bowlOf_47 (by decide) ?_
        refine gv_X7_34 (pc := 48) hK hc dX7_bowlOf_48 (by decide) (Nat.le_of_ble_eq_true rfl) hf (fun r12 m13 hf => ?_)
        refine gw_istore_n (L' := [(3, .int r12), (0, .ref (gy_a Y c)), (1, .int p1), (2, .int p2)]) (pc := 51) hK dX7_bowlOf_51 rfl (by decide) rfl ?_
        refine gw_iload_n (pc := 52) hK 3 dX7_bowlOf_52 rfl rfl ?_
        refine gw_iconst (v := 5) (pc := 53) hK dX7_bowlOf_53 (by decide) ?_
        refine gw_icmp_ge (tgt := 66) (pc := 54) hK dX7_bowlOf_54 (by decide) hf (fun cc14 hf => ?_) (fun cc14 hf => ?_)
        ·
          refine gw_iload_n (pc := 66) hK 3 dX7_bowlOf_66 rfl rfl ?_
          refine gw_iconst (v := 5) (pc := 67) hK dX7_bowlOf_67 (by decide) ?_
          refine gw_icmp_ne (tgt := 79) (pc := 68) hK dX7_bowlOf_68 (by decide) hf (fun cc15 hf => ?_) (fun cc15 hf => ?_)
          ·
            refine gw_aload_n (pc := 79) hK 1 dX7_bowlOf_79 rfl rfl ?_
            refine gw_iload_n (pc := 80) hK 2 dX7_bowlOf_80 rfl rfl ?_
            refine gw_iload_n (pc := 81) hK 0 dX7_bowlOf_81 rfl rfl ?_
            refine gv_X7_40 (pc := 82) hK hc dX7_bowlOf_82 (by decide) (Nat.le_of_ble_eq_true rfl) hf (fun r16 m17 hf => ?_)
            exact gw_ret_i (pc := 85) hK dX7_bowlOf_85 (Option.some.inj hf)
          ·
            refine gw_aload_n (pc := 71) hK 1 dX7_bowlOf_71 rfl rfl ?_
            refine gw_iload_n (pc := 72) hK 2 dX7_bowlOf_72 rfl rfl ?_
            refine gv_X7_64 (pc := 73) hK hc dX7_bowlOf_73 (by decide) (Nat.le_of_ble_eq_true rfl) hf (fun r18 m19 hf => ?_)
            refine gw_goto (tgt := 85) (pc := 76) hK dX7_bowlOf_76 (by decide) ?_
            exact gw_ret_i (pc := 85) hK dX7_bowlOf_85 (Option.some.inj hf)
        ·
          refine gw_aload_n (pc := 57) hK 1 dX7_bowlOf_57 rfl rfl ?_
          refine gw_iload_n (pc := 58) hK 2 dX7_bowlOf_58 rfl rfl ?_
          refine gw_iload_n (pc := 59) hK 3 dX7_bowlOf_59 rfl rfl ?_
          refine gv_X7_34 (pc := 60) hK hc dX7_bowlOf_60 (by decide) (Nat.le_of_ble_eq_true rfl) hf (fun r20 m21 hf => ?_)
          refine gw_goto (tgt := 85) (pc := 63) hK dX7_bowlOf_63 (by decide) ?_
          exact gw_ret_i (pc := 85) hK dX7_bowlOf_85 (Option.some.inj hf)
      ·
        refine gw_aload_n (pc := 36) hK 0 dX7_bowlOf_36 rfl rfl ?_
        refine gw_iload_n (pc := 37) hK 1 dX7_bowlOf_37 rfl rfl ?_
        refine gw_iconst (v := 3) (pc := 38) hK dX7_bowlOf_38 (by decide) ?_
        refine gv_X7_34 (pc := 39) hK hc dX7_bowlOf_39 (by decide) (Nat.le_of_ble_eq_true rfl) hf (fun r22 m23 hf => ?_)
        refine gw_goto (tgt := 51) (pc := 42) hK dX7_bowlOf_42 (by decide) ?_
        refine gw_istore_n (L' := [(3, .int r22), (0, .ref (gy_a Y c)), (1, .int p1), (2, .int p2)]) (pc := 51) hK dX7_bowlOf_51 rfl (by decide) rfl ?_
        refine gw_iload_n (pc := 52) hK 3 dX7_bowlOf_52 rfl rfl ?_
        refine gw_iconst (v := 5) (pc := 53) hK dX7_bowlOf_53 (by decide) ?_
        refine gw_icmp_ge (tgt := 66) (pc := 54) hK dX7_bowlOf_54 (by decide) hf (fun cc24 hf => ?_) (fun cc24 hf => ?_)
        ·
          refine gw_iload_n (pc := 66) hK 3 dX7_bowlOf_66 rfl rfl ?_
          refine gw_iconst (v := 5) (pc := 67) hK dX7_bowlOf_67 (by decide) ?_
          refine gw_icmp_ne (tgt := 79) (pc := 68) hK dX7_bowlOf_68 (by decide) hf (fun cc25 hf => ?_) (fun cc25 hf => ?_)
          ·
            refine gw_aload_n (pc := 79) hK 1 dX7_bowlOf_79 rfl rfl ?_
            refine gw_iload_n (pc := 80) hK 2 dX7_bowlOf_80 rfl rfl ?_
            refine gw_iload_n (pc := 81) hK 0 dX7_bowlOf_81 rfl rfl ?_
            refine gv_X7_40 (pc := 82) hK hc dX7_bowlOf_82 (by decide) (Nat.le_of_ble_eq_true rfl) hf (fun r26 m27 hf => ?_)
            exact gw_ret_i (pc := 85) hK dX7_bowlOf_85 (Option.some.inj hf)
          ·
            refine gw_aload_n (pc := 71) hK 1 dX7_bowlOf_71 rfl rfl ?_
            refine gw_iload_n (pc := 72) hK 2 dX7_bowlOf_72 rfl rfl ?_
            refine gv_X7_64 (pc := 73) hK hc dX7_bowlOf_73 (by decide) (Nat.le_of_ble_eq_true rfl) hf (fun r28 m29 hf => ?_)
            refine gw_goto (tgt := 85) (pc := 76) hK dX7_bowlOf_76 (by decide) ?_
            exact gw_ret_i (pc := 85) hK dX7_bowlOf_85 (Option.some.inj hf)
        ·
          refine gw_aload_n (pc := 57) hK 1 dX7_bowlOf_57 rfl rfl ?_
          refine gw_iload_n (pc := 58) hK 2 dX7_bowlOf_58 rfl rfl ?_
          refine gw_iload_n (pc := 59) hK 3 dX7_bowlOf_59 rfl rfl ?_
          refine gv_X7_34 (pc := 60) hK hc dX7_bowlOf_60 (by decide) (Nat.le_of_ble_eq_true rfl) hf (fun r30 m31 hf => ?_)
          refine gw_goto (tgt := 85) (pc := 63) hK dX7_bowlOf_63 (by decide) ?_
          exact gw_ret_i (pc := 85) hK dX7_bowlOf_85 (Option.some.inj hf)
    ·
      refine gw_ldc (pc := 18) hK dX7_bowlOf_18 kw_k_RX7_51 ?_
      exact gw_ret_i (pc := 20) hK dX7_bowlOf_20 (Option.some.inj hf)

def lf_X7_bringsBack_2 (kd : Nat → Nat) (c0 : Nat) (k : gx_M → Int32 → Option (Int32 × gx_M)) : Nat → gx_M → Int32 → Option (Int32 × gx_M)
  | 0, _, _ => none
  | n + 1, μ, x1 => (if 301 ≤ x1 then
k μ x1
else
(if gx_ix x1 (kd (c0 + 3) - 100) = true then (if gx_ix x1 (kd (c0 + 1) - 100) = true then lf_X7_bringsBack_2 kd c0 k n (gx_u μ (c0 + 1) (Int32.toNatClampNeg x1) (μ (c0 + 3) (Int32.toNatClampNeg x1))) (x1 + 1) else none) else none))
def fn_X7_bringsBack (kd : Nat → Nat) (μ : gx_M) (c : Nat) : Option (Int32 × gx_M) :=
  lf_X7_bringsBack_2 kd c (fun m2 y3 =>
some (0, m2)) gx_F μ 0
set_option maxRecDepth 100000 in
set_option maxHeartbeats 4000000 in
theorem lt_X7_bringsBack_2 {l : Launch} {Y : gx_Y} {rr : Int32 × gx_M} {K : gx_KT} (hK : gx_K l RX7 cX7_bringsBack 2 0 0 none Y (fun r m => (r, m) = rr) K) (c0 : Nat) (hc0 : gk_mod Y c0) (k : gx_M → Int32 → Option (Int32 × gx_M)) (hx : ∀ (μ : gx_M) (x1 : Int32), k μ x1 = some rr → K μ 27 [(0, .ref (gy_a Y c0)), (1, .int x1)] []) :
    ∀ (n : Nat) (μ : gx_M) (x1 : Int32), lf_X7_bringsBack_2 (gy_k Y) c0 k n μ x1 = some rr → K μ 2 [(0, .ref (gy_a Y c0)), (1, .int x1)] [] := by
  intro n
  induction n with
  | zero =>
    intro μ x1 hf
    exact absurd hf (by simp [lf_X7_bringsBack_2])
  | succ n ih =>
    intro μ x1 hf
    rw [lf_X7_bringsBack_2] at hf
    refine gw_iload_n (pc := 2) hK 1 dX7_bringsBack_2 rfl rfl ?_
    refine gw_sipush (v := 301) (pc := 3) hK dX7_bringsBack_3 (by decide) ?_
    refine gw_icmp_ge (tgt := 27) (pc := 6) hK dX7_bringsBack_6 (by decide) hf (fun cc1 hf => ?_) (fun cc1 hf => ?_)
    ·
      refine gw_sub (L' := [(0, .ref (gy_a Y c0)), (1, .int x1)]) hK [0, 1] rfl (hx _ _ hf)
    ·
      refine gw_aload_n (pc := 9) hK 0 dX7_bringsBack_9 rfl rfl ?_
      refine gf_X7_7 (pc := 10) hK hc0.1 dX7_bringsBack_10 ?_
      refine gw_iload_n (pc := 13) hK 1 dX7_bringsBack_13 rfl rfl ?_
      refine gw_aload_n (pc := 14) hK 0 dX7_bringsBack_14 rfl rfl ?_
      refine gf_X7_16 (pc := 15) hK hc0.1 dX7_bringsBack_15 ?_
      refine gw_iload_n (pc := 18) hK 1 dX7_bringsBack_18 rfl rfl ?_
      refine gw_iald (pc := 19) hK hc0.2.2.2.1.1 (gk_100 hc0.2.2.2.1) dX7_bringsBack_19 hf (fun hf => ?_)
      refine gw_iast (pc := 20) hK hc0.2.1.1 (gk_100 hc0.2.1) dX7_bringsBack_20 hf (fun hf => ?_)
      refine gw_iinc (v := (x1 + 1)) (L' := [(1, .int (x1 + 1)), (0, .ref (gy_a Y c0))]) (pc := 21) hK 1 dX7_bringsBack_21 rfl rfl (by decide) rfl ?_
      refine gw_goto (tgt := 2) (pc := 24) hK dX7_bringsBack_24 (by decide) ?_
      refine gw_sub (L' := [(0, .ref (gy_a Y c0)), (1, .int (x1 + 1))]) hK [1, 0] rfl (ih _ _ hf)
set_option maxRecDepth 100000 in
set_option maxHeartbeats 4000000 in
theorem ct_X7_bringsBack (l : Launch) (Y : gx_Y) (μ : gx_M) (c : Nat) (rr : Int32 × gx_M) (hc : gk_mod Y c) (hf : fn_X7_bringsBack (gy_k Y) μ c = some rr) : gx_Con l yX7_bringsBack cX7_bringsBack 2 none 0 0 Y [.ref (gy_a Y c)] μ rr := by
  refine gx_Con_of (L0 := [(0, .ref (gy_a Y c))]) (by decide) (Nat.le_of_ble_eq_true rfl) rfl (fun K hK => ?_)
  unfold fn_X7_bringsBack at hf
  refine gw_iconst (v := 0) (pc := 0) hK dX7_bringsBack_0 (by decide) ?_
  refine gw_istore_n (L' := [(1, .int 0), (0, .ref (gy_a Y c))]) (pc := 1) hK dX7_bringsBack_1 rfl (by decide) rfl ?_
  refine gw_sub (L' := [(0, .ref (gy_a Y c)), (1, .int 0)]) hK [1, 0] rfl (lt_X7_bringsBack_2 hK c hc _ (fun m2 y3 hf => ?_) gx_F _ _ hf)
  exact gw_ret_v (pc := 27) hK dX7_bringsBack_27 (Option.some.inj hf)
theorem gv_X7_140 {l : Launch} {cc : ByteArray} {nL fr lo : Nat} {ret : Option FieldType} {Y : gx_Y} {Post : Int32 → gx_M → Prop} {K : gx_KT} {pc : Nat} {μ : gx_M} {L : List (Nat × Value)} {st : List Value} {rr : Int32 × gx_M} (h : gx_K l RX7 cc nL fr lo ret Y Post K) {c : Nat} (hc : gk_mod Y c) (d : decode cc pc = .ok (.invokevirtual 140, 3)) (hR : 0 + 1 ≤ fr ∧ 21 ≤ lo) (hst : (st.map fun v => v.category).sum ≤ 8) {k : Int32 → gx_M → Option (Int32 × gx_M)} (hf : gx_b (fn_X7_bringsBack (gy_k Y) μ c) k = some rr) (kk : ∀ (r : Int32) (m : gx_M), k r m = some rr → K m (pc + 3) L (st)) : K μ pc L (.ref (gy_a Y c) :: st) := by
  obtain ⟨r, m, e, hk⟩ := gx_b_some hf
  exact gw_callV (As := []) (q := (r, m)) h hc.1 (by decide) rfl (by refine ⟨rfl, by decide, by decide, (show (parseMethodDescriptor yX7_bringsBack.desc).map (fun d => d.parameters.length) = some 0 by decide +kernel)⟩) kw_ml_RX7_140 kw_im_X7_bringsBack kw_se_X7_bringsBack kw_in_RX7 kw_co_X7_bringsBack hR hst d (ct_X7_bringsBack l Y μ c (r, m) hc e) (kk r m hk)
def fn_X7_canBe (kd : Nat → Nat) (μ : gx_M) (p0 : Int32) (p1 : Int32) : Option (Int32 × gx_M) :=
  (if p0 = 0 then
gx_b (fn_X7_in kd μ p1 1 600) (fun r2 m3 =>
(if r2 = 0 ∨ r2 = 1 then some (r2, m3) else none))
else
(if p0 = 1 then
gx_b (fn_X7_in kd μ p1 1 600) (fun r14 m15 =>
(if r14 = 0 ∨ r14 = 1 then some (r14, m15) else none))
else
(if p0 = 2 then
gx_b (fn_X7_in kd μ p1 0 600) (fun r11 m12 =>
(if r11 = 0 ∨ r11 = 1 then some (r11, m12) else none))
else
(if p0 = 3 then
gx_b (fn_X7_in kd μ p1 0 1) (fun r8 m9 =>
(if r8 = 0 then
some (0, m9)
else
some (1, m9)))
else
some (0, μ)))))
set_option maxRecDepth 100000 in
set_option maxHeartbeats 4000000 in
theorem ct_X7_canBe (l : Launch) (Y : gx_Y) (μ : gx_M) (p0 : Int32) (p1 : Int32) (rr : Int32 × gx_M) (hf : fn_X7_canBe (gy_k Y) μ p0 p1 = some rr) : gx_Con l yX7_canBe cX7_canBe 2 (some .boolean) 1 22 Y [.int p0, .int p1] μ rr := by
  refine gx_Con_of (L0 := [(0, .int p0), (1, .int p1)]) (by decide) (Nat.le_of_ble_eq_true rfl) rfl (fun K hK => ?_)
  unfold fn_X7_canBe at hf
  refine gw_iload_n (pc := 0) hK 0 dX7_canBe_0 rfl rfl ?_
  refine gw_if_eq (tgt := 9) (pc := 1) hK dX7_canBe_1 (by decide) hf (fun cc1 hf => ?_) (fun cc1 hf => ?_)
  ·
    refine gw_iload_n (pc := 9) hK 1 dX7_canBe_9 rfl rfl ?_
    refine gw_iconst (v := 1) (pc := 10) hK dX7_canBe_10 (by decide) ?_
    refine gw_sipush (v := 600) (pc := 11) hK dX7_canBe_11 (by decide) ?_
    refine gv_X7_25 (pc := 14) hK dX7_canBe_14 (by decide) (Nat.le_of_ble_eq_true rfl) hf (fun r2 m3 hf => ?_)
    refine gw_goto (tgt := 55) (pc := 17) hK dX7_canBe_17 (by decide) ?_
    obtain ⟨hz4, hf⟩ := gx_must hf
    exact gw_ret_z (pc := 55) hK dX7_canBe_55 (gx_nar hz4) (Option.some.inj hf)
  ·
    refine gw_iload_n (pc := 4) hK 0 dX7_canBe_4 rfl rfl ?_
    refine gw_iconst (v := 1) (pc := 5) hK dX7_canBe_5 (by decide) ?_
    refine gw_icmp_ne (tgt := 20) (pc := 6) hK dX7_canBe_6 (by decide) hf (fun cc5 hf => ?_) (fun cc5 hf => ?_)
    ·
      refine gw_iload_n (pc := 20) hK 0 dX7_canBe_20 rfl rfl ?_
      refine gw_iconst (v := 2) (pc := 21) hK dX7_canBe_21 (by decide) ?_
      refine gw_icmp_ne (tgt := 36) (pc := 22) hK dX7_canBe_22 (by decide) hf (fun cc6 hf => ?_) (fun cc6 hf => ?_)
      ·
        refine gw_iload_n (pc := 36) hK 0 dX7_canBe_36 rfl rfl ?_
        refine gw_iconst (v := 3) (pc := 37) hK dX7_canBe_37 (by decide) ?_
        refine gw_icmp_ne (tgt := 54) (pc := 38) hK dX7_canBe_38 (by decide) hf (fun cc7 hf => ?_) (fun cc7 hf => ?_)
        ·
          refine gw_iconst (v := 0) (pc := 54) hK dX7_canBe_54 (by decide) ?_
          exact gw_ret_z (pc := 55) hK dX7_canBe_55 rfl (Option.some.inj hf)
        ·
          refine gw_iload_n (pc := 41) hK 1 dX7_canBe_41 rfl rfl ?_
          refine gw_iconst (v := 0) (pc := 42) hK dX7_canBe_42 (by decide) ?_
          refine gw_iconst (v := 1) (pc := 43) hK dX7_canBe_43 (by decide) ?_
          refine gv_X7_25 (pc := 44) hK dX7_canBe_44 (by decide) (Nat.le_of_ble_eq_true rfl) hf (fun r8 m9 hf => ?_)
          refine gw_if_eq (tgt := 54) (pc := 47) hK dX7_canBe_47 (by decide) hf (fun cc10 hf => ?_) (fun cc10 hf => ?_)
          ·
            refine gw_iconst (v := 0) (pc := 54) hK dX7_canBe_54 (by decide) ?_
            exact gw_ret_z (pc := 55) hK dX7_canBe_55 rfl (Option.some.inj hf)
          ·
            refine gw_iconst (v := 1) (pc := 50) hK dX7_canBe_50 (by decide) ?_
            refine gw_goto (tgt := 55) (pc := 51) hK dX7_canBe_51 (by decide) ?_
            exact gw_ret_z (pc := 55) hK dX7_canBe_55 rfl (Option.some.inj hf)
      ·
        refine gw_iload_n (pc := 25) hK 1 dX7_canBe_25 rfl rfl ?_
        refine gw_iconst (v := 0) (pc := 26) hK dX7_canBe_26 (by decide) ?_
        refine gw_sipush (v := 600) (pc := 27) hK dX7_canBe_27 (by decide) ?_
        refine gv_X7_25 (pc := 30) hK dX7_canBe_30 (by decide) (Nat.le_of_ble_eq_true rfl) hf (fun r11 m12 hf => ?_)
        refine gw_goto (tgt := 55) (pc := 33) hK dX7_canBe_33 (by decide) ?_
        obtain ⟨hz13, hf⟩ := gx_must hf
        exact gw_ret_z (pc := 55) hK dX7_canBe_55 (gx_nar hz13) (Option.some.inj hf)
    ·
      refine gw_iload_n (pc := 9) hK 1 dX7_canBe_9 rfl rfl ?_
      refine gw_iconst (v := 1) (pc := 10) hK dX7_canBe_10 (by decide) ?_
      refine gw_sipush (v := 600) (pc := 11) hK dX7_canBe_11 (by decide) ?_
      refine gv_X7_25 (pc := 14) hK dX7_canBe_14 (by decide) (Nat.le_of_ble_eq_true rfl) hf (fun r14 m15 hf => ?_)
      refine gw_goto (tgt := 55) (pc := 17) hK dX7_canBe_17 (by decide) ?_
      obtain ⟨hz16, hf⟩ := gx_must hf
      exact gw_ret_z (pc := 55) hK dX7_canBe_55 (gx_nar hz16) (Option.some.inj hf)
theorem gv_X7_74 {l : Launch} {cc : ByteArray} {nL fr lo : Nat} {ret : Option FieldType} {Y : gx_Y} {Post : Int32 → gx_M → Prop} {K : gx_KT} {pc : Nat} {μ : gx_M} {L : List (Nat × Value)} {st : List Value} {rr : Int32 × gx_M} (h : gx_K l RX7 cc nL fr lo ret Y Post K) {p0 : Int32} {p1 : Int32} (d : decode cc pc = .ok (.invokestatic 74, 3)) (hR : 1 + 1 ≤ fr ∧ 43 ≤ lo) (hst : (st.map fun v => v.category).sum ≤ 8) {k : Int32 → gx_M → Option (Int32 × gx_M)} (hf : gx_b (fn_X7_canBe (gy_k Y) μ p0 p1) k = some rr) (kk : ∀ (r : Int32) (m : gx_M), k r m = some rr → K m (pc + 3) L (.int r :: st)) : K μ pc L (.int p1 :: .int p0 :: st) := by
  obtain ⟨r, m, e, hk⟩ := gx_b_some hf
  exact gw_callS (As := [.int p0, .int p1]) (q := (r, m)) h (by refine ⟨rfl, by decide, by decide, (show (parseMethodDescriptor yX7_canBe.desc).map (fun d => d.parameters.length) = some 2 by decide +kernel)⟩) kw_ml_RX7_74 kw_st_X7_canBe kw_in_RX7 kw_co_X7_canBe hR hst d (ct_X7_canBe l Y μ p0 p1 (r, m)  e) (kk r m hk)
def fn_X7_clearText (kd : Nat → Nat) (μ : gx_M) (c : Nat) : Option (Int32 × gx_M) :=
  some (μ c 5, (gx_u μ c 5 0))
set_option maxRecDepth 100000 in
set_option maxHeartbeats 4000000 in
theorem ct_X7_clearText (l : Launch) (Y : gx_Y) (μ : gx_M) (c : Nat) (rr : Int32 × gx_M) (hc : gk_mod Y c) (hf : fn_X7_clearText (gy_k Y) μ c = some rr) : gx_Con l yX7_clearText cX7_clearText 2 (some .int) 0 0 Y [.ref (gy_a Y c)] μ rr := by
  refine gx_Con_of (L0 := [(0, .ref (gy_a Y c))]) (by decide) (Nat.le_of_ble_eq_true rfl) rfl (fun K hK => ?_)
  unfold fn_X7_clearText at hf
  refine gw_aload_n (pc := 0) hK 0 dX7_clearText_0 rfl rfl ?_
  refine gf_X7_90 (pc := 1) hK hc.1 dX7_clearText_1 ?_
  refine gw_istore_n (L' := [(1, .int (μ c 5)), (0, .ref (gy_a Y c))]) (pc := 4) hK dX7_clearText_4 rfl (by decide) rfl ?_
  refine gw_aload_n (pc := 5) hK 1 dX7_clearText_5 rfl rfl ?_
  refine gw_iconst (v := 0) (pc := 6) hK dX7_clearText_6 (by decide) ?_
  refine gp_X7_90 (pc := 7) hK hc.1 dX7_clearText_7 ?_
  refine gw_iload_n (pc := 10) hK 0 dX7_clearText_10 rfl rfl ?_
  exact gw_ret_i (pc := 11) hK dX7_clearText_11 (Option.some.inj hf)

def fn_X7_loses (kd : Nat → Nat) (μ : gx_M) (c : Nat) (p1 : Int32) : Option (Int32 × gx_M) :=
  gx_b (fn_X7_of kd μ c p1 2) (fun r1 m2 =>
gx_b (fn_X7_of kd m2 c p1 4) (fun r3 m4 =>
(if 0 ≤ (r1 - r3) then
gx_b (fn_X7_of kd m4 c p1 2) (fun r6 m7 =>
gx_b (fn_X7_put kd m7 c p1 2 (r6 - (r1 - r3))) (fun _ m9 =>
(if gx_ix 5 (kd (c + 1) - 100) = true then (if gx_ix 5 (kd (c + 1) - 100) = true then some ((r1 - r3), (gx_u m9 (c + 1) (Int32.toNatClampNeg 5) (m9 (c + 1) (Int32.toNatClampNeg 5) + (r1 - r3)))) else none) else none)))
else
gx_b (fn_X7_of kd m4 c p1 2) (fun r10 m11 =>
gx_b (fn_X7_put kd m11 c p1 2 (r10 - 0)) (fun _ m13 =>
(if gx_ix 5 (kd (c + 1) - 100) = true then (if gx_ix 5 (kd (c + 1) - 100) = true then some (0, (gx_u m13 (c + 1) (Int32.toNatClampNeg 5) (m13 (c + 1) (Int32.toNatClampNeg 5) + 0))) else none) else none))))))
set_option maxRecDepth 100000 in
set_option maxHeartbeats 4000000 in
theorem ct_X7_loses (l : Launch) (Y : gx_Y) (μ : gx_M) (c : Nat) (p1 : Int32) (rr : Int32 × gx_M) (hc : gk_mod Y c) (hf : fn_X7_loses (gy_k Y) μ c p1 = some rr) : gx_Con l yX7_loses cX7_loses 3 (some .int) 1 23 Y [.ref (gy_a Y c), .int p1] μ rr := by
  refine gx_Con_of (L0 := [(0, .ref (gy_a Y c)), (1, .int p1)]) (by decide) (Nat.le_of_ble_eq_true rfl) rfl (fun K hK => ?_)
  unfold fn_X7_loses at hf
  refine gw_aload_n (pc := 0) hK 0 dX7_loses_0 rfl rfl ?_
  refine gw_iload_n (pc := 1) hK 1 dX7_loses_1 rfl rfl ?_
  refine gw_iconst (v := 2) (pc := 2) hK dX7_loses_2 (by decide) ?_
  refine gv_X7_34 (pc := 3) hK hc dX7_loses_3 (by decide) (Nat.le_of_ble_eq_true rfl) hf (fun r1 m2 hf => ?_)
  refine gw_aload_n (pc := 6) hK 0 dX7_loses_6 rfl rfl ?_
  refine gw_iload_n (pc := 7) hK 1 dX7_loses_7 rfl rfl ?_
  refine gw_iconst (v := 4) (pc := 8) hK dX7_loses_8 (by decide) ?_
  refine gv_X7_34 (pc := 9) hK hc dX7_loses_9 (by decide) (Nat.le_of_ble_eq_true rfl) hf (fun r3 m4 hf => ?_)
  refine gw_isub (pc := 12) hK dX7_loses_12 ?_
  refine gw_istore_n (L' := [(2, .int (r1 - r3)), (0, .ref (gy_a Y c)), (1, .int p1)]) (pc := 13) hK dX7_loses_13 rfl (by decide) rfl ?_
  refine gw_iload_n (pc := 14) hK 0 dX7_loses_14 rfl rfl ?_
  refine gw_if_ge (tgt := 22) (pc := 15) hK dX7_loses_15 (by decide) hf (fun cc5 hf => ?_) (fun cc5 hf => ?_)
  ·
    refine gw_iload_n (pc := 22) hK 0 dX7_loses_22 rfl rfl ?_
    refine gw_istore_n (L' := [(2, .int (r1 - r3)), (0, .ref (gy_a Y c)), (1, .int p1)]) (pc := 23) hK dX7_loses_23 rfl (by decide) rfl ?_
    refine gw_aload_n (pc := 24) hK 1 dX7_loses_24 rfl rfl ?_
    refine gw_iload_n (pc := 25) hK 2 dX7_loses_25 rfl rfl ?_
    refine gw_iconst (v := 2) (pc := 26) hK dX7_loses_26 (by decide) ?_
    refine gw_aload_n (pc := 27) hK 1 dX7_loses_27 rfl rfl ?_
    refine gw_iload_n (pc := 28) hK 2 dX7_loses_28 rfl rfl ?_
    refine gw_iconst (v := 2) (pc := 29) hK dX7_loses_29 (by decide) ?_
    refine gv_X7_34 (pc := 30) hK hc dX7_loses_30 (by decide) (Nat.le_of_ble_eq_true rfl) hf (fun r6 m7 hf => ?_)
    refine gw_iload_n (pc := 33) hK 0 dX7_loses_33 rfl rfl ?_
    refine gw_isub (pc := 34) hK dX7_loses_34 ?_
    refine gv_X7_43 (pc := 35) hK hc dX7_loses_35 (by decide) (Nat.le_of_ble_eq_true rfl) hf (fun _ m9 hf => ?_)
    refine gw_aload_n (pc := 38) hK 1 dX7_loses_38 rfl rfl ?_
    refine gf_X7_7 (pc := 39) hK hc.1 dX7_loses_39 ?_
    refine gw_iconst (v := 5) (pc := 42) hK dX7_loses_42 (by decide) ?_
    refine gw_dup2 (pc := 43) hK dX7_loses_43 rfl rfl ?_
    refine gw_iald (pc := 44) hK hc.2.1.1 (gk_100 hc.2.1) dX7_loses_44 hf (fun hf => ?_)
    refine gw_iload_n (pc := 45) hK 0 dX7_loses_45 rfl rfl ?_
    refine gw_iadd (pc := 46) hK dX7_loses_46 ?_
    refine gw_iast (pc := 47) hK hc.2.1.1 (gk_100 hc.2.1) dX7_loses_47 hf (fun hf => ?_)
    refine gw_iload_n (pc := 48) hK 0 dX7_loses_48 rfl rfl ?_
    exact gw_ret_i (pc := 49) hK dX7_loses_49 (Option.some.inj hf)
  ·
    refine gw_iconst (v := 0) (pc := 18) hK dX7_loses_18 (by decide) ?_
    refine gw_goto (tgt := 23) (pc := 19) hK dX7_loses_19 (by decide) ?_
    refine gw_istore_n (L' := [(2, .int 0), (0, .ref (gy_a Y c)), (1, .int p1)]) (pc := 23) hK dX7_loses_23 rfl (by decide) rfl ?_
    refine gw_aload_n (pc := 24) hK 1 dX7_loses_24 rfl rfl ?_
    refine gw_iload_n (pc := 25) hK 2 dX7_loses_25 rfl rfl ?_
    refine gw_iconst (v := 2) (pc := 26) hK dX7_loses_26 (by decide) ?_
    refine gw_aload_n (pc := 27) hK 1 dX7_loses_27 rfl rfl ?_
    refine gw_iload_n (pc := 28) hK 2 dX7_loses_28 rfl rfl ?_
    refine gw_iconst (v := 2) (pc := 29) hK dX7_loses_29 (by decide) ?_
    refine gv_X7_34 (pc := 30) hK hc dX7_loses_30 (by decide) (Nat.le_of_ble_eq_true rfl) hf (fun r10 m11 hf => ?_)
    refine gw_iload_n (pc := 33) hK 0 dX7_loses_33 rfl rfl ?_
    refine gw_isub (pc := 34) hK dX7_loses_34 ?_
    refine gv_X7_43 (pc := 35) hK hc dX7_loses_35 (by decide) (Nat.le_of_ble_eq_true rfl) hf (fun _ m13 hf => ?_)
    refine gw_aload_n (pc := 38) hK 1 dX7_loses_38 rfl rfl ?_
    refine gf_X7_7 (pc := 39) hK hc.1 dX7_loses_39 ?_
    refine gw_iconst (v := 5) (pc := 42) hK dX7_loses_42 (by decide) ?_
    refine gw_dup2 (pc := 43) hK dX7_loses_43 rfl rfl ?_
    refine gw_iald (pc := 44) hK hc.2.1.1 (gk_100 hc.2.1) dX7_loses_44 hf (fun hf => ?_)
    refine gw_iload_n (pc := 45) hK 0 dX7_loses_45 rfl rfl ?_
    refine gw_iadd (pc := 46) hK dX7_loses_46 ?_
    refine gw_iast (pc := 47) hK hc.2.1.1 (gk_100 hc.2.1) dX7_loses_47 hf (fun hf => ?_)
    refine gw_iload_n (pc := 48) hK 0 dX7_loses_48 rfl rfl ?_
    exact gw_ret_i (pc := 49) hK dX7_loses_49 (Option.some.inj hf)
theorem gv_X7_47 {l : Launch} {cc : ByteArray} {nL fr lo : Nat} {ret : Option FieldType} {Y : gx_Y} {Post : Int32 → gx_M → Prop} {K : gx_KT} {pc : Nat} {μ : gx_M} {L : List (Nat × Value)} {st : List Value} {rr : Int32 × gx_M} (h : gx_K l RX7 cc nL fr lo ret Y Post K) {c : Nat} {p1 : Int32} (hc : gk_mod Y c) (d : decode cc pc = .ok (.invokevirtual 47, 3)) (hR : 1 + 1 ≤ fr ∧ 45 ≤ lo) (hst : (st.map fun v => v.category).sum ≤ 8) {k : Int32 → gx_M → Option (Int32 × gx_M)} (hf : gx_b (fn_X7_loses (gy_k Y) μ c p1) k = some rr) (kk : ∀ (r : Int32) (m : gx_M), k r m = some rr → K m (pc + 3) L (.int r :: st)) : K μ pc L (.int p1 :: .ref (gy_a Y c) :: st) := by
  obtain ⟨r, m, e, hk⟩ := gx_b_some hf
  exact gw_callV (As := [.int p1]) (q := (r, m)) h hc.1 (by decide) rfl (by refine ⟨rfl, by decide, by decide, (show (parseMethodDescriptor yX7_loses.desc).map (fun d => d.parameters.length) = some 1 by decide +kernel)⟩) kw_ml_RX7_47 kw_im_X7_loses kw_se_X7_loses kw_in_RX7 kw_co_X7_loses hR hst d (ct_X7_loses l Y μ c p1 (r, m) hc e) (kk r m hk)
def fn_X7_comes (kd : Nat → Nat) (μ : gx_M) (c : Nat) (p1 : Int32) (p2 : Int32) : Option (Int32 × gx_M) :=
  gx_b (fn_X7_of kd μ c p1 2) (fun r1 m2 =>
gx_b (fn_X7_put kd m2 c p1 2 (r1 + p2)) (fun _ m4 =>
(if gx_ix 3 (kd (c + 1) - 100) = true then (if gx_ix 3 (kd (c + 1) - 100) = true then gx_b (fn_X7_loses kd (gx_u m4 (c + 1) (Int32.toNatClampNeg 3) (m4 (c + 1) (Int32.toNatClampNeg 3) + p2)) c p1) (fun r5 m6 =>
some (0, m6)) else none) else none)))
set_option maxRecDepth 100000 in
set_option maxHeartbeats 4000000 in
theorem ct_X7_comes (l : Launch) (Y : gx_Y) (μ : gx_M) (c : Nat) (p1 : Int32) (p2 : Int32) (rr : Int32 × gx_M) (hc : gk_mod Y c) (hf : fn_X7_comes (gy_k Y) μ c p1 p2 = some rr) : gx_Con l yX7_comes cX7_comes 4 none 2 45 Y [.ref (gy_a Y c), .int p1, .int p2] μ rr := by
  refine gx_Con_of (L0 := [(0, .ref (gy_a Y c)), (1, .int p1), (2, .int p2)]) (by decide) (Nat.le_of_ble_eq_true rfl) rfl (fun K hK => ?_)
  unfold fn_X7_comes at hf
  refine gw_aload_n (pc := 0) hK 0 dX7_comes_0 rfl rfl ?_
  refine gw_iload_n (pc := 1) hK 1 dX7_comes_1 rfl rfl ?_
  refine gw_iconst (v := 2) (pc := 2) hK dX7_comes_2 (by decide) ?_
  refine gw_aload_n (pc := 3) hK 0 dX7_comes_3 rfl rfl ?_
  refine gw_iload_n (pc := 4) hK 1 dX7_comes_4 rfl rfl ?_
  refine gw_iconst (v := 2) (pc := 5) hK dX7_comes_5 (by decide) ?_
  refine gv_X7_34 (pc := 6) hK hc dX7_comes_6 (by decide) (Nat.le_of_ble_eq_true rfl) hf (fun r1 m2 hf => ?_)
  refine gw_iload_n (pc := 9) hK 2 dX7_comes_9 rfl rfl ?_
  refine gw_iadd (pc := 10) hK dX7_comes_10 ?_
  refine gv_X7_43 (pc := 11) hK hc dX7_comes_11 (by decide) (Nat.le_of_ble_eq_true rfl) hf (fun _ m4 hf => ?_)
  refine gw_aload_n (pc := 14) hK 0 dX7_comes_14 rfl rfl ?_
  refine gf_X7_7 (pc := 15) hK hc.1 dX7_comes_15 ?_
  refine gw_iconst (v := 3) (pc := 18) hK dX7_comes_18 (by decide) ?_
  refine gw_dup2 (pc := 19) hK dX7_comes_19 rfl rfl ?_
  refine gw_iald (pc := 20) hK hc.2.1.1 (gk_100 hc.2.1) dX7_comes_20 hf (fun hf => ?_)
  refine gw_iload_n (pc := 21) hK 2 dX7_comes_21 rfl rfl ?_
  refine gw_iadd (pc := 22) hK dX7_comes_22 ?_
  refine gw_iast (pc := 23) hK hc.2.1.1 (gk_100 hc.2.1) dX7_comes_23 hf (fun hf => ?_)
  refine gw_aload_n (pc := 24) hK 0 dX7_comes_24 rfl rfl ?_
  refine gw_iload_n (pc := 25) hK 1 dX7_comes_25 rfl rfl ?_
  refine gv_X7_47 (pc := 26) hK hc dX7_comes_26 (by decide) (Nat.le_of_ble_eq_true rfl) hf (fun r5 m6 hf => ?_)
  refine gw_istore_n (L' := [(3, .int r5), (0, .ref (gy_a Y c)), (1, .int p1), (2, .int p2)]) (pc := 29) hK dX7_comes_29 rfl (by decide) rfl ?_
  exact gw_ret_v (pc := 30) hK dX7_comes_30 (Option.some.inj hf)
theorem gv_X7_60 {l : Launch} {cc : ByteArray} {nL fr lo : Nat} {ret : Option FieldType} {Y : gx_Y} {Post : Int32 → gx_M → Prop} {K : gx_KT} {pc : Nat} {μ : gx_M} {L : List (Nat × Value)} {st : List Value} {rr : Int32 × gx_M} (h : gx_K l RX7 cc nL fr lo ret Y Post K) {c : Nat} {p1 : Int32} {p2 : Int32} (hc : gk_mod Y c) (d : decode cc pc = .ok (.invokevirtual 60, 3)) (hR : 2 + 1 ≤ fr ∧ 68 ≤ lo) (hst : (st.map fun v => v.category).sum ≤ 8) {k : Int32 → gx_M → Option (Int32 × gx_M)} (hf : gx_b (fn_X7_comes (gy_k Y) μ c p1 p2) k = some rr) (kk : ∀ (r : Int32) (m : gx_M), k r m = some rr → K m (pc + 3) L (st)) : K μ pc L (.int p2 :: .int p1 :: .ref (gy_a Y c) :: st) := by
  obtain ⟨r, m, e, hk⟩ := gx_b_some hf
  exact gw_callV (As := [.int p1, .int p2]) (q := (r, m)) h hc.1 (by decide) rfl (by refine ⟨rfl, by decide, by decide, (show (parseMethodDescriptor yX7_comes.desc).map (fun d => d.parameters.length) = some 2 by decide +kernel)⟩) kw_ml_RX7_60 kw_im_X7_comes kw_se_X7_comes kw_in_RX7 kw_co_X7_comes hR hst d (ct_X7_comes l Y μ c p1 p2 (r, m) hc e) (kk r m hk)
def lf_X7_notesThat_4 (kd : Nat → Nat) (c0 : Nat) (q1 : Int32) (k : gx_M → Int32 → Int32 → Option (Int32 × gx_M)) : Nat → gx_M → Int32 → Int32 → Option (Int32 × gx_M)
  | 0, _, _, _ => none
  | n + 1, μ, x2, x3 => (if gx_ix 2 (kd (c0 + 1) - 100) = true then (if μ (c0 + 1) (Int32.toNatClampNeg 2) ≤ x3 then
k μ x2 x3
else
gx_b (fn_X7_has kd μ c0 x3 2) (fun r2 m3 =>
(if r2 = 1 then
(if q1 = 4 then
lf_X7_notesThat_4 kd c0 q1 k n m3 (x2 + 1) (x3 + 1)
else
(if q1 = 5 then
gx_b (fn_X7_has kd m3 c0 x3 5) (fun r27 m28 =>
(if r27 = 1 then
lf_X7_notesThat_4 kd c0 q1 k n m28 (x2 + 1) (x3 + 1)
else
(if q1 = 6 then
gx_b (fn_X7_has kd m28 c0 x3 3) (fun r32 m33 =>
(if r32 = (-1) then
lf_X7_notesThat_4 kd c0 q1 k n m33 (x2 + 1) (x3 + 1)
else
lf_X7_notesThat_4 kd c0 q1 k n m33 (x2 + 0) (x3 + 1)))
else
lf_X7_notesThat_4 kd c0 q1 k n m28 (x2 + 0) (x3 + 1))))
else
(if q1 = 6 then
gx_b (fn_X7_has kd m3 c0 x3 3) (fun r23 m24 =>
(if r23 = (-1) then
lf_X7_notesThat_4 kd c0 q1 k n m24 (x2 + 1) (x3 + 1)
else
lf_X7_notesThat_4 kd c0 q1 k n m24 (x2 + 0) (x3 + 1)))
else
lf_X7_notesThat_4 kd c0 q1 k n m3 (x2 + 0) (x3 + 1))))
else
(if q1 = 4 then
(if q1 = 5 then
(if q1 = 6 then
lf_X7_notesThat_4 kd c0 q1 k n m3 (x2 + 0) (x3 + 1)
else
lf_X7_notesThat_4 kd c0 q1 k n m3 (x2 + 0) (x3 + 1))
else
(if q1 = 6 then
lf_X7_notesThat_4 kd c0 q1 k n m3 (x2 + 0) (x3 + 1)
else
lf_X7_notesThat_4 kd c0 q1 k n m3 (x2 + 0) (x3 + 1)))
else
(if q1 = 5 then
(if q1 = 6 then
lf_X7_notesThat_4 kd c0 q1 k n m3 (x2 + 0) (x3 + 1)
else
lf_X7_notesThat_4 kd c0 q1 k n m3 (x2 + 0) (x3 + 1))
else
(if q1 = 6 then
lf_X7_notesThat_4 kd c0 q1 k n m3 (x2 + 0) (x3 + 1)
else
lf_X7_notesThat_4 kd c0 q1 k n m3 (x2 + 0) (x3 + 1))))))) else none)
def fn_X7_notesThat (kd : Nat → Nat) (μ : gx_M) (c : Nat) (p1 : Int32) : Option (Int32 × gx_M) :=
  lf_X7_notesThat_4 kd c p1 (fun m36 y37 y38 =>
some (y37, m36)) gx_F μ 0 0
set_option maxRecDepth 100000 in
set_option maxHeartbeats 4000000 in
theorem lt_X7_notesThat_4 {l : Launch} {Y : gx_Y} {rr : Int32 × gx_M} {K : gx_KT} (hK : gx_K l RX7 cX7_notesThat 5 1 22 (some .int) Y (fun r m => (r, m) = rr) K) (c0 : Nat) (q1 : Int32) (hc0 : gk_mod Y c0) (k : gx_M → Int32 → Int32 → Option (Int32 × gx_M)) (hx : ∀ (μ : gx_M) (x2 : Int32) (x3 : Int32), k μ x2 x3 = some rr → K μ 96 [(0, .ref (gy_a Y c0)), (1, .int q1), (2, .int x2), (3, .int x3)] []) :
    ∀ (n : Nat) (μ : gx_M) (x2 : Int32) (x3 : Int32), lf_X7_notesThat_4 (gy_k Y) c0 q1 k n μ x2 x3 = some rr → K μ 4 [(0, .ref (gy_a Y c0)), (1, .int q1), (2, .int x2), (3, .int x3)] [] := by
  intro n
  induction n with
  | zero =>
    intro μ x2 x3 hf
    exact absurd hf (by simp [lf_X7_notesThat_4])
  | succ n ih =>
    intro μ x2 x3 hf
    rw [lf_X7_notesThat_4] at hf
    refine gw_iload_n (pc := 4) hK 3 dX7_notesThat_4 rfl rfl ?_
    refine gw_aload_n (pc := 5) hK 0 dX7_notesThat_5 rfl rfl ?_
    refine gf_X7_7 (pc := 6) hK hc0.1 dX7_notesThat_6 ?_
    refine gw_iconst (v := 2) (pc := 9) hK dX7_notesThat_9 (by decide) ?_
    refine gw_iald (pc := 10) hK hc0.2.1.1 (gk_100 hc0.2.1) dX7_notesThat_10 hf (fun hf => ?_)
    refine gw_icmp_ge (tgt := 96) (pc := 11) hK dX7_notesThat_11 (by decide) hf (fun cc1 hf => ?_) (fun cc1 hf => ?_)
    ·
      refine gw_sub (L' := [(0, .ref (gy_a Y c0)), (1, .int q1), (2, .int x2), (3, .int x3)]) hK [0, 1, 2, 3] rfl (hx _ _ _ hf)
    ·
      refine gw_aload_n (pc := 14) hK 0 dX7_notesThat_14 rfl rfl ?_
      refine gw_iload_n (pc := 15) hK 3 dX7_notesThat_15 rfl rfl ?_
      refine gw_iconst (v := 2) (pc := 16) hK dX7_notesThat_16 (by decide) ?_
      refine gv_X7_81 (pc := 17) hK hc0 dX7_notesThat_17 (by decide) (Nat.le_of_ble_eq_true rfl) hf (fun r2 m3 hf => ?_)
      refine gw_iconst (v := 1) (pc := 20) hK dX7_notesThat_20 (by decide) ?_
      refine gw_icmp_ne (tgt := 28) (pc := 21) hK dX7_notesThat_21 (by decide) hf (fun cc4 hf => ?_) (fun cc4 hf => ?_)
      ·
        refine gw_iconst (v := 0) (pc := 28) hK dX7_notesThat_28 (by decide) ?_
        refine gw_istore (L' := [(4, .int 0), (0, .ref (gy_a Y c0)), (1, .int q1), (2, .int x2), (3, .int x3)]) (pc := 29) hK dX7_notesThat_29 (by decide) rfl ?_
        refine gw_iload_n (pc := 31) hK 3 dX7_notesThat_31 rfl rfl ?_
        refine gw_iload_n (pc := 32) hK 2 dX7_notesThat_32 rfl rfl ?_
        refine gw_iconst (v := 4) (pc := 33) hK dX7_notesThat_33 (by decide) ?_
        refine gw_icmp_ne (tgt := 42) (pc := 34) hK dX7_notesThat_34 (by decide) hf (fun cc5 hf => ?_) (fun cc5 hf => ?_)
        ·
          refine gw_iload_n (pc := 42) hK 2 dX7_notesThat_42 rfl rfl ?_
          refine gw_iconst (v := 5) (pc := 43) hK dX7_notesThat_43 (by decide) ?_
          refine gw_icmp_ne (tgt := 62) (pc := 44) hK dX7_notesThat_44 (by decide) hf (fun cc6 hf => ?_) (fun cc6 hf => ?_)
          ·
            refine gw_iload_n (pc := 62) hK 2 dX7_notesThat_62 rfl rfl ?_
            refine gw_bipush (v := 6) (pc := 63) hK dX7_notesThat_63 (by decide) ?_
            refine gw_icmp_ne (tgt := 87) (pc := 65) hK dX7_notesThat_65 (by decide) hf (fun cc7 hf => ?_) (fun cc7 hf => ?_)
            ·
              refine gw_iconst (v := 0) (pc := 87) hK dX7_notesThat_87 (by decide) ?_
              refine gw_iadd (pc := 88) hK dX7_notesThat_88 ?_
              refine gw_istore_n (L' := [(2, .int (x2 + 0)), (4, .int 0), (0, .ref (gy_a Y c0)), (1, .int q1), (3, .int x3)]) (pc := 89) hK dX7_notesThat_89 rfl (by decide) rfl ?_
              refine gw_iinc (v := (x3 + 1)) (L' := [(3, .int (x3 + 1)), (2, .int (x2 + 0)), (4, .int 0), (0, .ref (gy_a Y c0)), (1, .int q1)]) (pc := 90) hK 4 dX7_notesThat_90 rfl rfl (by decide) rfl ?_
              refine gw_goto (tgt := 4) (pc := 93) hK dX7_notesThat_93 (by decide) ?_
              refine gw_sub (L' := [(0, .ref (gy_a Y c0)), (1, .int q1), (2, .int (x2 + 0)), (3, .int (x3 + 1))]) hK [3, 4, 1, 0] rfl (ih _ _ _ hf)
            ·
              refine gw_iload (pc := 68) hK 0 dX7_notesThat_68 rfl ?_
              refine gw_if_eq_c (tgt := 87) (pc := 70) hK dX7_notesThat_70 (by decide) (fun _ => ?_) (fun cc8 => absurd cc8 (by decide))
              refine gw_iconst (v := 0) (pc := 87) hK dX7_notesThat_87 (by decide) ?_
              refine gw_iadd (pc := 88) hK dX7_notesThat_88 ?_
              refine gw_istore_n (L' := [(2, .int (x2 + 0)), (4, .int 0), (0, .ref (gy_a Y c0)), (1, .int q1), (3, .int x3)]) (pc := 89) hK dX7_notesThat_89 rfl (by decide) rfl ?_
              refine gw_iinc (v := (x3 + 1)) (L' := [(3, .int (x3 + 1)), (2, .int (x2 + 0)), (4, .int 0), (0, .ref (gy_a Y c0)), (1, .int q1)]) (pc := 90) hK 4 dX7_notesThat_90 rfl rfl (by decide) rfl ?_
              refine gw_goto (tgt := 4) (pc := 93) hK dX7_notesThat_93 (by decide) ?_
              refine gw_sub (L' := [(0, .ref (gy_a Y c0)), (1, .int q1), (2, .int (x2 + 0)), (3, .int (x3 + 1))]) hK [3, 4, 1, 0] rfl (ih _ _ _ hf)
          ·
            refine gw_iload (pc := 47) hK 0 dX7_notesThat_47 rfl ?_
            refine gw_if_eq_c (tgt := 62) (pc := 49) hK dX7_notesThat_49 (by decide) (fun _ => ?_) (fun cc9 => absurd cc9 (by decide))
            refine gw_iload_n (pc := 62) hK 2 dX7_notesThat_62 rfl rfl ?_
            refine gw_bipush (v := 6) (pc := 63) hK dX7_notesThat_63 (by decide) ?_
            refine gw_icmp_ne (tgt := 87) (pc := 65) hK dX7_notesThat_65 (by decide) hf (fun cc10 hf => ?_) (fun cc10 hf => ?_)
            ·
              refine gw_iconst (v := 0) (pc := 87) hK dX7_notesThat_87 (by decide) ?_
              refine gw_iadd (pc := 88) hK dX7_notesThat_88 ?_
              refine gw_istore_n (L' := [(2, .int (x2 + 0)), (4, .int 0), (0, .ref (gy_a Y c0)), (1, .int q1), (3, .int x3)]) (pc := 89) hK dX7_notesThat_89 rfl (by decide) rfl ?_
              refine gw_iinc (v := (x3 + 1)) (L' := [(3, .int (x3 + 1)), (2, .int (x2 + 0)), (4, .int 0), (0, .ref (gy_a Y c0)), (1, .int q1)]) (pc := 90) hK 4 dX7_notesThat_90 rfl rfl (by decide) rfl ?_
              refine gw_goto (tgt := 4) (pc := 93) hK dX7_notesThat_93 (by decide) ?_
              refine gw_sub (L' := [(0, .ref (gy_a Y c0)), (1, .int q1), (2, .int (x2 + 0)), (3, .int (x3 + 1))]) hK [3, 4, 1, 0] rfl (ih _ _ _ hf)
            ·
              refine gw_iload (pc := 68) hK 0 dX7_notesThat_68 rfl ?_
              refine gw_if_eq_c (tgt := 87) (pc := 70) hK dX7_notesThat_70 (by decide) (fun _ => ?_) (fun cc11 => absurd cc11 (by decide))
              refine gw_iconst (v := 0) (pc := 87) hK dX7_notesThat_87 (by decide) ?_
              refine gw_iadd (pc := 88) hK dX7_notesThat_88 ?_
              refine gw_istore_n (L' := [(2, .int (x2 + 0)), (4, .int 0), (0, .ref (gy_a Y c0)), (1, .int q1), (3, .int x3)]) (pc := 89) hK dX7_notesThat_89 rfl (by decide) rfl ?_
              refine gw_iinc (v := (x3 + 1)) (L' := [(3, .int (x3 + 1)), (2, .int (x2 + 0)), (4, .int 0), (0, .ref (gy_a Y c0)), (1, .int q1)]) (pc := 90) hK 4 dX7_notesThat_90 rfl rfl (by decide) rfl ?_
              refine gw_goto (tgt := 4) (pc := 93) hK dX7_notesThat_93 (by decide) ?_
              refine gw_sub (L' := [(0, .ref (gy_a Y c0)), (1, .int q1), (2, .int (x2 + 0)), (3, .int (x3 + 1))]) hK [3, 4, 1, 0] rfl (ih _ _ _ hf)
        ·
          refine gw_iload (pc := 37) hK 0 dX7_notesThat_37 rfl ?_
          refine gw_if_ne_c (tgt := 83) (pc := 39) hK dX7_notesThat_39 (by decide) (fun cc12 => absurd cc12 (by decide)) (fun _ => ?_)
          refine gw_iload_n (pc := 42) hK 2 dX7_notesThat_42 rfl rfl ?_
          refine gw_iconst (v := 5) (pc := 43) hK dX7_notesThat_43 (by decide) ?_
          refine gw_icmp_ne (tgt := 62) (pc := 44) hK dX7_notesThat_44 (by decide) hf (fun cc13 hf => ?_) (fun cc13 hf => ?_)
          ·
            refine gw_iload_n (pc := 62) hK 2 dX7_notesThat_62 rfl rfl ?_
            refine gw_bipush (v := 6) (pc := 63) hK dX7_notesThat_63 (by decide) ?_
            refine gw_icmp_ne (tgt := 87) (pc := 65) hK dX7_notesThat_65 (by decide) hf (fun cc14 hf => ?_) (fun cc14 hf => ?_)
            ·
              refine gw_iconst (v := 0) (pc := 87) hK dX7_notesThat_87 (by decide) ?_
              refine gw_iadd (pc := 88) hK dX7_notesThat_88 ?_
              refine gw_istore_n (L' := [(2, .int (x2 + 0)), (4, .int 0), (0, .ref (gy_a Y c0)), (1, .int q1), (3, .int x3)]) (pc := 89) hK dX7_notesThat_89 rfl (by decide) rfl ?_
              refine gw_iinc (v := (x3 + 1)) (L' := [(3, .int (x3 + 1)), (2, .int (x2 + 0)), (4, .int 0), (0, .ref (gy_a Y c0)), (1, .int q1)]) (pc := 90) hK 4 dX7_notesThat_90 rfl rfl (by decide) rfl ?_
              refine gw_goto (tgt := 4) (pc := 93) hK dX7_notesThat_93 (by decide) ?_
              refine gw_sub (L' := [(0, .ref (gy_a Y c0)), (1, .int q1), (2, .int (x2 + 0)), (3, .int (x3 + 1))]) hK [3, 4, 1, 0] rfl (ih _ _ _ hf)
            ·
              refine gw_iload (pc := 68) hK 0 dX7_notesThat_68 rfl ?_
              refine gw_if_eq_c (tgt := 87) (pc := 70) hK dX7_notesThat_70 (by decide) (fun _ => ?_) (fun cc15 => absurd cc15 (by decide))
              refine gw_iconst (v := 0) (pc := 87) hK dX7_notesThat_87 (by decide) ?_
              refine gw_iadd (pc := 88) hK dX7_notesThat_88 ?_
              refine gw_istore_n (L' := [(2, .int (x2 + 0)), (4, .int 0), (0, .ref (gy_a Y c0)), (1, .int q1), (3, .int x3)]) (pc := 89) hK dX7_notesThat_89 rfl (by decide) rfl ?_
              refine gw_iinc (v := (x3 + 1)) (L' := [(3, .int (x3 + 1)), (2, .int (x2 + 0)), (4, .int 0), (0, .ref (gy_a Y c0)), (1, .int q1)]) (pc := 90) hK 4 dX7_notesThat_90 rfl rfl (by decide) rfl ?_
              refine gw_goto (tgt := 4) (pc := 93) hK dX7_notesThat_93 (by decide) ?_
              refine gw_sub (L' := [(0, .ref (gy_a Y c0)), (1, .int q1), (2, .int (x2 + 0)), (3, .int (x3 + 1))]) hK [3, 4, 1, 0] rfl (ih _ _ _ hf)
          ·
            refine gw_iload (pc := 47) hK 0 dX7_notesThat_47 rfl ?_
            refine gw_if_eq_c (tgt := 62) (pc := 49) hK dX7_notesThat_49 (by decide) (fun _ => ?_) (fun cc16 => absurd cc16 (by decide))
            refine gw_iload_n (pc := 62) hK 2 dX7_notesThat_62 rfl rfl ?_
            refine gw_bipush (v := 6) (pc := 63) hK dX7_notesThat_63 (by decide) ?_
            refine gw_icmp_ne (tgt := 87) (pc := 65) hK dX7_notesThat_65 (by decide) hf (fun cc17 hf => ?_) (fun cc17 hf => ?_)
            ·
              refine gw_iconst (v := 0) (pc := 87) hK dX7_notesThat_87 (by decide) ?_
              refine gw_iadd (pc := 88) hK dX7_notesThat_88 ?_
              refine gw_istore_n (L' := [(2, .int (x2 + 0)), (4, .int 0), (0, .ref (gy_a Y c0)), (1, .int q1), (3, .int x3)]) (pc := 89) hK dX7_notesThat_89 rfl (by decide) rfl ?_
              refine gw_iinc (v := (x3 + 1)) (L' := [(3, .int (x3 + 1)), (2, .int (x2 + 0)), (4, .int 0), (0, .ref (gy_a Y c0)), (1, .int q1)]) (pc := 90) hK 4 dX7_notesThat_90 rfl rfl (by decide) rfl ?_
              refine gw_goto (tgt := 4) (pc := 93) hK dX7_notesThat_93 (by decide) ?_
              refine gw_sub (L' := [(0, .ref (gy_a Y c0)), (1, .int q1), (2, .int (x2 + 0)), (3, .int (x3 + 1))]) hK [3, 4, 1, 0] rfl (ih _ _ _ hf)
            ·
              refine gw_iload (pc := 68) hK 0 dX7_notesThat_68 rfl ?_
              refine gw_if_eq_c (tgt := 87) (pc := 70) hK dX7_notesThat_70 (by decide) (fun _ => ?_) (fun cc18 => absurd cc18 (by decide))
              refine gw_iconst (v := 0) (pc := 87) hK dX7_notesThat_87 (by decide) ?_
              refine gw_iadd (pc := 88) hK dX7_notesThat_88 ?_
              refine gw_istore_n (L' := [(2, .int (x2 + 0)), (4, .int 0), (0, .ref (gy_a Y c0)), (1, .int q1), (3, .int x3)]) (pc := 89) hK dX7_notesThat_89 rfl (by decide) rfl ?_
              refine gw_iinc (v := (x3 + 1)) (L' := [(3, .int (x3 + 1)), (2, .int (x2 + 0)), (4, .int 0), (0, .ref (gy_a Y c0)), (1, .int q1)]) (pc := 90) hK 4 dX7_notesThat_90 rfl rfl (by decide) rfl ?_
              refine gw_goto (tgt := 4) (pc := 93) hK dX7_notesThat_93 (by decide) ?_
              refine gw_sub (L' := [(0, .ref (gy_a Y c0)), (1, .int q1), (2, .int (x2 + 0)), (3, .int (x3 + 1))]) hK [3, 4, 1, 0] rfl (ih _ _ _ hf)
      ·
        refine gw_iconst (v := 1) (pc := 24) hK dX7_notesThat_24 (by decide) ?_
        refine gw_goto (tgt := 29) (pc := 25) hK dX7_notesThat_25 (by decide) ?_
        refine gw_istore (L' := [(4, .int 1), (0, .ref (gy_a Y c0)), (1, .int q1), (2, .int x2), (3, .int x3)]) (pc := 29) hK dX7_notesThat_29 (by decide) rfl ?_
        refine gw_iload_n (pc := 31) hK 3 dX7_notesThat_31 rfl rfl ?_
        refine gw_iload_n (pc := 32) hK 2 dX7_notesThat_32 rfl rfl ?_
        refine gw_iconst (v := 4) (pc := 33) hK dX7_notesThat_33 (by decide) ?_
        refine gw_icmp_ne (tgt := 42) (pc := 34) hK dX7_notesThat_34 (by decide) hf (fun cc19 hf => ?_) (fun cc19 hf => ?_)
        ·
          refine gw_iload_n (pc := 42) hK 2 dX7_notesThat_42 rfl rfl ?_
          refine gw_iconst (v := 5) (pc := 43) hK dX7_notesThat_43 (by decide) ?_
          refine gw_icmp_ne (tgt := 62) (pc := 44) hK dX7_notesThat_44 (by decide) hf (fun cc20 hf => ?_) (fun cc20 hf => ?_)
          ·
            refine gw_iload_n (pc := 62) hK 2 dX7_notesThat_62 rfl rfl ?_
            refine gw_bipush (v := 6) (pc := 63) hK dX7_notesThat_63 (by decide) ?_
            refine gw_icmp_ne (tgt := 87) (pc := 65) hK dX7_notesThat_65 (by decide) hf (fun cc21 hf => ?_) (fun cc21 hf => ?_)
            ·
              refine gw_iconst (v := 0) (pc := 87) hK dX7_notesThat_87 (by decide) ?_
              refine gw_iadd (pc := 88) hK dX7_notesThat_88 ?_
              refine gw_istore_n (L' := [(2, .int (x2 + 0)), (4, .int 1), (0, .ref (gy_a Y c0)), (1, .int q1), (3, .int x3)]) (pc := 89) hK dX7_notesThat_89 rfl (by decide) rfl ?_
              refine gw_iinc (v := (x3 + 1)) (L' := [(3, .int (x3 + 1)), (2, .int (x2 + 0)), (4, .int 1), (0, .ref (gy_a Y c0)), (1, .int q1)]) (pc := 90) hK 4 dX7_notesThat_90 rfl rfl (by decide) rfl ?_
              refine gw_goto (tgt := 4) (pc := 93) hK dX7_notesThat_93 (by decide) ?_
              refine gw_sub (L' := [(0, .ref (gy_a Y c0)), (1, .int q1), (2, .int (x2 + 0)), (3, .int (x3 + 1))]) hK [3, 4, 1, 0] rfl (ih _ _ _ hf)
            ·
              refine gw_iload (pc := 68) hK 0 dX7_notesThat_68 rfl ?_
              refine gw_if_eq_c (tgt := 87) (pc := 70) hK dX7_notesThat_70 (by decide) (fun cc22 => absurd cc22 (by decide)) (fun _ => ?_)
              refine gw_aload_n (pc := 73) hK 1 dX7_notesThat_73 rfl rfl ?_
              refine gw_iload_n (pc := 74) hK 4 dX7_notesThat_74 rfl rfl ?_
              refine gw_iconst (v := 3) (pc := 75) hK dX7_notesThat_75 (by decide) ?_
              refine gv_X7_81 (pc := 76) hK hc0 dX7_notesThat_76 (by decide) (Nat.le_of_ble_eq_true rfl) hf (fun r23 m24 hf => ?_)
              refine gw_iconst (v := (-1)) (pc := 79) hK dX7_notesThat_79 (by decide) ?_
              refine gw_icmp_ne (tgt := 87) (pc := 80) hK dX7_notesThat_80 (by decide) hf (fun cc25 hf => ?_) (fun cc25 hf => ?_)
              ·
                refine gw_iconst (v := 0) (pc := 87) hK dX7_notesThat_87 (by decide) ?_
                refine gw_iadd (pc := 88) hK dX7_notesThat_88 ?_
                refine gw_istore_n (L' := [(2, .int (x2 + 0)), (4, .int 1), (0, .ref (gy_a Y c0)), (1, .int q1), (3, .int x3)]) (pc := 89) hK dX7_notesThat_89 rfl (by decide) rfl ?_
                refine gw_iinc (v := (x3 + 1)) (L' := [(3, .int (x3 + 1)), (2, .int (x2 + 0)), (4, .int 1), (0, .ref (gy_a Y c0)), (1, .int q1)]) (pc := 90) hK 4 dX7_notesThat_90 rfl rfl (by decide) rfl ?_
                refine gw_goto (tgt := 4) (pc := 93) hK dX7_notesThat_93 (by decide) ?_
                refine gw_sub (L' := [(0, .ref (gy_a Y c0)), (1, .int q1), (2, .int (x2 + 0)), (3, .int (x3 + 1))]) hK [3, 4, 1, 0] rfl (ih _ _ _ hf)
              ·
                refine gw_iconst (v := 1) (pc := 83) hK dX7_notesThat_83 (by decide) ?_
                refine gw_goto (tgt := 88) (pc := 84) hK dX7_notesThat_84 (by decide) ?_
                refine gw_iadd (pc := 88) hK dX7_notesThat_88 ?_
                refine gw_istore_n (L' := [(2, .int (x2 + 1)), (4, .int 1), (0, .ref (gy_a Y c0)), (1, .int q1), (3, .int x3)]) (pc := 89) hK dX7_notesThat_89 rfl (by decide) rfl ?_
                refine gw_iinc (v := (x3 + 1)) (L' := [(3, .int (x3 + 1)), (2, .int (x2 + 1)), (4, .int 1), (0, .ref (gy_a Y c0)), (1, .int q1)]) (pc := 90) hK 4 dX7_notesThat_90 rfl rfl (by decide) rfl ?_
                refine gw_goto (tgt := 4) (pc := 93) hK dX7_notesThat_93 (by decide) ?_
                refine gw_sub (L' := [(0, .ref (gy_a Y c0)), (1, .int q1), (2, .int (x2 + 1)), (3, .int (x3 + 1))]) hK [3, 4, 1, 0] rfl (ih _ _ _ hf)
          ·
            refine gw_iload (pc := 47) hK 0 dX7_notesThat_47 rfl ?_
            refine gw_if_eq_c (tgt := 62) (pc := 49) hK dX7_notesThat_49 (by decide) (fun cc26 => absurd cc26 (by decide)) (fun _ => ?_)
            refine gw_aload_n (pc := 52) hK 1 dX7_notesThat_52 rfl rfl ?_
            refine gw_iload_n (pc := 53) hK 4 dX7_notesThat_53 rfl rfl ?_
            refine gw_iconst (v := 5) (pc := 54) hK dX7_notesThat_54 (by decide) ?_
            refine gv_X7_81 (pc := 55) hK hc0 dX7_notesThat_55 (by decide) (Nat.le_of_ble_eq_true rfl) hf (fun r27 m28 hf => ?_)
            refine gw_iconst (v := 1) (pc := 58) hK dX7_notesThat_58 (by decide) ?_
            refine gw_icmp_eq (tgt := 83) (pc := 59) hK dX7_notesThat_59 (by decide) hf (fun cc29 hf => ?_) (fun cc29 hf => ?_)
            ·
              refine gw_iconst (v := 1) (pc := 83) hK dX7_notesThat_83 (by decide) ?_
              refine gw_goto (tgt := 88) (pc := 84) hK dX7_notesThat_84 (by decide) ?_
              refine gw_iadd (pc := 88) hK dX7_notesThat_88 ?_
              refine gw_istore_n (L' := [(2, .int (x2 + 1)), (4, .int 1), (0, .ref (gy_a Y c0)), (1, .int q1), (3, .int x3)]) (pc := 89) hK dX7_notesThat_89 rfl (by decide) rfl ?_
              refine gw_iinc (v := (x3 + 1)) (L' := [(3, .int (x3 + 1)), (2, .int (x2 + 1)), (4, .int 1), (0, .ref (gy_a Y c0)), (1, .int q1)]) (pc := 90) hK 4 dX7_notesThat_90 rfl rfl (by decide) rfl ?_
              refine gw_goto (tgt := 4) (pc := 93) hK dX7_notesThat_93 (by decide) ?_
              refine gw_sub (L' := [(0, .ref (gy_a Y c0)), (1, .int q1), (2, .int (x2 + 1)), (3, .int (x3 + 1))]) hK [3, 4, 1, 0] rfl (ih _ _ _ hf)
            ·
              refine gw_iload_n (pc := 62) hK 2 dX7_notesThat_62 rfl rfl ?_
              refine gw_bipush (v := 6) (pc := 63) hK dX7_notesThat_63 (by decide) ?_
              refine gw_icmp_ne (tgt := 87) (pc := 65) hK dX7_notesThat_65 (by decide) hf (fun cc30 hf => ?_) (fun cc30 hf => ?_)
              ·
                refine gw_iconst (v := 0) (pc := 87) hK dX7_notesThat_87 (by decide) ?_
                refine gw_iadd (pc := 88) hK dX7_notesThat_88 ?_
                refine gw_istore_n (L' := [(2, .int (x2 + 0)), (4, .int 1), (0, .ref (gy_a Y c0)), (1, .int q1), (3, .int x3)]) (pc := 89) hK dX7_notesThat_89 rfl (by decide) rfl ?_
                refine gw_iinc (v := (x3 + 1)) (L' := [(3, .int (x3 + 1)), (2, .int (x2 + 0)), (4, .int 1), (0, .ref (gy_a Y c0)), (1, .int q1)]) (pc := 90) hK 4 dX7_notesThat_90 rfl rfl (by decide) rfl ?_
                refine gw_goto (tgt := 4) (pc := 93) hK dX7_notesThat_93 (by decide) ?_
                refine gw_sub (L' := [(0, .ref (gy_a Y c0)), (1, .int q1), (2, .int (x2 + 0)), (3, .int (x3 + 1))]) hK [3, 4, 1, 0] rfl (ih _ _ _ hf)
              ·
                refine gw_iload (pc := 68) hK 0 dX7_notesThat_68 rfl ?_
                refine gw_if_eq_c (tgt := 87) (pc := 70) hK dX7_notesThat_70 (by decide) (fun cc31 => absurd cc31 (by decide)) (fun _ => ?_)
                refine gw_aload_n (pc := 73) hK 1 dX7_notesThat_73 rfl rfl ?_
                refine gw_iload_n (pc := 74) hK 4 dX7_notesThat_74 rfl rfl ?_
                refine gw_iconst (v := 3) (pc := 75) hK dX7_notesThat_75 (by decide) ?_
                refine gv_X7_81 (pc := 76) hK hc0 dX7_notesThat_76 (by decide) (Nat.le_of_ble_eq_true rfl) hf (fun r32 m33 hf => ?_)
                refine gw_iconst (v := (-1)) (pc := 79) hK dX7_notesThat_79 (by decide) ?_
                refine gw_icmp_ne (tgt := 87) (pc := 80) hK dX7_notesThat_80 (by decide) hf (fun cc34 hf => ?_) (fun cc34 hf => ?_)
                ·
                  refine gw_iconst (v := 0) (pc := 87) hK dX7_notesThat_87 (by decide) ?_
                  refine gw_iadd (pc := 88) hK dX7_notesThat_88 ?_
                  refine gw_istore_n (L' := [(2, .int (x2 + 0)), (4, .int 1), (0, .ref (gy_a Y c0)), (1, .int q1), (3, .int x3)]) (pc := 89) hK dX7_notesThat_89 rfl (by decide) rfl ?_
                  refine gw_iinc (v := (x3 + 1)) (L' := [(3, .int (x3 + 1)), (2, .int (x2 + 0)), (4, .int 1), (0, .ref (gy_a Y c0)), (1, .int q1)]) (pc := 90) hK 4 dX7_notesThat_90 rfl rfl (by decide) rfl ?_
                  refine gw_goto (tgt := 4) (pc := 93) hK dX7_notesThat_93 (by decide) ?_
                  refine gw_sub (L' := [(0, .ref (gy_a Y c0)), (1, .int q1), (2, .int (x2 + 0)), (3, .int (x3 + 1))]) hK [3, 4, 1, 0] rfl (ih _ _ _ hf)
                ·
                  refine gw_iconst (v := 1) (pc := 83) hK dX7_notesThat_83 (by decide) ?_
                  refine gw_goto (tgt := 88) (pc := 84) hK dX7_notesThat_84 (by decide) ?_
                  refine gw_iadd (pc := 88) hK dX7_notesThat_88 ?_
                  refine gw_istore_n (L' := [(2, .int (x2 + 1)), (4, .int 1), (0, .ref (gy_a Y c0)), (1, .int q1), (3, .int x3)]) (pc := 89) hK dX7_notesThat_89 rfl (by decide) rfl ?_
                  refine gw_iinc (v := (x3 + 1)) (L' := [(3, .int (x3 + 1)), (2, .int (x2 + 1)), (4, .int 1), (0, .ref (gy_a Y c0)), (1, .int q1)]) (pc := 90) hK 4 dX7_notesThat_90 rfl rfl (by decide) rfl ?_
                  refine gw_goto (tgt := 4) (pc := 93) hK dX7_notesThat_93 (by decide) ?_
                  refine gw_sub (L' := [(0, .ref (gy_a Y c0)), (1, .int q1), (2, .int (x2 + 1)), (3, .int (x3 + 1))]) hK [3, 4, 1, 0] rfl (ih _ _ _ hf)
        ·
          refine gw_iload (pc := 37) hK 0 dX7_notesThat_37 rfl ?_
          refine gw_if_ne_c (tgt := 83) (pc := 39) hK dX7_notesThat_39 (by decide) (fun _ => ?_) (fun cc35 => absurd cc35 (by decide))
          refine gw_iconst (v := 1) (pc := 83) hK dX7_notesThat_83 (by decide) ?_
          refine gw_goto (tgt := 88) (pc := 84) hK dX7_notesThat_84 (by decide) ?_
          refine gw_iadd (pc := 88) hK dX7_notesThat_88 ?_
          refine gw_istore_n (L' := [(2, .int (x2 + 1)), (4, .int 1), (0, .ref (gy_a Y c0)), (1, .int q1), (3, .int x3)]) (pc := 89) hK dX7_notesThat_89 rfl (by decide) rfl ?_
          refine gw_iinc (v := (x3 + 1)) (L' := [(3, .int (x3 + 1)), (2, .int (x2 + 1)), (4, .int 1), (0, .ref (gy_a Y c0)), (1, .int q1)]) (pc := 90) hK 4 dX7_notesThat_90 rfl rfl (by decide) rfl ?_
          refine gw_goto (tgt := 4) (pc := 93) hK dX7_notesThat_93 (by decide) ?_
          refine gw_sub (L' := [(0, .ref (gy_a Y c0)), (1, .int q1), (2, .int (x2 + 1)), (3, .int (x3 + 1))]) hK [3, 4, 1, 0] rfl (ih _ _ _ hf)
set_option maxRecDepth 100000 in
set_option maxHeartbeats 4000000 in
theorem ct_X7_notesThat (l : Launch) (Y : gx_Y) (μ : gx_M) (c : Nat) (p1 : Int32) (rr : Int32 × gx_M) (hc : gk_mod Y c) (hf : fn_X7_notesThat (gy_k Y) μ c p1 = some rr) : gx_Con l yX7_notesThat cX7_notesThat 5 (some .int) 1 22 Y [.ref (gy_a Y c), .int p1] μ rr := by
  refine gx_Con_of (L0 := [(0, .ref (gy_a Y c)), (1, .int p1)]) (by decide) (Nat.le_of_ble_eq_true rfl) rfl (fun K hK => ?_)
  unfold fn_X7_notesThat at hf
  refine gw_iconst (v := 0) (pc := 0) hK dX7_notesThat_0 (by decide) ?_
  refine gw_istore_n (L' := [(2, .int 0), (0, .ref (gy_a Y c)), (1, .int p1)]) (pc := 1) hK dX7_notesThat_1 rfl (by decide) rfl ?_
  refine gw_iconst (v := 0) (pc := 2) hK dX7_notesThat_2 (by decide) ?_
  refine gw_istore_n (L' := [(3, .int 0), (2, .int 0), (0, .ref (gy_a Y c)), (1, .int p1)]) (pc := 3) hK dX7_notesThat_3 rfl (by decide) rfl ?_
  refine gw_sub (L' := [(0, .ref (gy_a Y c)), (1, .int p1), (2, .int 0), (3, .int 0)]) hK [2, 3, 1, 0] rfl (lt_X7_notesThat_4 hK c p1 hc _ (fun m36 y37 y38 hf => ?_) gx_F _ _ _ hf)
  refine gw_iload_n (pc := 96) hK 2 dX7_notesThat_96 rfl rfl ?_
  exact gw_ret_i (pc := 97) hK dX7_notesThat_97 (Option.some.inj hf)
theorem gv_X7_87 {l : Launch} {cc : ByteArray} {nL fr lo : Nat} {ret : Option FieldType} {Y : gx_Y} {Post : Int32 → gx_M → Prop} {K : gx_KT} {pc : Nat} {μ : gx_M} {L : List (Nat × Value)} {st : List Value} {rr : Int32 × gx_M} (h : gx_K l RX7 cc nL fr lo ret Y Post K) {c : Nat} {p1 : Int32} (hc : gk_mod Y c) (d : decode cc pc = .ok (.invokevirtual 87, 3)) (hR : 1 + 1 ≤ fr ∧ 46 ≤ lo) (hst : (st.map fun v => v.category).sum ≤ 8) {k : Int32 → gx_M → Option (Int32 × gx_M)} (hf : gx_b (fn_X7_notesThat (gy_k Y) μ c p1) k = some rr) (kk : ∀ (r : Int32) (m : gx_M), k r m = some rr → K m (pc + 3) L (.int r :: st)) : K μ pc L (.int p1 :: .ref (gy_a Y c) :: st) := by
  obtain ⟨r, m, e, hk⟩ := gx_b_some hf
  exact gw_callV (As := [.int p1]) (q := (r, m)) h hc.1 (by decide) rfl (by refine ⟨rfl, by decide, by decide, (show (parseMethodDescriptor yX7_notesThat.desc).map (fun d => d.parameters.length) = some 1 by decide +kernel)⟩) kw_ml_RX7_87 kw_im_X7_notesThat kw_se_X7_notesThat kw_in_RX7 kw_co_X7_notesThat hR hst d (ct_X7_notesThat l Y μ c p1 (r, m) hc e) (kk r m hk)
def lf_X7_phraseOf_4 (kd : Nat → Nat) (c0 : Nat) (q1 : Int32) (k : gx_M → Int32 → Int32 → Option (Int32 × gx_M)) : Nat → gx_M → Int32 → Int32 → Option (Int32 × gx_M)
  | 0, _, _, _ => none
  | n + 1, μ, x2, x3 => (if q1 < x3 then
k μ x2 x3
else
gx_b (fn_X7_begins kd μ c0 x3) (fun r2 m3 =>
(if r2 = 0 then
lf_X7_phraseOf_4 kd c0 q1 k n m3 (x2 + 0) (x3 + 1)
else
lf_X7_phraseOf_4 kd c0 q1 k n m3 (x2 + 1) (x3 + 1))))
def fn_X7_phraseOf (kd : Nat → Nat) (μ : gx_M) (c : Nat) (p1 : Int32) : Option (Int32 × gx_M) :=
  lf_X7_phraseOf_4 kd c p1 (fun m5 y6 y7 =>
some ((y6 - 1), m5)) gx_F μ 0 0
set_option maxRecDepth 100000 in
set_option maxHeartbeats 4000000 in
theorem lt_X7_phraseOf_4 {l : Launch} {Y : gx_Y} {rr : Int32 × gx_M} {K : gx_KT} (hK : gx_K l RX7 cX7_phraseOf 4 2 43 (some .int) Y (fun r m => (r, m) = rr) K) (c0 : Nat) (q1 : Int32) (hc0 : gk_mod Y c0) (k : gx_M → Int32 → Int32 → Option (Int32 × gx_M)) (hx : ∀ (μ : gx_M) (x2 : Int32) (x3 : Int32), k μ x2 x3 = some rr → K μ 31 [(0, .ref (gy_a Y c0)), (1, .int q1), (2, .int x2), (3, .int x3)] []) :
    ∀ (n : Nat) (μ : gx_M) (x2 : Int32) (x3 : Int32), lf_X7_phraseOf_4 (gy_k Y) c0 q1 k n μ x2 x3 = some rr → K μ 4 [(0, .ref (gy_a Y c0)), (1, .int q1), (2, .int x2), (3, .int x3)] [] := by
  intro n
  induction n with
  | zero =>
    intro μ x2 x3 hf
    exact absurd hf (by simp [lf_X7_phraseOf_4])
  | succ n ih =>
    intro μ x2 x3 hf
    rw [lf_X7_phraseOf_4] at hf
    refine gw_iload_n (pc := 4) hK 3 dX7_phraseOf_4 rfl rfl ?_
    refine gw_iload_n (pc := 5) hK 1 dX7_phraseOf_5 rfl rfl ?_
    refine gw_icmp_gt (tgt := 31) (pc := 6) hK dX7_phraseOf_6 (by decide) hf (fun cc1 hf => ?_) (fun cc1 hf => ?_)
    ·
      refine gw_sub (L' := [(0, .ref (gy_a Y c0)), (1, .int q1), (2, .int x2), (3, .int x3)]) hK [0, 1, 2, 3] rfl (hx _ _ _ hf)
    ·
      refine gw_iload_n (pc := 9) hK 2 dX7_phraseOf_9 rfl rfl ?_
      refine gw_aload_n (pc := 10) hK 0 dX7_phraseOf_10 rfl rfl ?_
      refine gw_iload_n (pc := 11) hK 3 dX7_phraseOf_11 rfl rfl ?_
      refine gv_X7_97 (pc := 12) hK hc0 dX7_phraseOf_12 (by decide) (Nat.le_of_ble_eq_true rfl) hf (fun r2 m3 hf => ?_)
      refine gw_if_eq (tgt := 22) (pc := 15) hK dX7_phraseOf_15 (by decide) hf (fun cc4 hf => ?_) (fun cc4 hf => ?_)
      ·
        refine gw_iconst (v := 0) (pc := 22) hK dX7_phraseOf_22 (by decide) ?_
        refine gw_iadd (pc := 23) hK dX7_phraseOf_23 ?_
        refine gw_istore_n (L' := [(2, .int (x2 + 0)), (0, .ref (gy_a Y c0)), (1, .int q1), (3, .int x3)]) (pc := 24) hK dX7_phraseOf_24 rfl (by decide) rfl ?_
        refine gw_iinc (v := (x3 + 1)) (L' := [(3, .int (x3 + 1)), (2, .int (x2 + 0)), (0, .ref (gy_a Y c0)), (1, .int q1)]) (pc := 25) hK 3 dX7_phraseOf_25 rfl rfl (by decide) rfl ?_
        refine gw_goto (tgt := 4) (pc := 28) hK dX7_phraseOf_28 (by decide) ?_
        refine gw_sub (L' := [(0, .ref (gy_a Y c0)), (1, .int q1), (2, .int (x2 + 0)), (3, .int (x3 + 1))]) hK [2, 3, 1, 0] rfl (ih _ _ _ hf)
      ·
        refine gw_iconst (v := 1) (pc := 18) hK dX7_phraseOf_18 (by decide) ?_
        refine gw_goto (tgt := 23) (pc := 19) hK dX7_phraseOf_19 (by decide) ?_
        refine gw_iadd (pc := 23) hK dX7_phraseOf_23 ?_
        refine gw_istore_n (L' := [(2, .int (x2 + 1)), (0, .ref (gy_a Y c0)), (1, .int q1), (3, .int x3)]) (pc := 24) hK dX7_phraseOf_24 rfl (by decide) rfl ?_
        refine gw_iinc (v := (x3 + 1)) (L' := [(3, .int (x3 + 1)), (2, .int (x2 + 1)), (0, .ref (gy_a Y c0)), (1, .int q1)]) (pc := 25) hK 3 dX7_phraseOf_25 rfl rfl (by decide) rfl ?_
        refine gw_goto (tgt := 4) (pc := 28) hK dX7_phraseOf_28 (by decide) ?_
        refine gw_sub (L' := [(0, .ref (gy_a Y c0)), (1, .int q1), (2, .int (x2 + 1)), (3, .int (x3 + 1))]) hK [2, 3, 1, 0] rfl (ih _ _ _ hf)
set_option maxRecDepth 100000 in
set_option maxHeartbeats 4000000 in
theorem ct_X7_phraseOf (l : Launch) (Y : gx_Y) (μ : gx_M) (c : Nat) (p1 : Int32) (rr : Int32 × gx_M) (hc : gk_mod Y c) (hf : fn_X7_phraseOf (gy_k Y) μ c p1 = some rr) : gx_Con l yX7_phraseOf cX7_phraseOf 4 (some .int) 2 43 Y [.ref (gy_a Y c), .int p1] μ rr := by
  refine gx_Con_of (L0 := [(0, .ref (gy_a Y c)), (1, .int p1)]) (by decide) (Nat.le_of_ble_eq_true rfl) rfl (fun K hK => ?_)
  unfold fn_X7_phraseOf at hf
  refine gw_iconst (v := 0) (pc := 0) hK dX7_phraseOf_0 (by decide) ?_
  refine gw_istore_n (L' := [(2, .int 0), (0, .ref (gy_a Y c)), (1, .int p1)]) (pc := 1) hK dX7_phraseOf_1 rfl (by decide) rfl ?_
  refine gw_iconst (v := 0) (pc := 2) hK dX7_phraseOf_2 (by decide) ?_
  refine gw_istore_n (L' := [(3, .int 0), (2, .int 0), (0, .ref (gy_a Y c)), (1, .int p1)]) (pc := 3) hK dX7_phraseOf_3 rfl (by decide) rfl ?_
  refine gw_sub (L' := [(0, .ref (gy_a Y c)), (1, .int p1), (2, .int 0), (3, .int 0)]) hK [2, 3, 1, 0] rfl (lt_X7_phraseOf_4 hK c p1 hc _ (fun m5 y6 y7 hf => ?_) gx_F _ _ _ hf)
  refine gw_iload_n (pc := 31) hK 2 dX7_phraseOf_31 rfl rfl ?_
  refine gw_iconst (v := 1) (pc := 32) hK dX7_phraseOf_32 (by decide) ?_
  refine gw_isub (pc := 33) hK dX7_phraseOf_33 ?_
  exact gw_ret_i (pc := 34) hK dX7_phraseOf_34 (Option.some.inj hf)
theorem gv_X7_84 {l : Launch} {cc : ByteArray} {nL fr lo : Nat} {ret : Option FieldType} {Y : gx_Y} {Post : Int32 → gx_M → Prop} {K : gx_KT} {pc : Nat} {μ : gx_M} {L : List (Nat × Value)} {st : List Value} {rr : Int32 × gx_M} (h : gx_K l RX7 cc nL fr lo ret Y Post K) {c : Nat} {p1 : Int32} (hc : gk_mod Y c) (d : decode cc pc = .ok (.invokevirtual 84, 3)) (hR : 2 + 1 ≤ fr ∧ 66 ≤ lo) (hst : (st.map fun v => v.category).sum ≤ 8) {k : Int32 → gx_M → Option (Int32 × gx_M)} (hf : gx_b (fn_X7_phraseOf (gy_k Y) μ c p1) k = some rr) (kk : ∀ (r : Int32) (m : gx_M), k r m = some rr → K m (pc + 3) L (.int r :: st)) : K μ pc L (.int p1 :: .ref (gy_a Y c) :: st) := by
  obtain ⟨r, m, e, hk⟩ := gx_b_some hf
  exact gw_callV (As := [.int p1]) (q := (r, m)) h hc.1 (by decide) rfl (by refine ⟨rfl, by decide, by decide, (show (parseMethodDescriptor yX7_phraseOf.desc).map (fun d => d.parameters.length) = some 1 by decide +kernel)⟩) kw_ml_RX7_84 kw_im_X7_phraseOf kw_se_X7_phraseOf kw_in_RX7 kw_co_X7_phraseOf hR hst d (ct_X7_phraseOf l Y μ c p1 (r, m) hc e) (kk r m hk)
def lf_X7_water_4 (kd : Nat → Nat) (c0 : Nat) (k : gx_M → Int32 → Int32 → Option (Int32 × gx_M)) : Nat → gx_M → Int32 → Int32 → Option (Int32 × gx_M)
  | 0, _, _, _ => none
  | n + 1, μ, x1, x2 => (if gx_ix 1 (kd (c0 + 1) - 100) = true then (if μ (c0 + 1) (Int32.toNatClampNeg 1) ≤ x2 then
k μ x1 x2
else
gx_b (fn_X7_of kd μ c0 x2 2) (fun r2 m3 =>
lf_X7_water_4 kd c0 k n m3 (x1 + r2) (x2 + 1))) else none)
def fn_X7_water (kd : Nat → Nat) (μ : gx_M) (c : Nat) : Option (Int32 × gx_M) :=
  lf_X7_water_4 kd c (fun m4 y5 y6 =>
some (y5, m4)) gx_F μ 0 0
set_option maxRecDepth 100000 in
set_option maxHeartbeats 4000000 in
theorem lt_X7_water_4 {l : Launch} {Y : gx_Y} {rr : Int32 × gx_M} {K : gx_KT} (hK : gx_K l RX7 cX7_water 3 1 22 (some .int) Y (fun r m => (r, m) = rr) K) (c0 : Nat) (hc0 : gk_mod Y c0) (k : gx_M → Int32 → Int32 → Option (Int32 × gx_M)) (hx : ∀ (μ : gx_M) (x1 : Int32) (x2 : Int32), k μ x1 x2 = some rr → K μ 29 [(0, .ref (gy_a Y c0)), (1, .int x1), (2, .int x2)] []) :
    ∀ (n : Nat) (μ : gx_M) (x1 : Int32) (x2 : Int32), lf_X7_water_4 (gy_k Y) c0 k n μ x1 x2 = some rr → K μ 4 [(0, .ref (gy_a Y c0)), (1, .int x1), (2, .int x2)] [] := by
  intro n
  induction n with
  | zero =>
    intro μ x1 x2 hf
    exact absurd hf (by simp [lf_X7_water_4])
  | succ n ih =>
    intro μ x1 x2 hf
    rw [lf_X7_water_4] at hf
    refine gw_iload_n (pc := 4) hK 2 dX7_water_4 rfl rfl ?_
    refine gw_aload_n (pc := 5) hK 0 dX7_water_5 rfl rfl ?_
    refine gf_X7_7 (pc := 6) hK hc0.1 dX7_water_6 ?_
    refine gw_iconst (v := 1) (pc := 9) hK dX7_water_9 (by decide) ?_
    refine gw_iald (pc := 10) hK hc0.2.1.1 (gk_100 hc0.2.1) dX7_water_10 hf (fun hf => ?_)
    refine gw_icmp_ge (tgt := 29) (pc := 11) hK dX7_water_11 (by decide) hf (fun cc1 hf => ?_) (fun cc1 hf => ?_)
    ·
      refine gw_sub (L' := [(0, .ref (gy_a Y c0)), (1, .int x1), (2, .int x2)]) hK [0, 1, 2] rfl (hx _ _ _ hf)
    ·
      refine gw_iload_n (pc := 14) hK 1 dX7_water_14 rfl rfl ?_
      refine gw_aload_n (pc := 15) hK 0 dX7_water_15 rfl rfl ?_
      refine gw_iload_n (pc := 16) hK 2 dX7_water_16 rfl rfl ?_
      refine gw_iconst (v := 2) (pc := 17) hK dX7_water_17 (by decide) ?_
      refine gv_X7_34 (pc := 18) hK hc0 dX7_water_18 (by decide) (Nat.le_of_ble_eq_true rfl) hf (fun r2 m3 hf => ?_)
      refine gw_iadd (pc := 21) hK dX7_water_21 ?_
      refine gw_istore_n (L' := [(1, .int (x1 + r2)), (0, .ref (gy_a Y c0)), (2, .int x2)]) (pc := 22) hK dX7_water_22 rfl (by decide) rfl ?_
      refine gw_iinc (v := (x2 + 1)) (L' := [(2, .int (x2 + 1)), (1, .int (x1 + r2)), (0, .ref (gy_a Y c0))]) (pc := 23) hK 2 dX7_water_23 rfl rfl (by decide) rfl ?_
      refine gw_goto (tgt := 4) (pc := 26) hK dX7_water_26 (by decide) ?_
      refine gw_sub (L' := [(0, .ref (gy_a Y c0)), (1, .int (x1 + r2)), (2, .int (x2 + 1))]) hK [2, 1, 0] rfl (ih _ _ _ hf)
set_option maxRecDepth 100000 in
set_option maxHeartbeats 4000000 in
theorem ct_X7_water (l : Launch) (Y : gx_Y) (μ : gx_M) (c : Nat) (rr : Int32 × gx_M) (hc : gk_mod Y c) (hf : fn_X7_water (gy_k Y) μ c = some rr) : gx_Con l yX7_water cX7_water 3 (some .int) 1 22 Y [.ref (gy_a Y c)] μ rr := by
  refine gx_Con_of (L0 := [(0, .ref (gy_a Y c))]) (by decide) (Nat.le_of_ble_eq_true rfl) rfl (fun K hK => ?_)
  unfold fn_X7_water at hf
  refine gw_iconst (v := 0) (pc := 0) hK dX7_water_0 (by decide) ?_
  refine gw_istore_n (L' := [(1, .int 0), (0, .ref (gy_a Y c))]) (pc := 1) hK dX7_water_1 rfl (by decide) rfl ?_
  refine gw_iconst (v := 0) (pc := 2) hK dX7_water_2 (by decide) ?_
  refine gw_istore_n (L' := [(2, .int 0), (1, .int 0), (0, .ref (gy_a Y c))]) (pc := 3) hK dX7_water_3 rfl (by decide) rfl ?_
  refine gw_sub (L' := [(0, .ref (gy_a Y c)), (1, .int 0), (2, .int 0)]) hK [2, 1, 0] rfl (lt_X7_water_4 hK c hc _ (fun m4 y5 y6 hf => ?_) gx_F _ _ _ hf)
  refine gw_iload_n (pc := 29) hK 1 dX7_water_29 rfl rfl ?_
  exact gw_ret_i (pc := 30) hK dX7_water_30 (Option.some.inj hf)
theorem gv_X7_93 {l : Launch} {cc : ByteArray} {nL fr lo : Nat} {ret : Option FieldType} {Y : gx_Y} {Post : Int32 → gx_M → Prop} {K : gx_KT} {pc : Nat} {μ : gx_M} {L : List (Nat × Value)} {st : List Value} {rr : Int32 × gx_M} (h : gx_K l RX7 cc nL fr lo ret Y Post K) {c : Nat} (hc : gk_mod Y c) (d : decode cc pc = .ok (.invokevirtual 93, 3)) (hR : 1 + 1 ≤ fr ∧ 44 ≤ lo) (hst : (st.map fun v => v.category).sum ≤ 8) {k : Int32 → gx_M → Option (Int32 × gx_M)} (hf : gx_b (fn_X7_water (gy_k Y) μ c) k = some rr) (kk : ∀ (r : Int32) (m : gx_M), k r m = some rr → K m (pc + 3) L (.int r :: st)) : K μ pc L (.ref (gy_a Y c) :: st) := by
  obtain ⟨r, m, e, hk⟩ := gx_b_some hf
  exact gw_callV (As := []) (q := (r, m)) h hc.1 (by decide) rfl (by refine ⟨rfl, by decide, by decide, (show (parseMethodDescriptor yX7_water.desc).map (fun d => d.parameters.length) = some 0 by decide +kernel)⟩) kw_ml_RX7_93 kw_im_X7_water kw_se_X7_water kw_in_RX7 kw_co_X7_water hR hst d (ct_X7_water l Y μ c (r, m) hc e) (kk r m hk)
def fn_X7_count (kd : Nat → Nat) (μ : gx_M) (c : Nat) (p1 : Int32) : Option (Int32 × gx_M) :=
  (if p1 = 0 then
(if gx_ix 0 (kd (c + 1) - 100) = true then some (μ (c + 1) (Int32.toNatClampNeg 0), μ) else none)
else
(if p1 = 1 then
(if gx_ix 1 (kd (c + 1) - 100) = true then some (μ (c + 1) (Int32.toNatClampNeg 1), μ) else none)
else
(if p1 = 2 then
(if gx_ix 2 (kd (c + 1) - 100) = true then some (μ (c + 1) (Int32.toNatClampNeg 2), μ) else none)
else
(if p1 = 3 then
(if gx_ix 2 (kd (c + 1) - 100) = true then (if μ (c + 1) (Int32.toNatClampNeg 2) = 0 then
some (0, μ)
else
(if gx_ix 2 (kd (c + 1) - 100) = true then gx_b (fn_X7_phraseOf kd μ c (μ (c + 1) (Int32.toNatClampNeg 2) - 1)) (fun r6 m7 =>
some ((r6 + 1), m7)) else none)) else none)
else
(if p1 = 4 then
gx_b (fn_X7_notesThat kd μ c p1) (fun r9 m10 =>
some (r9, m10))
else
(if p1 = 5 then
gx_b (fn_X7_notesThat kd μ c p1) (fun r12 m13 =>
some (r12, m13))
else
(if p1 = 6 then
gx_b (fn_X7_notesThat kd μ c p1) (fun r15 m16 =>
some (r15, m16))
else
(if p1 = 7 then
some (μ c 3, μ)
else
(if p1 = 8 then
some (μ c 5, μ)
else
(if p1 = 9 then
gx_b (fn_X7_in kd μ p1 10 13) (fun r20 m21 =>
(if r20 = 0 then
some ((-100001), m21)
else
gx_b (fn_X7_setting kd m21 c (p1 - 10)) (fun r23 m24 =>
some (r23, m24))))
else
(if p1 = 10 then
gx_b (fn_X7_in kd μ p1 10 13) (fun r26 m27 =>
(if r26 = 0 then
some ((-100001), m27)
else
gx_b (fn_X7_setting kd m27 c (p1 - 10)) (fun r29 m30 =>
some (r29, m30))))
else
(if p1 = 11 then
gx_b (fn_X7_in kd μ p1 10 13) (fun r32 m33 =>
(if r32 = 0 then
some ((-100001), m33)
else
gx_b (fn_X7_setting kd m33 c (p1 - 10)) (fun r35 m36 =>
some (r35, m36))))
else
(if p1 = 12 then
gx_b (fn_X7_in kd μ p1 10 13) (fun r38 m39 =>
(if r38 = 0 then
some ((-100001), m39)
else
gx_b (fn_X7_setting kd m39 c (p1 - 10)) (fun r41 m42 =>
some (r41, m42))))
else
(if p1 = 13 then
gx_b (fn_X7_in kd μ p1 10 13) (fun r44 m45 =>
(if r44 = 0 then
some ((-100001), m45)
else
gx_b (fn_X7_setting kd m45 c (p1 - 10)) (fun r47 m48 =>
some (r47, m48))))
else
(if p1 = 14 then
gx_b (fn_X7_in kd μ p1 10 13) (fun r50 m51 =>
(if r50 = 0 then
some ((-100001), m51)
else
gx_b (fn_X7_setting kd m51 c (p1 - 10)) (fun r53 m54 =>
some (r53, m54))))
else
(if p1 = 15 then
gx_b (fn_X7_in kd μ p1 10 13) (fun r56 m57 =>
(if r56 = 0 then
some ((-100001), m57)
else
gx_b (fn_X7_setting kd m57 c (p1 - 10)) (fun r59 m60 =>
some (r59, m60))))
else
(if p1 = 16 then
gx_b (fn_X7_in kd μ p1 10 13) (fun r62 m63 =>
(if r62 = 0 then
some ((-100001), m63)
else
gx_b (fn_X7_setting kd m63 c (p1 - 10)) (fun r65 m66 =>
some (r65, m66))))
else
(if p1 = 17 then
gx_b (fn_X7_in kd μ p1 10 13) (fun r68 m69 =>
(if r68 = 0 then
some ((-100001), m69)
else
gx_b (fn_X7_setting kd m69 c (p1 - 10)) (fun r71 m72 =>
some (r71, m72))))
else
(if p1 = 18 then
gx_b (fn_X7_in kd μ p1 10 13) (fun r74 m75 =>
(if r74 = 0 then
some ((-100001), m75)
else
gx_b (fn_X7_setting kd m75 c (p1 - 10)) (fun r77 m78 =>
some (r77, m78))))
else
(if p1 = 19 then
gx_b (fn_X7_in kd μ p1 10 13) (fun r80 m81 =>
(if r80 = 0 then
some ((-100001), m81)
else
gx_b (fn_X7_setting kd m81 c (p1 - 10)) (fun r83 m84 =>
some (r83, m84))))
else
(if p1 = 20 then
(if gx_ix 3 (kd (c + 1) - 100) = true then some (μ (c + 1) (Int32.toNatClampNeg 3), μ) else none)
else
(if p1 = 21 then
gx_b (fn_X7_water kd μ c) (fun r87 m88 =>
some (r87, m88))
else
(if p1 = 22 then
(if gx_ix ((4 + p1) - 22) (kd (c + 1) - 100) = true then some (μ (c + 1) (Int32.toNatClampNeg ((4 + p1) - 22)), μ) else none)
else
(if p1 = 23 then
(if gx_ix ((4 + p1) - 22) (kd (c + 1) - 100) = true then some (μ (c + 1) (Int32.toNatClampNeg ((4 + p1) - 22)), μ) else none)
else
(if p1 = 24 then
(if gx_ix ((4 + p1) - 22) (kd (c + 1) - 100) = true then some (μ (c + 1) (Int32.toNatClampNeg ((4 + p1) - 22)), μ) else none)
else
gx_b (fn_X7_in kd μ p1 10 13) (fun r92 m93 =>
(if r92 = 0 then
some ((-100001), m93)
else
gx_b (fn_X7_setting kd m93 c (p1 - 10)) (fun r95 m96 =>
some (r95, m96)))))))))))))))))))))))))))))
set_option maxRecDepth 100000 in
set_option maxHeartbeats 4000000 in
theorem ct_X7_count (l : Launch) (Y : gx_Y) (μ : gx_M) (c : Nat) (p1 : Int32) (rr : Int32 × gx_M) (hc : gk_mod Y c) (hf : fn_X7_count (gy_k Y) μ c p1 = some rr) : gx_Con l yX7_count cX7_count 2 (some .int) 3 66 Y [.ref (gy_a Y c), .int p1] μ rr := by
  refine gx_Con_of (L0 := [(0, .ref (gy_a Y c)), (1, .int p1)]) (by decide) (Nat.le_of_ble_eq_true rfl) rfl (fun K hK => ?_)
  unfold fn_X7_count at hf
  refine gw_iload_n (pc := 0) hK 1 dX7_count_0 rfl rfl ?_
  by_cases cs1 : p1 = 0
  · replace hf := gx_pos cs1 hf
    refine gw_tblIn (tgt := 116) (pc := 1) hK dX7_count_1 (by rw [cs1]; decide) (by rw [cs1]; decide) (by rw [cs1]; rfl) (by decide) ?_
    refine gw_aload_n (pc := 116) hK 0 dX7_count_116 rfl rfl ?_
    refine gf_X7_7 (pc := 117) hK hc.1 dX7_count_117 ?_
    refine gw_iconst (v := 0) (pc := 120) hK dX7_count_120 (by decide) ?_
    refine gw_iald (pc := 121) hK hc.2.1.1 (gk_100 hc.2.1) dX7_count_121 hf (fun hf => ?_)
    exact gw_ret_i (pc := 122) hK dX7_count_122 (Option.some.inj hf)
  replace hf := gx_neg cs1 hf
  by_cases cs2 : p1 = 1
  · replace hf := gx_pos cs2 hf
    refine gw_tblIn (tgt := 123) (pc := 1) hK dX7_count_1 (by rw [cs2]; decide) (by rw [cs2]; decide) (by rw [cs2]; rfl) (by decide) ?_
    refine gw_aload_n (pc := 123) hK 0 dX7_count_123 rfl rfl ?_
    refine gf_X7_7 (pc := 124) hK hc.1 dX7_count_124 ?_
    refine gw_iconst (v := 1) (pc := 127) hK dX7_count_127 (by decide) ?_
    refine gw_iald (pc := 128) hK hc.2.1.1 (gk_100 hc.2.1) dX7_count_128 hf (fun hf => ?_)
    exact gw_ret_i (pc := 129) hK dX7_count_129 (Option.some.inj hf)
  replace hf := gx_neg cs2 hf
  by_cases cs3 : p1 = 2
  · replace hf := gx_pos cs3 hf
    refine gw_tblIn (tgt := 130) (pc := 1) hK dX7_count_1 (by rw [cs3]; decide) (by rw [cs3]; decide) (by rw [cs3]; rfl) (by decide) ?_
    refine gw_aload_n (pc := 130) hK 0 dX7_count_130 rfl rfl ?_
    refine gf_X7_7 (pc := 131) hK hc.1 dX7_count_131 ?_
    refine gw_iconst (v := 2) (pc := 134) hK dX7_count_134 (by decide) ?_
    refine gw_iald (pc := 135) hK hc.2.1.1 (gk_100 hc.2.1) dX7_count_135 hf (fun hf => ?_)
    exact gw_ret_i (pc := 136) hK dX7_count_136 (Option.some.inj hf)
  replace hf := gx_neg cs3 hf
  by_cases cs4 : p1 = 3
  · replace hf := gx_pos cs4 hf
    refine gw_tblIn (tgt := 137) (pc := 1) hK dX7_count_1 (by rw [cs4]; decide) (by rw [cs4]; decide) (by rw [cs4]; rfl) (by decide) ?_
    refine gw_aload_n (pc := 137) hK 0 dX7_count_137 rfl rfl ?_
    refine gf_X7_7 (pc := 138) hK hc.1 dX7_count_138 ?_
    refine gw_iconst (v := 2) (pc := 141) hK dX7_count_141 (by decide) ?_
    refine gw_iald (pc := 142) hK hc.2.1.1 (gk_100 hc.2.1) dX7_count_142 hf (fun hf => ?_)
    refine gw_if_ne (tgt := 150) (pc := 143) hK dX7_count_143 (by decide) hf (fun cc5 hf => ?_) (fun cc5 hf => ?_)
    ·
      refine gw_aload_n (pc := 150) hK 0 dX7_count_150 rfl rfl ?_
      refine gw_aload_n (pc := 151) hK 0 dX7_count_151 rfl rfl ?_
      refine gf_X7_7 (pc := 152) hK hc.1 dX7_count_152 ?_
      refine gw_iconst (v := 2) (pc := 155) hK dX7_count_155 (by decide) ?_
      refine gw_iald (pc := 156) hK hc.2.1.1 (gk_100 hc.2.1) dX7_count_156 hf (fun hf => ?_)
      refine gw_iconst (v := 1) (pc := 157) hK dX7_count_157 (by decide) ?_
      refine gw_isub (pc := 158) hK dX7_count_158 ?_
      refine gv_X7_84 (pc := 159) hK hc dX7_count_159 (by decide) (Nat.le_of_ble_eq_true rfl) hf (fun r6 m7 hf => ?_)
      refine gw_iconst (v := 1) (pc := 162) hK dX7_count_162 (by decide) ?_
      refine gw_iadd (pc := 163) hK dX7_count_163 ?_
      exact gw_ret_i (pc := 164) hK dX7_count_164 (Option.some.inj hf)
    ·
      refine gw_iconst (v := 0) (pc := 146) hK dX7_count_146 (by decide) ?_
      refine gw_goto (tgt := 164) (pc := 147) hK dX7_count_147 (by decide) ?_
      exact gw_ret_i (pc := 164) hK dX7_count_164 (Option.some.inj hf)
  replace hf := gx_neg cs4 hf
  by_cases cs8 : p1 = 4
  · replace hf := gx_pos cs8 hf
    refine gw_tblIn (tgt := 165) (pc := 1) hK dX7_count_1 (by rw [cs8]; decide) (by rw [cs8]; decide) (by rw [cs8]; rfl) (by decide) ?_
    refine gw_aload_n (pc := 165) hK 0 dX7_count_165 rfl rfl ?_
    refine gw_iload_n (pc := 166) hK 1 dX7_count_166 rfl rfl ?_
    refine gv_X7_87 (pc := 167) hK hc dX7_count_167 (by decide) (Nat.le_of_ble_eq_true rfl) hf (fun r9 m10 hf => ?_)
    exact gw_ret_i (pc := 170) hK dX7_count_170 (Option.some.inj hf)
  replace hf := gx_neg cs8 hf
  by_cases cs11 : p1 = 5
  · replace hf := gx_pos cs11 hf
    refine gw_tblIn (tgt := 165) (pc := 1) hK dX7_count_1 (by rw [cs11]; decide) (by rw [cs11]; decide) (by rw [cs11]; rfl) (by decide) ?_
    refine gw_aload_n (pc := 165) hK 0 dX7_count_165 rfl rfl ?_
    refine gw_iload_n (pc := 166) hK 1 dX7_count_166 rfl rfl ?_
    refine gv_X7_87 (pc := 167) hK hc dX7_count_167 (by decide) (Nat.le_of_ble_eq_true rfl) hf (fun r12 m13 hf => ?_)
    exact gw_ret_i (pc := 170) hK dX7_count_170 (Option.some.inj hf)
  replace hf := gx_neg cs11 hf
  by_cases cs14 : p1 = 6
  · replace hf := gx_pos cs14 hf
    refine gw_tblIn (tgt := 165) (pc := 1) hK dX7_count_1 (by rw [cs14]; decide) (by rw [cs14]; decide) (by rw [cs14]; rfl) (by decide) ?_
    refine gw_aload_n (pc := 165) hK 0 dX7_count_165 rfl rfl ?_
    refine gw_iload_n (pc := 166) hK 1 dX7_count_166 rfl rfl ?_
    refine gv_X7_87 (pc := 167) hK hc dX7_count_167 (by decide) (Nat.le_of_ble_eq_true rfl) hf (fun r15 m16 hf => ?_)
    exact gw_ret_i (pc := 170) hK dX7_count_170 (Option.some.inj hf)
  replace hf := gx_neg cs14 hf
  by_cases cs17 : p1 = 7
  · replace hf := gx_pos cs17 hf
    refine gw_tblIn (tgt := 171) (pc := 1) hK dX7_count_1 (by rw [cs17]; decide) (by rw [cs17]; decide) (by rw [cs17]; rfl) (by decide) ?_
    refine gw_aload_n (pc := 171) hK 0 dX7_count_171 rfl rfl ?_
    refine gf_X7_29 (pc := 172) hK hc.1 dX7_count_172 ?_
    exact gw_ret_i (pc := 175) hK dX7_count_175 (Option.some.inj hf)
  replace hf := gx_neg cs17 hf
  by_cases cs18 : p1 = 8
  · replace hf := gx_pos cs18 hf
    refine gw_tblIn (tgt := 176) (pc := 1) hK dX7_count_1 (by rw [cs18]; decide) (by rw [cs18]; decide) (by rw [cs18]; rfl) (by decide) ?_
    refine gw_aload_n (pc := 176) hK 0 dX7_count_176 rfl rfl ?_
    refine gf_X7_90 (pc := 177) hK hc.1 dX7_count_177 ?_
    exact gw_ret_i (pc := 180) hK dX7_count_180 (Option.some.inj hf)
  replace hf := gx_neg cs18 hf
  by_cases cs19 : p1 = 9
  · replace hf := gx_pos cs19 hf
    refine gw_tblIn (tgt := 205) (pc := 1) hK dX7_count_1 (by rw [cs19]; decide) (by rw [cs19]; decide) (by rw [cs19]; rfl) (by decide) ?_
    refine gw_iload_n (pc := 205) hK 1 dX7_count_205 rfl rfl ?_
    refine gw_bipush (v := 10) (pc := 206) hK dX7_count_206 (by decide) ?_
    refine gw_bipush (v := 13) (pc := 208) hK dX7_count_208 (by decide) ?_
    refine gv_X7_25 (pc := 210) hK dX7_count_210 (by decide) (Nat.le_of_ble_eq_true rfl) hf (fun r20 m21 hf => ?_)
    refine gw_if_eq (tgt := 227) (pc := 213) hK dX7_count_213 (by decide) hf (fun cc22 hf => ?_) (fun cc22 hf => ?_)
    ·
      refine gw_ldc (pc := 227) hK dX7_count_227 kw_k_RX7_51 ?_
      exact gw_ret_i (pc := 229) hK dX7_count_229 (Option.some.inj hf)
    ·
      refine gw_aload_n (pc := 216) hK 0 dX7_count_216 rfl rfl ?_
      refine gw_iload_n (pc := 217) hK 1 dX7_count_217 rfl rfl ?_
      refine gw_bipush (v := 10) (pc := 218) hK dX7_count_218 (by decide) ?_
      refine gw_isub (pc := 220) hK dX7_count_220 ?_
      refine gv_X7_78 (pc := 221) hK hc dX7_count_221 (by decide) (Nat.le_of_ble_eq_true rfl) hf (fun r23 m24 hf => ?_)
      refine gw_goto (tgt := 229) (pc := 224) hK dX7_count_224 (by decide) ?_
      exact gw_ret_i (pc := 229) hK dX7_count_229 (Option.some.inj hf)
  replace hf := gx_neg cs19 hf
  by_cases cs25 : p1 = 10
  · replace hf := gx_pos cs25 hf
    refine gw_tblIn (tgt := 205) (pc := 1) hK dX7_count_1 (by rw [cs25]; decide) (by rw [cs25]; decide) (by rw [cs25]; rfl) (by decide) ?_
    refine gw_iload_n (pc := 205) hK 1 dX7_count_205 rfl rfl ?_
    refine gw_bipush (v := 10) (pc := 206) hK dX7_count_206 (by decide) ?_
    refine gw_bipush (v := 13) (pc := 208) hK dX7_count_208 (by decide) ?_
    refine gv_X7_25 (pc := 210) hK dX7_count_210 (by decide) (Nat.le_of_ble_eq_true rfl) hf (fun r26 m27 hf => ?_)
    refine gw_if_eq (tgt := 227) (pc := 213) hK dX7_count_213 (by decide) hf (fun cc28 hf => ?_) (fun cc28 hf => ?_)
    ·
      refine gw_ldc (pc := 227) hK dX7_count_227 kw_k_RX7_51 ?_
      exact gw_ret_i (pc := 229) hK dX7_count_229 (Option.some.inj hf)
    ·
      refine gw_aload_n (pc := 216) hK 0 dX7_count_216 rfl rfl ?_
      refine gw_iload_n (pc := 217) hK 1 dX7_count_217 rfl rfl ?_
      refine gw_bipush (v := 10) (pc := 218) hK dX7_count_218 (by decide) ?_
      refine gw_isub (pc := 220) hK dX7_count_220 ?_
      refine gv_X7_78 (pc := 221) hK hc dX7_count_221 (by decide) (Nat.le_of_ble_eq_true rfl) hf (fun r29 m30 hf => ?_)
      refine gw_goto (tgt := 229) (pc := 224) hK dX7_count_224 (by decide) ?_
      exact gw_ret_i (pc := 229) hK dX7_count_229 (Option.some.inj hf)
  replace hf := gx_neg cs25 hf
  by_cases cs31 : p1 = 11
  · replace hf := gx_pos cs31 hf
    refine gw_tblIn (tgt := 205) (pc := 1) hK dX7_count_1 (by rw [cs31]; decide) (by rw [cs31]; decide) (by rw [cs31]; rfl) (by decide) ?_
    refine gw_iload_n (pc := 205) hK 1 dX7_count_205 rfl rfl ?_
    refine gw_bipush (v := 10) (pc := 206) hK dX7_count_206 (by decide) ?_
    refine gw_bipush (v := 13) (pc := 208) hK dX7_count_208 (by decide) ?_
    refine gv_X7_25 (pc := 210) hK dX7_count_210 (by decide) (Nat.le_of_ble_eq_true rfl) hf (fun r32 m33 hf => ?_)
    refine gw_if_eq (tgt := 227) (pc := 213) hK dX7_count_213 (by decide) hf (fun cc34 hf => ?_) (fun cc34 hf => ?_)
    ·
      refine gw_ldc (pc := 227) hK dX7_count_227 kw_k_RX7_51 ?_
      exact gw_ret_i (pc := 229) hK dX7_count_229 (Option.some.inj hf)
    ·
      refine gw_aload_n (pc := 216) hK 0 dX7_count_216 rfl rfl ?_
      refine gw_iload_n (pc := 217) hK 1 dX7_count_217 rfl rfl ?_
      refine gw_bipush (v := 10) (pc := 218) hK dX7_count_218 (by decide) ?_
      refine gw_isub (pc := 220) hK dX7_count_220 ?_
      refine gv_X7_78 (pc := 221) hK hc dX7_count_221 (by decide) (Nat.le_of_ble_eq_true rfl) hf (fun r35 m36 hf => ?_)
      refine gw_goto (tgt := 229) (pc := 224) hK dX7_count_224 (by decide) ?_
      exact gw_ret_i (pc := 229) hK dX7_count_229 (Option.some.inj hf)
  replace hf := gx_neg cs31 hf
  by_cases cs37 : p1 = 12
  · replace hf := gx_pos cs37 hf
    refine gw_tblIn (tgt := 205) (pc := 1) hK dX7_count_1 (by rw [cs37]; decide) (by rw [cs37]; decide) (by rw [cs37]; rfl) (by decide) ?_
    refine gw_iload_n (pc := 205) hK 1 dX7_count_205 rfl rfl ?_
    refine gw_bipush (v := 10) (pc := 206) hK dX7_count_206 (by decide) ?_
    refine gw_bipush (v := 13) (pc := 208) hK dX7_count_208 (by decide) ?_
    refine gv_X7_25 (pc := 210) hK dX7_count_210 (by decide) (Nat.le_of_ble_eq_true rfl) hf (fun r38 m39 hf => ?_)
    refine gw_if_eq (tgt := 227) (pc := 213) hK dX7_count_213 (by decide) hf (fun cc40 hf => ?_) (fun cc40 hf => ?_)
    ·
      refine gw_ldc (pc := 227) hK dX7_count_227 kw_k_RX7_51 ?_
      exact gw_ret_i (pc := 229) hK dX7_count_229 (Option.some.inj hf)
    ·
      refine gw_aload_n (pc := 216) hK 0 dX7_count_216 rfl rfl ?_
      refine gw_iload_n (pc := 217) hK 1 dX7_count_217 rfl rfl ?_
      refine gw_bipush (v := 10) (pc := 218) hK dX7_count_218 (by decide) ?_
      refine gw_isub (pc := 220) hK dX7_count_220 ?_
      refine gv_X7_78 (pc := 221) hK hc dX7_count_221 (by decide) (Nat.le_of_ble_eq_true rfl) hf (fun r41 m42 hf => ?_)
      refine gw_goto (tgt := 229) (pc := 224) hK dX7_count_224 (by decide) ?_
      exact gw_ret_i (pc := 229) hK dX7_count_229 (Option.some.inj hf)
  replace hf := gx_neg cs37 hf
  by_cases cs43 : p1 = 13
  · replace hf := gx_pos cs43 hf
    refine gw_tblIn (tgt := 205) (pc := 1) hK dX7_count_1 (by rw [cs43]; decide) (by rw [cs43]; decide) (by rw [cs43]; rfl) (by decide) ?_
    refine gw_iload_n (pc := 205) hK 1 dX7_count_205 rfl rfl ?_
    refine gw_bipush (v := 10) (pc := 206) hK dX7_count_206 (by decide) ?_
    refine gw_bipush (v := 13) (pc := 208) hK dX7_count_208 (by decide) ?_
    refine gv_X7_25 (pc := 210) hK dX7_count_210 (by decide) (Nat.le_of_ble_eq_true rfl) hf (fun r44 m45 hf => ?_)
    refine gw_if_eq (tgt := 227) (pc := 213) hK dX7_count_213 (by decide) hf (fun cc46 hf => ?_) (fun cc46 hf => ?_)
    ·
      refine gw_ldc (pc := 227) hK dX7_count_227 kw_k_RX7_51 ?_
      exact gw_ret_i (pc := 229) hK dX7_count_229 (Option.some.inj hf)
    ·
      refine gw_aload_n (pc := 216) hK 0 dX7_count_216 rfl rfl ?_
      refine gw_iload_n (pc := 217) hK 1 dX7_count_217 rfl rfl ?_
      refine gw_bipush (v := 10) (pc := 218) hK dX7_count_218 (by decide) ?_
      refine gw_isub (pc := 220) hK dX7_count_220 ?_
      refine gv_X7_78 (pc := 221) hK hc dX7_count_221 (by decide) (Nat.le_of_ble_eq_true rfl) hf (fun r47 m48 hf => ?_)
      refine gw_goto (tgt := 229) (pc := 224) hK dX7_count_224 (by decide) ?_
      exact gw_ret_i (pc := 229) hK dX7_count_229 (Option.some.inj hf)
  replace hf := gx_neg cs43 hf
  by_cases cs49 : p1 = 14
  · replace hf := gx_pos cs49 hf
    refine gw_tblIn (tgt := 205) (pc := 1) hK dX7_count_1 (by rw [cs49]; decide) (by rw [cs49]; decide) (by rw [cs49]; rfl) (by decide) ?_
    refine gw_iload_n (pc := 205) hK 1 dX7_count_205 rfl rfl ?_
    refine gw_bipush (v := 10) (pc := 206) hK dX7_count_206 (by decide) ?_
    refine gw_bipush (v := 13) (pc := 208) hK dX7_count_208 (by decide) ?_
    refine gv_X7_25 (pc := 210) hK dX7_count_210 (by decide) (Nat.le_of_ble_eq_true rfl) hf (fun r50 m51 hf => ?_)
    refine gw_if_eq (tgt := 227) (pc := 213) hK dX7_count_213 (by decide) hf (fun cc52 hf => ?_) (fun cc52 hf => ?_)
    ·
      refine gw_ldc (pc := 227) hK dX7_count_227 kw_k_RX7_51 ?_
      exact gw_ret_i (pc := 229) hK dX7_count_229 (Option.some.inj hf)
    ·
      refine gw_aload_n (pc := 216) hK 0 dX7_count_216 rfl rfl ?_
      refine gw_iload_n (pc := 217) hK 1 dX7_count_217 rfl rfl ?_
      refine gw_bipush (v := 10) (pc := 218) hK dX7_count_218 (by decide) ?_
      refine gw_isub (pc := 220) hK dX7_count_220 ?_
      refine gv_X7_78 (pc := 221) hK hc dX7_count_221 (by decide) (Nat.le_of_ble_eq_true rfl) hf (fun r53 m54 hf => ?_)
      refine gw_goto (tgt := 229) (pc := 224) hK dX7_count_224 (by decide) ?_
      exact gw_ret_i (pc := 229) hK dX7_count_229 (Option.some.inj hf)
  replace hf := gx_neg cs49 hf
  by_cases cs55 : p1 = 15
  · replace hf := gx_pos cs55 hf
    refine gw_tblIn (tgt := 205) (pc := 1) hK dX7_count_1 (by rw [cs55]; decide) (by rw [cs55]; decide) (by rw [cs55]; rfl) (by decide) ?_
    refine gw_iload_n (pc := 205) hK 1 dX7_count_205 rfl rfl ?_
    refine gw_bipush (v := 10) (pc := 206) hK dX7_count_206 (by decide) ?_
    refine gw_bipush (v := 13) (pc := 208) hK dX7_count_208 (by decide) ?_
    refine gv_X7_25 (pc := 210) hK dX7_count_210 (by decide) (Nat.le_of_ble_eq_true rfl) hf (fun r56 m57 hf => ?_)
    refine gw_if_eq (tgt := 227) (pc := 213) hK dX7_count_213 (by decide) hf (fun cc58 hf => ?_) (fun cc58 hf => ?_)
    ·
      refine gw_ldc (pc := 227) hK dX7_count_227 kw_k_RX7_51 ?_
      exact gw_ret_i (pc := 229) hK dX7_count_229 (Option.some.inj hf)
    ·
      refine gw_aload_n (pc := 216) hK 0 dX7_count_216 rfl rfl ?_
      refine gw_iload_n (pc := 217) hK 1 dX7_count_217 rfl rfl ?_
      refine gw_bipush (v := 10) (pc := 218) hK dX7_count_218 (by decide) ?_
      refine gw_isub (pc := 220) hK dX7_count_220 ?_
      refine gv_X7_78 (pc := 221) hK hc dX7_count_221 (by decide) (Nat.le_of_ble_eq_true rfl) hf (fun r59 m60 hf => ?_)
      refine gw_goto (tgt := 229) (pc := 224) hK dX7_count_224 (by decide) ?_
      exact gw_ret_i (pc := 229) hK dX7_count_229 (Option.some.inj hf)
  replace hf := gx_neg cs55 hf
  by_cases cs61 : p1 = 16
  · replace hf := gx_pos cs61 hf
    refine gw_tblIn (tgt := 205) (pc := 1) hK dX7_count_1 (by rw [cs61]; decide) (by rw [cs61]; decide) (by rw [cs61]; rfl) (by decide) ?_
    refine gw_iload_n (pc := 205) hK 1 dX7_count_205 rfl rfl ?_
    refine gw_bipush (v := 10) (pc := 206) hK dX7_count_206 (by decide) ?_
    refine gw_bipush (v := 13) (pc := 208) hK dX7_count_208 (by decide) ?_
    refine gv_X7_25 (pc := 210) hK dX7_count_210 (by decide) (Nat.le_of_ble_eq_true rfl) hf (fun r62 m63 hf => ?_)
    refine gw_if_eq (tgt := 227) (pc := 213) hK dX7_count_213 (by decide) hf (fun cc64 hf => ?_) (fun cc64 hf => ?_)
    ·
      refine gw_ldc (pc := 227) hK dX7_count_227 kw_k_RX7_51 ?_
      exact gw_ret_i (pc := 229) hK dX7_count_229 (Option.some.inj hf)
    ·
      refine gw_aload_n (pc := 216) hK 0 dX7_count_216 rfl rfl ?_
      refine gw_iload_n (pc := 217) hK 1 dX7_count_217 rfl rfl ?_
      refine gw_bipush (v := 10) (pc := 218) hK dX7_count_218 (by decide) ?_
      refine gw_isub (pc := 220) hK dX7_count_220 ?_
      refine gv_X7_78 (pc := 221) hK hc dX7_count_221 (by decide) (Nat.le_of_ble_eq_true rfl) hf (fun r65 m66 hf => ?_)
      refine gw_goto (tgt := 229) (pc := 224) hK dX7_count_224 (by decide) ?_
      exact gw_ret_i (pc := 229) hK dX7_count_229 (Option.some.inj hf)
  replace hf := gx_neg cs61 hf
  by_cases cs67 : p1 = 17
  · replace hf := gx_pos cs67 hf
    refine gw_tblIn (tgt := 205) (pc := 1) hK dX7_count_1 (by rw [cs67]; decide) (by rw [cs67]; decide) (by rw [cs67]; rfl) (by decide) ?_
    refine gw_iload_n (pc := 205) hK 1 dX7_count_205 rfl rfl ?_
    refine gw_bipush (v := 10) (pc := 206) hK dX7_count_206 (by decide) ?_
    refine gw_bipush (v := 13) (pc := 208) hK dX7_count_208 (by decide) ?_
    refine gv_X7_25 (pc := 210) hK dX7_count_210 (by decide) (Nat.le_of_ble_eq_true rfl) hf (fun r68 m69 hf => ?_)
    refine gw_if_eq (tgt := 227) (pc := 213) hK dX7_count_213 (by decide) hf (fun cc70 hf => ?_) (fun cc70 hf => ?_)
    ·
      refine gw_ldc (pc := 227) hK dX7_count_227 kw_k_RX7_51 ?_
      exact gw_ret_i (pc := 229) hK dX7_count_229 (Option.some.inj hf)
    ·
      refine gw_aload_n (pc := 216) hK 0 dX7_count_216 rfl rfl ?_
      refine gw_iload_n (pc := 217) hK 1 dX7_count_217 rfl rfl ?_
      refine gw_bipush (v := 10) (pc := 218) hK dX7_count_218 (by decide) ?_
      refine gw_isub (pc := 220) hK dX7_count_220 ?_
      refine gv_X7_78 (pc := 221) hK hc dX7_count_221 (by decide) (Nat.le_of_ble_eq_true rfl) hf (fun r71 m72 hf => ?_)
      refine gw_goto (tgt := 229) (pc := 224) hK dX7_count_224 (by decide) ?_
      exact gw_ret_i (pc := 229) hK dX7_count_229 (Option.some.inj hf)
  replace hf := gx_neg cs67 hf
  by_cases cs73 : p1 = 18
  · replace hf := gx_pos cs73 hf
    refine gw_tblIn (tgt := 205) (pc := 1) hK dX7_count_1 (by rw [cs73]; decide) (by rw [cs73]; decide) (by rw [cs73]; rfl) (by decide) ?_
    refine gw_iload_n (pc := 205) hK 1 dX7_count_205 rfl rfl ?_
    refine gw_bipush (v := 10) (pc := 206) hK dX7_count_206 (by decide) ?_
    refine gw_bipush (v := 13) (pc := 208) hK dX7_count_208 (by decide) ?_
    refine gv_X7_25 (pc := 210) hK dX7_count_210 (by decide) (Nat.le_of_ble_eq_true rfl) hf (fun r74 m75 hf => ?_)
    refine gw_if_eq (tgt := 227) (pc := 213) hK dX7_count_213 (by decide) hf (fun cc76 hf => ?_) (fun cc76 hf => ?_)
    ·
      refine gw_ldc (pc := 227) hK dX7_count_227 kw_k_RX7_51 ?_
      exact gw_ret_i (pc := 229) hK dX7_count_229 (Option.some.inj hf)
    ·
      refine gw_aload_n (pc := 216) hK 0 dX7_count_216 rfl rfl ?_
      refine gw_iload_n (pc := 217) hK 1 dX7_count_217 rfl rfl ?_
      refine gw_bipush (v := 10) (pc := 218) hK dX7_count_218 (by decide) ?_
      refine gw_isub (pc := 220) hK dX7_count_220 ?_
      refine gv_X7_78 (pc := 221) hK hc dX7_count_221 (by decide) (Nat.le_of_ble_eq_true rfl) hf (fun r77 m78 hf => ?_)
      refine gw_goto (tgt := 229) (pc := 224) hK dX7_count_224 (by decide) ?_
      exact gw_ret_i (pc := 229) hK dX7_count_229 (Option.some.inj hf)
  replace hf := gx_neg cs73 hf
  by_cases cs79 : p1 = 19
  · replace hf := gx_pos cs79 hf
    refine gw_tblIn (tgt := 205) (pc := 1) hK dX7_count_1 (by rw [cs79]; decide) (by rw [cs79]; decide) (by rw [cs79]; rfl) (by decide) ?_
    refine gw_iload_n (pc := 205) hK 1 dX7_count_205 rfl rfl ?_
    refine gw_bipush (v := 10) (pc := 206) hK dX7_count_206 (by decide) ?_
    refine gw_bipush (v := 13) (pc := 208) hK dX7_count_208 (by decide) ?_
    refine gv_X7_25 (pc := 210) hK dX7_count_210 (by decide) (Nat.le_of_ble_eq_true rfl) hf (fun r80 m81 hf => ?_)
    refine gw_if_eq (tgt := 227) (pc := 213) hK dX7_count_213 (by decide) hf (fun cc82 hf => ?_) (fun cc82 hf => ?_)
    ·
      refine gw_ldc (pc := 227) hK dX7_count_227 kw_k_RX7_51 ?_
      exact gw_ret_i (pc := 229) hK dX7_count_229 (Option.some.inj hf)
    ·
      refine gw_aload_n (pc := 216) hK 0 dX7_count_216 rfl rfl ?_
      refine gw_iload_n (pc := 217) hK 1 dX7_count_217 rfl rfl ?_
      refine gw_bipush (v := 10) (pc := 218) hK dX7_count_218 (by decide) ?_
      refine gw_isub (pc := 220) hK dX7_count_220 ?_
      refine gv_X7_78 (pc := 221) hK hc dX7_count_221 (by decide) (Nat.le_of_ble_eq_true rfl) hf (fun r83 m84 hf => ?_)
      refine gw_goto (tgt := 229) (pc := 224) hK dX7_count_224 (by decide) ?_
      exact gw_ret_i (pc := 229) hK dX7_count_229 (Option.some.inj hf)
  replace hf := gx_neg cs79 hf
  by_cases cs85 : p1 = 20
  · replace hf := gx_pos cs85 hf
    refine gw_tblIn (tgt := 181) (pc := 1) hK dX7_count_1 (by rw [cs85]; decide) (by rw [cs85]; decide) (by rw [cs85]; rfl) (by decide) ?_
    refine gw_aload_n (pc := 181) hK 0 dX7_count_181 rfl rfl ?_
    refine gf_X7_7 (pc := 182) hK hc.1 dX7_count_182 ?_
    refine gw_iconst (v := 3) (pc := 185) hK dX7_count_185 (by decide) ?_
    refine gw_iald (pc := 186) hK hc.2.1.1 (gk_100 hc.2.1) dX7_count_186 hf (fun hf => ?_)
    exact gw_ret_i (pc := 187) hK dX7_count_187 (Option.some.inj hf)
  replace hf := gx_neg cs85 hf
  by_cases cs86 : p1 = 21
  · replace hf := gx_pos cs86 hf
    refine gw_tblIn (tgt := 188) (pc := 1) hK dX7_count_1 (by rw [cs86]; decide) (by rw [cs86]; decide) (by rw [cs86]; rfl) (by decide) ?_
    refine gw_aload_n (pc := 188) hK 0 dX7_count_188 rfl rfl ?_
    refine gv_X7_93 (pc := 189) hK hc dX7_count_189 (by decide) (Nat.le_of_ble_eq_true rfl) hf (fun r87 m88 hf => ?_)
    exact gw_ret_i (pc := 192) hK dX7_count_192 (Option.some.inj hf)
  replace hf := gx_neg cs86 hf
  by_cases cs89 : p1 = 22
  · replace hf := gx_pos cs89 hf
    refine gw_tblIn (tgt := 193) (pc := 1) hK dX7_count_1 (by rw [cs89]; decide) (by rw [cs89]; decide) (by rw [cs89]; rfl) (by decide) ?_
    refine gw_aload_n (pc := 193) hK 0 dX7_count_193 rfl rfl ?_
    refine gf_X7_7 (pc := 194) hK hc.1 dX7_count_194 ?_
    refine gw_iconst (v := 4) (pc := 197) hK dX7_count_197 (by decide) ?_
    refine gw_iload_n (pc := 198) hK 1 dX7_count_198 rfl rfl ?_
    refine gw_iadd (pc := 199) hK dX7_count_199 ?_
    refine gw_bipush (v := 22) (pc := 200) hK dX7_count_200 (by decide) ?_
    refine gw_isub (pc := 202) hK dX7_count_202 ?_
    refine gw_iald (pc := 203) hK hc.2.1.1 (gk_100 hc.2.1) dX7_count_203 hf (fun hf => ?_)
    exact gw_ret_i (pc := 204) hK dX7_count_204 (Option.some.inj hf)
  replace hf := gx_neg cs89 hf
  by_cases cs90 : p1 = 23
  · replace hf := gx_pos cs90 hf
    refine gw_tblIn (tgt := 193) (pc := 1) hK dX7_count_1 (by rw [cs90]; decide) (by rw [cs90]; decide) (by rw [cs90]; rfl) (by decide) ?_
    refine gw_aload_n (pc := 193) hK 0 dX7_count_193 rfl rfl ?_
    refine gf_X7_7 (pc := 194) hK hc.1 dX7_count_194 ?_
    refine gw_iconst (v := 4) (pc := 197) hK dX7_count_197 (by decide) ?_
    refine gw_iload_n (pc := 198) hK 1 dX7_count_198 rfl rfl ?_
    refine gw_iadd (pc := 199) hK dX7_count_199 ?_
    refine gw_bipush (v := 22) (pc := 200) hK dX7_count_200 (by decide) ?_
    refine gw_isub (pc := 202) hK dX7_count_202 ?_
    refine gw_iald (pc := 203) hK hc.2.1.1 (gk_100 hc.2.1) dX7_count_203 hf (fun hf => ?_)
    exact gw_ret_i (pc := 204) hK dX7_count_204 (Option.some.inj hf)
  replace hf := gx_neg cs90 hf
  by_cases cs91 : p1 = 24
  · replace hf := gx_pos cs91 hf
    refine gw_tblIn (tgt := 193) (pc := 1) hK dX7_count_1 (by rw [cs91]; decide) (by rw [cs91]; decide) (by rw [cs91]; rfl) (by decide) ?_
    refine gw_aload_n (pc := 193) hK 0 dX7_count_193 rfl rfl ?_
    refine gf_X7_7 (pc := 194) hK hc.1 dX7_count_194 ?_
    refine gw_iconst (v := 4) (pc := 197) hK dX7_count_197 (by decide) ?_
    refine gw_iload_n (pc := 198) hK 1 dX7_count_198 rfl rfl ?_
    refine gw_iadd (pc := 199) hK dX7_count_199 ?_
    refine gw_bipush (v := 22) (pc := 200) hK dX7_count_200 (by decide) ?_
    refine gw_isub (pc := 202) hK dX7_count_202 ?_
    refine gw_iald (pc := 203) hK hc.2.1.1 (gk_100 hc.2.1) dX7_count_203 hf (fun hf => ?_)
    exact gw_ret_i (pc := 204) hK dX7_count_204 (Option.some.inj hf)
  replace hf := gx_neg cs91 hf
  have ncs1 := lv_neT cs1 (a := 0) (by decide)
  have ncs2 := lv_neT cs2 (a := 1) (by decide)
  have ncs3 := lv_neT cs3 (a := 2) (by decide)
  have ncs4 := lv_neT cs4 (a := 3) (by decide)
  have ncs8 := lv_neT cs8 (a := 4) (by decide)
  have ncs11 := lv_neT cs11 (a := 5) (by decide)
  have ncs14 := lv_neT cs14 (a := 6) (by decide)
  have ncs17 := lv_neT cs17 (a := 7) (by decide)
  have ncs18 := lv_neT cs18 (a := 8) (by decide)
  have ncs19 := lv_neT cs19 (a := 9) (by decide)
  have ncs25 := lv_neT cs25 (a := 10) (by decide)
  have ncs31 := lv_neT cs31 (a := 11) (by decide)
  have ncs37 := lv_neT cs37 (a := 12) (by decide)
  have ncs43 := lv_neT cs43 (a := 13) (by decide)
  have ncs49 := lv_neT cs49 (a := 14) (by decide)
  have ncs55 := lv_neT cs55 (a := 15) (by decide)
  have ncs61 := lv_neT cs61 (a := 16) (by decide)
  have ncs67 := lv_neT cs67 (a := 17) (by decide)
  have ncs73 := lv_neT cs73 (a := 18) (by decide)
  have ncs79 := lv_neT cs79 (a := 19) (by decide)
  have ncs85 := lv_neT cs85 (a := 20) (by decide)
  have ncs86 := lv_neT cs86 (a := 21) (by decide)
  have ncs89 := lv_neT cs89 (a := 22) (by decide)
  have ncs90 := lv_neT cs90 (a := 23) (by decide)
  have ncs91 := lv_neT cs91 (a := 24) (by decide)
  refine gw_tblOut (tgt := 205) (pc := 1) hK dX7_count_1 (by omega) (by decide) ?_
  refine gw_iload_n (pc := 205) hK 1 dX7_count_205 rfl rfl ?_
  refine gw_bipush (v := 10) (pc := 206) hK dX7_count_206 (by decide) ?_
  refine gw_bipush (v := 13) (pc := 208) hK dX7_count_208 (by decide) ?_
  refine gv_X7_25 (pc := 210) hK dX7_count_210 (by decide) (Nat.le_of_ble_eq_true rfl) hf (fun r92 m93 hf => ?_)
  refine gw_if_eq (tgt := 227) (pc := 213) hK dX7_count_213 (by decide) hf (fun cc94 hf => ?_) (fun cc94 hf => ?_)
  ·
    refine gw_ldc (pc := 227) hK dX7_count_227 kw_k_RX7_51 ?_
    exact gw_ret_i (pc := 229) hK dX7_count_229 (Option.some.inj hf)
  ·
    refine gw_aload_n (pc := 216) hK 0 dX7_count_216 rfl rfl ?_
    refine gw_iload_n (pc := 217) hK 1 dX7_count_217 rfl rfl ?_
    refine gw_bipush (v := 10) (pc := 218) hK dX7_count_218 (by decide) ?_
    refine gw_isub (pc := 220) hK dX7_count_220 ?_
    refine gv_X7_78 (pc := 221) hK hc dX7_count_221 (by decide) (Nat.le_of_ble_eq_true rfl) hf (fun r95 m96 hf => ?_)
    refine gw_goto (tgt := 229) (pc := 224) hK dX7_count_224 (by decide) ?_
    exact gw_ret_i (pc := 229) hK dX7_count_229 (Option.some.inj hf)

def fn_X7_crack (kd : Nat → Nat) (μ : gx_M) (c : Nat) (p1 : Int32) (p2 : Int32) : Option (Int32 × gx_M) :=
  gx_b (fn_X7_isBowl kd μ c p1) (fun r1 m2 =>
(if r1 = 0 then
some ((-100001), m2)
else
gx_b (fn_X7_in kd m2 p2 0 1000) (fun r4 m5 =>
(if r4 = 0 then
some ((-100001), m5)
else
gx_b (fn_X7_records kd m5 c) (fun _ m8 =>
gx_b (fn_X7_put kd m8 c p1 4 p2) (fun _ m10 =>
gx_b (fn_X7_loses kd m10 c p1) (fun r11 m12 =>
some (r11, m12))))))))
set_option maxRecDepth 100000 in
set_option maxHeartbeats 4000000 in
theorem ct_X7_crack (l : Launch) (Y : gx_Y) (μ : gx_M) (c : Nat) (p1 : Int32) (p2 : Int32) (rr : Int32 × gx_M) (hc : gk_mod Y c) (hf : fn_X7_crack (gy_k Y) μ c p1 p2 = some rr) : gx_Con l yX7_crack cX7_crack 3 (some .int) 2 45 Y [.ref (gy_a Y c), .int p1, .int p2] μ rr := by
  refine gx_Con_of (L0 := [(0, .ref (gy_a Y c)), (1, .int p1), (2, .int p2)]) (by decide) (Nat.le_of_ble_eq_true rfl) rfl (fun K hK => ?_)
  unfold fn_X7_crack at hf
  refine gw_aload_n (pc := 0) hK 0 dX7_crack_0 rfl rfl ?_
  refine gw_iload_n (pc := 1) hK 1 dX7_crack_1 rfl rfl ?_
  refine gv_X7_56 (pc := 2) hK hc dX7_crack_2 (by decide) (Nat.le_of_ble_eq_true rfl) hf (fun r1 m2 hf => ?_)
  refine gw_if_eq (tgt := 19) (pc := 5) hK dX7_crack_5 (by decide) hf (fun cc3 hf => ?_) (fun cc3 hf => ?_)
  ·
    refine gw_ldc (pc := 19) hK dX7_crack_19 kw_k_RX7_51 ?_
    exact gw_ret_i (pc := 21) hK dX7_crack_21 (Option.some.inj hf)
  ·
    refine gw_iload_n (pc := 8) hK 2 dX7_crack_8 rfl rfl ?_
    refine gw_iconst (v := 0) (pc := 9) hK dX7_crack_9 (by decide) ?_
    refine gw_sipush (v := 1000) (pc := 10) hK dX7_crack_10 (by decide) ?_
    refine gv_X7_25 (pc := 13) hK dX7_crack_13 (by decide) (Nat.le_of_ble_eq_true rfl) hf (fun r4 m5 hf => ?_)
    refine gw_if_ne (tgt := 22) (pc := 16) hK dX7_crack_16 (by decide) hf (fun cc6 hf => ?_) (fun cc6 hf => ?_)
    ·
      refine gw_aload_n (pc := 22) hK 0 dX7_crack_22 rfl rfl ?_
      refine gv_X7_53 (pc := 23) hK hc dX7_crack_23 (by decide) (Nat.le_of_ble_eq_true rfl) hf (fun _ m8 hf => ?_)
      refine gw_aload_n (pc := 26) hK 0 dX7_crack_26 rfl rfl ?_
      refine gw_iload_n (pc := 27) hK 1 dX7_crack_27 rfl rfl ?_
      refine gw_iconst (v := 4) (pc := 28) hK dX7_crack_28 (by decide) ?_
      refine gw_iload_n (pc := 29) hK 2 dX7_crack_29 rfl rfl ?_
      refine gv_X7_43 (pc := 30) hK hc dX7_crack_30 (by decide) (Nat.le_of_ble_eq_true rfl) hf (fun _ m10 hf => ?_)
      refine gw_aload_n (pc := 33) hK 0 dX7_crack_33 rfl rfl ?_
      refine gw_iload_n (pc := 34) hK 1 dX7_crack_34 rfl rfl ?_
      refine gv_X7_47 (pc := 35) hK hc dX7_crack_35 (by decide) (Nat.le_of_ble_eq_true rfl) hf (fun r11 m12 hf => ?_)
      exact gw_ret_i (pc := 38) hK dX7_crack_38 (Option.some.inj hf)
    ·
      refine gw_ldc (pc := 19) hK dX7_crack_19 kw_k_RX7_51 ?_
      exact gw_ret_i (pc := 21) hK dX7_crack_21 (Option.some.inj hf)

def lf_X7_digits_7 (kd : Nat → Nat) (c0 : Nat) (q2 : Int32) (k : gx_M → Int32 → Option (Int32 × gx_M)) : Nat → gx_M → Int32 → Option (Int32 × gx_M)
  | 0, _, _ => none
  | n + 1, μ, x1 => (if (q2 + 4) ≤ μ c0 6 then
k μ x1
else
(if μ c0 5 ≤ μ c0 6 then
k μ x1
else
(if gx_ix (μ c0 6) (kd (c0 + 4) - 100) = true then gx_b (fn_X7_in kd μ (μ (c0 + 4) (Int32.toNatClampNeg (μ c0 6))) 48 57) (fun r3 m4 =>
(if r3 = 0 then
k m4 x1
else
(if gx_ix (m4 c0 6) (kd (c0 + 4) - 100) = true then lf_X7_digits_7 kd c0 q2 k n (gx_u m4 c0 6 (m4 c0 6 + 1)) (((10 * x1) + m4 (c0 + 4) (Int32.toNatClampNeg (m4 c0 6))) - 48) else none))) else none)))
def fn_X7_digits (kd : Nat → Nat) (μ : gx_M) (c : Nat) : Option (Int32 × gx_M) :=
  lf_X7_digits_7 kd c (μ c 6) (fun m6 y7 =>
(if m6 c 6 = μ c 6 then
some ((-1), m6)
else
some (y7, m6))) gx_F μ 0
set_option maxRecDepth 100000 in
set_option maxHeartbeats 4000000 in
theorem lt_X7_digits_7 {l : Launch} {Y : gx_Y} {rr : Int32 × gx_M} {K : gx_KT} (hK : gx_K l RX7 cX7_digits 3 1 22 (some .int) Y (fun r m => (r, m) = rr) K) (c0 : Nat) (q2 : Int32) (hc0 : gk_mod Y c0) (k : gx_M → Int32 → Option (Int32 × gx_M)) (hx : ∀ (μ : gx_M) (x1 : Int32), k μ x1 = some rr → K μ 78 [(0, .ref (gy_a Y c0)), (1, .int x1), (2, .int q2)] []) :
    ∀ (n : Nat) (μ : gx_M) (x1 : Int32), lf_X7_digits_7 (gy_k Y) c0 q2 k n μ x1 = some rr → K μ 7 [(0, .ref (gy_a Y c0)), (1, .int x1), (2, .int q2)] [] := by
  intro n
  induction n with
  | zero =>
    intro μ x1 hf
    exact absurd hf (by simp [lf_X7_digits_7])
  | succ n ih =>
    intro μ x1 hf
    rw [lf_X7_digits_7] at hf
    refine gw_aload_n (pc := 7) hK 0 dX7_digits_7 rfl rfl ?_
    refine gf_X7_143 (pc := 8) hK hc0.1 dX7_digits_8 ?_
    refine gw_iload_n (pc := 11) hK 2 dX7_digits_11 rfl rfl ?_
    refine gw_iconst (v := 4) (pc := 12) hK dX7_digits_12 (by decide) ?_
    refine gw_iadd (pc := 13) hK dX7_digits_13 ?_
    refine gw_icmp_ge (tgt := 78) (pc := 14) hK dX7_digits_14 (by decide) hf (fun cc1 hf => ?_) (fun cc1 hf => ?_)
    ·
      refine gw_sub (L' := [(0, .ref (gy_a Y c0)), (1, .int x1), (2, .int q2)]) hK [0, 1, 2] rfl (hx _ _ hf)
    ·
      refine gw_aload_n (pc := 17) hK 0 dX7_digits_17 rfl rfl ?_
      refine gf_X7_143 (pc := 18) hK hc0.1 dX7_digits_18 ?_
      refine gw_aload_n (pc := 21) hK 0 dX7_digits_21 rfl rfl ?_
      refine gf_X7_90 (pc := 22) hK hc0.1 dX7_digits_22 ?_
      refine gw_icmp_ge (tgt := 78) (pc := 25) hK dX7_digits_25 (by decide) hf (fun cc2 hf => ?_) (fun cc2 hf => ?_)
      ·
        refine gw_sub (L' := [(0, .ref (gy_a Y c0)), (1, .int x1), (2, .int q2)]) hK [0, 1, 2] rfl (hx _ _ hf)
      ·
        refine gw_aload_n (pc := 28) hK 0 dX7_digits_28 rfl rfl ?_
        refine gf_X7_19 (pc := 29) hK hc0.1 dX7_digits_29 ?_
        refine gw_aload_n (pc := 32) hK 0 dX7_digits_32 rfl rfl ?_
        refine gf_X7_143 (pc := 33) hK hc0.1 dX7_digits_33 ?_
        refine gw_iald (pc := 36) hK hc0.2.2.2.2.1.1 (gk_100 hc0.2.2.2.2.1) dX7_digits_36 hf (fun hf => ?_)
        refine gw_bipush (v := 48) (pc := 37) hK dX7_digits_37 (by decide) ?_
        refine gw_bipush (v := 57) (pc := 39) hK dX7_digits_39 (by decide) ?_
        refine gv_X7_25 (pc := 41) hK dX7_digits_41 (by decide) (Nat.le_of_ble_eq_true rfl) hf (fun r3 m4 hf => ?_)
        refine gw_if_eq (tgt := 78) (pc := 44) hK dX7_digits_44 (by decide) hf (fun cc5 hf => ?_) (fun cc5 hf => ?_)
        ·
          refine gw_sub (L' := [(0, .ref (gy_a Y c0)), (1, .int x1), (2, .int q2)]) hK [0, 1, 2] rfl (hx _ _ hf)
        ·
          refine gw_bipush (v := 10) (pc := 47) hK dX7_digits_47 (by decide) ?_
          refine gw_iload_n (pc := 49) hK 1 dX7_digits_49 rfl rfl ?_
          refine gw_imul (pc := 50) hK dX7_digits_50 ?_
          refine gw_aload_n (pc := 51) hK 0 dX7_digits_51 rfl rfl ?_
          refine gf_X7_19 (pc := 52) hK hc0.1 dX7_digits_52 ?_
          refine gw_aload_n (pc := 55) hK 0 dX7_digits_55 rfl rfl ?_
          refine gf_X7_143 (pc := 56) hK hc0.1 dX7_digits_56 ?_
          refine gw_iald (pc := 59) hK hc0.2.2.2.2.1.1 (gk_100 hc0.2.2.2.2.1) dX7_digits_59 hf (fun hf => ?_)
          refine gw_iadd (pc := 60) hK dX7_digits_60 ?_
          refine gw_bipush (v := 48) (pc := 61) hK dX7_digits_61 (by decide) ?_
          refine gw_isub (pc := 63) hK dX7_digits_63 ?_
          refine gw_istore_n (L' := [(1, .int (((10 * x1) + m4 (c0 + 4) (Int32.toNatClampNeg (m4 c0 6))) - 48)), (0, .ref (gy_a Y c0)), (2, .int q2)]) (pc := 64) hK dX7_digits_64 rfl (by decide) rfl ?_
          refine gw_aload_n (pc := 65) hK 1 dX7_digits_65 rfl rfl ?_
          refine gw_dup (pc := 66) hK dX7_digits_66 rfl ?_
          refine gf_X7_143 (pc := 67) hK hc0.1 dX7_digits_67 ?_
          refine gw_iconst (v := 1) (pc := 70) hK dX7_digits_70 (by decide) ?_
          refine gw_iadd (pc := 71) hK dX7_digits_71 ?_
          refine gp_X7_143 (pc := 72) hK hc0.1 dX7_digits_72 ?_
          refine gw_goto (tgt := 7) (pc := 75) hK dX7_digits_75 (by decide) ?_
          refine gw_sub (L' := [(0, .ref (gy_a Y c0)), (1, .int (((10 * x1) + m4 (c0 + 4) (Int32.toNatClampNeg (m4 c0 6))) - 48)), (2, .int q2)]) hK [1, 0, 2] rfl (ih _ _ hf)
set_option maxRecDepth 100000 in
set_option maxHeartbeats 4000000 in
theorem ct_X7_digits (l : Launch) (Y : gx_Y) (μ : gx_M) (c : Nat) (rr : Int32 × gx_M) (hc : gk_mod Y c) (hf : fn_X7_digits (gy_k Y) μ c = some rr) : gx_Con l yX7_digits cX7_digits 3 (some .int) 1 22 Y [.ref (gy_a Y c)] μ rr := by
  refine gx_Con_of (L0 := [(0, .ref (gy_a Y c))]) (by decide) (Nat.le_of_ble_eq_true rfl) rfl (fun K hK => ?_)
  unfold fn_X7_digits at hf
  refine gw_iconst (v := 0) (pc := 0) hK dX7_digits_0 (by decide) ?_
  refine gw_istore_n (L' := [(1, .int 0), (0, .ref (gy_a Y c))]) (pc := 1) hK dX7_digits_1 rfl (by decide) rfl ?_
  refine gw_aload_n (pc := 2) hK 1 dX7_digits_2 rfl rfl ?_
  refine gf_X7_143 (pc := 3) hK hc.1 dX7_digits_3 ?_
  refine gw_istore_n (L' := [(2, .int (μ c 6)), (1, .int 0), (0, .ref (gy_a Y c))]) (pc := 6) hK dX7_digits_6 rfl (by decide) rfl ?_
  refine gw_sub (L' := [(0, .ref (gy_a Y c)), (1, .int 0), (2, .int (μ c 6))]) hK [2, 1, 0] rfl (lt_X7_digits_7 hK c (μ c 6) hc _ (fun m6 y7 hf => ?_) gx_F _ _ hf)
  refine gw_aload_n (pc := 78) hK 0 dX7_digits_78 rfl rfl ?_
  refine gf_X7_143 (pc := 79) hK hc.1 dX7_digits_79 ?_
  refine gw_iload_n (pc := 82) hK 2 dX7_digits_82 rfl rfl ?_
  refine gw_icmp_ne (tgt := 90) (pc := 83) hK dX7_digits_83 (by decide) hf (fun cc8 hf => ?_) (fun cc8 hf => ?_)
  ·
    refine gw_iload_n (pc := 90) hK 1 dX7_digits_90 rfl rfl ?_
    exact gw_ret_i (pc := 91) hK dX7_digits_91 (Option.some.inj hf)
  ·
    refine gw_iconst (v := (-1)) (pc := 86) hK dX7_digits_86 (by decide) ?_
    refine gw_goto (tgt := 91) (pc := 87) hK dX7_digits_87 (by decide) ?_
    exact gw_ret_i (pc := 91) hK dX7_digits_91 (Option.some.inj hf)
theorem gv_X7_146 {l : Launch} {cc : ByteArray} {nL fr lo : Nat} {ret : Option FieldType} {Y : gx_Y} {Post : Int32 → gx_M → Prop} {K : gx_KT} {pc : Nat} {μ : gx_M} {L : List (Nat × Value)} {st : List Value} {rr : Int32 × gx_M} (h : gx_K l RX7 cc nL fr lo ret Y Post K) {c : Nat} (hc : gk_mod Y c) (d : decode cc pc = .ok (.invokevirtual 146, 3)) (hR : 1 + 1 ≤ fr ∧ 44 ≤ lo) (hst : (st.map fun v => v.category).sum ≤ 8) {k : Int32 → gx_M → Option (Int32 × gx_M)} (hf : gx_b (fn_X7_digits (gy_k Y) μ c) k = some rr) (kk : ∀ (r : Int32) (m : gx_M), k r m = some rr → K m (pc + 3) L (.int r :: st)) : K μ pc L (.ref (gy_a Y c) :: st) := by
  obtain ⟨r, m, e, hk⟩ := gx_b_some hf
  exact gw_callV (As := []) (q := (r, m)) h hc.1 (by decide) rfl (by refine ⟨rfl, by decide, by decide, (show (parseMethodDescriptor yX7_digits.desc).map (fun d => d.parameters.length) = some 0 by decide +kernel)⟩) kw_ml_RX7_146 kw_im_X7_digits kw_se_X7_digits kw_in_RX7 kw_co_X7_digits hR hst d (ct_X7_digits l Y μ c (r, m) hc e) (kk r m hk)
def lf_X7_dries_2 (kd : Nat → Nat) (c0 : Nat) (k : gx_M → Int32 → Option (Int32 × gx_M)) : Nat → gx_M → Int32 → Option (Int32 × gx_M)
  | 0, _, _ => none
  | n + 1, μ, x1 => (if gx_ix 1 (kd (c0 + 1) - 100) = true then (if μ (c0 + 1) (Int32.toNatClampNeg 1) ≤ x1 then
k μ x1
else
gx_b (fn_X7_of kd μ c0 x1 2) (fun r2 m3 =>
(if r2 ≤ 0 then
gx_b (fn_X7_of kd m3 c0 x1 2) (fun r5 m6 =>
gx_b (fn_X7_put kd m6 c0 x1 2 (r5 - 0)) (fun _ m8 =>
(if gx_ix 4 (kd (c0 + 1) - 100) = true then (if gx_ix 4 (kd (c0 + 1) - 100) = true then lf_X7_dries_2 kd c0 k n (gx_u m8 (c0 + 1) (Int32.toNatClampNeg 4) (m8 (c0 + 1) (Int32.toNatClampNeg 4) + 0)) (x1 + 1) else none) else none)))
else
gx_b (fn_X7_of kd m3 c0 x1 2) (fun r9 m10 =>
gx_b (fn_X7_put kd m10 c0 x1 2 (r9 - 1)) (fun _ m12 =>
(if gx_ix 4 (kd (c0 + 1) - 100) = true then (if gx_ix 4 (kd (c0 + 1) - 100) = true then lf_X7_dries_2 kd c0 k n (gx_u m12 (c0 + 1) (Int32.toNatClampNeg 4) (m12 (c0 + 1) (Int32.toNatClampNeg 4) + 1)) (x1 + 1) else none) else none)))))) else none)
def fn_X7_dries (kd : Nat → Nat) (μ : gx_M) (c : Nat) : Option (Int32 × gx_M) :=
  lf_X7_dries_2 kd c (fun m13 y14 =>
some (0, m13)) gx_F μ 0
set_option maxRecDepth 100000 in
set_option maxHeartbeats 4000000 in
theorem lt_X7_dries_2 {l : Launch} {Y : gx_Y} {rr : Int32 × gx_M} {K : gx_KT} (hK : gx_K l RX7 cX7_dries 3 1 23 none Y (fun r m => (r, m) = rr) K) (c0 : Nat) (hc0 : gk_mod Y c0) (k : gx_M → Int32 → Option (Int32 × gx_M)) (hx : ∀ (μ : gx_M) (x1 : Int32), k μ x1 = some rr → K μ 57 [(0, .ref (gy_a Y c0)), (1, .int x1)] []) :
    ∀ (n : Nat) (μ : gx_M) (x1 : Int32), lf_X7_dries_2 (gy_k Y) c0 k n μ x1 = some rr → K μ 2 [(0, .ref (gy_a Y c0)), (1, .int x1)] [] := by
  intro n
  induction n with
  | zero =>
    intro μ x1 hf
    exact absurd hf (by simp [lf_X7_dries_2])
  | succ n ih =>
    intro μ x1 hf
    rw [lf_X7_dries_2] at hf
    refine gw_iload_n (pc := 2) hK 1 dX7_dries_2 rfl rfl ?_
    refine gw_aload_n (pc := 3) hK 0 dX7_dries_3 rfl rfl ?_
    refine gf_X7_7 (pc := 4) hK hc0.1 dX7_dries_4 ?_
    refine gw_iconst (v := 1) (pc := 7) hK dX7_dries_7 (by decide) ?_
    refine gw_iald (pc := 8) hK hc0.2.1.1 (gk_100 hc0.2.1) dX7_dries_8 hf (fun hf => ?_)
    refine gw_icmp_ge (tgt := 57) (pc := 9) hK dX7_dries_9 (by decide) hf (fun cc1 hf => ?_) (fun cc1 hf => ?_)
    ·
      refine gw_sub (L' := [(0, .ref (gy_a Y c0)), (1, .int x1)]) hK [0, 1] rfl (hx _ _ hf)
    ·
      refine gw_aload_n (pc := 12) hK 0 dX7_dries_12 rfl rfl ?_
      refine gw_iload_n (pc := 13) hK 1 dX7_dries_13 rfl rfl ?_
      refine gw_iconst (v := 2) (pc := 14) hK dX7_dries_14 (by decide) ?_
      refine gv_X7_34 (pc := 15) hK hc0 dX7_dries_15 (by decide) (Nat.le_of_ble_eq_true rfl) hf (fun r2 m3 hf => ?_)
      refine gw_if_le (tgt := 25) (pc := 18) hK dX7_dries_18 (by decide) hf (fun cc4 hf => ?_) (fun cc4 hf => ?_)
      ·
        refine gw_iconst (v := 0) (pc := 25) hK dX7_dries_25 (by decide) ?_
        refine gw_istore_n (L' := [(2, .int 0), (0, .ref (gy_a Y c0)), (1, .int x1)]) (pc := 26) hK dX7_dries_26 rfl (by decide) rfl ?_
        refine gw_aload_n (pc := 27) hK 1 dX7_dries_27 rfl rfl ?_
        refine gw_iload_n (pc := 28) hK 2 dX7_dries_28 rfl rfl ?_
        refine gw_iconst (v := 2) (pc := 29) hK dX7_dries_29 (by decide) ?_
        refine gw_aload_n (pc := 30) hK 1 dX7_dries_30 rfl rfl ?_
        refine gw_iload_n (pc := 31) hK 2 dX7_dries_31 rfl rfl ?_
        refine gw_iconst (v := 2) (pc := 32) hK dX7_dries_32 (by decide) ?_
        refine gv_X7_34 (pc := 33) hK hc0 dX7_dries_33 (by decide) (Nat.le_of_ble_eq_true rfl) hf (fun r5 m6 hf => ?_)
        refine gw_iload_n (pc := 36) hK 0 dX7_dries_36 rfl rfl ?_
        refine gw_isub (pc := 37) hK dX7_dries_37 ?_
        refine gv_X7_43 (pc := 38) hK hc0 dX7_dries_38 (by decide) (Nat.le_of_ble_eq_true rfl) hf (fun _ m8 hf => ?_)
        refine gw_aload_n (pc := 41) hK 1 dX7_dries_41 rfl rfl ?_
        refine gf_X7_7 (pc := 42) hK hc0.1 dX7_dries_42 ?_
        refine gw_iconst (v := 4) (pc := 45) hK dX7_dries_45 (by decide) ?_
        refine gw_dup2 (pc := 46) hK dX7_dries_46 rfl rfl ?_
        refine gw_iald (pc := 47) hK hc0.2.1.1 (gk_100 hc0.2.1) dX7_dries_47 hf (fun hf => ?_)
        refine gw_iload_n (pc := 48) hK 0 dX7_dries_48 rfl rfl ?_
        refine gw_iadd (pc := 49) hK dX7_dries_49 ?_
        refine gw_iast (pc := 50) hK hc0.2.1.1 (gk_100 hc0.2.1) dX7_dries_50 hf (fun hf => ?_)
        refine gw_iinc (v := (x1 + 1)) (L' := [(1, .int (x1 + 1)), (2, .int 0), (0, .ref (gy_a Y c0))]) (pc := 51) hK 2 dX7_dries_51 rfl rfl (by decide) rfl ?_
        refine gw_goto (tgt := 2) (pc := 54) hK dX7_dries_54 (by decide) ?_
        refine gw_sub (L' := [(0, .ref (gy_a Y c0)), (1, .int (x1 + 1))]) hK [2, 0] rfl (ih _ _ hf)
      ·
        refine gw_iconst (v := 1) (pc := 21) hK dX7_dries_21 (by decide) ?_
        refine gw_goto (tgt := 26) (pc := 22) hK dX7_dries_22 (by decide) ?_
        refine gw_istore_n (L' := [(2, .int 1), (0, .ref (gy_a Y c0)), (1, .int x1)]) (pc := 26) hK dX7_dries_26 rfl (by decide) rfl ?_
        refine gw_aload_n (pc := 27) hK 1 dX7_dries_27 rfl rfl ?_
        refine gw_iload_n (pc := 28) hK 2 dX7_dries_28 rfl rfl ?_
        refine gw_iconst (v := 2) (pc := 29) hK dX7_dries_29 (by decide) ?_
        refine gw_aload_n (pc := 30) hK 1 dX7_dries_30 rfl rfl ?_
        refine gw_iload_n (pc := 31) hK 2 dX7_dries_31 rfl rfl ?_
        refine gw_iconst (v := 2) (pc := 32) hK dX7_dries_32 (by decide) ?_
        refine gv_X7_34 (pc := 33) hK hc0 dX7_dries_33 (by decide) (Nat.le_of_ble_eq_true rfl) hf (fun r9 m10 hf => ?_)
        refine gw_iload_n (pc := 36) hK 0 dX7_dries_36 rfl rfl ?_
        refine gw_isub (pc := 37) hK dX7_dries_37 ?_
        refine gv_X7_43 (pc := 38) hK hc0 dX7_dries_38 (by decide) (Nat.le_of_ble_eq_true rfl) hf (fun _ m12 hf => ?_)
        refine gw_aload_n (pc := 41) hK 1 dX7_dries_41 rfl rfl ?_
        refine gf_X7_7 (pc := 42) hK hc0.1 dX7_dries_42 ?_
        refine gw_iconst (v := 4) (pc := 45) hK dX7_dries_45 (by decide) ?_
        refine gw_dup2 (pc := 46) hK dX7_dries_46 rfl rfl ?_
        refine gw_iald (pc := 47) hK hc0.2.1.1 (gk_100 hc0.2.1) dX7_dries_47 hf (fun hf => ?_)
        refine gw_iload_n (pc := 48) hK 0 dX7_dries_48 rfl rfl ?_
        refine gw_iadd (pc := 49) hK dX7_dries_49 ?_
        refine gw_iast (pc := 50) hK hc0.2.1.1 (gk_100 hc0.2.1) dX7_dries_50 hf (fun hf => ?_)
        refine gw_iinc (v := (x1 + 1)) (L' := [(1, .int (x1 + 1)), (2, .int 1), (0, .ref (gy_a Y c0))]) (pc := 51) hK 2 dX7_dries_51 rfl rfl (by decide) rfl ?_
        refine gw_goto (tgt := 2) (pc := 54) hK dX7_dries_54 (by decide) ?_
        refine gw_sub (L' := [(0, .ref (gy_a Y c0)), (1, .int (x1 + 1))]) hK [2, 0] rfl (ih _ _ hf)
set_option maxRecDepth 100000 in
set_option maxHeartbeats 4000000 in
theorem ct_X7_dries (l : Launch) (Y : gx_Y) (μ : gx_M) (c : Nat) (rr : Int32 × gx_M) (hc : gk_mod Y c) (hf : fn_X7_dries (gy_k Y) μ c = some rr) : gx_Con l yX7_dries cX7_dries 3 none 1 23 Y [.ref (gy_a Y c)] μ rr := by
  refine gx_Con_of (L0 := [(0, .ref (gy_a Y c))]) (by decide) (Nat.le_of_ble_eq_true rfl) rfl (fun K hK => ?_)
  unfold fn_X7_dries at hf
  refine gw_iconst (v := 0) (pc := 0) hK dX7_dries_0 (by decide) ?_
  refine gw_istore_n (L' := [(1, .int 0), (0, .ref (gy_a Y c))]) (pc := 1) hK dX7_dries_1 rfl (by decide) rfl ?_
  refine gw_sub (L' := [(0, .ref (gy_a Y c)), (1, .int 0)]) hK [1, 0] rfl (lt_X7_dries_2 hK c hc _ (fun m13 y14 hf => ?_) gx_F _ _ hf)
  exact gw_ret_v (pc := 57) hK dX7_dries_57 (Option.some.inj hf)
theorem gv_X7_115 {l : Launch} {cc : ByteArray} {nL fr lo : Nat} {ret : Option FieldType} {Y : gx_Y} {Post : Int32 → gx_M → Prop} {K : gx_KT} {pc : Nat} {μ : gx_M} {L : List (Nat × Value)} {st : List Value} {rr : Int32 × gx_M} (h : gx_K l RX7 cc nL fr lo ret Y Post K) {c : Nat} (hc : gk_mod Y c) (d : decode cc pc = .ok (.invokevirtual 115, 3)) (hR : 1 + 1 ≤ fr ∧ 45 ≤ lo) (hst : (st.map fun v => v.category).sum ≤ 8) {k : Int32 → gx_M → Option (Int32 × gx_M)} (hf : gx_b (fn_X7_dries (gy_k Y) μ c) k = some rr) (kk : ∀ (r : Int32) (m : gx_M), k r m = some rr → K m (pc + 3) L (st)) : K μ pc L (.ref (gy_a Y c) :: st) := by
  obtain ⟨r, m, e, hk⟩ := gx_b_some hf
  exact gw_callV (As := []) (q := (r, m)) h hc.1 (by decide) rfl (by refine ⟨rfl, by decide, by decide, (show (parseMethodDescriptor yX7_dries.desc).map (fun d => d.parameters.length) = some 0 by decide +kernel)⟩) kw_ml_RX7_115 kw_im_X7_dries kw_se_X7_dries kw_in_RX7 kw_co_X7_dries hR hst d (ct_X7_dries l Y μ c (r, m) hc e) (kk r m hk)
def fn_X7_isNote (kd : Nat → Nat) (μ : gx_M) (c : Nat) (p1 : Int32) : Option (Int32 × gx_M) :=
  (if gx_ix 2 (kd (c + 1) - 100) = true then gx_b (fn_X7_in kd μ p1 0 (μ (c + 1) (Int32.toNatClampNeg 2) - 1)) (fun r1 m2 =>
(if r1 = 0 ∨ r1 = 1 then some (r1, m2) else none)) else none)
set_option maxRecDepth 100000 in
set_option maxHeartbeats 4000000 in
theorem ct_X7_isNote (l : Launch) (Y : gx_Y) (μ : gx_M) (c : Nat) (p1 : Int32) (rr : Int32 × gx_M) (hc : gk_mod Y c) (hf : fn_X7_isNote (gy_k Y) μ c p1 = some rr) : gx_Con l yX7_isNote cX7_isNote 2 (some .boolean) 1 22 Y [.ref (gy_a Y c), .int p1] μ rr := by
  refine gx_Con_of (L0 := [(0, .ref (gy_a Y c)), (1, .int p1)]) (by decide) (Nat.le_of_ble_eq_true rfl) rfl (fun K hK => ?_)
  unfold fn_X7_isNote at hf
  refine gw_iload_n (pc := 0) hK 1 dX7_isNote_0 rfl rfl ?_
  refine gw_iconst (v := 0) (pc := 1) hK dX7_isNote_1 (by decide) ?_
  refine gw_aload_n (pc := 2) hK 0 dX7_isNote_2 rfl rfl ?_
  refine gf_X7_7 (pc := 3) hK hc.1 dX7_isNote_3 ?_
  refine gw_iconst (v := 2) (pc := 6) hK dX7_isNote_6 (by decide) ?_
  refine gw_iald (pc := 7) hK hc.2.1.1 (gk_100 hc.2.1) dX7_isNote_7 hf (fun hf => ?_)
  refine gw_iconst (v := 1) (pc := 8) hK dX7_isNote_8 (by decide) ?_
  refine gw_isub (pc := 9) hK dX7_isNote_9 ?_
  refine gv_X7_25 (pc := 10) hK dX7_isNote_10 (by decide) (Nat.le_of_ble_eq_true rfl) hf (fun r1 m2 hf => ?_)
  obtain ⟨hz3, hf⟩ := gx_must hf
  exact gw_ret_z (pc := 13) hK dX7_isNote_13 (gx_nar hz3) (Option.some.inj hf)
theorem gv_X7_109 {l : Launch} {cc : ByteArray} {nL fr lo : Nat} {ret : Option FieldType} {Y : gx_Y} {Post : Int32 → gx_M → Prop} {K : gx_KT} {pc : Nat} {μ : gx_M} {L : List (Nat × Value)} {st : List Value} {rr : Int32 × gx_M} (h : gx_K l RX7 cc nL fr lo ret Y Post K) {c : Nat} {p1 : Int32} (hc : gk_mod Y c) (d : decode cc pc = .ok (.invokevirtual 109, 3)) (hR : 1 + 1 ≤ fr ∧ 43 ≤ lo) (hst : (st.map fun v => v.category).sum ≤ 8) {k : Int32 → gx_M → Option (Int32 × gx_M)} (hf : gx_b (fn_X7_isNote (gy_k Y) μ c p1) k = some rr) (kk : ∀ (r : Int32) (m : gx_M), k r m = some rr → K m (pc + 3) L (.int r :: st)) : K μ pc L (.int p1 :: .ref (gy_a Y c) :: st) := by
  obtain ⟨r, m, e, hk⟩ := gx_b_some hf
  exact gw_callV (As := [.int p1]) (q := (r, m)) h hc.1 (by decide) rfl (by refine ⟨rfl, by decide, by decide, (show (parseMethodDescriptor yX7_isNote.desc).map (fun d => d.parameters.length) = some 1 by decide +kernel)⟩) kw_ml_RX7_109 kw_im_X7_isNote kw_se_X7_isNote kw_in_RX7 kw_co_X7_isNote hR hst d (ct_X7_isNote l Y μ c p1 (r, m) hc e) (kk r m hk)
def lf_X7_drop_33 (kd : Nat → Nat) (c0 : Nat) (q1 : Int32) (k : gx_M → Int32 → Option (Int32 × gx_M)) : Nat → gx_M → Int32 → Option (Int32 × gx_M)
  | 0, _, _ => none
  | n + 1, μ, x2 => (if gx_ix 2 (kd (c0 + 1) - 100) = true then (if (61 + (6 * μ (c0 + 1) (Int32.toNatClampNeg 2))) ≤ x2 then
k μ x2
else
(if gx_ix (x2 + 6) (kd (c0 + 1) - 100) = true then (if gx_ix x2 (kd (c0 + 1) - 100) = true then lf_X7_drop_33 kd c0 q1 k n (gx_u μ (c0 + 1) (Int32.toNatClampNeg x2) (μ (c0 + 1) (Int32.toNatClampNeg (x2 + 6)))) (x2 + 1) else none) else none)) else none)
def fn_X7_drop (kd : Nat → Nat) (μ : gx_M) (c : Nat) (p1 : Int32) : Option (Int32 × gx_M) :=
  gx_b (fn_X7_isNote kd μ c p1) (fun r1 m2 =>
(if r1 = 0 then
some ((-100001), m2)
else
gx_b (fn_X7_records kd m2 c) (fun _ m5 =>
(if gx_ix 2 (kd (c + 1) - 100) = true then (if gx_ix 2 (kd (c + 1) - 100) = true then lf_X7_drop_33 kd c p1 (fun m7 y8 =>
(if gx_ix 2 (kd (c + 1) - 100) = true then some (m7 (c + 1) (Int32.toNatClampNeg 2), m7) else none)) gx_F (gx_u m5 (c + 1) (Int32.toNatClampNeg 2) (m5 (c + 1) (Int32.toNatClampNeg 2) - 1)) (61 + (6 * p1)) else none) else none))))
set_option maxRecDepth 100000 in
set_option maxHeartbeats 4000000 in
theorem lt_X7_drop_33 {l : Launch} {Y : gx_Y} {rr : Int32 × gx_M} {K : gx_KT} (hK : gx_K l RX7 cX7_drop 3 2 43 (some .int) Y (fun r m => (r, m) = rr) K) (c0 : Nat) (q1 : Int32) (hc0 : gk_mod Y c0) (k : gx_M → Int32 → Option (Int32 × gx_M)) (hx : ∀ (μ : gx_M) (x2 : Int32), k μ x2 = some rr → K μ 70 [(0, .ref (gy_a Y c0)), (1, .int q1), (2, .int x2)] []) :
    ∀ (n : Nat) (μ : gx_M) (x2 : Int32), lf_X7_drop_33 (gy_k Y) c0 q1 k n μ x2 = some rr → K μ 33 [(0, .ref (gy_a Y c0)), (1, .int q1), (2, .int x2)] [] := by
  intro n
  induction n with
  | zero =>
    intro μ x2 hf
    exact absurd hf (by simp [lf_X7_drop_33])
  | succ n ih =>
    intro μ x2 hf
    rw [lf_X7_drop_33] at hf
    refine gw_iload_n (pc := 33) hK 2 dX7_drop_33 rfl rfl ?_
    refine gw_bipush (v := 61) (pc := 34) hK dX7_drop_34 (by decide) ?_
    refine gw_bipush (v := 6) (pc := 36) hK dX7_drop_36 (by decide) ?_
    refine gw_aload_n (pc := 38) hK 0 dX7_drop_38 rfl rfl ?_
    refine gf_X7_7 (pc := 39) hK hc0.1 dX7_drop_39 ?_
    refine gw_iconst (v := 2) (pc := 42) hK dX7_drop_42 (by decide) ?_
    refine gw_iald (pc := 43) hK hc0.2.1.1 (gk_100 hc0.2.1) dX7_drop_43 hf (fun hf => ?_)
    refine gw_imul (pc := 44) hK dX7_drop_44 ?_
    refine gw_iadd (pc := 45) hK dX7_drop_45 ?_
    refine gw_icmp_ge (tgt := 70) (pc := 46) hK dX7_drop_46 (by decide) hf (fun cc6 hf => ?_) (fun cc6 hf => ?_)
    ·
      refine gw_sub (L' := [(0, .ref (gy_a Y c0)), (1, .int q1), (2, .int x2)]) hK [0, 1, 2] rfl (hx _ _ hf)
    ·
      refine gw_aload_n (pc := 49) hK 0 dX7_drop_49 rfl rfl ?_
      refine gf_X7_7 (pc := 50) hK hc0.1 dX7_drop_50 ?_
      refine gw_iload_n (pc := 53) hK 2 dX7_drop_53 rfl rfl ?_
      refine gw_aload_n (pc := 54) hK 0 dX7_drop_54 rfl rfl ?_
      refine gf_X7_7 (pc := 55) hK hc0.1 dX7_drop_55 ?_
      refine gw_iload_n (pc := 58) hK 2 dX7_drop_58 rfl rfl ?_
      refine gw_bipush (v := 6) (pc := 59) hK dX7_drop_59 (by decide) ?_
      refine gw_iadd (pc := 61) hK dX7_drop_61 ?_
      refine gw_iald (pc := 62) hK hc0.2.1.1 (gk_100 hc0.2.1) dX7_drop_62 hf (fun hf => ?_)
      refine gw_iast (pc := 63) hK hc0.2.1.1 (gk_100 hc0.2.1) dX7_drop_63 hf (fun hf => ?_)
      refine gw_iinc (v := (x2 + 1)) (L' := [(2, .int (x2 + 1)), (0, .ref (gy_a Y c0)), (1, .int q1)]) (pc := 64) hK 2 dX7_drop_64 rfl rfl (by decide) rfl ?_
      refine gw_goto (tgt := 33) (pc := 67) hK dX7_drop_67 (by decide) ?_
      refine gw_sub (L' := [(0, .ref (gy_a Y c0)), (1, .int q1), (2, .int (x2 + 1))]) hK [1, 2, 0] rfl (ih _ _ hf)
set_option maxRecDepth 100000 in
set_option maxHeartbeats 4000000 in
theorem ct_X7_drop (l : Launch) (Y : gx_Y) (μ : gx_M) (c : Nat) (p1 : Int32) (rr : Int32 × gx_M) (hc : gk_mod Y c) (hf : fn_X7_drop (gy_k Y) μ c p1 = some rr) : gx_Con l yX7_drop cX7_drop 3 (some .int) 2 43 Y [.ref (gy_a Y c), .int p1] μ rr := by
  refine gx_Con_of (L0 := [(0, .ref (gy_a Y c)), (1, .int p1)]) (by decide) (Nat.le_of_ble_eq_true rfl) rfl (fun K hK => ?_)
  unfold fn_X7_drop at hf
  refine gw_aload_n (pc := 0) hK 0 dX7_drop_0 rfl rfl ?_
  refine gw_iload_n (pc := 1) hK 1 dX7_drop_1 rfl rfl ?_
  refine gv_X7_109 (pc := 2) hK hc dX7_drop_2 (by decide) (Nat.le_of_ble_eq_true rfl) hf (fun r1 m2 hf => ?_)
  refine gw_if_ne (tgt := 11) (pc := 5) hK dX7_drop_5 (by decide) hf (fun cc3 hf => ?_) (fun cc3 hf => ?_)
  ·
    refine gw_aload_n (pc := 11) hK 0 dX7_drop_11 rfl rfl ?_
    refine gv_X7_53 (pc := 12) hK hc dX7_drop_12 (by decide) (Nat.le_of_ble_eq_true rfl) hf (fun _ m5 hf => ?_)
    refine gw_aload_n (pc := 15) hK 0 dX7_drop_15 rfl rfl ?_
    refine gf_X7_7 (pc := 16) hK hc.1 dX7_drop_16 ?_
    refine gw_iconst (v := 2) (pc := 19) hK dX7_drop_19 (by decide) ?_
    refine gw_dup2 (pc := 20) hK dX7_drop_20 rfl rfl ?_
    refine gw_iald (pc := 21) hK hc.2.1.1 (gk_100 hc.2.1) dX7_drop_21 hf (fun hf => ?_)
    refine gw_iconst (v := 1) (pc := 22) hK dX7_drop_22 (by decide) ?_
    refine gw_isub (pc := 23) hK dX7_drop_23 ?_
    refine gw_iast (pc := 24) hK hc.2.1.1 (gk_100 hc.2.1) dX7_drop_24 hf (fun hf => ?_)
    refine gw_bipush (v := 61) (pc := 25) hK dX7_drop_25 (by decide) ?_
    refine gw_bipush (v := 6) (pc := 27) hK dX7_drop_27 (by decide) ?_
    refine gw_iload_n (pc := 29) hK 1 dX7_drop_29 rfl rfl ?_
    refine gw_imul (pc := 30) hK dX7_drop_30 ?_
    refine gw_iadd (pc := 31) hK dX7_drop_31 ?_
    refine gw_istore_n (L' := [(2, .int (61 + (6 * p1))), (0, .ref (gy_a Y c)), (1, .int p1)]) (pc := 32) hK dX7_drop_32 rfl (by decide) rfl ?_
    refine gw_sub (L' := [(0, .ref (gy_a Y c)), (1, .int p1), (2, .int (61 + (6 * p1)))]) hK [1, 2, 0] rfl (lt_X7_drop_33 hK c p1 hc _ (fun m7 y8 hf => ?_) gx_F _ _ hf)
    refine gw_aload_n (pc := 70) hK 0 dX7_drop_70 rfl rfl ?_
    refine gf_X7_7 (pc := 71) hK hc.1 dX7_drop_71 ?_
    refine gw_iconst (v := 2) (pc := 74) hK dX7_drop_74 (by decide) ?_
    refine gw_iald (pc := 75) hK hc.2.1.1 (gk_100 hc.2.1) dX7_drop_75 hf (fun hf => ?_)
    exact gw_ret_i (pc := 76) hK dX7_drop_76 (Option.some.inj hf)
  ·
    refine gw_ldc (pc := 8) hK dX7_drop_8 kw_k_RX7_51 ?_
    exact gw_ret_i (pc := 10) hK dX7_drop_10 (Option.some.inj hf)

def fn_X7_takes (kd : Nat → Nat) (μ : gx_M) (c : Nat) (p1 : Int32) : Option (Int32 × gx_M) :=
  (if μ c 5 ≤ μ c 6 then
some (0, (gx_u μ c 6 (μ c 6 + 0)))
else
(if gx_ix (μ c 6) (kd (c + 4) - 100) = true then (if μ (c + 4) (Int32.toNatClampNeg (μ c 6)) = p1 then
some (1, (gx_u μ c 6 (μ c 6 + 1)))
else
some (0, (gx_u μ c 6 (μ c 6 + 0)))) else none))
set_option maxRecDepth 100000 in
set_option maxHeartbeats 4000000 in
theorem ct_X7_takes (l : Launch) (Y : gx_Y) (μ : gx_M) (c : Nat) (p1 : Int32) (rr : Int32 × gx_M) (hc : gk_mod Y c) (hf : fn_X7_takes (gy_k Y) μ c p1 = some rr) : gx_Con l yX7_takes cX7_takes 3 (some .boolean) 0 0 Y [.ref (gy_a Y c), .int p1] μ rr := by
  refine gx_Con_of (L0 := [(0, .ref (gy_a Y c)), (1, .int p1)]) (by decide) (Nat.le_of_ble_eq_true rfl) rfl (fun K hK => ?_)
  unfold fn_X7_takes at hf
  refine gw_aload_n (pc := 0) hK 0 dX7_takes_0 rfl rfl ?_
  refine gf_X7_143 (pc := 1) hK hc.1 dX7_takes_1 ?_
  refine gw_aload_n (pc := 4) hK 0 dX7_takes_4 rfl rfl ?_
  refine gf_X7_90 (pc := 5) hK hc.1 dX7_takes_5 ?_
  refine gw_icmp_ge (tgt := 28) (pc := 8) hK dX7_takes_8 (by decide) hf (fun cc1 hf => ?_) (fun cc1 hf => ?_)
  ·
    refine gw_iconst (v := 0) (pc := 28) hK dX7_takes_28 (by decide) ?_
    refine gw_istore_n (L' := [(2, .int 0), (0, .ref (gy_a Y c)), (1, .int p1)]) (pc := 29) hK dX7_takes_29 rfl (by decide) rfl ?_
    refine gw_aload_n (pc := 30) hK 1 dX7_takes_30 rfl rfl ?_
    refine gw_dup (pc := 31) hK dX7_takes_31 rfl ?_
    refine gf_X7_143 (pc := 32) hK hc.1 dX7_takes_32 ?_
    refine gw_iload_n (pc := 35) hK 0 dX7_takes_35 rfl rfl ?_
    refine gw_if_eq_c (tgt := 43) (pc := 36) hK dX7_takes_36 (by decide) (fun _ => ?_) (fun cc2 => absurd cc2 (by decide))
    refine gw_iconst (v := 0) (pc := 43) hK dX7_takes_43 (by decide) ?_
    refine gw_iadd (pc := 44) hK dX7_takes_44 ?_
    refine gp_X7_143 (pc := 45) hK hc.1 dX7_takes_45 ?_
    refine gw_iload_n (pc := 48) hK 0 dX7_takes_48 rfl rfl ?_
    exact gw_ret_z (pc := 49) hK dX7_takes_49 rfl (Option.some.inj hf)
  ·
    refine gw_aload_n (pc := 11) hK 0 dX7_takes_11 rfl rfl ?_
    refine gf_X7_19 (pc := 12) hK hc.1 dX7_takes_12 ?_
    refine gw_aload_n (pc := 15) hK 0 dX7_takes_15 rfl rfl ?_
    refine gf_X7_143 (pc := 16) hK hc.1 dX7_takes_16 ?_
    refine gw_iald (pc := 19) hK hc.2.2.2.2.1.1 (gk_100 hc.2.2.2.2.1) dX7_takes_19 hf (fun hf => ?_)
    refine gw_iload_n (pc := 20) hK 1 dX7_takes_20 rfl rfl ?_
    refine gw_icmp_ne (tgt := 28) (pc := 21) hK dX7_takes_21 (by decide) hf (fun cc3 hf => ?_) (fun cc3 hf => ?_)
    ·
      refine gw_iconst (v := 0) (pc := 28) hK dX7_takes_28 (by decide) ?_
      refine gw_istore_n (L' := [(2, .int 0), (0, .ref (gy_a Y c)), (1, .int p1)]) (pc := 29) hK dX7_takes_29 rfl (by decide) rfl ?_
      refine gw_aload_n (pc := 30) hK 1 dX7_takes_30 rfl rfl ?_
      refine gw_dup (pc := 31) hK dX7_takes_31 rfl ?_
      refine gf_X7_143 (pc := 32) hK hc.1 dX7_takes_32 ?_
      refine gw_iload_n (pc := 35) hK 0 dX7_takes_35 rfl rfl ?_
      refine gw_if_eq_c (tgt := 43) (pc := 36) hK dX7_takes_36 (by decide) (fun _ => ?_) (fun cc4 => absurd cc4 (by decide))
      refine gw_iconst (v := 0) (pc := 43) hK dX7_takes_43 (by decide) ?_
      refine gw_iadd (pc := 44) hK dX7_takes_44 ?_
      refine gp_X7_143 (pc := 45) hK hc.1 dX7_takes_45 ?_
      refine gw_iload_n (pc := 48) hK 0 dX7_takes_48 rfl rfl ?_
      exact gw_ret_z (pc := 49) hK dX7_takes_49 rfl (Option.some.inj hf)
    ·
      refine gw_iconst (v := 1) (pc := 24) hK dX7_takes_24 (by decide) ?_
      refine gw_goto (tgt := 29) (pc := 25) hK dX7_takes_25 (by decide) ?_
      refine gw_istore_n (L' := [(2, .int 1), (0, .ref (gy_a Y c)), (1, .int p1)]) (pc := 29) hK dX7_takes_29 rfl (by decide) rfl ?_
      refine gw_aload_n (pc := 30) hK 1 dX7_takes_30 rfl rfl ?_
      refine gw_dup (pc := 31) hK dX7_takes_31 rfl ?_
      refine gf_X7_143 (pc := 32) hK hc.1 dX7_takes_32 ?_
      refine gw_iload_n (pc := 35) hK 0 dX7_takes_35 rfl rfl ?_
      refine gw_if_eq_c (tgt := 43) (pc := 36) hK dX7_takes_36 (by decide) (fun cc5 => absurd cc5 (by decide)) (fun _ => ?_)
      refine gw_iconst (v := 1) (pc := 39) hK dX7_takes_39 (by decide) ?_
      refine gw_goto (tgt := 44) (pc := 40) hK dX7_takes_40 (by decide) ?_
      refine gw_iadd (pc := 44) hK dX7_takes_44 ?_
      refine gp_X7_143 (pc := 45) hK hc.1 dX7_takes_45 ?_
      refine gw_iload_n (pc := 48) hK 0 dX7_takes_48 rfl rfl ?_
      exact gw_ret_z (pc := 49) hK dX7_takes_49 rfl (Option.some.inj hf)
theorem gv_X7_152 {l : Launch} {cc : ByteArray} {nL fr lo : Nat} {ret : Option FieldType} {Y : gx_Y} {Post : Int32 → gx_M → Prop} {K : gx_KT} {pc : Nat} {μ : gx_M} {L : List (Nat × Value)} {st : List Value} {rr : Int32 × gx_M} (h : gx_K l RX7 cc nL fr lo ret Y Post K) {c : Nat} {p1 : Int32} (hc : gk_mod Y c) (d : decode cc pc = .ok (.invokevirtual 152, 3)) (hR : 0 + 1 ≤ fr ∧ 22 ≤ lo) (hst : (st.map fun v => v.category).sum ≤ 8) {k : Int32 → gx_M → Option (Int32 × gx_M)} (hf : gx_b (fn_X7_takes (gy_k Y) μ c p1) k = some rr) (kk : ∀ (r : Int32) (m : gx_M), k r m = some rr → K m (pc + 3) L (.int r :: st)) : K μ pc L (.int p1 :: .ref (gy_a Y c) :: st) := by
  obtain ⟨r, m, e, hk⟩ := gx_b_some hf
  exact gw_callV (As := [.int p1]) (q := (r, m)) h hc.1 (by decide) rfl (by refine ⟨rfl, by decide, by decide, (show (parseMethodDescriptor yX7_takes.desc).map (fun d => d.parameters.length) = some 1 by decide +kernel)⟩) kw_ml_RX7_152 kw_im_X7_takes kw_se_X7_takes kw_in_RX7 kw_co_X7_takes hR hst d (ct_X7_takes l Y μ c p1 (r, m) hc e) (kk r m hk)
def fn_X7_isFormed (kd : Nat → Nat) (μ : gx_M) (c : Nat) : Option (Int32 × gx_M) :=
  gx_b (fn_X7_digits kd μ c) (fun r1 m2 =>
(if (gx_u m2 c 7 r1) c 7 < 0 then
some (0, (gx_u m2 c 7 r1))
else
gx_b (fn_X7_takes kd (gx_u m2 c 7 r1) c 58) (fun r4 m5 =>
(if r4 = 0 then
some (0, m5)
else
gx_b (fn_X7_digits kd m5 c) (fun r7 m8 =>
(if (gx_u m8 c 8 r7) c 8 < 0 then
some (0, (gx_u m8 c 8 r7))
else
gx_b (fn_X7_takes kd (gx_u m8 c 8 r7) c 59) (fun r10 m11 =>
(if r10 = 0 then
some (0, m11)
else
some (1, m11)))))))))
set_option maxRecDepth 100000 in
set_option maxHeartbeats 4000000 in
theorem ct_X7_isFormed (l : Launch) (Y : gx_Y) (μ : gx_M) (c : Nat) (rr : Int32 × gx_M) (hc : gk_mod Y c) (hf : fn_X7_isFormed (gy_k Y) μ c = some rr) : gx_Con l yX7_isFormed cX7_isFormed 1 (some .boolean) 2 44 Y [.ref (gy_a Y c)] μ rr := by
  refine gx_Con_of (L0 := [(0, .ref (gy_a Y c))]) (by decide) (Nat.le_of_ble_eq_true rfl) rfl (fun K hK => ?_)
  unfold fn_X7_isFormed at hf
  refine gw_aload_n (pc := 0) hK 0 dX7_isFormed_0 rfl rfl ?_
  refine gw_aload_n (pc := 1) hK 0 dX7_isFormed_1 rfl rfl ?_
  refine gv_X7_146 (pc := 2) hK hc dX7_isFormed_2 (by decide) (Nat.le_of_ble_eq_true rfl) hf (fun r1 m2 hf => ?_)
  refine gp_X7_149 (pc := 5) hK hc.1 dX7_isFormed_5 ?_
  refine gw_aload_n (pc := 8) hK 0 dX7_isFormed_8 rfl rfl ?_
  refine gf_X7_149 (pc := 9) hK hc.1 dX7_isFormed_9 ?_
  refine gw_if_lt (tgt := 24) (pc := 12) hK dX7_isFormed_12 (by decide) hf (fun cc3 hf => ?_) (fun cc3 hf => ?_)
  ·
    refine gw_iconst (v := 0) (pc := 24) hK dX7_isFormed_24 (by decide) ?_
    exact gw_ret_z (pc := 25) hK dX7_isFormed_25 rfl (Option.some.inj hf)
  ·
    refine gw_aload_n (pc := 15) hK 0 dX7_isFormed_15 rfl rfl ?_
    refine gw_bipush (v := 58) (pc := 16) hK dX7_isFormed_16 (by decide) ?_
    refine gv_X7_152 (pc := 18) hK hc dX7_isFormed_18 (by decide) (Nat.le_of_ble_eq_true rfl) hf (fun r4 m5 hf => ?_)
    refine gw_if_ne (tgt := 26) (pc := 21) hK dX7_isFormed_21 (by decide) hf (fun cc6 hf => ?_) (fun cc6 hf => ?_)
    ·
      refine gw_aload_n (pc := 26) hK 0 dX7_isFormed_26 rfl rfl ?_
      refine gw_aload_n (pc := 27) hK 0 dX7_isFormed_27 rfl rfl ?_
      refine gv_X7_146 (pc := 28) hK hc dX7_isFormed_28 (by decide) (Nat.le_of_ble_eq_true rfl) hf (fun r7 m8 hf => ?_)
      refine gp_X7_155 (pc := 31) hK hc.1 dX7_isFormed_31 ?_
      refine gw_aload_n (pc := 34) hK 0 dX7_isFormed_34 rfl rfl ?_
      refine gf_X7_155 (pc := 35) hK hc.1 dX7_isFormed_35 ?_
      refine gw_if_lt (tgt := 54) (pc := 38) hK dX7_isFormed_38 (by decide) hf (fun cc9 hf => ?_) (fun cc9 hf => ?_)
      ·
        refine gw_iconst (v := 0) (pc := 54) hK dX7_isFormed_54 (by decide) ?_
        exact gw_ret_z (pc := 55) hK dX7_isFormed_55 rfl (Option.some.inj hf)
      ·
        refine gw_aload_n (pc := 41) hK 0 dX7_isFormed_41 rfl rfl ?_
        refine gw_bipush (v := 59) (pc := 42) hK dX7_isFormed_42 (by decide) ?_
        refine gv_X7_152 (pc := 44) hK hc dX7_isFormed_44 (by decide) (Nat.le_of_ble_eq_true rfl) hf (fun r10 m11 hf => ?_)
        refine gw_if_eq (tgt := 54) (pc := 47) hK dX7_isFormed_47 (by decide) hf (fun cc12 hf => ?_) (fun cc12 hf => ?_)
        ·
          refine gw_iconst (v := 0) (pc := 54) hK dX7_isFormed_54 (by decide) ?_
          exact gw_ret_z (pc := 55) hK dX7_isFormed_55 rfl (Option.some.inj hf)
        ·
          refine gw_iconst (v := 1) (pc := 50) hK dX7_isFormed_50 (by decide) ?_
          refine gw_goto (tgt := 55) (pc := 51) hK dX7_isFormed_51 (by decide) ?_
          exact gw_ret_z (pc := 55) hK dX7_isFormed_55 rfl (Option.some.inj hf)
    ·
      refine gw_iconst (v := 0) (pc := 24) hK dX7_isFormed_24 (by decide) ?_
      exact gw_ret_z (pc := 25) hK dX7_isFormed_25 rfl (Option.some.inj hf)
theorem gv_X7_161 {l : Launch} {cc : ByteArray} {nL fr lo : Nat} {ret : Option FieldType} {Y : gx_Y} {Post : Int32 → gx_M → Prop} {K : gx_KT} {pc : Nat} {μ : gx_M} {L : List (Nat × Value)} {st : List Value} {rr : Int32 × gx_M} (h : gx_K l RX7 cc nL fr lo ret Y Post K) {c : Nat} (hc : gk_mod Y c) (d : decode cc pc = .ok (.invokevirtual 161, 3)) (hR : 2 + 1 ≤ fr ∧ 64 ≤ lo) (hst : (st.map fun v => v.category).sum ≤ 8) {k : Int32 → gx_M → Option (Int32 × gx_M)} (hf : gx_b (fn_X7_isFormed (gy_k Y) μ c) k = some rr) (kk : ∀ (r : Int32) (m : gx_M), k r m = some rr → K m (pc + 3) L (.int r :: st)) : K μ pc L (.ref (gy_a Y c) :: st) := by
  obtain ⟨r, m, e, hk⟩ := gx_b_some hf
  exact gw_callV (As := []) (q := (r, m)) h hc.1 (by decide) rfl (by refine ⟨rfl, by decide, by decide, (show (parseMethodDescriptor yX7_isFormed.desc).map (fun d => d.parameters.length) = some 0 by decide +kernel)⟩) kw_ml_RX7_161 kw_im_X7_isFormed kw_se_X7_isFormed kw_in_RX7 kw_co_X7_isFormed hR hst d (ct_X7_isFormed l Y μ c (r, m) hc e) (kk r m hk)
def fn_X7_lay (kd : Nat → Nat) (μ : gx_M) (c : Nat) (p1 : Int32) (p2 : Int32) (p3 : Int32) : Option (Int32 × gx_M) :=
  (if gx_ix ((61 + (6 * p1)) + p2) (kd (c + 1) - 100) = true then some (0, (gx_u μ (c + 1) (Int32.toNatClampNeg ((61 + (6 * p1)) + p2)) p3)) else none)
set_option maxRecDepth 100000 in
set_option maxHeartbeats 4000000 in
theorem ct_X7_lay (l : Launch) (Y : gx_Y) (μ : gx_M) (c : Nat) (p1 : Int32) (p2 : Int32) (p3 : Int32) (rr : Int32 × gx_M) (hc : gk_mod Y c) (hf : fn_X7_lay (gy_k Y) μ c p1 p2 p3 = some rr) : gx_Con l yX7_lay cX7_lay 4 none 0 0 Y [.ref (gy_a Y c), .int p1, .int p2, .int p3] μ rr := by
  refine gx_Con_of (L0 := [(0, .ref (gy_a Y c)), (1, .int p1), (2, .int p2), (3, .int p3)]) (by decide) (Nat.le_of_ble_eq_true rfl) rfl (fun K hK => ?_)
  unfold fn_X7_lay at hf
  refine gw_aload_n (pc := 0) hK 0 dX7_lay_0 rfl rfl ?_
  refine gf_X7_7 (pc := 1) hK hc.1 dX7_lay_1 ?_
  refine gw_bipush (v := 61) (pc := 4) hK dX7_lay_4 (by decide) ?_
  refine gw_bipush (v := 6) (pc := 6) hK dX7_lay_6 (by decide) ?_
  refine gw_iload_n (pc := 8) hK 1 dX7_lay_8 rfl rfl ?_
  refine gw_imul (pc := 9) hK dX7_lay_9 ?_
  refine gw_iadd (pc := 10) hK dX7_lay_10 ?_
  refine gw_iload_n (pc := 11) hK 2 dX7_lay_11 rfl rfl ?_
  refine gw_iadd (pc := 12) hK dX7_lay_12 ?_
  refine gw_iload_n (pc := 13) hK 3 dX7_lay_13 rfl rfl ?_
  refine gw_iast (pc := 14) hK hc.2.1.1 (gk_100 hc.2.1) dX7_lay_14 hf (fun hf => ?_)
  exact gw_ret_v (pc := 15) hK dX7_lay_15 (Option.some.inj hf)
theorem gv_X7_100 {l : Launch} {cc : ByteArray} {nL fr lo : Nat} {ret : Option FieldType} {Y : gx_Y} {Post : Int32 → gx_M → Prop} {K : gx_KT} {pc : Nat} {μ : gx_M} {L : List (Nat × Value)} {st : List Value} {rr : Int32 × gx_M} (h : gx_K l RX7 cc nL fr lo ret Y Post K) {c : Nat} {p1 : Int32} {p2 : Int32} {p3 : Int32} (hc : gk_mod Y c) (d : decode cc pc = .ok (.invokevirtual 100, 3)) (hR : 0 + 1 ≤ fr ∧ 23 ≤ lo) (hst : (st.map fun v => v.category).sum ≤ 8) {k : Int32 → gx_M → Option (Int32 × gx_M)} (hf : gx_b (fn_X7_lay (gy_k Y) μ c p1 p2 p3) k = some rr) (kk : ∀ (r : Int32) (m : gx_M), k r m = some rr → K m (pc + 3) L (st)) : K μ pc L (.int p3 :: .int p2 :: .int p1 :: .ref (gy_a Y c) :: st) := by
  obtain ⟨r, m, e, hk⟩ := gx_b_some hf
  exact gw_callV (As := [.int p1, .int p2, .int p3]) (q := (r, m)) h hc.1 (by decide) rfl (by refine ⟨rfl, by decide, by decide, (show (parseMethodDescriptor yX7_lay.desc).map (fun d => d.parameters.length) = some 3 by decide +kernel)⟩) kw_ml_RX7_100 kw_im_X7_lay kw_se_X7_lay kw_in_RX7 kw_co_X7_lay hR hst d (ct_X7_lay l Y μ c p1 p2 p3 (r, m) hc e) (kk r m hk)
def lf_X7_newNote_26 (kd : Nat → Nat) (c0 : Nat) (q1 : Int32) (q2 : Int32) (q3 : Int32) (k : gx_M → Int32 → Option (Int32 × gx_M)) : Nat → gx_M → Int32 → Option (Int32 × gx_M)
  | 0, _, _ => none
  | n + 1, μ, x4 => (if 6 ≤ x4 then
k μ x4
else
gx_b (fn_X7_has kd μ c0 (q3 - 1) x4) (fun r6 m7 =>
gx_b (fn_X7_lay kd m7 c0 q3 x4 r6) (fun _ m9 =>
lf_X7_newNote_26 kd c0 q1 q2 q3 k n m9 (x4 + 1))))
def lf_X7_newNote_7 (kd : Nat → Nat) (c0 : Nat) (q1 : Int32) (q2 : Int32) (k : gx_M → Int32 → Option (Int32 × gx_M)) : Nat → gx_M → Int32 → Option (Int32 × gx_M)
  | 0, _, _ => none
  | n + 1, μ, x3 => (if x3 ≤ 0 then
k μ x3
else
gx_b (fn_X7_has kd μ c0 (x3 - 1) 0) (fun r2 m3 =>
(if r2 ≤ q1 then
k m3 x3
else
lf_X7_newNote_26 kd c0 q1 q2 x3 (fun m10 y11 =>
lf_X7_newNote_7 kd c0 q1 q2 k n m10 (x3 + (-1))) gx_F m3 0)))
def fn_X7_newNote (kd : Nat → Nat) (μ : gx_M) (c : Nat) (p1 : Int32) (p2 : Int32) : Option (Int32 × gx_M) :=
  (if gx_ix 2 (kd (c + 1) - 100) = true then lf_X7_newNote_7 kd c p1 p2 (fun m12 y13 =>
gx_b (fn_X7_lay kd m12 c y13 0 p1) (fun _ m15 =>
gx_b (fn_X7_lay kd m15 c y13 1 p2) (fun _ m17 =>
gx_b (fn_X7_lay kd m17 c y13 2 0) (fun _ m19 =>
gx_b (fn_X7_lay kd m19 c y13 3 (-1)) (fun _ m21 =>
gx_b (fn_X7_lay kd m21 c y13 4 0) (fun _ m23 =>
gx_b (fn_X7_lay kd m23 c y13 5 0) (fun _ m25 =>
(if gx_ix 2 (kd (c + 1) - 100) = true then (if gx_ix 2 (kd (c + 1) - 100) = true then some (y13, (gx_u m25 (c + 1) (Int32.toNatClampNeg 2) (m25 (c + 1) (Int32.toNatClampNeg 2) + 1))) else none) else none)))))))) gx_F μ (μ (c + 1) (Int32.toNatClampNeg 2)) else none)
set_option maxRecDepth 100000 in
set_option maxHeartbeats 4000000 in
theorem lt_X7_newNote_26 {l : Launch} {Y : gx_Y} {rr : Int32 × gx_M} {K : gx_KT} (hK : gx_K l RX7 cX7_newNote 5 1 23 (some .int) Y (fun r m => (r, m) = rr) K) (c0 : Nat) (q1 : Int32) (q2 : Int32) (q3 : Int32) (hc0 : gk_mod Y c0) (k : gx_M → Int32 → Option (Int32 × gx_M)) (hx : ∀ (μ : gx_M) (x4 : Int32), k μ x4 = some rr → K μ 55 [(0, .ref (gy_a Y c0)), (1, .int q1), (2, .int q2), (3, .int q3), (4, .int x4)] []) :
    ∀ (n : Nat) (μ : gx_M) (x4 : Int32), lf_X7_newNote_26 (gy_k Y) c0 q1 q2 q3 k n μ x4 = some rr → K μ 26 [(0, .ref (gy_a Y c0)), (1, .int q1), (2, .int q2), (3, .int q3), (4, .int x4)] [] := by
  intro n
  induction n with
  | zero =>
    intro μ x4 hf
    exact absurd hf (by simp [lf_X7_newNote_26])
  | succ n ih =>
    intro μ x4 hf
    rw [lf_X7_newNote_26] at hf
    refine gw_iload (pc := 26) hK 4 dX7_newNote_26 rfl ?_
    refine gw_bipush (v := 6) (pc := 28) hK dX7_newNote_28 (by decide) ?_
    refine gw_icmp_ge (tgt := 55) (pc := 30) hK dX7_newNote_30 (by decide) hf (fun cc5 hf => ?_) (fun cc5 hf => ?_)
    ·
      refine gw_sub (L' := [(0, .ref (gy_a Y c0)), (1, .int q1), (2, .int q2), (3, .int q3), (4, .int x4)]) hK [0, 1, 2, 3, 4] rfl (hx _ _ hf)
    ·
      refine gw_aload_n (pc := 33) hK 0 dX7_newNote_33 rfl rfl ?_
      refine gw_iload_n (pc := 34) hK 3 dX7_newNote_34 rfl rfl ?_
      refine gw_iload (pc := 35) hK 4 dX7_newNote_35 rfl ?_
      refine gw_aload_n (pc := 37) hK 0 dX7_newNote_37 rfl rfl ?_
      refine gw_iload_n (pc := 38) hK 3 dX7_newNote_38 rfl rfl ?_
      refine gw_iconst (v := 1) (pc := 39) hK dX7_newNote_39 (by decide) ?_
      refine gw_isub (pc := 40) hK dX7_newNote_40 ?_
      refine gw_iload (pc := 41) hK 4 dX7_newNote_41 rfl ?_
      refine gv_X7_81 (pc := 43) hK hc0 dX7_newNote_43 (by decide) (Nat.le_of_ble_eq_true rfl) hf (fun r6 m7 hf => ?_)
      refine gv_X7_100 (pc := 46) hK hc0 dX7_newNote_46 (by decide) (Nat.le_of_ble_eq_true rfl) hf (fun _ m9 hf => ?_)
      refine gw_iinc (v := (x4 + 1)) (L' := [(4, .int (x4 + 1)), (0, .ref (gy_a Y c0)), (1, .int q1), (2, .int q2), (3, .int q3)]) (pc := 49) hK 4 dX7_newNote_49 rfl rfl (by decide) rfl ?_
      refine gw_goto (tgt := 26) (pc := 52) hK dX7_newNote_52 (by decide) ?_
      refine gw_sub (L' := [(0, .ref (gy_a Y c0)), (1, .int q1), (2, .int q2), (3, .int q3), (4, .int (x4 + 1))]) hK [1, 2, 3, 4, 0] rfl (ih _ _ hf)
set_option maxRecDepth 100000 in
set_option maxHeartbeats 4000000 in
theorem lt_X7_newNote_7 {l : Launch} {Y : gx_Y} {rr : Int32 × gx_M} {K : gx_KT} (hK : gx_K l RX7 cX7_newNote 5 1 23 (some .int) Y (fun r m => (r, m) = rr) K) (c0 : Nat) (q1 : Int32) (q2 : Int32) (hc0 : gk_mod Y c0) (k : gx_M → Int32 → Option (Int32 × gx_M)) (hx : ∀ (μ : gx_M) (x3 : Int32), k μ x3 = some rr → K μ 61 [(0, .ref (gy_a Y c0)), (1, .int q1), (2, .int q2), (3, .int x3)] []) :
    ∀ (n : Nat) (μ : gx_M) (x3 : Int32), lf_X7_newNote_7 (gy_k Y) c0 q1 q2 k n μ x3 = some rr → K μ 7 [(0, .ref (gy_a Y c0)), (1, .int q1), (2, .int q2), (3, .int x3)] [] := by
  intro n
  induction n with
  | zero =>
    intro μ x3 hf
    exact absurd hf (by simp [lf_X7_newNote_7])
  | succ n ih =>
    intro μ x3 hf
    rw [lf_X7_newNote_7] at hf
    refine gw_iload_n (pc := 7) hK 3 dX7_newNote_7 rfl rfl ?_
    refine gw_if_le (tgt := 61) (pc := 8) hK dX7_newNote_8 (by decide) hf (fun cc1 hf => ?_) (fun cc1 hf => ?_)
    ·
      refine gw_sub (L' := [(0, .ref (gy_a Y c0)), (1, .int q1), (2, .int q2), (3, .int x3)]) hK [0, 1, 2, 3] rfl (hx _ _ hf)
    ·
      refine gw_aload_n (pc := 11) hK 0 dX7_newNote_11 rfl rfl ?_
      refine gw_iload_n (pc := 12) hK 3 dX7_newNote_12 rfl rfl ?_
      refine gw_iconst (v := 1) (pc := 13) hK dX7_newNote_13 (by decide) ?_
      refine gw_isub (pc := 14) hK dX7_newNote_14 ?_
      refine gw_iconst (v := 0) (pc := 15) hK dX7_newNote_15 (by decide) ?_
      refine gv_X7_81 (pc := 16) hK hc0 dX7_newNote_16 (by decide) (Nat.le_of_ble_eq_true rfl) hf (fun r2 m3 hf => ?_)
      refine gw_iload_n (pc := 19) hK 1 dX7_newNote_19 rfl rfl ?_
      refine gw_icmp_le (tgt := 61) (pc := 20) hK dX7_newNote_20 (by decide) hf (fun cc4 hf => ?_) (fun cc4 hf => ?_)
      ·
        refine gw_sub (L' := [(0, .ref (gy_a Y c0)), (1, .int q1), (2, .int q2), (3, .int x3)]) hK [0, 1, 2, 3] rfl (hx _ _ hf)
      ·
        refine gw_iconst (v := 0) (pc := 23) hK dX7_newNote_23 (by decide) ?_
        refine gw_istore (L' := [(4, .int 0), (0, .ref (gy_a Y c0)), (1, .int q1), (2, .int q2), (3, .int x3)]) (pc := 24) hK dX7_newNote_24 (by decide) rfl ?_
        refine gw_sub (L' := [(0, .ref (gy_a Y c0)), (1, .int q1), (2, .int q2), (3, .int x3), (4, .int 0)]) hK [1, 2, 3, 4, 0] rfl (lt_X7_newNote_26 hK c0 q1 q2 x3 hc0 _ (fun m10 y11 hf => ?_) gx_F _ _ hf)
        refine gw_iinc (v := (x3 + (-1))) (L' := [(3, .int (x3 + (-1))), (0, .ref (gy_a Y c0)), (1, .int q1), (2, .int q2), (4, .int y11)]) (pc := 55) hK 3 dX7_newNote_55 rfl rfl (by decide) rfl ?_
        refine gw_goto (tgt := 7) (pc := 58) hK dX7_newNote_58 (by decide) ?_
        refine gw_sub (L' := [(0, .ref (gy_a Y c0)), (1, .int q1), (2, .int q2), (3, .int (x3 + (-1)))]) hK [1, 2, 3, 0] rfl (ih _ _ hf)
set_option maxRecDepth 100000 in
set_option maxHeartbeats 4000000 in
theorem ct_X7_newNote (l : Launch) (Y : gx_Y) (μ : gx_M) (c : Nat) (p1 : Int32) (p2 : Int32) (rr : Int32 × gx_M) (hc : gk_mod Y c) (hf : fn_X7_newNote (gy_k Y) μ c p1 p2 = some rr) : gx_Con l yX7_newNote cX7_newNote 5 (some .int) 1 23 Y [.ref (gy_a Y c), .int p1, .int p2] μ rr := by
  refine gx_Con_of (L0 := [(0, .ref (gy_a Y c)), (1, .int p1), (2, .int p2)]) (by decide) (Nat.le_of_ble_eq_true rfl) rfl (fun K hK => ?_)
  unfold fn_X7_newNote at hf
  refine gw_aload_n (pc := 0) hK 0 dX7_newNote_0 rfl rfl ?_
  refine gf_X7_7 (pc := 1) hK hc.1 dX7_newNote_1 ?_
  refine gw_iconst (v := 2) (pc := 4) hK dX7_newNote_4 (by decide) ?_
  refine gw_iald (pc := 5) hK hc.2.1.1 (gk_100 hc.2.1) dX7_newNote_5 hf (fun hf => ?_)
  refine gw_istore_n (L' := [(3, .int (μ (c + 1) (Int32.toNatClampNeg 2))), (0, .ref (gy_a Y c)), (1, .int p1), (2, .int p2)]) (pc := 6) hK dX7_newNote_6 rfl (by decide) rfl ?_
  refine gw_sub (L' := [(0, .ref (gy_a Y c)), (1, .int p1), (2, .int p2), (3, .int (μ (c + 1) (Int32.toNatClampNeg 2)))]) hK [1, 2, 3, 0] rfl (lt_X7_newNote_7 hK c p1 p2 hc _ (fun m12 y13 hf => ?_) gx_F _ _ hf)
  refine gw_aload_n (pc := 61) hK 0 dX7_newNote_61 rfl rfl ?_
  refine gw_iload_n (pc := 62) hK 3 dX7_newNote_62 rfl rfl ?_
  refine gw_iconst (v := 0) (pc := 63) hK dX7_newNote_63 (by decide) ?_
  refine gw_iload_n (pc := 64) hK 1 dX7_newNote_64 rfl rfl ?_
  refine gv_X7_100 (pc := 65) hK hc dX7_newNote_65 (by decide) (Nat.le_of_ble_eq_true rfl) hf (fun _ m15 hf => ?_)
  refine gw_aload_n (pc := 68) hK 0 dX7_newNote_68 rfl rfl ?_
  refine gw_iload_n (pc := 69) hK 3 dX7_newNote_69 rfl rfl ?_
  refine gw_iconst (v := 1) (pc := 70) hK dX7_newNote_70 (by decide) ?_
  refine gw_iload_n (pc := 71) hK 2 dX7_newNote_71 rfl rfl ?_
  refine gv_X7_100 (pc := 72) hK hc dX7_newNote_72 (by decide) (Nat.le_of_ble_eq_true rfl) hf (fun _ m17 hf => ?_)
  refine gw_aload_n (pc := 75) hK 0 dX7_newNote_75 rfl rfl ?_
  refine gw_iload_n (pc := 76) hK 3 dX7_newNote_76 rfl rfl ?_
  refine gw_iconst (v := 2) (pc := 77) hK dX7_newNote_77 (by decide) ?_
  refine gw_iconst (v := 0) (pc := 78) hK dX7_newNote_78 (by decide) ?_
  refine gv_X7_100 (pc := 79) hK hc dX7_newNote_79 (by decide) (Nat.le_of_ble_eq_true rfl) hf (fun _ m19 hf => ?_)
  refine gw_aload_n (pc := 82) hK 0 dX7_newNote_82 rfl rfl ?_
  refine gw_iload_n (pc := 83) hK 3 dX7_newNote_83 rfl rfl ?_
  refine gw_iconst (v := 3) (pc := 84) hK dX7_newNote_84 (by decide) ?_
  refine gw_iconst (v := (-1)) (pc := 85) hK dX7_newNote_85 (by decide) ?_
  refine gv_X7_100 (pc := 86) hK hc dX7_newNote_86 (by decide) (Nat.le_of_ble_eq_true rfl) hf (fun _ m21 hf => ?_)
  refine gw_aload_n (pc := 89) hK 0 dX7_newNote_89 rfl rfl ?_
  refine gw_iload_n (pc := 90) hK 3 dX7_newNote_90 rfl rfl ?_
  refine gw_iconst (v := 4) (pc := 91) hK dX7_newNote_91 (by decide) ?_
  refine gw_iconst (v := 0) (pc := 92) hK dX7_newNote_92 (by decide) ?_
  refine gv_X7_100 (pc := 93) hK hc dX7_newNote_93 (by decide) (Nat.le_of_ble_eq_true rfl) hf (fun _ m23 hf => ?_)
  refine gw_aload_n (pc := 96) hK 0 dX7_newNote_96 rfl rfl ?_
  refine gw_iload_n (pc := 97) hK 3 dX7_newNote_97 rfl rfl ?_
  refine gw_iconst (v := 5) (pc := 98) hK dX7_newNote_98 (by decide) ?_
  refine gw_iconst (v := 0) (pc := 99) hK dX7_newNote_99 (by decide) ?_
  refine gv_X7_100 (pc := 100) hK hc dX7_newNote_100 (by decide) (Nat.le_of_ble_eq_true rfl) hf (fun _ m25 hf => ?_)
  refine gw_aload_n (pc := 103) hK 0 dX7_newNote_103 rfl rfl ?_
  refine gf_X7_7 (pc := 104) hK hc.1 dX7_newNote_104 ?_
  refine gw_iconst (v := 2) (pc := 107) hK dX7_newNote_107 (by decide) ?_
  refine gw_dup2 (pc := 108) hK dX7_newNote_108 rfl rfl ?_
  refine gw_iald (pc := 109) hK hc.2.1.1 (gk_100 hc.2.1) dX7_newNote_109 hf (fun hf => ?_)
  refine gw_iconst (v := 1) (pc := 110) hK dX7_newNote_110 (by decide) ?_
  refine gw_iadd (pc := 111) hK dX7_newNote_111 ?_
  refine gw_iast (pc := 112) hK hc.2.1.1 (gk_100 hc.2.1) dX7_newNote_112 hf (fun hf => ?_)
  refine gw_iload_n (pc := 113) hK 3 dX7_newNote_113 rfl rfl ?_
  exact gw_ret_i (pc := 114) hK dX7_newNote_114 (Option.some.inj hf)
theorem gv_X7_106 {l : Launch} {cc : ByteArray} {nL fr lo : Nat} {ret : Option FieldType} {Y : gx_Y} {Post : Int32 → gx_M → Prop} {K : gx_KT} {pc : Nat} {μ : gx_M} {L : List (Nat × Value)} {st : List Value} {rr : Int32 × gx_M} (h : gx_K l RX7 cc nL fr lo ret Y Post K) {c : Nat} {p1 : Int32} {p2 : Int32} (hc : gk_mod Y c) (d : decode cc pc = .ok (.invokevirtual 106, 3)) (hR : 1 + 1 ≤ fr ∧ 47 ≤ lo) (hst : (st.map fun v => v.category).sum ≤ 8) {k : Int32 → gx_M → Option (Int32 × gx_M)} (hf : gx_b (fn_X7_newNote (gy_k Y) μ c p1 p2) k = some rr) (kk : ∀ (r : Int32) (m : gx_M), k r m = some rr → K m (pc + 3) L (.int r :: st)) : K μ pc L (.int p2 :: .int p1 :: .ref (gy_a Y c) :: st) := by
  obtain ⟨r, m, e, hk⟩ := gx_b_some hf
  exact gw_callV (As := [.int p1, .int p2]) (q := (r, m)) h hc.1 (by decide) rfl (by refine ⟨rfl, by decide, by decide, (show (parseMethodDescriptor yX7_newNote.desc).map (fun d => d.parameters.length) = some 2 by decide +kernel)⟩) kw_ml_RX7_106 kw_im_X7_newNote kw_se_X7_newNote kw_in_RX7 kw_co_X7_newNote hR hst d (ct_X7_newNote l Y μ c p1 p2 (r, m) hc e) (kk r m hk)
def lf_X7_noteAt_2 (kd : Nat → Nat) (c0 : Nat) (q1 : Int32) (k : gx_M → Int32 → Option (Int32 × gx_M)) : Nat → gx_M → Int32 → Option (Int32 × gx_M)
  | 0, _, _ => none
  | n + 1, μ, x2 => (if gx_ix 2 (kd (c0 + 1) - 100) = true then (if μ (c0 + 1) (Int32.toNatClampNeg 2) ≤ x2 then
k μ x2
else
gx_b (fn_X7_has kd μ c0 x2 0) (fun r2 m3 =>
(if r2 = q1 then
some (x2, m3)
else
lf_X7_noteAt_2 kd c0 q1 k n m3 (x2 + 1)))) else none)
def fn_X7_noteAt (kd : Nat → Nat) (μ : gx_M) (c : Nat) (p1 : Int32) : Option (Int32 × gx_M) :=
  lf_X7_noteAt_2 kd c p1 (fun m5 y6 =>
some ((-1), m5)) gx_F μ 0
set_option maxRecDepth 100000 in
set_option maxHeartbeats 4000000 in
theorem lt_X7_noteAt_2 {l : Launch} {Y : gx_Y} {rr : Int32 × gx_M} {K : gx_KT} (hK : gx_K l RX7 cX7_noteAt 3 1 22 (some .int) Y (fun r m => (r, m) = rr) K) (c0 : Nat) (q1 : Int32) (hc0 : gk_mod Y c0) (k : gx_M → Int32 → Option (Int32 × gx_M)) (hx : ∀ (μ : gx_M) (x2 : Int32), k μ x2 = some rr → K μ 30 [(0, .ref (gy_a Y c0)), (1, .int q1), (2, .int x2)] []) :
    ∀ (n : Nat) (μ : gx_M) (x2 : Int32), lf_X7_noteAt_2 (gy_k Y) c0 q1 k n μ x2 = some rr → K μ 2 [(0, .ref (gy_a Y c0)), (1, .int q1), (2, .int x2)] [] := by
  intro n
  induction n with
  | zero =>
    intro μ x2 hf
    exact absurd hf (by simp [lf_X7_noteAt_2])
  | succ n ih =>
    intro μ x2 hf
    rw [lf_X7_noteAt_2] at hf
    refine gw_iload_n (pc := 2) hK 2 dX7_noteAt_2 rfl rfl ?_
    refine gw_aload_n (pc := 3) hK 0 dX7_noteAt_3 rfl rfl ?_
    refine gf_X7_7 (pc := 4) hK hc0.1 dX7_noteAt_4 ?_
    refine gw_iconst (v := 2) (pc := 7) hK dX7_noteAt_7 (by decide) ?_
    refine gw_iald (pc := 8) hK hc0.2.1.1 (gk_100 hc0.2.1) dX7_noteAt_8 hf (fun hf => ?_)
    refine gw_icmp_ge (tgt := 30) (pc := 9) hK dX7_noteAt_9 (by decide) hf (fun cc1 hf => ?_) (fun cc1 hf => ?_)
    ·
      refine gw_sub (L' := [(0, .ref (gy_a Y c0)), (1, .int q1), (2, .int x2)]) hK [0, 1, 2] rfl (hx _ _ hf)
    ·
      refine gw_aload_n (pc := 12) hK 0 dX7_noteAt_12 rfl rfl ?_
      refine gw_iload_n (pc := 13) hK 2 dX7_noteAt_13 rfl rfl ?_
      refine gw_iconst (v := 0) (pc := 14) hK dX7_noteAt_14 (by decide) ?_
      refine gv_X7_81 (pc := 15) hK hc0 dX7_noteAt_15 (by decide) (Nat.le_of_ble_eq_true rfl) hf (fun r2 m3 hf => ?_)
      refine gw_iload_n (pc := 18) hK 1 dX7_noteAt_18 rfl rfl ?_
      refine gw_icmp_ne (tgt := 24) (pc := 19) hK dX7_noteAt_19 (by decide) hf (fun cc4 hf => ?_) (fun cc4 hf => ?_)
      ·
        refine gw_iinc (v := (x2 + 1)) (L' := [(2, .int (x2 + 1)), (0, .ref (gy_a Y c0)), (1, .int q1)]) (pc := 24) hK 2 dX7_noteAt_24 rfl rfl (by decide) rfl ?_
        refine gw_goto (tgt := 2) (pc := 27) hK dX7_noteAt_27 (by decide) ?_
        refine gw_sub (L' := [(0, .ref (gy_a Y c0)), (1, .int q1), (2, .int (x2 + 1))]) hK [1, 2, 0] rfl (ih _ _ hf)
      ·
        refine gw_iload_n (pc := 22) hK 2 dX7_noteAt_22 rfl rfl ?_
        exact gw_ret_i (pc := 23) hK dX7_noteAt_23 (Option.some.inj hf)
set_option maxRecDepth 100000 in
set_option maxHeartbeats 4000000 in
theorem ct_X7_noteAt (l : Launch) (Y : gx_Y) (μ : gx_M) (c : Nat) (p1 : Int32) (rr : Int32 × gx_M) (hc : gk_mod Y c) (hf : fn_X7_noteAt (gy_k Y) μ c p1 = some rr) : gx_Con l yX7_noteAt cX7_noteAt 3 (some .int) 1 22 Y [.ref (gy_a Y c), .int p1] μ rr := by
  refine gx_Con_of (L0 := [(0, .ref (gy_a Y c)), (1, .int p1)]) (by decide) (Nat.le_of_ble_eq_true rfl) rfl (fun K hK => ?_)
  unfold fn_X7_noteAt at hf
  refine gw_iconst (v := 0) (pc := 0) hK dX7_noteAt_0 (by decide) ?_
  refine gw_istore_n (L' := [(2, .int 0), (0, .ref (gy_a Y c)), (1, .int p1)]) (pc := 1) hK dX7_noteAt_1 rfl (by decide) rfl ?_
  refine gw_sub (L' := [(0, .ref (gy_a Y c)), (1, .int p1), (2, .int 0)]) hK [1, 2, 0] rfl (lt_X7_noteAt_2 hK c p1 hc _ (fun m5 y6 hf => ?_) gx_F _ _ hf)
  refine gw_iconst (v := (-1)) (pc := 30) hK dX7_noteAt_30 (by decide) ?_
  exact gw_ret_i (pc := 31) hK dX7_noteAt_31 (Option.some.inj hf)
theorem gv_X7_103 {l : Launch} {cc : ByteArray} {nL fr lo : Nat} {ret : Option FieldType} {Y : gx_Y} {Post : Int32 → gx_M → Prop} {K : gx_KT} {pc : Nat} {μ : gx_M} {L : List (Nat × Value)} {st : List Value} {rr : Int32 × gx_M} (h : gx_K l RX7 cc nL fr lo ret Y Post K) {c : Nat} {p1 : Int32} (hc : gk_mod Y c) (d : decode cc pc = .ok (.invokevirtual 103, 3)) (hR : 1 + 1 ≤ fr ∧ 44 ≤ lo) (hst : (st.map fun v => v.category).sum ≤ 8) {k : Int32 → gx_M → Option (Int32 × gx_M)} (hf : gx_b (fn_X7_noteAt (gy_k Y) μ c p1) k = some rr) (kk : ∀ (r : Int32) (m : gx_M), k r m = some rr → K m (pc + 3) L (.int r :: st)) : K μ pc L (.int p1 :: .ref (gy_a Y c) :: st) := by
  obtain ⟨r, m, e, hk⟩ := gx_b_some hf
  exact gw_callV (As := [.int p1]) (q := (r, m)) h hc.1 (by decide) rfl (by refine ⟨rfl, by decide, by decide, (show (parseMethodDescriptor yX7_noteAt.desc).map (fun d => d.parameters.length) = some 1 by decide +kernel)⟩) kw_ml_RX7_103 kw_im_X7_noteAt kw_se_X7_noteAt kw_in_RX7 kw_co_X7_noteAt hR hst d (ct_X7_noteAt l Y μ c p1 (r, m) hc e) (kk r m hk)
def lf_X7_isTaken_19 (kd : Nat → Nat) (c0 : Nat) (q1 : Int32) (k : gx_M → Int32 → Int32 → Option (Int32 × gx_M)) : Nat → gx_M → Int32 → Int32 → Option (Int32 × gx_M)
  | 0, _, _, _ => none
  | n + 1, μ, x2, x3 => (if q1 ≤ x3 then
k μ x2 x3
else
(if x2 = 0 then
(if gx_ix x3 (kd (c0 + 5) - 100) = true then (if μ (c0 + 5) (Int32.toNatClampNeg x3) = μ c0 7 then
lf_X7_isTaken_19 kd c0 q1 k n μ 1 (x3 + 1)
else
lf_X7_isTaken_19 kd c0 q1 k n μ 0 (x3 + 1)) else none)
else
lf_X7_isTaken_19 kd c0 q1 k n μ 1 (x3 + 1)))
def fn_X7_isTaken (kd : Nat → Nat) (μ : gx_M) (c : Nat) (p1 : Int32) : Option (Int32 × gx_M) :=
  gx_b (fn_X7_noteAt kd μ c (μ c 7)) (fun r1 m2 =>
(if r1 < 0 then
lf_X7_isTaken_19 kd c p1 (fun m7 y8 y9 =>
(if y8 = 0 ∨ y8 = 1 then some (y8, m7) else none)) gx_F m2 0 0
else
lf_X7_isTaken_19 kd c p1 (fun m11 y12 y13 =>
(if y12 = 0 ∨ y12 = 1 then some (y12, m11) else none)) gx_F m2 1 0))
set_option maxRecDepth 100000 in
set_option maxHeartbeats 4000000 in
theorem lt_X7_isTaken_19 {l : Launch} {Y : gx_Y} {rr : Int32 × gx_M} {K : gx_KT} (hK : gx_K l RX7 cX7_isTaken 4 2 44 (some .boolean) Y (fun r m => (r, m) = rr) K) (c0 : Nat) (q1 : Int32) (hc0 : gk_mod Y c0) (k : gx_M → Int32 → Int32 → Option (Int32 × gx_M)) (hx : ∀ (μ : gx_M) (x2 : Int32) (x3 : Int32), k μ x2 x3 = some rr → K μ 53 [(0, .ref (gy_a Y c0)), (1, .int q1), (2, .int x2), (3, .int x3)] []) :
    ∀ (n : Nat) (μ : gx_M) (x2 : Int32) (x3 : Int32), lf_X7_isTaken_19 (gy_k Y) c0 q1 k n μ x2 x3 = some rr → K μ 19 [(0, .ref (gy_a Y c0)), (1, .int q1), (2, .int x2), (3, .int x3)] [] := by
  intro n
  induction n with
  | zero =>
    intro μ x2 x3 hf
    exact absurd hf (by simp [lf_X7_isTaken_19])
  | succ n ih =>
    intro μ x2 x3 hf
    rw [lf_X7_isTaken_19] at hf
    refine gw_iload_n (pc := 19) hK 3 dX7_isTaken_19 rfl rfl ?_
    refine gw_iload_n (pc := 20) hK 1 dX7_isTaken_20 rfl rfl ?_
    refine gw_icmp_ge (tgt := 53) (pc := 21) hK dX7_isTaken_21 (by decide) hf (fun cc4 hf => ?_) (fun cc4 hf => ?_)
    ·
      refine gw_sub (L' := [(0, .ref (gy_a Y c0)), (1, .int q1), (2, .int x2), (3, .int x3)]) hK [0, 1, 2, 3] rfl (hx _ _ _ hf)
    ·
      refine gw_iload_n (pc := 24) hK 2 dX7_isTaken_24 rfl rfl ?_
      refine gw_if_ne (tgt := 41) (pc := 25) hK dX7_isTaken_25 (by decide) hf (fun cc5 hf => ?_) (fun cc5 hf => ?_)
      ·
        refine gw_iconst (v := 1) (pc := 41) hK dX7_isTaken_41 (by decide) ?_
        refine gw_goto (tgt := 46) (pc := 42) hK dX7_isTaken_42 (by decide) ?_
        refine gw_istore_n (L' := [(2, .int 1), (0, .ref (gy_a Y c0)), (1, .int q1), (3, .int x3)]) (pc := 46) hK dX7_isTaken_46 rfl (by decide) rfl ?_
        refine gw_iinc (v := (x3 + 1)) (L' := [(3, .int (x3 + 1)), (2, .int 1), (0, .ref (gy_a Y c0)), (1, .int q1)]) (pc := 47) hK 3 dX7_isTaken_47 rfl rfl (by decide) rfl ?_
        refine gw_goto (tgt := 19) (pc := 50) hK dX7_isTaken_50 (by decide) ?_
        refine gw_sub (L' := [(0, .ref (gy_a Y c0)), (1, .int q1), (2, .int 1), (3, .int (x3 + 1))]) hK [2, 3, 1, 0] rfl (ih _ _ _ hf)
      ·
        refine gw_aload_n (pc := 28) hK 0 dX7_isTaken_28 rfl rfl ?_
        refine gf_X7_22 (pc := 29) hK hc0.1 dX7_isTaken_29 ?_
        refine gw_iload_n (pc := 32) hK 3 dX7_isTaken_32 rfl rfl ?_
        refine gw_iald (pc := 33) hK hc0.2.2.2.2.2.1 (gk_100 hc0.2.2.2.2.2) dX7_isTaken_33 hf (fun hf => ?_)
        refine gw_aload_n (pc := 34) hK 0 dX7_isTaken_34 rfl rfl ?_
        refine gf_X7_149 (pc := 35) hK hc0.1 dX7_isTaken_35 ?_
        refine gw_icmp_ne (tgt := 45) (pc := 38) hK dX7_isTaken_38 (by decide) hf (fun cc6 hf => ?_) (fun cc6 hf => ?_)
        ·
          refine gw_iconst (v := 0) (pc := 45) hK dX7_isTaken_45 (by decide) ?_
          refine gw_istore_n (L' := [(2, .int 0), (0, .ref (gy_a Y c0)), (1, .int q1), (3, .int x3)]) (pc := 46) hK dX7_isTaken_46 rfl (by decide) rfl ?_
          refine gw_iinc (v := (x3 + 1)) (L' := [(3, .int (x3 + 1)), (2, .int 0), (0, .ref (gy_a Y c0)), (1, .int q1)]) (pc := 47) hK 3 dX7_isTaken_47 rfl rfl (by decide) rfl ?_
          refine gw_goto (tgt := 19) (pc := 50) hK dX7_isTaken_50 (by decide) ?_
          refine gw_sub (L' := [(0, .ref (gy_a Y c0)), (1, .int q1), (2, .int 0), (3, .int (x3 + 1))]) hK [2, 3, 1, 0] rfl (ih _ _ _ hf)
        ·
          refine gw_iconst (v := 1) (pc := 41) hK dX7_isTaken_41 (by decide) ?_
          refine gw_goto (tgt := 46) (pc := 42) hK dX7_isTaken_42 (by decide) ?_
          refine gw_istore_n (L' := [(2, .int 1), (0, .ref (gy_a Y c0)), (1, .int q1), (3, .int x3)]) (pc := 46) hK dX7_isTaken_46 rfl (by decide) rfl ?_
          refine gw_iinc (v := (x3 + 1)) (L' := [(3, .int (x3 + 1)), (2, .int 1), (0, .ref (gy_a Y c0)), (1, .int q1)]) (pc := 47) hK 3 dX7_isTaken_47 rfl rfl (by decide) rfl ?_
          refine gw_goto (tgt := 19) (pc := 50) hK dX7_isTaken_50 (by decide) ?_
          refine gw_sub (L' := [(0, .ref (gy_a Y c0)), (1, .int q1), (2, .int 1), (3, .int (x3 + 1))]) hK [2, 3, 1, 0] rfl (ih _ _ _ hf)
set_option maxRecDepth 100000 in
set_option maxHeartbeats 4000000 in
theorem ct_X7_isTaken (l : Launch) (Y : gx_Y) (μ : gx_M) (c : Nat) (p1 : Int32) (rr : Int32 × gx_M) (hc : gk_mod Y c) (hf : fn_X7_isTaken (gy_k Y) μ c p1 = some rr) : gx_Con l yX7_isTaken cX7_isTaken 4 (some .boolean) 2 44 Y [.ref (gy_a Y c), .int p1] μ rr := by
  refine gx_Con_of (L0 := [(0, .ref (gy_a Y c)), (1, .int p1)]) (by decide) (Nat.le_of_ble_eq_true rfl) rfl (fun K hK => ?_)
  unfold fn_X7_isTaken at hf
  refine gw_aload_n (pc := 0) hK 0 dX7_isTaken_0 rfl rfl ?_
  refine gw_aload_n (pc := 1) hK 0 dX7_isTaken_1 rfl rfl ?_
  refine gf_X7_149 (pc := 2) hK hc.1 dX7_isTaken_2 ?_
  refine gv_X7_103 (pc := 5) hK hc dX7_isTaken_5 (by decide) (Nat.le_of_ble_eq_true rfl) hf (fun r1 m2 hf => ?_)
  refine gw_if_lt (tgt := 15) (pc := 8) hK dX7_isTaken_8 (by decide) hf (fun cc3 hf => ?_) (fun cc3 hf => ?_)
  ·
    refine gw_iconst (v := 0) (pc := 15) hK dX7_isTaken_15 (by decide) ?_
    refine gw_istore_n (L' := [(2, .int 0), (0, .ref (gy_a Y c)), (1, .int p1)]) (pc := 16) hK dX7_isTaken_16 rfl (by decide) rfl ?_
    refine gw_iconst (v := 0) (pc := 17) hK dX7_isTaken_17 (by decide) ?_
    refine gw_istore_n (L' := [(3, .int 0), (2, .int 0), (0, .ref (gy_a Y c)), (1, .int p1)]) (pc := 18) hK dX7_isTaken_18 rfl (by decide) rfl ?_
    refine gw_sub (L' := [(0, .ref (gy_a Y c)), (1, .int p1), (2, .int 0), (3, .int 0)]) hK [2, 3, 1, 0] rfl (lt_X7_isTaken_19 hK c p1 hc _ (fun m7 y8 y9 hf => ?_) gx_F _ _ _ hf)
    refine gw_iload_n (pc := 53) hK 2 dX7_isTaken_53 rfl rfl ?_
    obtain ⟨hz10, hf⟩ := gx_must hf
    exact gw_ret_z (pc := 54) hK dX7_isTaken_54 (gx_nar hz10) (Option.some.inj hf)
  ·
    refine gw_iconst (v := 1) (pc := 11) hK dX7_isTaken_11 (by decide) ?_
    refine gw_goto (tgt := 16) (pc := 12) hK dX7_isTaken_12 (by decide) ?_
    refine gw_istore_n (L' := [(2, .int 1), (0, .ref (gy_a Y c)), (1, .int p1)]) (pc := 16) hK dX7_isTaken_16 rfl (by decide) rfl ?_
    refine gw_iconst (v := 0) (pc := 17) hK dX7_isTaken_17 (by decide) ?_
    refine gw_istore_n (L' := [(3, .int 0), (2, .int 1), (0, .ref (gy_a Y c)), (1, .int p1)]) (pc := 18) hK dX7_isTaken_18 rfl (by decide) rfl ?_
    refine gw_sub (L' := [(0, .ref (gy_a Y c)), (1, .int p1), (2, .int 1), (3, .int 0)]) hK [2, 3, 1, 0] rfl (lt_X7_isTaken_19 hK c p1 hc _ (fun m11 y12 y13 hf => ?_) gx_F _ _ _ hf)
    refine gw_iload_n (pc := 53) hK 2 dX7_isTaken_53 rfl rfl ?_
    obtain ⟨hz14, hf⟩ := gx_must hf
    exact gw_ret_z (pc := 54) hK dX7_isTaken_54 (gx_nar hz14) (Option.some.inj hf)
theorem gv_X7_165 {l : Launch} {cc : ByteArray} {nL fr lo : Nat} {ret : Option FieldType} {Y : gx_Y} {Post : Int32 → gx_M → Prop} {K : gx_KT} {pc : Nat} {μ : gx_M} {L : List (Nat × Value)} {st : List Value} {rr : Int32 × gx_M} (h : gx_K l RX7 cc nL fr lo ret Y Post K) {c : Nat} {p1 : Int32} (hc : gk_mod Y c) (d : decode cc pc = .ok (.invokevirtual 165, 3)) (hR : 2 + 1 ≤ fr ∧ 67 ≤ lo) (hst : (st.map fun v => v.category).sum ≤ 8) {k : Int32 → gx_M → Option (Int32 × gx_M)} (hf : gx_b (fn_X7_isTaken (gy_k Y) μ c p1) k = some rr) (kk : ∀ (r : Int32) (m : gx_M), k r m = some rr → K m (pc + 3) L (.int r :: st)) : K μ pc L (.int p1 :: .ref (gy_a Y c) :: st) := by
  obtain ⟨r, m, e, hk⟩ := gx_b_some hf
  exact gw_callV (As := [.int p1]) (q := (r, m)) h hc.1 (by decide) rfl (by refine ⟨rfl, by decide, by decide, (show (parseMethodDescriptor yX7_isTaken.desc).map (fun d => d.parameters.length) = some 1 by decide +kernel)⟩) kw_ml_RX7_165 kw_im_X7_isTaken kw_se_X7_isTaken kw_in_RX7 kw_co_X7_isTaken hR hst d (ct_X7_isTaken l Y μ c p1 (r, m) hc e) (kk r m hk)
def lf_X7_reasonOfText_7 (kd : Nat → Nat) (c0 : Nat) (k : gx_M → Int32 → Option (Int32 × gx_M)) : Nat → gx_M → Int32 → Option (Int32 × gx_M)
  | 0, _, _ => none
  | n + 1, μ, x1 => (if μ c0 5 ≤ μ c0 6 then
k μ x1
else
gx_b (fn_X7_isFormed kd (gx_u μ c0 10 (μ c0 6)) c0) (fun r2 m3 =>
(if r2 = 0 then
some (1, m3)
else
gx_b (fn_X7_in kd m3 (m3 c0 7) 0 3600) (fun r5 m6 =>
(if r5 = 0 then
some (2, m6)
else
gx_b (fn_X7_in kd m6 (m6 c0 8) 0 6000) (fun r8 m9 =>
(if r8 = 0 then
some (2, m9)
else
gx_b (fn_X7_isTaken kd m9 c0 x1) (fun r11 m12 =>
(if r11 = 0 then
(if gx_ix 2 (kd (c0 + 1) - 100) = true then (if (m12 (c0 + 1) (Int32.toNatClampNeg 2) + x1) = 40 then
some (4, m12)
else
(if gx_ix x1 (kd (c0 + 5) - 100) = true then lf_X7_reasonOfText_7 kd c0 k n (gx_u m12 (c0 + 5) (Int32.toNatClampNeg x1) (m12 c0 7)) (x1 + 1) else none)) else none)
else
some (3, m12))))))))))
def fn_X7_reasonOfText (kd : Nat → Nat) (μ : gx_M) (c : Nat) : Option (Int32 × gx_M) :=
  lf_X7_reasonOfText_7 kd c (fun m15 y16 =>
some (0, m15)) gx_F (gx_u μ c 6 0) 0
set_option maxRecDepth 100000 in
set_option maxHeartbeats 4000000 in
theorem lt_X7_reasonOfText_7 {l : Launch} {Y : gx_Y} {rr : Int32 × gx_M} {K : gx_KT} (hK : gx_K l RX7 cX7_reasonOfText 2 3 67 (some .int) Y (fun r m => (r, m) = rr) K) (c0 : Nat) (hc0 : gk_mod Y c0) (k : gx_M → Int32 → Option (Int32 × gx_M)) (hx : ∀ (μ : gx_M) (x1 : Int32), k μ x1 = some rr → K μ 106 [(0, .ref (gy_a Y c0)), (1, .int x1)] []) :
    ∀ (n : Nat) (μ : gx_M) (x1 : Int32), lf_X7_reasonOfText_7 (gy_k Y) c0 k n μ x1 = some rr → K μ 7 [(0, .ref (gy_a Y c0)), (1, .int x1)] [] := by
  intro n
  induction n with
  | zero =>
    intro μ x1 hf
    exact absurd hf (by simp [lf_X7_reasonOfText_7])
  | succ n ih =>
    intro μ x1 hf
    rw [lf_X7_reasonOfText_7] at hf
    refine gw_aload_n (pc := 7) hK 0 dX7_reasonOfText_7 rfl rfl ?_
    refine gf_X7_143 (pc := 8) hK hc0.1 dX7_reasonOfText_8 ?_
    refine gw_aload_n (pc := 11) hK 0 dX7_reasonOfText_11 rfl rfl ?_
    refine gf_X7_90 (pc := 12) hK hc0.1 dX7_reasonOfText_12 ?_
    refine gw_icmp_ge (tgt := 106) (pc := 15) hK dX7_reasonOfText_15 (by decide) hf (fun cc1 hf => ?_) (fun cc1 hf => ?_)
    ·
      refine gw_sub (L' := [(0, .ref (gy_a Y c0)), (1, .int x1)]) hK [0, 1] rfl (hx _ _ hf)
    ·
      refine gw_aload_n (pc := 18) hK 0 dX7_reasonOfText_18 rfl rfl ?_
      refine gw_aload_n (pc := 19) hK 0 dX7_reasonOfText_19 rfl rfl ?_
      refine gf_X7_143 (pc := 20) hK hc0.1 dX7_reasonOfText_20 ?_
      refine gp_X7_158 (pc := 23) hK hc0.1 dX7_reasonOfText_23 ?_
      refine gw_aload_n (pc := 26) hK 0 dX7_reasonOfText_26 rfl rfl ?_
      refine gv_X7_161 (pc := 27) hK hc0 dX7_reasonOfText_27 (by decide) (Nat.le_of_ble_eq_true rfl) hf (fun r2 m3 hf => ?_)
      refine gw_if_ne (tgt := 35) (pc := 30) hK dX7_reasonOfText_30 (by decide) hf (fun cc4 hf => ?_) (fun cc4 hf => ?_)
      ·
        refine gw_aload_n (pc := 35) hK 0 dX7_reasonOfText_35 rfl rfl ?_
        refine gf_X7_149 (pc := 36) hK hc0.1 dX7_reasonOfText_36 ?_
        refine gw_iconst (v := 0) (pc := 39) hK dX7_reasonOfText_39 (by decide) ?_
        refine gw_sipush (v := 3600) (pc := 40) hK dX7_reasonOfText_40 (by decide) ?_
        refine gv_X7_25 (pc := 43) hK dX7_reasonOfText_43 (by decide) (Nat.le_of_ble_eq_true rfl) hf (fun r5 m6 hf => ?_)
        refine gw_if_eq (tgt := 63) (pc := 46) hK dX7_reasonOfText_46 (by decide) hf (fun cc7 hf => ?_) (fun cc7 hf => ?_)
        ·
          refine gw_iconst (v := 2) (pc := 63) hK dX7_reasonOfText_63 (by decide) ?_
          exact gw_ret_i (pc := 64) hK dX7_reasonOfText_64 (Option.some.inj hf)
        ·
          refine gw_aload_n (pc := 49) hK 0 dX7_reasonOfText_49 rfl rfl ?_
          refine gf_X7_155 (pc := 50) hK hc0.1 dX7_reasonOfText_50 ?_
          refine gw_iconst (v := 0) (pc := 53) hK dX7_reasonOfText_53 (by decide) ?_
          refine gw_sipush (v := 6000) (pc := 54) hK dX7_reasonOfText_54 (by decide) ?_
          refine gv_X7_25 (pc := 57) hK dX7_reasonOfText_57 (by decide) (Nat.le_of_ble_eq_true rfl) hf (fun r8 m9 hf => ?_)
          refine gw_if_ne (tgt := 65) (pc := 60) hK dX7_reasonOfText_60 (by decide) hf (fun cc10 hf => ?_) (fun cc10 hf => ?_)
          ·
            refine gw_aload_n (pc := 65) hK 0 dX7_reasonOfText_65 rfl rfl ?_
            refine gw_iload_n (pc := 66) hK 1 dX7_reasonOfText_66 rfl rfl ?_
            refine gv_X7_165 (pc := 67) hK hc0 dX7_reasonOfText_67 (by decide) (Nat.le_of_ble_eq_true rfl) hf (fun r11 m12 hf => ?_)
            refine gw_if_eq (tgt := 75) (pc := 70) hK dX7_reasonOfText_70 (by decide) hf (fun cc13 hf => ?_) (fun cc13 hf => ?_)
            ·
              refine gw_aload_n (pc := 75) hK 0 dX7_reasonOfText_75 rfl rfl ?_
              refine gf_X7_7 (pc := 76) hK hc0.1 dX7_reasonOfText_76 ?_
              refine gw_iconst (v := 2) (pc := 79) hK dX7_reasonOfText_79 (by decide) ?_
              refine gw_iald (pc := 80) hK hc0.2.1.1 (gk_100 hc0.2.1) dX7_reasonOfText_80 hf (fun hf => ?_)
              refine gw_iload_n (pc := 81) hK 1 dX7_reasonOfText_81 rfl rfl ?_
              refine gw_iadd (pc := 82) hK dX7_reasonOfText_82 ?_
              refine gw_bipush (v := 40) (pc := 83) hK dX7_reasonOfText_83 (by decide) ?_
              refine gw_icmp_ne (tgt := 90) (pc := 85) hK dX7_reasonOfText_85 (by decide) hf (fun cc14 hf => ?_) (fun cc14 hf => ?_)
              ·
                refine gw_aload_n (pc := 90) hK 0 dX7_reasonOfText_90 rfl rfl ?_
                refine gf_X7_22 (pc := 91) hK hc0.1 dX7_reasonOfText_91 ?_
                refine gw_iload_n (pc := 94) hK 1 dX7_reasonOfText_94 rfl rfl ?_
                refine gw_aload_n (pc := 95) hK 0 dX7_reasonOfText_95 rfl rfl ?_
                refine gf_X7_149 (pc := 96) hK hc0.1 dX7_reasonOfText_96 ?_
                refine gw_iast (pc := 99) hK hc0.2.2.2.2.2.1 (gk_100 hc0.2.2.2.2.2) dX7_reasonOfText_99 hf (fun hf => ?_)
                refine gw_iinc (v := (x1 + 1)) (L' := [(1, .int (x1 + 1)), (0, .ref (gy_a Y c0))]) (pc := 100) hK 1 dX7_reasonOfText_100 rfl rfl (by decide) rfl ?_
                refine gw_goto (tgt := 7) (pc := 103) hK dX7_reasonOfText_103 (by decide) ?_
                refine gw_sub (L' := [(0, .ref (gy_a Y c0)), (1, .int (x1 + 1))]) hK [1, 0] rfl (ih _ _ hf)
              ·
                refine gw_iconst (v := 4) (pc := 88) hK dX7_reasonOfText_88 (by decide) ?_
                exact gw_ret_i (pc := 89) hK dX7_reasonOfText_89 (Option.some.inj hf)
            ·
              refine gw_iconst (v := 3) (pc := 73) hK dX7_reasonOfText_73 (by decide) ?_
              exact gw_ret_i (pc := 74) hK dX7_reasonOfText_74 (Option.some.inj hf)
          ·
            refine gw_iconst (v := 2) (pc := 63) hK dX7_reasonOfText_63 (by decide) ?_
            exact gw_ret_i (pc := 64) hK dX7_reasonOfText_64 (Option.some.inj hf)
      ·
        refine gw_iconst (v := 1) (pc := 33) hK dX7_reasonOfText_33 (by decide) ?_
        exact gw_ret_i (pc := 34) hK dX7_reasonOfText_34 (Option.some.inj hf)
set_option maxRecDepth 100000 in
set_option maxHeartbeats 4000000 in
theorem ct_X7_reasonOfText (l : Launch) (Y : gx_Y) (μ : gx_M) (c : Nat) (rr : Int32 × gx_M) (hc : gk_mod Y c) (hf : fn_X7_reasonOfText (gy_k Y) μ c = some rr) : gx_Con l yX7_reasonOfText cX7_reasonOfText 2 (some .int) 3 67 Y [.ref (gy_a Y c)] μ rr := by
  refine gx_Con_of (L0 := [(0, .ref (gy_a Y c))]) (by decide) (Nat.le_of_ble_eq_true rfl) rfl (fun K hK => ?_)
  unfold fn_X7_reasonOfText at hf
  refine gw_aload_n (pc := 0) hK 0 dX7_reasonOfText_0 rfl rfl ?_
  refine gw_iconst (v := 0) (pc := 1) hK dX7_reasonOfText_1 (by decide) ?_
  refine gp_X7_143 (pc := 2) hK hc.1 dX7_reasonOfText_2 ?_
  refine gw_iconst (v := 0) (pc := 5) hK dX7_reasonOfText_5 (by decide) ?_
  refine gw_istore_n (L' := [(1, .int 0), (0, .ref (gy_a Y c))]) (pc := 6) hK dX7_reasonOfText_6 rfl (by decide) rfl ?_
  refine gw_sub (L' := [(0, .ref (gy_a Y c)), (1, .int 0)]) hK [1, 0] rfl (lt_X7_reasonOfText_7 hK c hc _ (fun m15 y16 hf => ?_) gx_F _ _ hf)
  refine gw_iconst (v := 0) (pc := 106) hK dX7_reasonOfText_106 (by decide) ?_
  exact gw_ret_i (pc := 107) hK dX7_reasonOfText_107 (Option.some.inj hf)
theorem gv_X7_168 {l : Launch} {cc : ByteArray} {nL fr lo : Nat} {ret : Option FieldType} {Y : gx_Y} {Post : Int32 → gx_M → Prop} {K : gx_KT} {pc : Nat} {μ : gx_M} {L : List (Nat × Value)} {st : List Value} {rr : Int32 × gx_M} (h : gx_K l RX7 cc nL fr lo ret Y Post K) {c : Nat} (hc : gk_mod Y c) (d : decode cc pc = .ok (.invokevirtual 168, 3)) (hR : 3 + 1 ≤ fr ∧ 88 ≤ lo) (hst : (st.map fun v => v.category).sum ≤ 8) {k : Int32 → gx_M → Option (Int32 × gx_M)} (hf : gx_b (fn_X7_reasonOfText (gy_k Y) μ c) k = some rr) (kk : ∀ (r : Int32) (m : gx_M), k r m = some rr → K m (pc + 3) L (.int r :: st)) : K μ pc L (.ref (gy_a Y c) :: st) := by
  obtain ⟨r, m, e, hk⟩ := gx_b_some hf
  exact gw_callV (As := []) (q := (r, m)) h hc.1 (by decide) rfl (by refine ⟨rfl, by decide, by decide, (show (parseMethodDescriptor yX7_reasonOfText.desc).map (fun d => d.parameters.length) = some 0 by decide +kernel)⟩) kw_ml_RX7_168 kw_im_X7_reasonOfText kw_se_X7_reasonOfText kw_in_RX7 kw_co_X7_reasonOfText hR hst d (ct_X7_reasonOfText l Y μ c (r, m) hc e) (kk r m hk)
def lf_X7_enter_21 (kd : Nat → Nat) (c0 : Nat) (k : gx_M → Int32 → Option (Int32 × gx_M)) : Nat → gx_M → Int32 → Option (Int32 × gx_M)
  | 0, _, _ => none
  | n + 1, μ, x1 => (if μ c0 5 ≤ μ c0 6 then
k μ x1
else
gx_b (fn_X7_isFormed kd μ c0) (fun r7 m8 =>
(if r7 = 0 then
k m8 x1
else
gx_b (fn_X7_newNote kd m8 c0 (m8 c0 7) (m8 c0 8)) (fun r10 m11 =>
(if r10 < 0 then
lf_X7_enter_21 kd c0 k n m11 (x1 + 0)
else
lf_X7_enter_21 kd c0 k n m11 (x1 + 1))))))
def fn_X7_enter (kd : Nat → Nat) (μ : gx_M) (c : Nat) : Option (Int32 × gx_M) :=
  gx_b (fn_X7_reasonOfText kd μ c) (fun r1 m2 =>
(if r1 = 0 then
gx_b (fn_X7_records kd m2 c) (fun _ m5 =>
lf_X7_enter_21 kd c (fun m13 y14 =>
some (y14, m13)) gx_F (gx_u m5 c 6 0) 0)
else
some ((-100002), m2)))
set_option maxRecDepth 100000 in
set_option maxHeartbeats 4000000 in
theorem lt_X7_enter_21 {l : Launch} {Y : gx_Y} {rr : Int32 × gx_M} {K : gx_KT} (hK : gx_K l RX7 cX7_enter 3 4 88 (some .int) Y (fun r m => (r, m) = rr) K) (c0 : Nat) (hc0 : gk_mod Y c0) (k : gx_M → Int32 → Option (Int32 × gx_M)) (hx : ∀ (μ : gx_M) (x1 : Int32), k μ x1 = some rr → K μ 67 [(0, .ref (gy_a Y c0)), (1, .int x1)] []) :
    ∀ (n : Nat) (μ : gx_M) (x1 : Int32), lf_X7_enter_21 (gy_k Y) c0 k n μ x1 = some rr → K μ 21 [(0, .ref (gy_a Y c0)), (1, .int x1)] [] := by
  intro n
  induction n with
  | zero =>
    intro μ x1 hf
    exact absurd hf (by simp [lf_X7_enter_21])
  | succ n ih =>
    intro μ x1 hf
    rw [lf_X7_enter_21] at hf
    refine gw_aload_n (pc := 21) hK 0 dX7_enter_21 rfl rfl ?_
    refine gf_X7_143 (pc := 22) hK hc0.1 dX7_enter_22 ?_
    refine gw_aload_n (pc := 25) hK 0 dX7_enter_25 rfl rfl ?_
    refine gf_X7_90 (pc := 26) hK hc0.1 dX7_enter_26 ?_
    refine gw_icmp_ge (tgt := 67) (pc := 29) hK dX7_enter_29 (by decide) hf (fun cc6 hf => ?_) (fun cc6 hf => ?_)
    ·
      refine gw_sub (L' := [(0, .ref (gy_a Y c0)), (1, .int x1)]) hK [0, 1] rfl (hx _ _ hf)
    ·
      refine gw_aload_n (pc := 32) hK 0 dX7_enter_32 rfl rfl ?_
      refine gv_X7_161 (pc := 33) hK hc0 dX7_enter_33 (by decide) (Nat.le_of_ble_eq_true rfl) hf (fun r7 m8 hf => ?_)
      refine gw_if_eq (tgt := 67) (pc := 36) hK dX7_enter_36 (by decide) hf (fun cc9 hf => ?_) (fun cc9 hf => ?_)
      ·
        refine gw_sub (L' := [(0, .ref (gy_a Y c0)), (1, .int x1)]) hK [0, 1] rfl (hx _ _ hf)
      ·
        refine gw_aload_n (pc := 39) hK 0 dX7_enter_39 rfl rfl ?_
        refine gw_aload_n (pc := 40) hK 0 dX7_enter_40 rfl rfl ?_
        refine gf_X7_149 (pc := 41) hK hc0.1 dX7_enter_41 ?_
        refine gw_aload_n (pc := 44) hK 0 dX7_enter_44 rfl rfl ?_
        refine gf_X7_155 (pc := 45) hK hc0.1 dX7_enter_45 ?_
        refine gv_X7_106 (pc := 48) hK hc0 dX7_enter_48 (by decide) (Nat.le_of_ble_eq_true rfl) hf (fun r10 m11 hf => ?_)
        refine gw_istore_n (L' := [(2, .int r10), (0, .ref (gy_a Y c0)), (1, .int x1)]) (pc := 51) hK dX7_enter_51 rfl (by decide) rfl ?_
        refine gw_iload_n (pc := 52) hK 2 dX7_enter_52 rfl rfl ?_
        refine gw_iload_n (pc := 53) hK 0 dX7_enter_53 rfl rfl ?_
        refine gw_if_lt (tgt := 61) (pc := 54) hK dX7_enter_54 (by decide) hf (fun cc12 hf => ?_) (fun cc12 hf => ?_)
        ·
          refine gw_iconst (v := 0) (pc := 61) hK dX7_enter_61 (by decide) ?_
          refine gw_iadd (pc := 62) hK dX7_enter_62 ?_
          refine gw_istore_n (L' := [(1, .int (x1 + 0)), (2, .int r10), (0, .ref (gy_a Y c0))]) (pc := 63) hK dX7_enter_63 rfl (by decide) rfl ?_
          refine gw_goto (tgt := 21) (pc := 64) hK dX7_enter_64 (by decide) ?_
          refine gw_sub (L' := [(0, .ref (gy_a Y c0)), (1, .int (x1 + 0))]) hK [2, 0] rfl (ih _ _ hf)
        ·
          refine gw_iconst (v := 1) (pc := 57) hK dX7_enter_57 (by decide) ?_
          refine gw_goto (tgt := 62) (pc := 58) hK dX7_enter_58 (by decide) ?_
          refine gw_iadd (pc := 62) hK dX7_enter_62 ?_
          refine gw_istore_n (L' := [(1, .int (x1 + 1)), (2, .int r10), (0, .ref (gy_a Y c0))]) (pc := 63) hK dX7_enter_63 rfl (by decide) rfl ?_
          refine gw_goto (tgt := 21) (pc := 64) hK dX7_enter_64 (by decide) ?_
          refine gw_sub (L' := [(0, .ref (gy_a Y c0)), (1, .int (x1 + 1))]) hK [2, 0] rfl (ih _ _ hf)
set_option maxRecDepth 100000 in
set_option maxHeartbeats 4000000 in
theorem ct_X7_enter (l : Launch) (Y : gx_Y) (μ : gx_M) (c : Nat) (rr : Int32 × gx_M) (hc : gk_mod Y c) (hf : fn_X7_enter (gy_k Y) μ c = some rr) : gx_Con l yX7_enter cX7_enter 3 (some .int) 4 88 Y [.ref (gy_a Y c)] μ rr := by
  refine gx_Con_of (L0 := [(0, .ref (gy_a Y c))]) (by decide) (Nat.le_of_ble_eq_true rfl) rfl (fun K hK => ?_)
  unfold fn_X7_enter at hf
  refine gw_aload_n (pc := 0) hK 0 dX7_enter_0 rfl rfl ?_
  refine gv_X7_168 (pc := 1) hK hc dX7_enter_1 (by decide) (Nat.le_of_ble_eq_true rfl) hf (fun r1 m2 hf => ?_)
  refine gw_if_eq (tgt := 10) (pc := 4) hK dX7_enter_4 (by decide) hf (fun cc3 hf => ?_) (fun cc3 hf => ?_)
  ·
    refine gw_aload_n (pc := 10) hK 0 dX7_enter_10 rfl rfl ?_
    refine gv_X7_53 (pc := 11) hK hc dX7_enter_11 (by decide) (Nat.le_of_ble_eq_true rfl) hf (fun _ m5 hf => ?_)
    refine gw_aload_n (pc := 14) hK 0 dX7_enter_14 rfl rfl ?_
    refine gw_iconst (v := 0) (pc := 15) hK dX7_enter_15 (by decide) ?_
    refine gp_X7_143 (pc := 16) hK hc.1 dX7_enter_16 ?_
    refine gw_iconst (v := 0) (pc := 19) hK dX7_enter_19 (by decide) ?_
    refine gw_istore_n (L' := [(1, .int 0), (0, .ref (gy_a Y c))]) (pc := 20) hK dX7_enter_20 rfl (by decide) rfl ?_
    refine gw_sub (L' := [(0, .ref (gy_a Y c)), (1, .int 0)]) hK [1, 0] rfl (lt_X7_enter_21 hK c hc _ (fun m13 y14 hf => ?_) gx_F _ _ hf)
    refine gw_iload_n (pc := 67) hK 1 dX7_enter_67 rfl rfl ?_
    exact gw_ret_i (pc := 68) hK dX7_enter_68 (Option.some.inj hf)
  ·
    refine gw_ldc (pc := 7) hK dX7_enter_7 kw_k_RX7_33 ?_
    exact gw_ret_i (pc := 9) hK dX7_enter_9 (Option.some.inj hf)

def fn_X7_fault (kd : Nat → Nat) (μ : gx_M) (c : Nat) (p1 : Int32) : Option (Int32 × gx_M) :=
  gx_b (fn_X7_in kd μ p1 0 1) (fun r1 m2 =>
(if r1 = 0 then
some ((-100001), m2)
else
gx_b (fn_X7_reasonOfText kd m2 c) (fun r4 m5 =>
(if r4 = 0 then
some ((-100004), m5)
else
(if p1 = 0 then
some (m5 c 10, m5)
else
some (r4, m5))))))
set_option maxRecDepth 100000 in
set_option maxHeartbeats 4000000 in
theorem ct_X7_fault (l : Launch) (Y : gx_Y) (μ : gx_M) (c : Nat) (p1 : Int32) (rr : Int32 × gx_M) (hc : gk_mod Y c) (hf : fn_X7_fault (gy_k Y) μ c p1 = some rr) : gx_Con l yX7_fault cX7_fault 3 (some .int) 4 88 Y [.ref (gy_a Y c), .int p1] μ rr := by
  refine gx_Con_of (L0 := [(0, .ref (gy_a Y c)), (1, .int p1)]) (by decide) (Nat.le_of_ble_eq_true rfl) rfl (fun K hK => ?_)
  unfold fn_X7_fault at hf
  refine gw_iload_n (pc := 0) hK 1 dX7_fault_0 rfl rfl ?_
  refine gw_iconst (v := 0) (pc := 1) hK dX7_fault_1 (by decide) ?_
  refine gw_iconst (v := 1) (pc := 2) hK dX7_fault_2 (by decide) ?_
  refine gv_X7_25 (pc := 3) hK dX7_fault_3 (by decide) (Nat.le_of_ble_eq_true rfl) hf (fun r1 m2 hf => ?_)
  refine gw_if_ne (tgt := 12) (pc := 6) hK dX7_fault_6 (by decide) hf (fun cc3 hf => ?_) (fun cc3 hf => ?_)
  ·
    refine gw_aload_n (pc := 12) hK 0 dX7_fault_12 rfl rfl ?_
    refine gv_X7_168 (pc := 13) hK hc dX7_fault_13 (by decide) (Nat.le_of_ble_eq_true rfl) hf (fun r4 m5 hf => ?_)
    refine gw_istore_n (L' := [(2, .int r4), (0, .ref (gy_a Y c)), (1, .int p1)]) (pc := 16) hK dX7_fault_16 rfl (by decide) rfl ?_
    refine gw_iload_n (pc := 17) hK 0 dX7_fault_17 rfl rfl ?_
    refine gw_if_ne (tgt := 26) (pc := 18) hK dX7_fault_18 (by decide) hf (fun cc6 hf => ?_) (fun cc6 hf => ?_)
    ·
      refine gw_iload_n (pc := 26) hK 2 dX7_fault_26 rfl rfl ?_
      refine gw_if_ne (tgt := 37) (pc := 27) hK dX7_fault_27 (by decide) hf (fun cc7 hf => ?_) (fun cc7 hf => ?_)
      ·
        refine gw_iload_n (pc := 37) hK 0 dX7_fault_37 rfl rfl ?_
        exact gw_ret_i (pc := 38) hK dX7_fault_38 (Option.some.inj hf)
      ·
        refine gw_aload_n (pc := 30) hK 1 dX7_fault_30 rfl rfl ?_
        refine gf_X7_158 (pc := 31) hK hc.1 dX7_fault_31 ?_
        refine gw_goto (tgt := 38) (pc := 34) hK dX7_fault_34 (by decide) ?_
        exact gw_ret_i (pc := 38) hK dX7_fault_38 (Option.some.inj hf)
    ·
      refine gw_ldc (pc := 21) hK dX7_fault_21 kw_k_RX7_70 ?_
      refine gw_goto (tgt := 38) (pc := 23) hK dX7_fault_23 (by decide) ?_
      exact gw_ret_i (pc := 38) hK dX7_fault_38 (Option.some.inj hf)
  ·
    refine gw_ldc (pc := 9) hK dX7_fault_9 kw_k_RX7_51 ?_
    exact gw_ret_i (pc := 11) hK dX7_fault_11 (Option.some.inj hf)

def lf_X7_fills_2 (kd : Nat → Nat) (c0 : Nat) (k : gx_M → Int32 → Option (Int32 × gx_M)) : Nat → gx_M → Int32 → Option (Int32 × gx_M)
  | 0, _, _ => none
  | n + 1, μ, x1 => (if gx_ix 1 (kd (c0 + 1) - 100) = true then (if μ (c0 + 1) (Int32.toNatClampNeg 1) ≤ x1 then
k μ x1
else
gx_b (fn_X7_of kd μ c0 x1 2) (fun r2 m3 =>
gx_b (fn_X7_of kd m3 c0 x1 3) (fun r4 m5 =>
(if r4 ≤ r2 then
lf_X7_fills_2 kd c0 k n m5 (x1 + 1)
else
gx_b (fn_X7_of kd m5 c0 x1 3) (fun r7 m8 =>
gx_b (fn_X7_of kd m8 c0 x1 2) (fun r9 m10 =>
gx_b (fn_X7_comes kd m10 c0 x1 (r7 - r9)) (fun _ m12 =>
lf_X7_fills_2 kd c0 k n m12 (x1 + 1)))))))) else none)
def fn_X7_fills (kd : Nat → Nat) (μ : gx_M) (c : Nat) : Option (Int32 × gx_M) :=
  lf_X7_fills_2 kd c (fun m13 y14 =>
some (0, m13)) gx_F μ 0
set_option maxRecDepth 100000 in
set_option maxHeartbeats 4000000 in
theorem lt_X7_fills_2 {l : Launch} {Y : gx_Y} {rr : Int32 × gx_M} {K : gx_KT} (hK : gx_K l RX7 cX7_fills 2 3 68 none Y (fun r m => (r, m) = rr) K) (c0 : Nat) (hc0 : gk_mod Y c0) (k : gx_M → Int32 → Option (Int32 × gx_M)) (hx : ∀ (μ : gx_M) (x1 : Int32), k μ x1 = some rr → K μ 51 [(0, .ref (gy_a Y c0)), (1, .int x1)] []) :
    ∀ (n : Nat) (μ : gx_M) (x1 : Int32), lf_X7_fills_2 (gy_k Y) c0 k n μ x1 = some rr → K μ 2 [(0, .ref (gy_a Y c0)), (1, .int x1)] [] := by
  intro n
  induction n with
  | zero =>
    intro μ x1 hf
    exact absurd hf (by simp [lf_X7_fills_2])
  | succ n ih =>
    intro μ x1 hf
    rw [lf_X7_fills_2] at hf
    refine gw_iload_n (pc := 2) hK 1 dX7_fills_2 rfl rfl ?_
    refine gw_aload_n (pc := 3) hK 0 dX7_fills_3 rfl rfl ?_
    refine gf_X7_7 (pc := 4) hK hc0.1 dX7_fills_4 ?_
    refine gw_iconst (v := 1) (pc := 7) hK dX7_fills_7 (by decide) ?_
    refine gw_iald (pc := 8) hK hc0.2.1.1 (gk_100 hc0.2.1) dX7_fills_8 hf (fun hf => ?_)
    refine gw_icmp_ge (tgt := 51) (pc := 9) hK dX7_fills_9 (by decide) hf (fun cc1 hf => ?_) (fun cc1 hf => ?_)
    ·
      refine gw_sub (L' := [(0, .ref (gy_a Y c0)), (1, .int x1)]) hK [0, 1] rfl (hx _ _ hf)
    ·
      refine gw_aload_n (pc := 12) hK 0 dX7_fills_12 rfl rfl ?_
      refine gw_iload_n (pc := 13) hK 1 dX7_fills_13 rfl rfl ?_
      refine gw_iconst (v := 2) (pc := 14) hK dX7_fills_14 (by decide) ?_
      refine gv_X7_34 (pc := 15) hK hc0 dX7_fills_15 (by decide) (Nat.le_of_ble_eq_true rfl) hf (fun r2 m3 hf => ?_)
      refine gw_aload_n (pc := 18) hK 0 dX7_fills_18 rfl rfl ?_
      refine gw_iload_n (pc := 19) hK 1 dX7_fills_19 rfl rfl ?_
      refine gw_iconst (v := 3) (pc := 20) hK dX7_fills_20 (by decide) ?_
      refine gv_X7_34 (pc := 21) hK hc0 dX7_fills_21 (by decide) (Nat.le_of_ble_eq_true rfl) hf (fun r4 m5 hf => ?_)
      refine gw_icmp_ge (tgt := 45) (pc := 24) hK dX7_fills_24 (by decide) hf (fun cc6 hf => ?_) (fun cc6 hf => ?_)
      ·
        refine gw_iinc (v := (x1 + 1)) (L' := [(1, .int (x1 + 1)), (0, .ref (gy_a Y c0))]) (pc := 45) hK 1 dX7_fills_45 rfl rfl (by decide) rfl ?_
        refine gw_goto (tgt := 2) (pc := 48) hK dX7_fills_48 (by decide) ?_
        refine gw_sub (L' := [(0, .ref (gy_a Y c0)), (1, .int (x1 + 1))]) hK [1, 0] rfl (ih _ _ hf)
      ·
        refine gw_aload_n (pc := 27) hK 0 dX7_fills_27 rfl rfl ?_
        refine gw_iload_n (pc := 28) hK 1 dX7_fills_28 rfl rfl ?_
        refine gw_aload_n (pc := 29) hK 0 dX7_fills_29 rfl rfl ?_
        refine gw_iload_n (pc := 30) hK 1 dX7_fills_30 rfl rfl ?_
        refine gw_iconst (v := 3) (pc := 31) hK dX7_fills_31 (by decide) ?_
        refine gv_X7_34 (pc := 32) hK hc0 dX7_fills_32 (by decide) (Nat.le_of_ble_eq_true rfl) hf (fun r7 m8 hf => ?_)
        refine gw_aload_n (pc := 35) hK 0 dX7_fills_35 rfl rfl ?_
        refine gw_iload_n (pc := 36) hK 1 dX7_fills_36 rfl rfl ?_
        refine gw_iconst (v := 2) (pc := 37) hK dX7_fills_37 (by decide) ?_
        refine gv_X7_34 (pc := 38) hK hc0 dX7_fills_38 (by decide) (Nat.le_of_ble_eq_true rfl) hf (fun r9 m10 hf => ?_)
        refine gw_isub (pc := 41) hK dX7_fills_41 ?_
        refine gv_X7_60 (pc := 42) hK hc0 dX7_fills_42 (by decide) (Nat.le_of_ble_eq_true rfl) hf (fun _ m12 hf => ?_)
        refine gw_iinc (v := (x1 + 1)) (L' := [(1, .int (x1 + 1)), (0, .ref (gy_a Y c0))]) (pc := 45) hK 1 dX7_fills_45 rfl rfl (by decide) rfl ?_
        refine gw_goto (tgt := 2) (pc := 48) hK dX7_fills_48 (by decide) ?_
        refine gw_sub (L' := [(0, .ref (gy_a Y c0)), (1, .int (x1 + 1))]) hK [1, 0] rfl (ih _ _ hf)
set_option maxRecDepth 100000 in
set_option maxHeartbeats 4000000 in
theorem ct_X7_fills (l : Launch) (Y : gx_Y) (μ : gx_M) (c : Nat) (rr : Int32 × gx_M) (hc : gk_mod Y c) (hf : fn_X7_fills (gy_k Y) μ c = some rr) : gx_Con l yX7_fills cX7_fills 2 none 3 68 Y [.ref (gy_a Y c)] μ rr := by
  refine gx_Con_of (L0 := [(0, .ref (gy_a Y c))]) (by decide) (Nat.le_of_ble_eq_true rfl) rfl (fun K hK => ?_)
  unfold fn_X7_fills at hf
  refine gw_iconst (v := 0) (pc := 0) hK dX7_fills_0 (by decide) ?_
  refine gw_istore_n (L' := [(1, .int 0), (0, .ref (gy_a Y c))]) (pc := 1) hK dX7_fills_1 rfl (by decide) rfl ?_
  refine gw_sub (L' := [(0, .ref (gy_a Y c)), (1, .int 0)]) hK [1, 0] rfl (lt_X7_fills_2 hK c hc _ (fun m13 y14 hf => ?_) gx_F _ _ hf)
  exact gw_ret_v (pc := 51) hK dX7_fills_51 (Option.some.inj hf)
theorem gv_X7_112 {l : Launch} {cc : ByteArray} {nL fr lo : Nat} {ret : Option FieldType} {Y : gx_Y} {Post : Int32 → gx_M → Prop} {K : gx_KT} {pc : Nat} {μ : gx_M} {L : List (Nat × Value)} {st : List Value} {rr : Int32 × gx_M} (h : gx_K l RX7 cc nL fr lo ret Y Post K) {c : Nat} (hc : gk_mod Y c) (d : decode cc pc = .ok (.invokevirtual 112, 3)) (hR : 3 + 1 ≤ fr ∧ 89 ≤ lo) (hst : (st.map fun v => v.category).sum ≤ 8) {k : Int32 → gx_M → Option (Int32 × gx_M)} (hf : gx_b (fn_X7_fills (gy_k Y) μ c) k = some rr) (kk : ∀ (r : Int32) (m : gx_M), k r m = some rr → K m (pc + 3) L (st)) : K μ pc L (.ref (gy_a Y c) :: st) := by
  obtain ⟨r, m, e, hk⟩ := gx_b_some hf
  exact gw_callV (As := []) (q := (r, m)) h hc.1 (by decide) rfl (by refine ⟨rfl, by decide, by decide, (show (parseMethodDescriptor yX7_fills.desc).map (fun d => d.parameters.length) = some 0 by decide +kernel)⟩) kw_ml_RX7_112 kw_im_X7_fills kw_se_X7_fills kw_in_RX7 kw_co_X7_fills hR hst d (ct_X7_fills l Y μ c (r, m) hc e) (kk r m hk)
def lf_X7_laysAside_2 (kd : Nat → Nat) (c0 : Nat) (k : gx_M → Int32 → Option (Int32 × gx_M)) : Nat → gx_M → Int32 → Option (Int32 × gx_M)
  | 0, _, _ => none
  | n + 1, μ, x1 => (if 301 ≤ x1 then
k μ x1
else
(if gx_ix x1 (kd (c0 + 1) - 100) = true then (if gx_ix x1 (kd (c0 + 3) - 100) = true then lf_X7_laysAside_2 kd c0 k n (gx_u μ (c0 + 3) (Int32.toNatClampNeg x1) (μ (c0 + 1) (Int32.toNatClampNeg x1))) (x1 + 1) else none) else none))
def fn_X7_laysAside (kd : Nat → Nat) (μ : gx_M) (c : Nat) : Option (Int32 × gx_M) :=
  lf_X7_laysAside_2 kd c (fun m2 y3 =>
some (0, m2)) gx_F μ 0
set_option maxRecDepth 100000 in
set_option maxHeartbeats 4000000 in
theorem lt_X7_laysAside_2 {l : Launch} {Y : gx_Y} {rr : Int32 × gx_M} {K : gx_KT} (hK : gx_K l RX7 cX7_laysAside 2 0 0 none Y (fun r m => (r, m) = rr) K) (c0 : Nat) (hc0 : gk_mod Y c0) (k : gx_M → Int32 → Option (Int32 × gx_M)) (hx : ∀ (μ : gx_M) (x1 : Int32), k μ x1 = some rr → K μ 27 [(0, .ref (gy_a Y c0)), (1, .int x1)] []) :
    ∀ (n : Nat) (μ : gx_M) (x1 : Int32), lf_X7_laysAside_2 (gy_k Y) c0 k n μ x1 = some rr → K μ 2 [(0, .ref (gy_a Y c0)), (1, .int x1)] [] := by
  intro n
  induction n with
  | zero =>
    intro μ x1 hf
    exact absurd hf (by simp [lf_X7_laysAside_2])
  | succ n ih =>
    intro μ x1 hf
    rw [lf_X7_laysAside_2] at hf
    refine gw_iload_n (pc := 2) hK 1 dX7_laysAside_2 rfl rfl ?_
    refine gw_sipush (v := 301) (pc := 3) hK dX7_laysAside_3 (by decide) ?_
    refine gw_icmp_ge (tgt := 27) (pc := 6) hK dX7_laysAside_6 (by decide) hf (fun cc1 hf => ?_) (fun cc1 hf => ?_)
    ·
      refine gw_sub (L' := [(0, .ref (gy_a Y c0)), (1, .int x1)]) hK [0, 1] rfl (hx _ _ hf)
    ·
      refine gw_aload_n (pc := 9) hK 0 dX7_laysAside_9 rfl rfl ?_
      refine gf_X7_16 (pc := 10) hK hc0.1 dX7_laysAside_10 ?_
      refine gw_iload_n (pc := 13) hK 1 dX7_laysAside_13 rfl rfl ?_
      refine gw_aload_n (pc := 14) hK 0 dX7_laysAside_14 rfl rfl ?_
      refine gf_X7_7 (pc := 15) hK hc0.1 dX7_laysAside_15 ?_
      refine gw_iload_n (pc := 18) hK 1 dX7_laysAside_18 rfl rfl ?_
      refine gw_iald (pc := 19) hK hc0.2.1.1 (gk_100 hc0.2.1) dX7_laysAside_19 hf (fun hf => ?_)
      refine gw_iast (pc := 20) hK hc0.2.2.2.1.1 (gk_100 hc0.2.2.2.1) dX7_laysAside_20 hf (fun hf => ?_)
      refine gw_iinc (v := (x1 + 1)) (L' := [(1, .int (x1 + 1)), (0, .ref (gy_a Y c0))]) (pc := 21) hK 1 dX7_laysAside_21 rfl rfl (by decide) rfl ?_
      refine gw_goto (tgt := 2) (pc := 24) hK dX7_laysAside_24 (by decide) ?_
      refine gw_sub (L' := [(0, .ref (gy_a Y c0)), (1, .int (x1 + 1))]) hK [1, 0] rfl (ih _ _ hf)
set_option maxRecDepth 100000 in
set_option maxHeartbeats 4000000 in
theorem ct_X7_laysAside (l : Launch) (Y : gx_Y) (μ : gx_M) (c : Nat) (rr : Int32 × gx_M) (hc : gk_mod Y c) (hf : fn_X7_laysAside (gy_k Y) μ c = some rr) : gx_Con l yX7_laysAside cX7_laysAside 2 none 0 0 Y [.ref (gy_a Y c)] μ rr := by
  refine gx_Con_of (L0 := [(0, .ref (gy_a Y c))]) (by decide) (Nat.le_of_ble_eq_true rfl) rfl (fun K hK => ?_)
  unfold fn_X7_laysAside at hf
  refine gw_iconst (v := 0) (pc := 0) hK dX7_laysAside_0 (by decide) ?_
  refine gw_istore_n (L' := [(1, .int 0), (0, .ref (gy_a Y c))]) (pc := 1) hK dX7_laysAside_1 rfl (by decide) rfl ?_
  refine gw_sub (L' := [(0, .ref (gy_a Y c)), (1, .int 0)]) hK [1, 0] rfl (lt_X7_laysAside_2 hK c hc _ (fun m2 y3 hf => ?_) gx_F _ _ hf)
  exact gw_ret_v (pc := 27) hK dX7_laysAside_27 (Option.some.inj hf)
theorem gv_X7_134 {l : Launch} {cc : ByteArray} {nL fr lo : Nat} {ret : Option FieldType} {Y : gx_Y} {Post : Int32 → gx_M → Prop} {K : gx_KT} {pc : Nat} {μ : gx_M} {L : List (Nat × Value)} {st : List Value} {rr : Int32 × gx_M} (h : gx_K l RX7 cc nL fr lo ret Y Post K) {c : Nat} (hc : gk_mod Y c) (d : decode cc pc = .ok (.invokevirtual 134, 3)) (hR : 0 + 1 ≤ fr ∧ 21 ≤ lo) (hst : (st.map fun v => v.category).sum ≤ 8) {k : Int32 → gx_M → Option (Int32 × gx_M)} (hf : gx_b (fn_X7_laysAside (gy_k Y) μ c) k = some rr) (kk : ∀ (r : Int32) (m : gx_M), k r m = some rr → K m (pc + 3) L (st)) : K μ pc L (.ref (gy_a Y c) :: st) := by
  obtain ⟨r, m, e, hk⟩ := gx_b_some hf
  exact gw_callV (As := []) (q := (r, m)) h hc.1 (by decide) rfl (by refine ⟨rfl, by decide, by decide, (show (parseMethodDescriptor yX7_laysAside.desc).map (fun d => d.parameters.length) = some 0 by decide +kernel)⟩) kw_ml_RX7_134 kw_im_X7_laysAside kw_se_X7_laysAside kw_in_RX7 kw_co_X7_laysAside hR hst d (ct_X7_laysAside l Y μ c (r, m) hc e) (kk r m hk)
def fn_X7_size (kd : Nat → Nat) (μ : gx_M) (p0 : Int32) : Option (Int32 × gx_M) :=
  (if 0 ≤ p0 then
some (p0, μ)
else
some ((-p0), μ))
set_option maxRecDepth 100000 in
set_option maxHeartbeats 4000000 in
theorem ct_X7_size (l : Launch) (Y : gx_Y) (μ : gx_M) (p0 : Int32) (rr : Int32 × gx_M) (hf : fn_X7_size (gy_k Y) μ p0 = some rr) : gx_Con l yX7_size cX7_size 1 (some .int) 0 0 Y [.int p0] μ rr := by
  refine gx_Con_of (L0 := [(0, .int p0)]) (by decide) (Nat.le_of_ble_eq_true rfl) rfl (fun K hK => ?_)
  unfold fn_X7_size at hf
  refine gw_iload_n (pc := 0) hK 0 dX7_size_0 rfl rfl ?_
  refine gw_if_ge (tgt := 9) (pc := 1) hK dX7_size_1 (by decide) hf (fun cc1 hf => ?_) (fun cc1 hf => ?_)
  ·
    refine gw_iload_n (pc := 9) hK 0 dX7_size_9 rfl rfl ?_
    exact gw_ret_i (pc := 10) hK dX7_size_10 (Option.some.inj hf)
  ·
    refine gw_iload_n (pc := 4) hK 0 dX7_size_4 rfl rfl ?_
    refine gw_ineg (pc := 5) hK dX7_size_5 ?_
    refine gw_goto (tgt := 10) (pc := 6) hK dX7_size_6 (by decide) ?_
    exact gw_ret_i (pc := 10) hK dX7_size_10 (Option.some.inj hf)
theorem gv_X7_67 {l : Launch} {cc : ByteArray} {nL fr lo : Nat} {ret : Option FieldType} {Y : gx_Y} {Post : Int32 → gx_M → Prop} {K : gx_KT} {pc : Nat} {μ : gx_M} {L : List (Nat × Value)} {st : List Value} {rr : Int32 × gx_M} (h : gx_K l RX7 cc nL fr lo ret Y Post K) {p0 : Int32} (d : decode cc pc = .ok (.invokestatic 67, 3)) (hR : 0 + 1 ≤ fr ∧ 20 ≤ lo) (hst : (st.map fun v => v.category).sum ≤ 8) {k : Int32 → gx_M → Option (Int32 × gx_M)} (hf : gx_b (fn_X7_size (gy_k Y) μ p0) k = some rr) (kk : ∀ (r : Int32) (m : gx_M), k r m = some rr → K m (pc + 3) L (.int r :: st)) : K μ pc L (.int p0 :: st) := by
  obtain ⟨r, m, e, hk⟩ := gx_b_some hf
  exact gw_callS (As := [.int p0]) (q := (r, m)) h (by refine ⟨rfl, by decide, by decide, (show (parseMethodDescriptor yX7_size.desc).map (fun d => d.parameters.length) = some 1 by decide +kernel)⟩) kw_ml_RX7_67 kw_st_X7_size kw_in_RX7 kw_co_X7_size hR hst d (ct_X7_size l Y μ p0 (r, m)  e) (kk r m hk)
def lf_X7_sounds_4 (kd : Nat → Nat) (c0 : Nat) (q1 : Int32) (k : gx_M → Int32 → Int32 → Option (Int32 × gx_M)) : Nat → gx_M → Int32 → Int32 → Option (Int32 × gx_M)
  | 0, _, _, _ => none
  | n + 1, μ, x2, x3 => (if gx_ix 1 (kd (c0 + 1) - 100) = true then (if μ (c0 + 1) (Int32.toNatClampNeg 1) ≤ x3 then
k μ x2 x3
else
(if x2 = (-1) then
lf_X7_sounds_4 kd c0 q1 k n μ x3 (x3 + 1)
else
gx_b (fn_X7_pitch kd μ c0 x3) (fun r3 m4 =>
gx_b (fn_X7_size kd m4 (r3 - q1)) (fun r5 m6 =>
gx_b (fn_X7_pitch kd m6 c0 x2) (fun r7 m8 =>
gx_b (fn_X7_size kd m8 (r7 - q1)) (fun r9 m10 =>
(if r9 ≤ r5 then
lf_X7_sounds_4 kd c0 q1 k n m10 x2 (x3 + 1)
else
lf_X7_sounds_4 kd c0 q1 k n m10 x3 (x3 + 1)))))))) else none)
def fn_X7_sounds (kd : Nat → Nat) (μ : gx_M) (c : Nat) (p1 : Int32) : Option (Int32 × gx_M) :=
  lf_X7_sounds_4 kd c p1 (fun m12 y13 y14 =>
some (y13, m12)) gx_F μ (-1) 0
set_option maxRecDepth 100000 in
set_option maxHeartbeats 4000000 in
theorem lt_X7_sounds_4 {l : Launch} {Y : gx_Y} {rr : Int32 × gx_M} {K : gx_KT} (hK : gx_K l RX7 cX7_sounds 4 3 65 (some .int) Y (fun r m => (r, m) = rr) K) (c0 : Nat) (q1 : Int32) (hc0 : gk_mod Y c0) (k : gx_M → Int32 → Int32 → Option (Int32 × gx_M)) (hx : ∀ (μ : gx_M) (x2 : Int32) (x3 : Int32), k μ x2 x3 = some rr → K μ 54 [(0, .ref (gy_a Y c0)), (1, .int q1), (2, .int x2), (3, .int x3)] []) :
    ∀ (n : Nat) (μ : gx_M) (x2 : Int32) (x3 : Int32), lf_X7_sounds_4 (gy_k Y) c0 q1 k n μ x2 x3 = some rr → K μ 4 [(0, .ref (gy_a Y c0)), (1, .int q1), (2, .int x2), (3, .int x3)] [] := by
  intro n
  induction n with
  | zero =>
    intro μ x2 x3 hf
    exact absurd hf (by simp [lf_X7_sounds_4])
  | succ n ih =>
    intro μ x2 x3 hf
    rw [lf_X7_sounds_4] at hf
    refine gw_iload_n (pc := 4) hK 3 dX7_sounds_4 rfl rfl ?_
    refine gw_aload_n (pc := 5) hK 0 dX7_sounds_5 rfl rfl ?_
    refine gf_X7_7 (pc := 6) hK hc0.1 dX7_sounds_6 ?_
    refine gw_iconst (v := 1) (pc := 9) hK dX7_sounds_9 (by decide) ?_
    refine gw_iald (pc := 10) hK hc0.2.1.1 (gk_100 hc0.2.1) dX7_sounds_10 hf (fun hf => ?_)
    refine gw_icmp_ge (tgt := 54) (pc := 11) hK dX7_sounds_11 (by decide) hf (fun cc1 hf => ?_) (fun cc1 hf => ?_)
    ·
      refine gw_sub (L' := [(0, .ref (gy_a Y c0)), (1, .int q1), (2, .int x2), (3, .int x3)]) hK [0, 1, 2, 3] rfl (hx _ _ _ hf)
    ·
      refine gw_iload_n (pc := 14) hK 2 dX7_sounds_14 rfl rfl ?_
      refine gw_iconst (v := (-1)) (pc := 15) hK dX7_sounds_15 (by decide) ?_
      refine gw_icmp_eq (tgt := 42) (pc := 16) hK dX7_sounds_16 (by decide) hf (fun cc2 hf => ?_) (fun cc2 hf => ?_)
      ·
        refine gw_iload_n (pc := 42) hK 3 dX7_sounds_42 rfl rfl ?_
        refine gw_goto (tgt := 47) (pc := 43) hK dX7_sounds_43 (by decide) ?_
        refine gw_istore_n (L' := [(2, .int x3), (0, .ref (gy_a Y c0)), (1, .int q1), (3, .int x3)]) (pc := 47) hK dX7_sounds_47 rfl (by decide) rfl ?_
        refine gw_iinc (v := (x3 + 1)) (L' := [(3, .int (x3 + 1)), (2, .int x3), (0, .ref (gy_a Y c0)), (1, .int q1)]) (pc := 48) hK 3 dX7_sounds_48 rfl rfl (by decide) rfl ?_
        refine gw_goto (tgt := 4) (pc := 51) hK dX7_sounds_51 (by decide) ?_
        refine gw_sub (L' := [(0, .ref (gy_a Y c0)), (1, .int q1), (2, .int x3), (3, .int (x3 + 1))]) hK [2, 3, 1, 0] rfl (ih _ _ _ hf)
      ·
        refine gw_aload_n (pc := 19) hK 0 dX7_sounds_19 rfl rfl ?_
        refine gw_iload_n (pc := 20) hK 3 dX7_sounds_20 rfl rfl ?_
        refine gv_X7_64 (pc := 21) hK hc0 dX7_sounds_21 (by decide) (Nat.le_of_ble_eq_true rfl) hf (fun r3 m4 hf => ?_)
        refine gw_iload_n (pc := 24) hK 1 dX7_sounds_24 rfl rfl ?_
        refine gw_isub (pc := 25) hK dX7_sounds_25 ?_
        refine gv_X7_67 (pc := 26) hK dX7_sounds_26 (by decide) (Nat.le_of_ble_eq_true rfl) hf (fun r5 m6 hf => ?_)
        refine gw_aload_n (pc := 29) hK 0 dX7_sounds_29 rfl rfl ?_
        refine gw_iload_n (pc := 30) hK 2 dX7_sounds_30 rfl rfl ?_
        refine gv_X7_64 (pc := 31) hK hc0 dX7_sounds_31 (by decide) (Nat.le_of_ble_eq_true rfl) hf (fun r7 m8 hf => ?_)
        refine gw_iload_n (pc := 34) hK 1 dX7_sounds_34 rfl rfl ?_
        refine gw_isub (pc := 35) hK dX7_sounds_35 ?_
        refine gv_X7_67 (pc := 36) hK dX7_sounds_36 (by decide) (Nat.le_of_ble_eq_true rfl) hf (fun r9 m10 hf => ?_)
        refine gw_icmp_ge (tgt := 46) (pc := 39) hK dX7_sounds_39 (by decide) hf (fun cc11 hf => ?_) (fun cc11 hf => ?_)
        ·
          refine gw_iload_n (pc := 46) hK 2 dX7_sounds_46 rfl rfl ?_
          refine gw_istore_n (L' := [(2, .int x2), (0, .ref (gy_a Y c0)), (1, .int q1), (3, .int x3)]) (pc := 47) hK dX7_sounds_47 rfl (by decide) rfl ?_
          refine gw_iinc (v := (x3 + 1)) (L' := [(3, .int (x3 + 1)), (2, .int x2), (0, .ref (gy_a Y c0)), (1, .int q1)]) (pc := 48) hK 3 dX7_sounds_48 rfl rfl (by decide) rfl ?_
          refine gw_goto (tgt := 4) (pc := 51) hK dX7_sounds_51 (by decide) ?_
          refine gw_sub (L' := [(0, .ref (gy_a Y c0)), (1, .int q1), (2, .int x2), (3, .int (x3 + 1))]) hK [2, 3, 1, 0] rfl (ih _ _ _ hf)
        ·
          refine gw_iload_n (pc := 42) hK 3 dX7_sounds_42 rfl rfl ?_
          refine gw_goto (tgt := 47) (pc := 43) hK dX7_sounds_43 (by decide) ?_
          refine gw_istore_n (L' := [(2, .int x3), (0, .ref (gy_a Y c0)), (1, .int q1), (3, .int x3)]) (pc := 47) hK dX7_sounds_47 rfl (by decide) rfl ?_
          refine gw_iinc (v := (x3 + 1)) (L' := [(3, .int (x3 + 1)), (2, .int x3), (0, .ref (gy_a Y c0)), (1, .int q1)]) (pc := 48) hK 3 dX7_sounds_48 rfl rfl (by decide) rfl ?_
          refine gw_goto (tgt := 4) (pc := 51) hK dX7_sounds_51 (by decide) ?_
          refine gw_sub (L' := [(0, .ref (gy_a Y c0)), (1, .int q1), (2, .int x3), (3, .int (x3 + 1))]) hK [2, 3, 1, 0] rfl (ih _ _ _ hf)
set_option maxRecDepth 100000 in
set_option maxHeartbeats 4000000 in
theorem ct_X7_sounds (l : Launch) (Y : gx_Y) (μ : gx_M) (c : Nat) (p1 : Int32) (rr : Int32 × gx_M) (hc : gk_mod Y c) (hf : fn_X7_sounds (gy_k Y) μ c p1 = some rr) : gx_Con l yX7_sounds cX7_sounds 4 (some .int) 3 65 Y [.ref (gy_a Y c), .int p1] μ rr := by
  refine gx_Con_of (L0 := [(0, .ref (gy_a Y c)), (1, .int p1)]) (by decide) (Nat.le_of_ble_eq_true rfl) rfl (fun K hK => ?_)
  unfold fn_X7_sounds at hf
  refine gw_iconst (v := (-1)) (pc := 0) hK dX7_sounds_0 (by decide) ?_
  refine gw_istore_n (L' := [(2, .int (-1)), (0, .ref (gy_a Y c)), (1, .int p1)]) (pc := 1) hK dX7_sounds_1 rfl (by decide) rfl ?_
  refine gw_iconst (v := 0) (pc := 2) hK dX7_sounds_2 (by decide) ?_
  refine gw_istore_n (L' := [(3, .int 0), (2, .int (-1)), (0, .ref (gy_a Y c)), (1, .int p1)]) (pc := 3) hK dX7_sounds_3 rfl (by decide) rfl ?_
  refine gw_sub (L' := [(0, .ref (gy_a Y c)), (1, .int p1), (2, .int (-1)), (3, .int 0)]) hK [2, 3, 1, 0] rfl (lt_X7_sounds_4 hK c p1 hc _ (fun m12 y13 y14 hf => ?_) gx_F _ _ _ hf)
  refine gw_iload_n (pc := 54) hK 2 dX7_sounds_54 rfl rfl ?_
  exact gw_ret_i (pc := 55) hK dX7_sounds_55 (Option.some.inj hf)
theorem gv_X7_71 {l : Launch} {cc : ByteArray} {nL fr lo : Nat} {ret : Option FieldType} {Y : gx_Y} {Post : Int32 → gx_M → Prop} {K : gx_KT} {pc : Nat} {μ : gx_M} {L : List (Nat × Value)} {st : List Value} {rr : Int32 × gx_M} (h : gx_K l RX7 cc nL fr lo ret Y Post K) {c : Nat} {p1 : Int32} (hc : gk_mod Y c) (d : decode cc pc = .ok (.invokevirtual 71, 3)) (hR : 3 + 1 ≤ fr ∧ 88 ≤ lo) (hst : (st.map fun v => v.category).sum ≤ 8) {k : Int32 → gx_M → Option (Int32 × gx_M)} (hf : gx_b (fn_X7_sounds (gy_k Y) μ c p1) k = some rr) (kk : ∀ (r : Int32) (m : gx_M), k r m = some rr → K m (pc + 3) L (.int r :: st)) : K μ pc L (.int p1 :: .ref (gy_a Y c) :: st) := by
  obtain ⟨r, m, e, hk⟩ := gx_b_some hf
  exact gw_callV (As := [.int p1]) (q := (r, m)) h hc.1 (by decide) rfl (by refine ⟨rfl, by decide, by decide, (show (parseMethodDescriptor yX7_sounds.desc).map (fun d => d.parameters.length) = some 1 by decide +kernel)⟩) kw_ml_RX7_71 kw_im_X7_sounds kw_se_X7_sounds kw_in_RX7 kw_co_X7_sounds hR hst d (ct_X7_sounds l Y μ c p1 (r, m) hc e) (kk r m hk)
def fn_X7_plays (kd : Nat → Nat) (μ : gx_M) (c : Nat) (p1 : Int32) : Option (Int32 × gx_M) :=
  gx_b (fn_X7_setting kd μ c 3) (fun r1 m2 =>
(if r1 = 1 then
gx_b (fn_X7_begins kd m2 c p1) (fun r49 m50 =>
(if r49 = 0 then
gx_b (fn_X7_has kd m50 c p1 1) (fun r52 m53 =>
gx_b (fn_X7_sounds kd m53 c r52) (fun r54 m55 =>
(if r54 = (-1) then
gx_b (fn_X7_lay kd m55 c p1 2 1) (fun _ m80 =>
gx_b (fn_X7_lay kd m80 c p1 3 r54) (fun _ m82 =>
gx_b (fn_X7_lay kd m82 c p1 4 0) (fun _ m84 =>
(if r54 = (-1) then
gx_b (fn_X7_lay kd m84 c p1 5 0) (fun _ m87 =>
some (0, m87))
else
gx_b (fn_X7_size kd m84 0) (fun r88 m89 =>
gx_b (fn_X7_setting kd m89 c 2) (fun r90 m91 =>
(if r90 < r88 then
gx_b (fn_X7_lay kd m91 c p1 5 0) (fun _ m94 =>
some (0, m94))
else
gx_b (fn_X7_lay kd m91 c p1 5 1) (fun _ m96 =>
some (0, m96)))))))))
else
gx_b (fn_X7_pitch kd m55 c r54) (fun r57 m58 =>
gx_b (fn_X7_has kd m58 c p1 1) (fun r59 m60 =>
gx_b (fn_X7_lay kd m60 c p1 2 1) (fun _ m62 =>
gx_b (fn_X7_lay kd m62 c p1 3 r54) (fun _ m64 =>
gx_b (fn_X7_lay kd m64 c p1 4 (r57 - r59)) (fun _ m66 =>
(if r54 = (-1) then
gx_b (fn_X7_lay kd m66 c p1 5 0) (fun _ m69 =>
some (0, m69))
else
gx_b (fn_X7_size kd m66 (r57 - r59)) (fun r70 m71 =>
gx_b (fn_X7_setting kd m71 c 2) (fun r72 m73 =>
(if r72 < r70 then
gx_b (fn_X7_lay kd m73 c p1 5 0) (fun _ m76 =>
some (0, m76))
else
gx_b (fn_X7_lay kd m73 c p1 5 1) (fun _ m78 =>
some (0, m78))))))))))))))
else
gx_b (fn_X7_fills kd m50 c) (fun _ m98 =>
gx_b (fn_X7_has kd m98 c p1 1) (fun r99 m100 =>
gx_b (fn_X7_sounds kd m100 c r99) (fun r101 m102 =>
(if r101 = (-1) then
gx_b (fn_X7_lay kd m102 c p1 2 1) (fun _ m127 =>
gx_b (fn_X7_lay kd m127 c p1 3 r101) (fun _ m129 =>
gx_b (fn_X7_lay kd m129 c p1 4 0) (fun _ m131 =>
(if r101 = (-1) then
gx_b (fn_X7_lay kd m131 c p1 5 0) (fun _ m134 =>
some (0, m134))
else
gx_b (fn_X7_size kd m131 0) (fun r135 m136 =>
gx_b (fn_X7_setting kd m136 c 2) (fun r137 m138 =>
(if r137 < r135 then
gx_b (fn_X7_lay kd m138 c p1 5 0) (fun _ m141 =>
some (0, m141))
else
gx_b (fn_X7_lay kd m138 c p1 5 1) (fun _ m143 =>
some (0, m143)))))))))
else
gx_b (fn_X7_pitch kd m102 c r101) (fun r104 m105 =>
gx_b (fn_X7_has kd m105 c p1 1) (fun r106 m107 =>
gx_b (fn_X7_lay kd m107 c p1 2 1) (fun _ m109 =>
gx_b (fn_X7_lay kd m109 c p1 3 r101) (fun _ m111 =>
gx_b (fn_X7_lay kd m111 c p1 4 (r104 - r106)) (fun _ m113 =>
(if r101 = (-1) then
gx_b (fn_X7_lay kd m113 c p1 5 0) (fun _ m116 =>
some (0, m116))
else
gx_b (fn_X7_size kd m113 (r104 - r106)) (fun r117 m118 =>
gx_b (fn_X7_setting kd m118 c 2) (fun r119 m120 =>
(if r119 < r117 then
gx_b (fn_X7_lay kd m120 c p1 5 0) (fun _ m123 =>
some (0, m123))
else
gx_b (fn_X7_lay kd m120 c p1 5 1) (fun _ m125 =>
some (0, m125)))))))))))))))))
else
gx_b (fn_X7_has kd m2 c p1 1) (fun r4 m5 =>
gx_b (fn_X7_sounds kd m5 c r4) (fun r6 m7 =>
(if r6 = (-1) then
gx_b (fn_X7_lay kd m7 c p1 2 1) (fun _ m32 =>
gx_b (fn_X7_lay kd m32 c p1 3 r6) (fun _ m34 =>
gx_b (fn_X7_lay kd m34 c p1 4 0) (fun _ m36 =>
(if r6 = (-1) then
gx_b (fn_X7_lay kd m36 c p1 5 0) (fun _ m39 =>
some (0, m39))
else
gx_b (fn_X7_size kd m36 0) (fun r40 m41 =>
gx_b (fn_X7_setting kd m41 c 2) (fun r42 m43 =>
(if r42 < r40 then
gx_b (fn_X7_lay kd m43 c p1 5 0) (fun _ m46 =>
some (0, m46))
else
gx_b (fn_X7_lay kd m43 c p1 5 1) (fun _ m48 =>
some (0, m48)))))))))
else
gx_b (fn_X7_pitch kd m7 c r6) (fun r9 m10 =>
gx_b (fn_X7_has kd m10 c p1 1) (fun r11 m12 =>
gx_b (fn_X7_lay kd m12 c p1 2 1) (fun _ m14 =>
gx_b (fn_X7_lay kd m14 c p1 3 r6) (fun _ m16 =>
gx_b (fn_X7_lay kd m16 c p1 4 (r9 - r11)) (fun _ m18 =>
(if r6 = (-1) then
gx_b (fn_X7_lay kd m18 c p1 5 0) (fun _ m21 =>
some (0, m21))
else
gx_b (fn_X7_size kd m18 (r9 - r11)) (fun r22 m23 =>
gx_b (fn_X7_setting kd m23 c 2) (fun r24 m25 =>
(if r24 < r22 then
gx_b (fn_X7_lay kd m25 c p1 5 0) (fun _ m28 =>
some (0, m28))
else
gx_b (fn_X7_lay kd m25 c p1 5 1) (fun _ m30 =>
some (0, m30))))))))))))))))
set_option maxRecDepth 100000 in
set_option maxHeartbeats 4000000 in
theorem ct_X7_plays (l : Launch) (Y : gx_Y) (μ : gx_M) (c : Nat) (p1 : Int32) (rr : Int32 × gx_M) (hc : gk_mod Y c) (hf : fn_X7_plays (gy_k Y) μ c p1 = some rr) : gx_Con l yX7_plays cX7_plays 4 none 4 89 Y [.ref (gy_a Y c), .int p1] μ rr := by
  refine gx_Con_of (L0 := [(0, .ref (gy_a Y c)), (1, .int p1)]) (by decide) (Nat.le_of_ble_eq_true rfl) rfl (fun K hK => ?_)
  unfold fn_X7_plays at hf
  refine gw_aload_n (pc := 0) hK 0 dX7_plays_0 rfl rfl ?_
  refine gw_iconst (v := 3) (pc := 1) hK dX7_plays_1 (by decide) ?_
  refine gv_X7_78 (pc := 2) hK hc dX7_plays_2 (by decide) (Nat.le_of_ble_eq_true rfl) hf (fun r1 m2 hf => ?_)
  refine gw_iconst (v := 1) (pc := 5) hK dX7_plays_5 (by decide) ?_
  refine gw_icmp_ne (tgt := 21) (pc := 6) hK dX7_plays_6 (by decide) hf (fun cc3 hf => ?_) (fun cc3 hf => ?_)
  ·
    refine gw_aload_n (pc := 21) hK 0 dX7_plays_21 rfl rfl ?_
    refine gw_aload_n (pc := 22) hK 0 dX7_plays_22 rfl rfl ?_
    refine gw_iload_n (pc := 23) hK 1 dX7_plays_23 rfl rfl ?_
    refine gw_iconst (v := 1) (pc := 24) hK dX7_plays_24 (by decide) ?_
    refine gv_X7_81 (pc := 25) hK hc dX7_plays_25 (by decide) (Nat.le_of_ble_eq_true rfl) hf (fun r4 m5 hf => ?_)
    refine gv_X7_71 (pc := 28) hK hc dX7_plays_28 (by decide) (Nat.le_of_ble_eq_true rfl) hf (fun r6 m7 hf => ?_)
    refine gw_istore_n (L' := [(2, .int r6), (0, .ref (gy_a Y c)), (1, .int p1)]) (pc := 31) hK dX7_plays_31 rfl (by decide) rfl ?_
    refine gw_iload_n (pc := 32) hK 0 dX7_plays_32 rfl rfl ?_
    refine gw_iconst (v := (-1)) (pc := 33) hK dX7_plays_33 (by decide) ?_
    refine gw_icmp_ne (tgt := 41) (pc := 34) hK dX7_plays_34 (by decide) hf (fun cc8 hf => ?_) (fun cc8 hf => ?_)
    ·
      refine gw_aload_n (pc := 41) hK 1 dX7_plays_41 rfl rfl ?_
      refine gw_iload_n (pc := 42) hK 0 dX7_plays_42 rfl rfl ?_
      refine gv_X7_64 (pc := 43) hK hc dX7_plays_43 (by decide) (Nat.le_of_ble_eq_true rfl) hf (fun r9 m10 hf => ?_)
      refine gw_aload_n (pc := 46) hK 1 dX7_plays_46 rfl rfl ?_
      refine gw_iload_n (pc := 47) hK 2 dX7_plays_47 rfl rfl ?_
      refine gw_iconst (v := 1) (pc := 48) hK dX7_plays_48 (by decide) ?_
      refine gv_X7_81 (pc := 49) hK hc dX7_plays_49 (by decide) (Nat.le_of_ble_eq_true rfl) hf (fun r11 m12 hf => ?_)
      refine gw_isub (pc := 52) hK dX7_plays_52 ?_
      refine gw_istore_n (L' := [(3, .int (r9 - r11)), (2, .int r6), (0, .ref (gy_a Y c)), (1, .int p1)]) (pc := 53) hK dX7_plays_53 rfl (by decide) rfl ?_
      refine gw_aload_n (pc := 54) hK 2 dX7_plays_54 rfl rfl ?_
      refine gw_iload_n (pc := 55) hK 3 dX7_plays_55 rfl rfl ?_
      refine gw_iconst (v := 2) (pc := 56) hK dX7_plays_56 (by decide) ?_
      refine gw_iconst (v := 1) (pc := 57) hK dX7_plays_57 (by decide) ?_
      refine gv_X7_100 (pc := 58) hK hc dX7_plays_58 (by decide) (Nat.le_of_ble_eq_true rfl) hf (fun _ m14 hf => ?_)
      refine gw_aload_n (pc := 61) hK 2 dX7_plays_61 rfl rfl ?_
      refine gw_iload_n (pc := 62) hK 3 dX7_plays_62 rfl rfl ?_
      refine gw_iconst (v := 3) (pc := 63) hK dX7_plays_63 (by decide) ?_
      refine gw_iload_n (pc := 64) hK 1 dX7_plays_64 rfl rfl ?_
      refine gv_X7_100 (pc := 65) hK hc dX7_plays_65 (by decide) (Nat.le_of_ble_eq_true rfl) hf (fun _ m16 hf => ?_)
      refine gw_aload_n (pc := 68) hK 2 dX7_plays_68 rfl rfl ?_
      refine gw_iload_n (pc := 69) hK 3 dX7_plays_69 rfl rfl ?_
      refine gw_iconst (v := 4) (pc := 70) hK dX7_plays_70 (by decide) ?_
      refine gw_iload_n (pc := 71) hK 0 dX7_plays_71 rfl rfl ?_
      refine gv_X7_100 (pc := 72) hK hc dX7_plays_72 (by decide) (Nat.le_of_ble_eq_true rfl) hf (fun _ m18 hf => ?_)
      refine gw_aload_n (pc := 75) hK 2 dX7_plays_75 rfl rfl ?_
      refine gw_iload_n (pc := 76) hK 3 dX7_plays_76 rfl rfl ?_
      refine gw_iconst (v := 5) (pc := 77) hK dX7_plays_77 (by decide) ?_
      refine gw_iload_n (pc := 78) hK 1 dX7_plays_78 rfl rfl ?_
      refine gw_iconst (v := (-1)) (pc := 79) hK dX7_plays_79 (by decide) ?_
      refine gw_icmp_eq (tgt := 99) (pc := 80) hK dX7_plays_80 (by decide) hf (fun cc19 hf => ?_) (fun cc19 hf => ?_)
      ·
        refine gw_iconst (v := 0) (pc := 99) hK dX7_plays_99 (by decide) ?_
        refine gv_X7_100 (pc := 100) hK hc dX7_plays_100 (by decide) (Nat.le_of_ble_eq_true rfl) hf (fun _ m21 hf => ?_)
        exact gw_ret_v (pc := 103) hK dX7_plays_103 (Option.some.inj hf)
      ·
        refine gw_iload_n (pc := 83) hK 0 dX7_plays_83 rfl rfl ?_
        refine gv_X7_67 (pc := 84) hK dX7_plays_84 (by decide) (Nat.le_of_ble_eq_true rfl) hf (fun r22 m23 hf => ?_)
        refine gw_aload_n (pc := 87) hK 2 dX7_plays_87 rfl rfl ?_
        refine gw_iconst (v := 2) (pc := 88) hK dX7_plays_88 (by decide) ?_
        refine gv_X7_78 (pc := 89) hK hc dX7_plays_89 (by decide) (Nat.le_of_ble_eq_true rfl) hf (fun r24 m25 hf => ?_)
        refine gw_icmp_gt (tgt := 99) (pc := 92) hK dX7_plays_92 (by decide) hf (fun cc26 hf => ?_) (fun cc26 hf => ?_)
        ·
          refine gw_iconst (v := 0) (pc := 99) hK dX7_plays_99 (by decide) ?_
          refine gv_X7_100 (pc := 100) hK hc dX7_plays_100 (by decide) (Nat.le_of_ble_eq_true rfl) hf (fun _ m28 hf => ?_)
          exact gw_ret_v (pc := 103) hK dX7_plays_103 (Option.some.inj hf)
        ·
          refine gw_iconst (v := 1) (pc := 95) hK dX7_plays_95 (by decide) ?_
          refine gw_goto (tgt := 100) (pc := 96) hK dX7_plays_96 (by decide) ?_
          refine gv_X7_100 (pc := 100) hK hc dX7_plays_100 (by decide) (Nat.le_of_ble_eq_true rfl) hf (fun _ m30 hf => ?_)
          exact gw_ret_v (pc := 103) hK dX7_plays_103 (Option.some.inj hf)
    ·
      refine gw_iconst (v := 0) (pc := 37) hK dX7_plays_37 (by decide) ?_
      refine gw_goto (tgt := 53) (pc := 38) hK dX7_plays_38 (by decide) ?_
      refine gw_istore_n (L' := [(3, .int 0), (2, .int r6), (0, .ref (gy_a Y c)), (1, .int p1)]) (pc := 53) hK dX7_plays_53 rfl (by decide) rfl ?_
      refine gw_aload_n (pc := 54) hK 2 dX7_plays_54 rfl rfl ?_
      refine gw_iload_n (pc := 55) hK 3 dX7_plays_55 rfl rfl ?_
      refine gw_iconst (v := 2) (pc := 56) hK dX7_plays_56 (by decide) ?_
      refine gw_iconst (v := 1) (pc := 57) hK dX7_plays_57 (by decide) ?_
      refine gv_X7_100 (pc := 58) hK hc dX7_plays_58 (by decide) (Nat.le_of_ble_eq_true rfl) hf (fun _ m32 hf => ?_)
      refine gw_aload_n (pc := 61) hK 2 dX7_plays_61 rfl rfl ?_
      refine gw_iload_n (pc := 62) hK 3 dX7_plays_62 rfl rfl ?_
      refine gw_iconst (v := 3) (pc := 63) hK dX7_plays_63 (by decide) ?_
      refine gw_iload_n (pc := 64) hK 1 dX7_plays_64 rfl rfl ?_
      refine gv_X7_100 (pc := 65) hK hc dX7_plays_65 (by decide) (Nat.le_of_ble_eq_true rfl) hf (fun _ m34 hf => ?_)
      refine gw_aload_n (pc := 68) hK 2 dX7_plays_68 rfl rfl ?_
      refine gw_iload_n (pc := 69) hK 3 dX7_plays_69 rfl rfl ?_
      refine gw_iconst (v := 4) (pc := 70) hK dX7_plays_70 (by decide) ?_
      refine gw_iload_n (pc := 71) hK 0 dX7_plays_71 rfl rfl ?_
      refine gv_X7_100 (pc := 72) hK hc dX7_plays_72 (by decide) (Nat.le_of_ble_eq_true rfl) hf (fun _ m36 hf => ?_)
      refine gw_aload_n (pc := 75) hK 2 dX7_plays_75 rfl rfl ?_
      refine gw_iload_n (pc := 76) hK 3 dX7_plays_76 rfl rfl ?_
      refine gw_iconst (v := 5) (pc := 77) hK dX7_plays_77 (by decide) ?_
      refine gw_iload_n (pc := 78) hK 1 dX7_plays_78 rfl rfl ?_
      refine gw_iconst (v := (-1)) (pc := 79) hK dX7_plays_79 (by decide) ?_
      refine gw_icmp_eq (tgt := 99) (pc := 80) hK dX7_plays_80 (by decide) hf (fun cc37 hf => ?_) (fun cc37 hf => ?_)
      ·
        refine gw_iconst (v := 0) (pc := 99) hK dX7_plays_99 (by decide) ?_
        refine gv_X7_100 (pc := 100) hK hc dX7_plays_100 (by decide) (Nat.le_of_ble_eq_true rfl) hf (fun _ m39 hf => ?_)
        exact gw_ret_v (pc := 103) hK dX7_plays_103 (Option.some.inj hf)
      ·
        refine gw_iload_n (pc := 83) hK 0 dX7_plays_83 rfl rfl ?_
        refine gv_X7_67 (pc := 84) hK dX7_plays_84 (by decide) (Nat.le_of_ble_eq_true rfl) hf (fun r40 m41 hf => ?_)
        refine gw_aload_n (pc := 87) hK 2 dX7_plays_87 rfl rfl ?_
        refine gw_iconst (v := 2) (pc := 88) hK dX7_plays_88 (by decide) ?_
        refine gv_X7_78 (pc := 89) hK hc dX7_plays_89 (by decide) (Nat.le_of_ble_eq_true rfl) hf (fun r42 m43 hf => ?_)
        refine gw_icmp_gt (tgt := 99) (pc := 92) hK dX7_plays_92 (by decide) hf (fun cc44 hf => ?_) (fun cc44 hf => ?_)
        ·
          refine gw_iconst (v := 0) (pc := 99) hK dX7_plays_99 (by decide) ?_
          refine gv_X7_100 (pc := 100) hK hc dX7_plays_100 (by decide) (Nat.le_of_ble_eq_true rfl) hf (fun _ m46 hf => ?_)
          exact gw_ret_v (pc := 103) hK dX7_plays_103 (Option.some.inj hf)
        ·
          refine gw_iconst (v := 1) (pc := 95) hK dX7_plays_95 (by decide) ?_
          refine gw_goto (tgt := 100) (pc := 96) hK dX7_plays_96 (by decide) ?_
          refine gv_X7_100 (pc := 100) hK hc dX7_plays_100 (by decide) (Nat.le_of_ble_eq_true rfl) hf (fun _ m48 hf => ?_)
          exact gw_ret_v (pc := 103) hK dX7_plays_103 (Option.some.inj hf)
  ·
    refine gw_aload_n (pc := 9) hK 0 dX7_plays_9 rfl rfl ?_
    refine gw_iload_n (pc := 10) hK 1 dX7_plays_10 rfl rfl ?_
    refine gv_X7_97 (pc := 11) hK hc dX7_plays_11 (by decide) (Nat.le_of_ble_eq_true rfl) hf (fun r49 m50 hf => ?_)
    refine gw_if_eq (tgt := 21) (pc := 14) hK dX7_plays_14 (by decide) hf (fun cc51 hf => ?_) (fun cc51 hf => ?_)
    ·
      refine gw_aload_n (pc := 21) hK 0 dX7_plays_21 rfl rfl ?_
      refine gw_aload_n (pc := 22) hK 0 dX7_plays_22 rfl rfl ?_
      refine gw_iload_n (pc := 23) hK 1 dX7_plays_23 rfl rfl ?_
      refine gw_iconst (v := 1) (pc := 24) hK dX7_plays_24 (by decide) ?_
      refine gv_X7_81 (pc := 25) hK hc dX7_plays_25 (by decide) (Nat.le_of_ble_eq_true rfl) hf (fun r52 m53 hf => ?_)
      refine gv_X7_71 (pc := 28) hK hc dX7_plays_28 (by decide) (Nat.le_of_ble_eq_true rfl) hf (fun r54 m55 hf => ?_)
      refine gw_istore_n (L' := [(2, .int r54), (0, .ref (gy_a Y c)), (1, .int p1)]) (pc := 31) hK dX7_plays_31 rfl (by decide) rfl ?_
      refine gw_iload_n (pc := 32) hK 0 dX7_plays_32 rfl rfl ?_
      refine gw_iconst (v := (-1)) (pc := 33) hK dX7_plays_33 (by decide) ?_
      refine gw_icmp_ne (tgt := 41) (pc := 34) hK dX7_plays_34 (by decide) hf (fun cc56 hf => ?_) (fun cc56 hf => ?_)
      ·
        refine gw_aload_n (pc := 41) hK 1 dX7_plays_41 rfl rfl ?_
        refine gw_iload_n (pc := 42) hK 0 dX7_plays_42 rfl rfl ?_
        refine gv_X7_64 (pc := 43) hK hc dX7_plays_43 (by decide) (Nat.le_of_ble_eq_true rfl) hf (fun r57 m58 hf => ?_)
        refine gw_aload_n (pc := 46) hK 1 dX7_plays_46 rfl rfl ?_
        refine gw_iload_n (pc := 47) hK 2 dX7_plays_47 rfl rfl ?_
        refine gw_iconst (v := 1) (pc := 48) hK dX7_plays_48 (by decide) ?_
        refine gv_X7_81 (pc := 49) hK hc dX7_plays_49 (by decide) (Nat.le_of_ble_eq_true rfl) hf (fun r59 m60 hf => ?_)
        refine gw_isub (pc := 52) hK dX7_plays_52 ?_
        refine gw_istore_n (L' := [(3, .int (r57 - r59)), (2, .int r54), (0, .ref (gy_a Y c)), (1, .int p1)]) (pc := 53) hK dX7_plays_53 rfl (by decide) rfl ?_
        refine gw_aload_n (pc := 54) hK 2 dX7_plays_54 rfl rfl ?_
        refine gw_iload_n (pc := 55) hK 3 dX7_plays_55 rfl rfl ?_
        refine gw_iconst (v := 2) (pc := 56) hK dX7_plays_56 (by decide) ?_
        refine gw_iconst (v := 1) (pc := 57) hK dX7_plays_57 (by decide) ?_
        refine gv_X7_100 (pc := 58) hK hc dX7_plays_58 (by decide) (Nat.le_of_ble_eq_true rfl) hf (fun _ m62 hf => ?_)
        refine gw_aload_n (pc := 61) hK 2 dX7_plays_61 rfl rfl ?_
        refine gw_iload_n (pc := 62) hK 3 dX7_plays_62 rfl rfl ?_
        refine gw_iconst (v := 3) (pc := 63) hK dX7_plays_63 (by decide) ?_
        refine gw_iload_n (pc := 64) hK 1 dX7_plays_64 rfl rfl ?_
        refine gv_X7_100 (pc := 65) hK hc dX7_plays_65 (by decide) (Nat.le_of_ble_eq_true rfl) hf (fun _ m64 hf => ?_)
        refine gw_aload_n (pc := 68) hK 2 dX7_plays_68 rfl rfl ?_
        refine gw_iload_n (pc := 69) hK 3 dX7_plays_69 rfl rfl ?_
        refine gw_iconst (v := 4) (pc := 70) hK dX7_plays_70 (by decide) ?_
        refine gw_iload_n (pc := 71) hK 0 dX7_plays_71 rfl rfl ?_
        refine gv_X7_100 (pc := 72) hK hc dX7_plays_72 (by decide) (Nat.le_of_ble_eq_true rfl) hf (fun _ m66 hf => ?_)
        refine gw_aload_n (pc := 75) hK 2 dX7_plays_75 rfl rfl ?_
        refine gw_iload_n (pc := 76) hK 3 dX7_plays_76 rfl rfl ?_
        refine gw_iconst (v := 5) (pc := 77) hK dX7_plays_77 (by decide) ?_
        refine gw_iload_n (pc := 78) hK 1 dX7_plays_78 rfl rfl ?_
        refine gw_iconst (v := (-1)) (pc := 79) hK dX7_plays_79 (by decide) ?_
        refine gw_icmp_eq (tgt := 99) (pc := 80) hK dX7_plays_80 (by decide) hf (fun cc67 hf => ?_) (fun cc67 hf => ?_)
        ·
          refine gw_iconst (v := 0) (pc := 99) hK dX7_plays_99 (by decide) ?_
          refine gv_X7_100 (pc := 100) hK hc dX7_plays_100 (by decide) (Nat.le_of_ble_eq_true rfl) hf (fun _ m69 hf => ?_)
          exact gw_ret_v (pc := 103) hK dX7_plays_103 (Option.some.inj hf)
        ·
          refine gw_iload_n (pc := 83) hK 0 dX7_plays_83 rfl rfl ?_
          refine gv_X7_67 (pc := 84) hK dX7_plays_84 (by decide) (Nat.le_of_ble_eq_true rfl) hf (fun r70 m71 hf => ?_)
          refine gw_aload_n (pc := 87) hK 2 dX7_plays_87 rfl rfl ?_
          refine gw_iconst (v := 2) (pc := 88) hK dX7_plays_88 (by decide) ?_
          refine gv_X7_78 (pc := 89) hK hc dX7_plays_89 (by decide) (Nat.le_of_ble_eq_true rfl) hf (fun r72 m73 hf => ?_)
          refine gw_icmp_gt (tgt := 99) (pc := 92) hK dX7_plays_92 (by decide) hf (fun cc74 hf => ?_) (fun cc74 hf => ?_)
          ·
            refine gw_iconst (v := 0) (pc := 99) hK dX7_plays_99 (by decide) ?_
            refine gv_X7_100 (pc := 100) hK hc dX7_plays_100 (by decide) (Nat.le_of_ble_eq_true rfl) hf (fun _ m76 hf => ?_)
            exact gw_ret_v (pc := 103) hK dX7_plays_103 (Option.some.inj hf)
          ·
            refine gw_iconst (v := 1) (pc := 95) hK dX7_plays_95 (by decide) ?_
            refine gw_goto (tgt := 100) (pc := 96) hK dX7_plays_96 (by decide) ?_
            refine gv_X7_100 (pc := 100) hK hc dX7_plays_100 (by decide) (Nat.le_of_ble_eq_true rfl) hf (fun _ m78 hf => ?_)
            exact gw_ret_v (pc := 103) hK dX7_plays_103 (Option.some.inj hf)
      ·
        refine gw_iconst (v := 0) (pc := 37) hK dX7_plays_37 (by decide) ?_
        refine gw_goto (tgt := 53) (pc := 38) hK dX7_plays_38 (by decide) ?_
        refine gw_istore_n (L' := [(3, .int 0), (2, .int r54), (0, .ref (gy_a Y c)), (1, .int p1)]) (pc := 53) hK dX7_plays_53 rfl (by decide) rfl ?_
        refine gw_aload_n (pc := 54) hK 2 dX7_plays_54 rfl rfl ?_
        refine gw_iload_n (pc := 55) hK 3 dX7_plays_55 rfl rfl ?_
        refine gw_iconst (v := 2) (pc := 56) hK dX7_plays_56 (by decide) ?_
        refine gw_iconst (v := 1) (pc := 57) hK dX7_plays_57 (by decide) ?_
        refine gv_X7_100 (pc := 58) hK hc dX7_plays_58 (by decide) (Nat.le_of_ble_eq_true rfl) hf (fun _ m80 hf => ?_)
        refine gw_aload_n (pc := 61) hK 2 dX7_plays_61 rfl rfl ?_
        refine gw_iload_n (pc := 62) hK 3 dX7_plays_62 rfl rfl ?_
        refine gw_iconst (v := 3) (pc := 63) hK dX7_plays_63 (by decide) ?_
        refine gw_iload_n (pc := 64) hK 1 dX7_plays_64 rfl rfl ?_
        refine gv_X7_100 (pc := 65) hK hc dX7_plays_65 (by decide) (Nat.le_of_ble_eq_true rfl) hf (fun _ m82 hf => ?_)
        refine gw_aload_n (pc := 68) hK 2 dX7_plays_68 rfl rfl ?_
        refine gw_iload_n (pc := 69) hK 3 dX7_plays_69 rfl rfl ?_
        refine gw_iconst (v := 4) (pc := 70) hK dX7_plays_70 (by decide) ?_
        refine gw_iload_n (pc := 71) hK 0 dX7_plays_71 rfl rfl ?_
        refine gv_X7_100 (pc := 72) hK hc dX7_plays_72 (by decide) (Nat.le_of_ble_eq_true rfl) hf (fun _ m84 hf => ?_)
        refine gw_aload_n (pc := 75) hK 2 dX7_plays_75 rfl rfl ?_
        refine gw_iload_n (pc := 76) hK 3 dX7_plays_76 rfl rfl ?_
        refine gw_iconst (v := 5) (pc := 77) hK dX7_plays_77 (by decide) ?_
        refine gw_iload_n (pc := 78) hK 1 dX7_plays_78 rfl rfl ?_
        refine gw_iconst (v := (-1)) (pc := 79) hK dX7_plays_79 (by decide) ?_
        refine gw_icmp_eq (tgt := 99) (pc := 80) hK dX7_plays_80 (by decide) hf (fun cc85 hf => ?_) (fun cc85 hf => ?_)
        ·
          refine gw_iconst (v := 0) (pc := 99) hK dX7_plays_99 (by decide) ?_
          refine gv_X7_100 (pc := 100) hK hc dX7_plays_100 (by decide) (Nat.le_of_ble_eq_true rfl) hf (fun _ m87 hf => ?_)
          exact gw_ret_v (pc := 103) hK dX7_plays_103 (Option.some.inj hf)
        ·
          refine gw_iload_n (pc := 83) hK 0 dX7_plays_83 rfl rfl ?_
          refine gv_X7_67 (pc := 84) hK dX7_plays_84 (by decide) (Nat.le_of_ble_eq_true rfl) hf (fun r88 m89 hf => ?_)
          refine gw_aload_n (pc := 87) hK 2 dX7_plays_87 rfl rfl ?_
          refine gw_iconst (v := 2) (pc := 88) hK dX7_plays_88 (by decide) ?_
          refine gv_X7_78 (pc := 89) hK hc dX7_plays_89 (by decide) (Nat.le_of_ble_eq_true rfl) hf (fun r90 m91 hf => ?_)
          refine gw_icmp_gt (tgt := 99) (pc := 92) hK dX7_plays_92 (by decide) hf (fun cc92 hf => ?_) (fun cc92 hf => ?_)
          ·
            refine gw_iconst (v := 0) (pc := 99) hK dX7_plays_99 (by decide) ?_
            refine gv_X7_100 (pc := 100) hK hc dX7_plays_100 (by decide) (Nat.le_of_ble_eq_true rfl) hf (fun _ m94 hf => ?_)
            exact gw_ret_v (pc := 103) hK dX7_plays_103 (Option.some.inj hf)
          ·
            refine gw_iconst (v := 1) (pc := 95) hK dX7_plays_95 (by decide) ?_
            refine gw_goto (tgt := 100) (pc := 96) hK dX7_plays_96 (by decide) ?_
            refine gv_X7_100 (pc := 100) hK hc dX7_plays_100 (by decide) (Nat.le_of_ble_eq_true rfl) hf (fun _ m96 hf => ?_)
            exact gw_ret_v (pc := 103) hK dX7_plays_103 (Option.some.inj hf)
    ·
      refine gw_aload_n (pc := 17) hK 0 dX7_plays_17 rfl rfl ?_
      refine gv_X7_112 (pc := 18) hK hc dX7_plays_18 (by decide) (Nat.le_of_ble_eq_true rfl) hf (fun _ m98 hf => ?_)
      refine gw_aload_n (pc := 21) hK 0 dX7_plays_21 rfl rfl ?_
      refine gw_aload_n (pc := 22) hK 0 dX7_plays_22 rfl rfl ?_
      refine gw_iload_n (pc := 23) hK 1 dX7_plays_23 rfl rfl ?_
      refine gw_iconst (v := 1) (pc := 24) hK dX7_plays_24 (by decide) ?_
      refine gv_X7_81 (pc := 25) hK hc dX7_plays_25 (by decide) (Nat.le_of_ble_eq_true rfl) hf (fun r99 m100 hf => ?_)
      refine gv_X7_71 (pc := 28) hK hc dX7_plays_28 (by decide) (Nat.le_of_ble_eq_true rfl) hf (fun r101 m102 hf => ?_)
      refine gw_istore_n (L' := [(2, .int r101), (0, .ref (gy_a Y c)), (1, .int p1)]) (pc := 31) hK dX7_plays_31 rfl (by decide) rfl ?_
      refine gw_iload_n (pc := 32) hK 0 dX7_plays_32 rfl rfl ?_
      refine gw_iconst (v := (-1)) (pc := 33) hK dX7_plays_33 (by decide) ?_
      refine gw_icmp_ne (tgt := 41) (pc := 34) hK dX7_plays_34 (by decide) hf (fun cc103 hf => ?_) (fun cc103 hf => ?_)
      ·
        refine gw_aload_n (pc := 41) hK 1 dX7_plays_41 rfl rfl ?_
        refine gw_iload_n (pc := 42) hK 0 dX7_plays_42 rfl rfl ?_
        refine gv_X7_64 (pc := 43) hK hc dX7_plays_43 (by decide) (Nat.le_of_ble_eq_true rfl) hf (fun r104 m105 hf => ?_)
        refine gw_aload_n (pc := 46) hK 1 dX7_plays_46 rfl rfl ?_
        refine gw_iload_n (pc := 47) hK 2 dX7_plays_47 rfl rfl ?_
        refine gw_iconst (v := 1) (pc := 48) hK dX7_plays_48 (by decide) ?_
        refine gv_X7_81 (pc := 49) hK hc dX7_plays_49 (by decide) (Nat.le_of_ble_eq_true rfl) hf (fun r106 m107 hf => ?_)
        refine gw_isub (pc := 52) hK dX7_plays_52 ?_
        refine gw_istore_n (L' := [(3, .int (r104 - r106)), (2, .int r101), (0, .ref (gy_a Y c)), (1, .int p1)]) (pc := 53) hK dX7_plays_53 rfl (by decide) rfl ?_
        refine gw_aload_n (pc := 54) hK 2 dX7_plays_54 rfl rfl ?_
        refine gw_iload_n (pc := 55) hK 3 dX7_plays_55 rfl rfl ?_
        refine gw_iconst (v := 2) (pc := 56) hK dX7_plays_56 (by decide) ?_
        refine gw_iconst (v := 1) (pc := 57) hK dX7_plays_57 (by decide) ?_
        refine gv_X7_100 (pc := 58) hK hc dX7_plays_58 (by decide) (Nat.le_of_ble_eq_true rfl) hf (fun _ m109 hf => ?_)
        refine gw_aload_n (pc := 61) hK 2 dX7_plays_61 rfl rfl ?_
        refine gw_iload_n (pc := 62) hK 3 dX7_plays_62 rfl rfl ?_
        refine gw_iconst (v := 3) (pc := 63) hK dX7_plays_63 (by decide) ?_
        refine gw_iload_n (pc := 64) hK 1 dX7_plays_64 rfl rfl ?_
        refine gv_X7_100 (pc := 65) hK hc dX7_plays_65 (by decide) (Nat.le_of_ble_eq_true rfl) hf (fun _ m111 hf => ?_)
        refine gw_aload_n (pc := 68) hK 2 dX7_plays_68 rfl rfl ?_
        refine gw_iload_n (pc := 69) hK 3 dX7_plays_69 rfl rfl ?_
        refine gw_iconst (v := 4) (pc := 70) hK dX7_plays_70 (by decide) ?_
        refine gw_iload_n (pc := 71) hK 0 dX7_plays_71 rfl rfl ?_
        refine gv_X7_100 (pc := 72) hK hc dX7_plays_72 (by decide) (Nat.le_of_ble_eq_true rfl) hf (fun _ m113 hf => ?_)
        refine gw_aload_n (pc := 75) hK 2 dX7_plays_75 rfl rfl ?_
        refine gw_iload_n (pc := 76) hK 3 dX7_plays_76 rfl rfl ?_
        refine gw_iconst (v := 5) (pc := 77) hK dX7_plays_77 (by decide) ?_
        refine gw_iload_n (pc := 78) hK 1 dX7_plays_78 rfl rfl ?_
        refine gw_iconst (v := (-1)) (pc := 79) hK dX7_plays_79 (by decide) ?_
        refine gw_icmp_eq (tgt := 99) (pc := 80) hK dX7_plays_80 (by decide) hf (fun cc114 hf => ?_) (fun cc114 hf => ?_)
        ·
          refine gw_iconst (v := 0) (pc := 99) hK dX7_plays_99 (by decide) ?_
          refine gv_X7_100 (pc := 100) hK hc dX7_plays_100 (by decide) (Nat.le_of_ble_eq_true rfl) hf (fun _ m116 hf => ?_)
          exact gw_ret_v (pc := 103) hK dX7_plays_103 (Option.some.inj hf)
        ·
          refine gw_iload_n (pc := 83) hK 0 dX7_plays_83 rfl rfl ?_
          refine gv_X7_67 (pc := 84) hK dX7_plays_84 (by decide) (Nat.le_of_ble_eq_true rfl) hf (fun r117 m118 hf => ?_)
          refine gw_aload_n (pc := 87) hK 2 dX7_plays_87 rfl rfl ?_
          refine gw_iconst (v := 2) (pc := 88) hK dX7_plays_88 (by decide) ?_
          refine gv_X7_78 (pc := 89) hK hc dX7_plays_89 (by decide) (Nat.le_of_ble_eq_true rfl) hf (fun r119 m120 hf => ?_)
          refine gw_icmp_gt (tgt := 99) (pc := 92) hK dX7_plays_92 (by decide) hf (fun cc121 hf => ?_) (fun cc121 hf => ?_)
          ·
            refine gw_iconst (v := 0) (pc := 99) hK dX7_plays_99 (by decide) ?_
            refine gv_X7_100 (pc := 100) hK hc dX7_plays_100 (by decide) (Nat.le_of_ble_eq_true rfl) hf (fun _ m123 hf => ?_)
            exact gw_ret_v (pc := 103) hK dX7_plays_103 (Option.some.inj hf)
          ·
            refine gw_iconst (v := 1) (pc := 95) hK dX7_plays_95 (by decide) ?_
            refine gw_goto (tgt := 100) (pc := 96) hK dX7_plays_96 (by decide) ?_
            refine gv_X7_100 (pc := 100) hK hc dX7_plays_100 (by decide) (Nat.le_of_ble_eq_true rfl) hf (fun _ m125 hf => ?_)
            exact gw_ret_v (pc := 103) hK dX7_plays_103 (Option.some.inj hf)
      ·
        refine gw_iconst (v := 0) (pc := 37) hK dX7_plays_37 (by decide) ?_
        refine gw_goto (tgt := 53) (pc := 38) hK dX7_plays_38 (by decide) ?_
        refine gw_istore_n (L' := [(3, .int 0), (2, .int r101), (0, .ref (gy_a Y c)), (1, .int p1)]) (pc := 53) hK dX7_plays_53 rfl (by decide) rfl ?_
        refine gw_aload_n (pc := 54) hK 2 dX7_plays_54 rfl rfl ?_
        refine gw_iload_n (pc := 55) hK 3 dX7_plays_55 rfl rfl ?_
        refine gw_iconst (v := 2) (pc := 56) hK dX7_plays_56 (by decide) ?_
        refine gw_iconst (v := 1) (pc := 57) hK dX7_plays_57 (by decide) ?_
        refine gv_X7_100 (pc := 58) hK hc dX7_plays_58 (by decide) (Nat.le_of_ble_eq_true rfl) hf (fun _ m127 hf => ?_)
        refine gw_aload_n (pc := 61) hK 2 dX7_plays_61 rfl rfl ?_
        refine gw_iload_n (pc := 62) hK 3 dX7_plays_62 rfl rfl ?_
        refine gw_iconst (v := 3) (pc := 63) hK dX7_plays_63 (by decide) ?_
        refine gw_iload_n (pc := 64) hK 1 dX7_plays_64 rfl rfl ?_
        refine gv_X7_100 (pc := 65) hK hc dX7_plays_65 (by decide) (Nat.le_of_ble_eq_true rfl) hf (fun _ m129 hf => ?_)
        refine gw_aload_n (pc := 68) hK 2 dX7_plays_68 rfl rfl ?_
        refine gw_iload_n (pc := 69) hK 3 dX7_plays_69 rfl rfl ?_
        refine gw_iconst (v := 4) (pc := 70) hK dX7_plays_70 (by decide) ?_
        refine gw_iload_n (pc := 71) hK 0 dX7_plays_71 rfl rfl ?_
        refine gv_X7_100 (pc := 72) hK hc dX7_plays_72 (by decide) (Nat.le_of_ble_eq_true rfl) hf (fun _ m131 hf => ?_)
        refine gw_aload_n (pc := 75) hK 2 dX7_plays_75 rfl rfl ?_
        refine gw_iload_n (pc := 76) hK 3 dX7_plays_76 rfl rfl ?_
        refine gw_iconst (v := 5) (pc := 77) hK dX7_plays_77 (by decide) ?_
        refine gw_iload_n (pc := 78) hK 1 dX7_plays_78 rfl rfl ?_
        refine gw_iconst (v := (-1)) (pc := 79) hK dX7_plays_79 (by decide) ?_
        refine gw_icmp_eq (tgt := 99) (pc := 80) hK dX7_plays_80 (by decide) hf (fun cc132 hf => ?_) (fun cc132 hf => ?_)
        ·
          refine gw_iconst (v := 0) (pc := 99) hK dX7_plays_99 (by decide) ?_
          refine gv_X7_100 (pc := 100) hK hc dX7_plays_100 (by decide) (Nat.le_of_ble_eq_true rfl) hf (fun _ m134 hf => ?_)
          exact gw_ret_v (pc := 103) hK dX7_plays_103 (Option.some.inj hf)
        ·
          refine gw_iload_n (pc := 83) hK 0 dX7_plays_83 rfl rfl ?_
          refine gv_X7_67 (pc := 84) hK dX7_plays_84 (by decide) (Nat.le_of_ble_eq_true rfl) hf (fun r135 m136 hf => ?_)
          refine gw_aload_n (pc := 87) hK 2 dX7_plays_87 rfl rfl ?_
          refine gw_iconst (v := 2) (pc := 88) hK dX7_plays_88 (by decide) ?_
          refine gv_X7_78 (pc := 89) hK hc dX7_plays_89 (by decide) (Nat.le_of_ble_eq_true rfl) hf (fun r137 m138 hf => ?_)
          refine gw_icmp_gt (tgt := 99) (pc := 92) hK dX7_plays_92 (by decide) hf (fun cc139 hf => ?_) (fun cc139 hf => ?_)
          ·
            refine gw_iconst (v := 0) (pc := 99) hK dX7_plays_99 (by decide) ?_
            refine gv_X7_100 (pc := 100) hK hc dX7_plays_100 (by decide) (Nat.le_of_ble_eq_true rfl) hf (fun _ m141 hf => ?_)
            exact gw_ret_v (pc := 103) hK dX7_plays_103 (Option.some.inj hf)
          ·
            refine gw_iconst (v := 1) (pc := 95) hK dX7_plays_95 (by decide) ?_
            refine gw_goto (tgt := 100) (pc := 96) hK dX7_plays_96 (by decide) ?_
            refine gv_X7_100 (pc := 100) hK hc dX7_plays_100 (by decide) (Nat.le_of_ble_eq_true rfl) hf (fun _ m143 hf => ?_)
            exact gw_ret_v (pc := 103) hK dX7_plays_103 (Option.some.inj hf)
theorem gv_X7_118 {l : Launch} {cc : ByteArray} {nL fr lo : Nat} {ret : Option FieldType} {Y : gx_Y} {Post : Int32 → gx_M → Prop} {K : gx_KT} {pc : Nat} {μ : gx_M} {L : List (Nat × Value)} {st : List Value} {rr : Int32 × gx_M} (h : gx_K l RX7 cc nL fr lo ret Y Post K) {c : Nat} {p1 : Int32} (hc : gk_mod Y c) (d : decode cc pc = .ok (.invokevirtual 118, 3)) (hR : 4 + 1 ≤ fr ∧ 112 ≤ lo) (hst : (st.map fun v => v.category).sum ≤ 8) {k : Int32 → gx_M → Option (Int32 × gx_M)} (hf : gx_b (fn_X7_plays (gy_k Y) μ c p1) k = some rr) (kk : ∀ (r : Int32) (m : gx_M), k r m = some rr → K m (pc + 3) L (st)) : K μ pc L (.int p1 :: .ref (gy_a Y c) :: st) := by
  obtain ⟨r, m, e, hk⟩ := gx_b_some hf
  exact gw_callV (As := [.int p1]) (q := (r, m)) h hc.1 (by decide) rfl (by refine ⟨rfl, by decide, by decide, (show (parseMethodDescriptor yX7_plays.desc).map (fun d => d.parameters.length) = some 1 by decide +kernel)⟩) kw_ml_RX7_118 kw_im_X7_plays kw_se_X7_plays kw_in_RX7 kw_co_X7_plays hR hst d (ct_X7_plays l Y μ c p1 (r, m) hc e) (kk r m hk)
def fn_X7_second (kd : Nat → Nat) (μ : gx_M) (c : Nat) : Option (Int32 × gx_M) :=
  (if gx_ix 0 (kd (c + 1) - 100) = true then (if gx_ix 0 (kd (c + 1) - 100) = true then (if gx_ix 0 (kd (c + 1) - 100) = true then gx_b (fn_X7_setting kd (gx_u μ (c + 1) (Int32.toNatClampNeg 0) (μ (c + 1) (Int32.toNatClampNeg 0) + 1)) c 0) (fun r1 m2 =>
(if ¬ r1 = 0 then (if ((gx_u μ (c + 1) (Int32.toNatClampNeg 0) (μ (c + 1) (Int32.toNatClampNeg 0) + 1)) (c + 1) (Int32.toNatClampNeg 0) - (gx_u μ (c + 1) (Int32.toNatClampNeg 0) (μ (c + 1) (Int32.toNatClampNeg 0) + 1)) (c + 1) (Int32.toNatClampNeg 0) / r1 * r1) = 0 then
gx_b (fn_X7_dries kd m2 c) (fun _ m11 =>
(if gx_ix 0 (kd (c + 1) - 100) = true then gx_b (fn_X7_noteAt kd m11 c (m11 (c + 1) (Int32.toNatClampNeg 0))) (fun r12 m13 =>
(if r12 < 0 then
some (r12, m13)
else
gx_b (fn_X7_plays kd m13 c r12) (fun _ m16 =>
some (r12, m16)))) else none))
else
(if gx_ix 0 (kd (c + 1) - 100) = true then gx_b (fn_X7_noteAt kd m2 c (m2 (c + 1) (Int32.toNatClampNeg 0))) (fun r5 m6 =>
(if r5 < 0 then
some (r5, m6)
else
gx_b (fn_X7_plays kd m6 c r5) (fun _ m9 =>
some (r5, m9)))) else none)) else none)) else none) else none) else none)
set_option maxRecDepth 100000 in
set_option maxHeartbeats 4000000 in
theorem ct_X7_second (l : Launch) (Y : gx_Y) (μ : gx_M) (c : Nat) (rr : Int32 × gx_M) (hc : gk_mod Y c) (hf : fn_X7_second (gy_k Y) μ c = some rr) : gx_Con l yX7_second cX7_second 2 (some .int) 5 112 Y [.ref (gy_a Y c)] μ rr := by
  refine gx_Con_of (L0 := [(0, .ref (gy_a Y c))]) (by decide) (Nat.le_of_ble_eq_true rfl) rfl (fun K hK => ?_)
  unfold fn_X7_second at hf
  refine gw_aload_n (pc := 0) hK 0 dX7_second_0 rfl rfl ?_
  refine gf_X7_7 (pc := 1) hK hc.1 dX7_second_1 ?_
  refine gw_iconst (v := 0) (pc := 4) hK dX7_second_4 (by decide) ?_
  refine gw_dup2 (pc := 5) hK dX7_second_5 rfl rfl ?_
  refine gw_iald (pc := 6) hK hc.2.1.1 (gk_100 hc.2.1) dX7_second_6 hf (fun hf => ?_)
  refine gw_iconst (v := 1) (pc := 7) hK dX7_second_7 (by decide) ?_
  refine gw_iadd (pc := 8) hK dX7_second_8 ?_
  refine gw_iast (pc := 9) hK hc.2.1.1 (gk_100 hc.2.1) dX7_second_9 hf (fun hf => ?_)
  refine gw_aload_n (pc := 10) hK 0 dX7_second_10 rfl rfl ?_
  refine gf_X7_7 (pc := 11) hK hc.1 dX7_second_11 ?_
  refine gw_iconst (v := 0) (pc := 14) hK dX7_second_14 (by decide) ?_
  refine gw_iald (pc := 15) hK hc.2.1.1 (gk_100 hc.2.1) dX7_second_15 hf (fun hf => ?_)
  refine gw_aload_n (pc := 16) hK 0 dX7_second_16 rfl rfl ?_
  refine gw_iconst (v := 0) (pc := 17) hK dX7_second_17 (by decide) ?_
  refine gv_X7_78 (pc := 18) hK hc dX7_second_18 (by decide) (Nat.le_of_ble_eq_true rfl) hf (fun r1 m2 hf => ?_)
  obtain ⟨hz3, hf⟩ := gx_must hf
  refine gw_irem (pc := 21) hK dX7_second_21 hz3 ?_
  refine gw_if_ne (tgt := 29) (pc := 22) hK dX7_second_22 (by decide) hf (fun cc4 hf => ?_) (fun cc4 hf => ?_)
  ·
    refine gw_aload_n (pc := 29) hK 0 dX7_second_29 rfl rfl ?_
    refine gw_aload_n (pc := 30) hK 0 dX7_second_30 rfl rfl ?_
    refine gf_X7_7 (pc := 31) hK hc.1 dX7_second_31 ?_
    refine gw_iconst (v := 0) (pc := 34) hK dX7_second_34 (by decide) ?_
    refine gw_iald (pc := 35) hK hc.2.1.1 (gk_100 hc.2.1) dX7_second_35 hf (fun hf => ?_)
    refine gv_X7_103 (pc := 36) hK hc dX7_second_36 (by decide) (Nat.le_of_ble_eq_true rfl) hf (fun r5 m6 hf => ?_)
    refine gw_istore_n (L' := [(1, .int r5), (0, .ref (gy_a Y c))]) (pc := 39) hK dX7_second_39 rfl (by decide) rfl ?_
    refine gw_iload_n (pc := 40) hK 0 dX7_second_40 rfl rfl ?_
    refine gw_if_lt (tgt := 49) (pc := 41) hK dX7_second_41 (by decide) hf (fun cc7 hf => ?_) (fun cc7 hf => ?_)
    ·
      refine gw_iload_n (pc := 49) hK 0 dX7_second_49 rfl rfl ?_
      exact gw_ret_i (pc := 50) hK dX7_second_50 (Option.some.inj hf)
    ·
      refine gw_aload_n (pc := 44) hK 1 dX7_second_44 rfl rfl ?_
      refine gw_iload_n (pc := 45) hK 0 dX7_second_45 rfl rfl ?_
      refine gv_X7_118 (pc := 46) hK hc dX7_second_46 (by decide) (Nat.le_of_ble_eq_true rfl) hf (fun _ m9 hf => ?_)
      refine gw_iload_n (pc := 49) hK 0 dX7_second_49 rfl rfl ?_
      exact gw_ret_i (pc := 50) hK dX7_second_50 (Option.some.inj hf)
  ·
    refine gw_aload_n (pc := 25) hK 0 dX7_second_25 rfl rfl ?_
    refine gv_X7_115 (pc := 26) hK hc dX7_second_26 (by decide) (Nat.le_of_ble_eq_true rfl) hf (fun _ m11 hf => ?_)
    refine gw_aload_n (pc := 29) hK 0 dX7_second_29 rfl rfl ?_
    refine gw_aload_n (pc := 30) hK 0 dX7_second_30 rfl rfl ?_
    refine gf_X7_7 (pc := 31) hK hc.1 dX7_second_31 ?_
    refine gw_iconst (v := 0) (pc := 34) hK dX7_second_34 (by decide) ?_
    refine gw_iald (pc := 35) hK hc.2.1.1 (gk_100 hc.2.1) dX7_second_35 hf (fun hf => ?_)
    refine gv_X7_103 (pc := 36) hK hc dX7_second_36 (by decide) (Nat.le_of_ble_eq_true rfl) hf (fun r12 m13 hf => ?_)
    refine gw_istore_n (L' := [(1, .int r12), (0, .ref (gy_a Y c))]) (pc := 39) hK dX7_second_39 rfl (by decide) rfl ?_
    refine gw_iload_n (pc := 40) hK 0 dX7_second_40 rfl rfl ?_
    refine gw_if_lt (tgt := 49) (pc := 41) hK dX7_second_41 (by decide) hf (fun cc14 hf => ?_) (fun cc14 hf => ?_)
    ·
      refine gw_iload_n (pc := 49) hK 0 dX7_second_49 rfl rfl ?_
      exact gw_ret_i (pc := 50) hK dX7_second_50 (Option.some.inj hf)
    ·
      refine gw_aload_n (pc := 44) hK 1 dX7_second_44 rfl rfl ?_
      refine gw_iload_n (pc := 45) hK 0 dX7_second_45 rfl rfl ?_
      refine gv_X7_118 (pc := 46) hK hc dX7_second_46 (by decide) (Nat.le_of_ble_eq_true rfl) hf (fun _ m16 hf => ?_)
      refine gw_iload_n (pc := 49) hK 0 dX7_second_49 rfl rfl ?_
      exact gw_ret_i (pc := 50) hK dX7_second_50 (Option.some.inj hf)
theorem gv_X7_122 {l : Launch} {cc : ByteArray} {nL fr lo : Nat} {ret : Option FieldType} {Y : gx_Y} {Post : Int32 → gx_M → Prop} {K : gx_KT} {pc : Nat} {μ : gx_M} {L : List (Nat × Value)} {st : List Value} {rr : Int32 × gx_M} (h : gx_K l RX7 cc nL fr lo ret Y Post K) {c : Nat} (hc : gk_mod Y c) (d : decode cc pc = .ok (.invokevirtual 122, 3)) (hR : 5 + 1 ≤ fr ∧ 133 ≤ lo) (hst : (st.map fun v => v.category).sum ≤ 8) {k : Int32 → gx_M → Option (Int32 × gx_M)} (hf : gx_b (fn_X7_second (gy_k Y) μ c) k = some rr) (kk : ∀ (r : Int32) (m : gx_M), k r m = some rr → K m (pc + 3) L (.int r :: st)) : K μ pc L (.ref (gy_a Y c) :: st) := by
  obtain ⟨r, m, e, hk⟩ := gx_b_some hf
  exact gw_callV (As := []) (q := (r, m)) h hc.1 (by decide) rfl (by refine ⟨rfl, by decide, by decide, (show (parseMethodDescriptor yX7_second.desc).map (fun d => d.parameters.length) = some 0 by decide +kernel)⟩) kw_ml_RX7_122 kw_im_X7_second kw_se_X7_second kw_in_RX7 kw_co_X7_second hR hst d (ct_X7_second l Y μ c (r, m) hc e) (kk r m hk)
def lf_X7_firstFalse_7 (kd : Nat → Nat) (c0 : Nat) (k : gx_M → Int32 → Option (Int32 × gx_M)) : Nat → gx_M → Int32 → Option (Int32 × gx_M)
  | 0, _, _ => none
  | n + 1, μ, x1 => (if gx_ix 1 (kd (c0 + 1) - 100) = true then (if μ (c0 + 1) (Int32.toNatClampNeg 1) ≤ 0 then
k μ x1
else
(if gx_ix 0 (kd (c0 + 1) - 100) = true then (if 3600 ≤ μ (c0 + 1) (Int32.toNatClampNeg 0) then
k μ x1
else
(if 0 ≤ x1 then
k μ x1
else
gx_b (fn_X7_second kd μ c0) (fun r6 m7 =>
(if r6 < 0 then
lf_X7_firstFalse_7 kd c0 k n m7 (-100004)
else
gx_b (fn_X7_has kd m7 c0 r6 5) (fun r9 m10 =>
(if r9 = 0 then
lf_X7_firstFalse_7 kd c0 k n m10 r6
else
lf_X7_firstFalse_7 kd c0 k n m10 (-100004))))))) else none)) else none)
def fn_X7_firstFalse (kd : Nat → Nat) (μ : gx_M) (c : Nat) : Option (Int32 × gx_M) :=
  gx_b (fn_X7_laysAside kd μ c) (fun _ m2 =>
lf_X7_firstFalse_7 kd c (fun m12 y13 =>
gx_b (fn_X7_bringsBack kd m12 c) (fun _ m15 =>
some (y13, m15))) gx_F m2 (-100004))
set_option maxRecDepth 100000 in
set_option maxHeartbeats 4000000 in
theorem lt_X7_firstFalse_7 {l : Launch} {Y : gx_Y} {rr : Int32 × gx_M} {K : gx_KT} (hK : gx_K l RX7 cX7_firstFalse 3 6 133 (some .int) Y (fun r m => (r, m) = rr) K) (c0 : Nat) (hc0 : gk_mod Y c0) (k : gx_M → Int32 → Option (Int32 × gx_M)) (hx : ∀ (μ : gx_M) (x1 : Int32), k μ x1 = some rr → K μ 60 [(0, .ref (gy_a Y c0)), (1, .int x1)] []) :
    ∀ (n : Nat) (μ : gx_M) (x1 : Int32), lf_X7_firstFalse_7 (gy_k Y) c0 k n μ x1 = some rr → K μ 7 [(0, .ref (gy_a Y c0)), (1, .int x1)] [] := by
  intro n
  induction n with
  | zero =>
    intro μ x1 hf
    exact absurd hf (by simp [lf_X7_firstFalse_7])
  | succ n ih =>
    intro μ x1 hf
    rw [lf_X7_firstFalse_7] at hf
    refine gw_aload_n (pc := 7) hK 0 dX7_firstFalse_7 rfl rfl ?_
    refine gf_X7_7 (pc := 8) hK hc0.1 dX7_firstFalse_8 ?_
    refine gw_iconst (v := 1) (pc := 11) hK dX7_firstFalse_11 (by decide) ?_
    refine gw_iald (pc := 12) hK hc0.2.1.1 (gk_100 hc0.2.1) dX7_firstFalse_12 hf (fun hf => ?_)
    refine gw_if_le (tgt := 60) (pc := 13) hK dX7_firstFalse_13 (by decide) hf (fun cc3 hf => ?_) (fun cc3 hf => ?_)
    ·
      refine gw_sub (L' := [(0, .ref (gy_a Y c0)), (1, .int x1)]) hK [0, 1] rfl (hx _ _ hf)
    ·
      refine gw_aload_n (pc := 16) hK 0 dX7_firstFalse_16 rfl rfl ?_
      refine gf_X7_7 (pc := 17) hK hc0.1 dX7_firstFalse_17 ?_
      refine gw_iconst (v := 0) (pc := 20) hK dX7_firstFalse_20 (by decide) ?_
      refine gw_iald (pc := 21) hK hc0.2.1.1 (gk_100 hc0.2.1) dX7_firstFalse_21 hf (fun hf => ?_)
      refine gw_sipush (v := 3600) (pc := 22) hK dX7_firstFalse_22 (by decide) ?_
      refine gw_icmp_ge (tgt := 60) (pc := 25) hK dX7_firstFalse_25 (by decide) hf (fun cc4 hf => ?_) (fun cc4 hf => ?_)
      ·
        refine gw_sub (L' := [(0, .ref (gy_a Y c0)), (1, .int x1)]) hK [0, 1] rfl (hx _ _ hf)
      ·
        refine gw_iload_n (pc := 28) hK 1 dX7_firstFalse_28 rfl rfl ?_
        refine gw_if_ge (tgt := 60) (pc := 29) hK dX7_firstFalse_29 (by decide) hf (fun cc5 hf => ?_) (fun cc5 hf => ?_)
        ·
          refine gw_sub (L' := [(0, .ref (gy_a Y c0)), (1, .int x1)]) hK [0, 1] rfl (hx _ _ hf)
        ·
          refine gw_aload_n (pc := 32) hK 0 dX7_firstFalse_32 rfl rfl ?_
          refine gv_X7_122 (pc := 33) hK hc0 dX7_firstFalse_33 (by decide) (Nat.le_of_ble_eq_true rfl) hf (fun r6 m7 hf => ?_)
          refine gw_istore_n (L' := [(2, .int r6), (0, .ref (gy_a Y c0)), (1, .int x1)]) (pc := 36) hK dX7_firstFalse_36 rfl (by decide) rfl ?_
          refine gw_iload_n (pc := 37) hK 0 dX7_firstFalse_37 rfl rfl ?_
          refine gw_if_lt (tgt := 54) (pc := 38) hK dX7_firstFalse_38 (by decide) hf (fun cc8 hf => ?_) (fun cc8 hf => ?_)
          ·
            refine gw_ldc (pc := 54) hK dX7_firstFalse_54 kw_k_RX7_70 ?_
            refine gw_istore_n (L' := [(1, .int (-100004)), (2, .int r6), (0, .ref (gy_a Y c0))]) (pc := 56) hK dX7_firstFalse_56 rfl (by decide) rfl ?_
            refine gw_goto (tgt := 7) (pc := 57) hK dX7_firstFalse_57 (by decide) ?_
            refine gw_sub (L' := [(0, .ref (gy_a Y c0)), (1, .int (-100004))]) hK [2, 0] rfl (ih _ _ hf)
          ·
            refine gw_aload_n (pc := 41) hK 1 dX7_firstFalse_41 rfl rfl ?_
            refine gw_iload_n (pc := 42) hK 0 dX7_firstFalse_42 rfl rfl ?_
            refine gw_iconst (v := 5) (pc := 43) hK dX7_firstFalse_43 (by decide) ?_
            refine gv_X7_81 (pc := 44) hK hc0 dX7_firstFalse_44 (by decide) (Nat.le_of_ble_eq_true rfl) hf (fun r9 m10 hf => ?_)
            refine gw_if_ne (tgt := 54) (pc := 47) hK dX7_firstFalse_47 (by decide) hf (fun cc11 hf => ?_) (fun cc11 hf => ?_)
            ·
              refine gw_ldc (pc := 54) hK dX7_firstFalse_54 kw_k_RX7_70 ?_
              refine gw_istore_n (L' := [(1, .int (-100004)), (2, .int r6), (0, .ref (gy_a Y c0))]) (pc := 56) hK dX7_firstFalse_56 rfl (by decide) rfl ?_
              refine gw_goto (tgt := 7) (pc := 57) hK dX7_firstFalse_57 (by decide) ?_
              refine gw_sub (L' := [(0, .ref (gy_a Y c0)), (1, .int (-100004))]) hK [2, 0] rfl (ih _ _ hf)
            ·
              refine gw_iload_n (pc := 50) hK 0 dX7_firstFalse_50 rfl rfl ?_
              refine gw_goto (tgt := 56) (pc := 51) hK dX7_firstFalse_51 (by decide) ?_
              refine gw_istore_n (L' := [(1, .int r6), (2, .int r6), (0, .ref (gy_a Y c0))]) (pc := 56) hK dX7_firstFalse_56 rfl (by decide) rfl ?_
              refine gw_goto (tgt := 7) (pc := 57) hK dX7_firstFalse_57 (by decide) ?_
              refine gw_sub (L' := [(0, .ref (gy_a Y c0)), (1, .int r6)]) hK [2, 0] rfl (ih _ _ hf)
set_option maxRecDepth 100000 in
set_option maxHeartbeats 4000000 in
theorem ct_X7_firstFalse (l : Launch) (Y : gx_Y) (μ : gx_M) (c : Nat) (rr : Int32 × gx_M) (hc : gk_mod Y c) (hf : fn_X7_firstFalse (gy_k Y) μ c = some rr) : gx_Con l yX7_firstFalse cX7_firstFalse 3 (some .int) 6 133 Y [.ref (gy_a Y c)] μ rr := by
  refine gx_Con_of (L0 := [(0, .ref (gy_a Y c))]) (by decide) (Nat.le_of_ble_eq_true rfl) rfl (fun K hK => ?_)
  unfold fn_X7_firstFalse at hf
  refine gw_aload_n (pc := 0) hK 0 dX7_firstFalse_0 rfl rfl ?_
  refine gv_X7_134 (pc := 1) hK hc dX7_firstFalse_1 (by decide) (Nat.le_of_ble_eq_true rfl) hf (fun _ m2 hf => ?_)
  refine gw_ldc (pc := 4) hK dX7_firstFalse_4 kw_k_RX7_70 ?_
  refine gw_istore_n (L' := [(1, .int (-100004)), (0, .ref (gy_a Y c))]) (pc := 6) hK dX7_firstFalse_6 rfl (by decide) rfl ?_
  refine gw_sub (L' := [(0, .ref (gy_a Y c)), (1, .int (-100004))]) hK [1, 0] rfl (lt_X7_firstFalse_7 hK c hc _ (fun m12 y13 hf => ?_) gx_F _ _ hf)
  refine gw_aload_n (pc := 60) hK 0 dX7_firstFalse_60 rfl rfl ?_
  refine gv_X7_140 (pc := 61) hK hc dX7_firstFalse_61 (by decide) (Nat.le_of_ble_eq_true rfl) hf (fun _ m15 hf => ?_)
  refine gw_iload_n (pc := 64) hK 1 dX7_firstFalse_64 rfl rfl ?_
  exact gw_ret_i (pc := 65) hK dX7_firstFalse_65 (Option.some.inj hf)

def lf_X7_goesTo_0 (kd : Nat → Nat) (c0 : Nat) (q1 : Int32) (k : gx_M → Option (Int32 × gx_M)) : Nat → gx_M → Option (Int32 × gx_M)
  | 0, _ => none
  | n + 1, μ => (if gx_ix 0 (kd (c0 + 1) - 100) = true then (if q1 ≤ μ (c0 + 1) (Int32.toNatClampNeg 0) then
k μ 
else
gx_b (fn_X7_second kd μ c0) (fun r2 m3 =>
lf_X7_goesTo_0 kd c0 q1 k n m3 )) else none)
def fn_X7_goesTo (kd : Nat → Nat) (μ : gx_M) (c : Nat) (p1 : Int32) : Option (Int32 × gx_M) :=
  lf_X7_goesTo_0 kd c p1 (fun m4 =>
some (0, m4)) gx_F μ 
set_option maxRecDepth 100000 in
set_option maxHeartbeats 4000000 in
theorem lt_X7_goesTo_0 {l : Launch} {Y : gx_Y} {rr : Int32 × gx_M} {K : gx_KT} (hK : gx_K l RX7 cX7_goesTo 3 6 133 none Y (fun r m => (r, m) = rr) K) (c0 : Nat) (q1 : Int32) (hc0 : gk_mod Y c0) (k : gx_M → Option (Int32 × gx_M)) (hx : ∀ (μ : gx_M), k μ = some rr → K μ 18 [(0, .ref (gy_a Y c0)), (1, .int q1)] []) :
    ∀ (n : Nat) (μ : gx_M), lf_X7_goesTo_0 (gy_k Y) c0 q1 k n μ = some rr → K μ 0 [(0, .ref (gy_a Y c0)), (1, .int q1)] [] := by
  intro n
  induction n with
  | zero =>
    intro μ hf
    exact absurd hf (by simp [lf_X7_goesTo_0])
  | succ n ih =>
    intro μ hf
    rw [lf_X7_goesTo_0] at hf
    refine gw_aload_n (pc := 0) hK 0 dX7_goesTo_0 rfl rfl ?_
    refine gf_X7_7 (pc := 1) hK hc0.1 dX7_goesTo_1 ?_
    refine gw_iconst (v := 0) (pc := 4) hK dX7_goesTo_4 (by decide) ?_
    refine gw_iald (pc := 5) hK hc0.2.1.1 (gk_100 hc0.2.1) dX7_goesTo_5 hf (fun hf => ?_)
    refine gw_iload_n (pc := 6) hK 1 dX7_goesTo_6 rfl rfl ?_
    refine gw_icmp_ge (tgt := 18) (pc := 7) hK dX7_goesTo_7 (by decide) hf (fun cc1 hf => ?_) (fun cc1 hf => ?_)
    ·
      refine gw_sub (L' := [(0, .ref (gy_a Y c0)), (1, .int q1)]) hK [0, 1] rfl (hx _ hf)
    ·
      refine gw_aload_n (pc := 10) hK 0 dX7_goesTo_10 rfl rfl ?_
      refine gv_X7_122 (pc := 11) hK hc0 dX7_goesTo_11 (by decide) (Nat.le_of_ble_eq_true rfl) hf (fun r2 m3 hf => ?_)
      refine gw_istore_n (L' := [(2, .int r2), (0, .ref (gy_a Y c0)), (1, .int q1)]) (pc := 14) hK dX7_goesTo_14 rfl (by decide) rfl ?_
      refine gw_goto (tgt := 0) (pc := 15) hK dX7_goesTo_15 (by decide) ?_
      refine gw_sub (L' := [(0, .ref (gy_a Y c0)), (1, .int q1)]) hK [1, 2] rfl (ih _ hf)
set_option maxRecDepth 100000 in
set_option maxHeartbeats 4000000 in
theorem ct_X7_goesTo (l : Launch) (Y : gx_Y) (μ : gx_M) (c : Nat) (p1 : Int32) (rr : Int32 × gx_M) (hc : gk_mod Y c) (hf : fn_X7_goesTo (gy_k Y) μ c p1 = some rr) : gx_Con l yX7_goesTo cX7_goesTo 3 none 6 133 Y [.ref (gy_a Y c), .int p1] μ rr := by
  refine gx_Con_of (L0 := [(0, .ref (gy_a Y c)), (1, .int p1)]) (by decide) (Nat.le_of_ble_eq_true rfl) rfl (fun K hK => ?_)
  unfold fn_X7_goesTo at hf
  refine gw_sub (L' := [(0, .ref (gy_a Y c)), (1, .int p1)]) hK [0, 1] rfl (lt_X7_goesTo_0 hK c p1 hc _ (fun m4 hf => ?_) gx_F _ hf)
  exact gw_ret_v (pc := 18) hK dX7_goesTo_18 (Option.some.inj hf)
theorem gv_X7_137 {l : Launch} {cc : ByteArray} {nL fr lo : Nat} {ret : Option FieldType} {Y : gx_Y} {Post : Int32 → gx_M → Prop} {K : gx_KT} {pc : Nat} {μ : gx_M} {L : List (Nat × Value)} {st : List Value} {rr : Int32 × gx_M} (h : gx_K l RX7 cc nL fr lo ret Y Post K) {c : Nat} {p1 : Int32} (hc : gk_mod Y c) (d : decode cc pc = .ok (.invokevirtual 137, 3)) (hR : 6 + 1 ≤ fr ∧ 155 ≤ lo) (hst : (st.map fun v => v.category).sum ≤ 8) {k : Int32 → gx_M → Option (Int32 × gx_M)} (hf : gx_b (fn_X7_goesTo (gy_k Y) μ c p1) k = some rr) (kk : ∀ (r : Int32) (m : gx_M), k r m = some rr → K m (pc + 3) L (st)) : K μ pc L (.int p1 :: .ref (gy_a Y c) :: st) := by
  obtain ⟨r, m, e, hk⟩ := gx_b_some hf
  exact gw_callV (As := [.int p1]) (q := (r, m)) h hc.1 (by decide) rfl (by refine ⟨rfl, by decide, by decide, (show (parseMethodDescriptor yX7_goesTo.desc).map (fun d => d.parameters.length) = some 1 by decide +kernel)⟩) kw_ml_RX7_137 kw_im_X7_goesTo kw_se_X7_goesTo kw_in_RX7 kw_co_X7_goesTo hR hst d (ct_X7_goesTo l Y μ c p1 (r, m) hc e) (kk r m hk)
def fn_X7_hasSounded (kd : Nat → Nat) (μ : gx_M) (c : Nat) (p1 : Int32) : Option (Int32 × gx_M) :=
  gx_b (fn_X7_has kd μ c p1 2) (fun r1 m2 =>
(if r1 = 1 then
gx_b (fn_X7_has kd m2 c p1 3) (fun r4 m5 =>
(if r4 = (-1) then
some (0, m5)
else
some (1, m5)))
else
some (0, m2)))
set_option maxRecDepth 100000 in
set_option maxHeartbeats 4000000 in
theorem ct_X7_hasSounded (l : Launch) (Y : gx_Y) (μ : gx_M) (c : Nat) (p1 : Int32) (rr : Int32 × gx_M) (hc : gk_mod Y c) (hf : fn_X7_hasSounded (gy_k Y) μ c p1 = some rr) : gx_Con l yX7_hasSounded cX7_hasSounded 2 (some .boolean) 1 22 Y [.ref (gy_a Y c), .int p1] μ rr := by
  refine gx_Con_of (L0 := [(0, .ref (gy_a Y c)), (1, .int p1)]) (by decide) (Nat.le_of_ble_eq_true rfl) rfl (fun K hK => ?_)
  unfold fn_X7_hasSounded at hf
  refine gw_aload_n (pc := 0) hK 0 dX7_hasSounded_0 rfl rfl ?_
  refine gw_iload_n (pc := 1) hK 1 dX7_hasSounded_1 rfl rfl ?_
  refine gw_iconst (v := 2) (pc := 2) hK dX7_hasSounded_2 (by decide) ?_
  refine gv_X7_81 (pc := 3) hK hc dX7_hasSounded_3 (by decide) (Nat.le_of_ble_eq_true rfl) hf (fun r1 m2 hf => ?_)
  refine gw_iconst (v := 1) (pc := 6) hK dX7_hasSounded_6 (by decide) ?_
  refine gw_icmp_ne (tgt := 24) (pc := 7) hK dX7_hasSounded_7 (by decide) hf (fun cc3 hf => ?_) (fun cc3 hf => ?_)
  ·
    refine gw_iconst (v := 0) (pc := 24) hK dX7_hasSounded_24 (by decide) ?_
    exact gw_ret_z (pc := 25) hK dX7_hasSounded_25 rfl (Option.some.inj hf)
  ·
    refine gw_aload_n (pc := 10) hK 0 dX7_hasSounded_10 rfl rfl ?_
    refine gw_iload_n (pc := 11) hK 1 dX7_hasSounded_11 rfl rfl ?_
    refine gw_iconst (v := 3) (pc := 12) hK dX7_hasSounded_12 (by decide) ?_
    refine gv_X7_81 (pc := 13) hK hc dX7_hasSounded_13 (by decide) (Nat.le_of_ble_eq_true rfl) hf (fun r4 m5 hf => ?_)
    refine gw_iconst (v := (-1)) (pc := 16) hK dX7_hasSounded_16 (by decide) ?_
    refine gw_icmp_eq (tgt := 24) (pc := 17) hK dX7_hasSounded_17 (by decide) hf (fun cc6 hf => ?_) (fun cc6 hf => ?_)
    ·
      refine gw_iconst (v := 0) (pc := 24) hK dX7_hasSounded_24 (by decide) ?_
      exact gw_ret_z (pc := 25) hK dX7_hasSounded_25 rfl (Option.some.inj hf)
    ·
      refine gw_iconst (v := 1) (pc := 20) hK dX7_hasSounded_20 (by decide) ?_
      refine gw_goto (tgt := 25) (pc := 21) hK dX7_hasSounded_21 (by decide) ?_
      exact gw_ret_z (pc := 25) hK dX7_hasSounded_25 rfl (Option.some.inj hf)
theorem gv_X7_125 {l : Launch} {cc : ByteArray} {nL fr lo : Nat} {ret : Option FieldType} {Y : gx_Y} {Post : Int32 → gx_M → Prop} {K : gx_KT} {pc : Nat} {μ : gx_M} {L : List (Nat × Value)} {st : List Value} {rr : Int32 × gx_M} (h : gx_K l RX7 cc nL fr lo ret Y Post K) {c : Nat} {p1 : Int32} (hc : gk_mod Y c) (d : decode cc pc = .ok (.invokevirtual 125, 3)) (hR : 1 + 1 ≤ fr ∧ 43 ≤ lo) (hst : (st.map fun v => v.category).sum ≤ 8) {k : Int32 → gx_M → Option (Int32 × gx_M)} (hf : gx_b (fn_X7_hasSounded (gy_k Y) μ c p1) k = some rr) (kk : ∀ (r : Int32) (m : gx_M), k r m = some rr → K m (pc + 3) L (.int r :: st)) : K μ pc L (.int p1 :: .ref (gy_a Y c) :: st) := by
  obtain ⟨r, m, e, hk⟩ := gx_b_some hf
  exact gw_callV (As := [.int p1]) (q := (r, m)) h hc.1 (by decide) rfl (by refine ⟨rfl, by decide, by decide, (show (parseMethodDescriptor yX7_hasSounded.desc).map (fun d => d.parameters.length) = some 1 by decide +kernel)⟩) kw_ml_RX7_125 kw_im_X7_hasSounded kw_se_X7_hasSounded kw_in_RX7 kw_co_X7_hasSounded hR hst d (ct_X7_hasSounded l Y μ c p1 (r, m) hc e) (kk r m hk)
def fn_X7_isToCome (kd : Nat → Nat) (μ : gx_M) (c : Nat) (p1 : Int32) : Option (Int32 × gx_M) :=
  gx_b (fn_X7_has kd μ c p1 0) (fun r1 m2 =>
(if gx_ix 0 (kd (c + 1) - 100) = true then (if r1 ≤ m2 (c + 1) (Int32.toNatClampNeg 0) then
some (0, m2)
else
some (1, m2)) else none))
set_option maxRecDepth 100000 in
set_option maxHeartbeats 4000000 in
theorem ct_X7_isToCome (l : Launch) (Y : gx_Y) (μ : gx_M) (c : Nat) (p1 : Int32) (rr : Int32 × gx_M) (hc : gk_mod Y c) (hf : fn_X7_isToCome (gy_k Y) μ c p1 = some rr) : gx_Con l yX7_isToCome cX7_isToCome 2 (some .boolean) 1 22 Y [.ref (gy_a Y c), .int p1] μ rr := by
  refine gx_Con_of (L0 := [(0, .ref (gy_a Y c)), (1, .int p1)]) (by decide) (Nat.le_of_ble_eq_true rfl) rfl (fun K hK => ?_)
  unfold fn_X7_isToCome at hf
  refine gw_aload_n (pc := 0) hK 0 dX7_isToCome_0 rfl rfl ?_
  refine gw_iload_n (pc := 1) hK 1 dX7_isToCome_1 rfl rfl ?_
  refine gw_iconst (v := 0) (pc := 2) hK dX7_isToCome_2 (by decide) ?_
  refine gv_X7_81 (pc := 3) hK hc dX7_isToCome_3 (by decide) (Nat.le_of_ble_eq_true rfl) hf (fun r1 m2 hf => ?_)
  refine gw_aload_n (pc := 6) hK 0 dX7_isToCome_6 rfl rfl ?_
  refine gf_X7_7 (pc := 7) hK hc.1 dX7_isToCome_7 ?_
  refine gw_iconst (v := 0) (pc := 10) hK dX7_isToCome_10 (by decide) ?_
  refine gw_iald (pc := 11) hK hc.2.1.1 (gk_100 hc.2.1) dX7_isToCome_11 hf (fun hf => ?_)
  refine gw_icmp_le (tgt := 19) (pc := 12) hK dX7_isToCome_12 (by decide) hf (fun cc3 hf => ?_) (fun cc3 hf => ?_)
  ·
    refine gw_iconst (v := 0) (pc := 19) hK dX7_isToCome_19 (by decide) ?_
    exact gw_ret_z (pc := 20) hK dX7_isToCome_20 rfl (Option.some.inj hf)
  ·
    refine gw_iconst (v := 1) (pc := 15) hK dX7_isToCome_15 (by decide) ?_
    refine gw_goto (tgt := 20) (pc := 16) hK dX7_isToCome_16 (by decide) ?_
    exact gw_ret_z (pc := 20) hK dX7_isToCome_20 rfl (Option.some.inj hf)
theorem gv_X7_131 {l : Launch} {cc : ByteArray} {nL fr lo : Nat} {ret : Option FieldType} {Y : gx_Y} {Post : Int32 → gx_M → Prop} {K : gx_KT} {pc : Nat} {μ : gx_M} {L : List (Nat × Value)} {st : List Value} {rr : Int32 × gx_M} (h : gx_K l RX7 cc nL fr lo ret Y Post K) {c : Nat} {p1 : Int32} (hc : gk_mod Y c) (d : decode cc pc = .ok (.invokevirtual 131, 3)) (hR : 1 + 1 ≤ fr ∧ 43 ≤ lo) (hst : (st.map fun v => v.category).sum ≤ 8) {k : Int32 → gx_M → Option (Int32 × gx_M)} (hf : gx_b (fn_X7_isToCome (gy_k Y) μ c p1) k = some rr) (kk : ∀ (r : Int32) (m : gx_M), k r m = some rr → K m (pc + 3) L (.int r :: st)) : K μ pc L (.int p1 :: .ref (gy_a Y c) :: st) := by
  obtain ⟨r, m, e, hk⟩ := gx_b_some hf
  exact gw_callV (As := [.int p1]) (q := (r, m)) h hc.1 (by decide) rfl (by refine ⟨rfl, by decide, by decide, (show (parseMethodDescriptor yX7_isToCome.desc).map (fun d => d.parameters.length) = some 1 by decide +kernel)⟩) kw_ml_RX7_131 kw_im_X7_isToCome kw_se_X7_isToCome kw_in_RX7 kw_co_X7_isToCome hR hst d (ct_X7_isToCome l Y μ c p1 (r, m) hc e) (kk r m hk)
def lf_X7_leastTolerance_7 (kd : Nat → Nat) (c0 : Nat) (k : gx_M → Int32 → Option (Int32 × gx_M)) : Nat → gx_M → Int32 → Option (Int32 × gx_M)
  | 0, _, _ => none
  | n + 1, μ, x1 => (if gx_ix 1 (kd (c0 + 1) - 100) = true then (if μ (c0 + 1) (Int32.toNatClampNeg 1) ≤ 0 then
k μ x1
else
(if gx_ix 0 (kd (c0 + 1) - 100) = true then (if 3600 ≤ μ (c0 + 1) (Int32.toNatClampNeg 0) then
k μ x1
else
gx_b (fn_X7_second kd μ c0) (fun r5 m6 =>
(if r5 < 0 then
lf_X7_leastTolerance_7 kd c0 k n m6 x1
else
gx_b (fn_X7_has kd m6 c0 r5 4) (fun r8 m9 =>
gx_b (fn_X7_size kd m9 r8) (fun r10 m11 =>
(if r10 ≤ x1 then
lf_X7_leastTolerance_7 kd c0 k n m11 x1
else
gx_b (fn_X7_has kd m11 c0 r5 4) (fun r13 m14 =>
gx_b (fn_X7_size kd m14 r13) (fun r15 m16 =>
lf_X7_leastTolerance_7 kd c0 k n m16 r15)))))))) else none)) else none)
def fn_X7_leastTolerance (kd : Nat → Nat) (μ : gx_M) (c : Nat) : Option (Int32 × gx_M) :=
  gx_b (fn_X7_laysAside kd μ c) (fun _ m2 =>
lf_X7_leastTolerance_7 kd c (fun m17 y18 =>
gx_b (fn_X7_bringsBack kd m17 c) (fun _ m20 =>
some (y18, m20))) gx_F m2 (-100004))
set_option maxRecDepth 100000 in
set_option maxHeartbeats 4000000 in
theorem lt_X7_leastTolerance_7 {l : Launch} {Y : gx_Y} {rr : Int32 × gx_M} {K : gx_KT} (hK : gx_K l RX7 cX7_leastTolerance 3 6 133 (some .int) Y (fun r m => (r, m) = rr) K) (c0 : Nat) (hc0 : gk_mod Y c0) (k : gx_M → Int32 → Option (Int32 × gx_M)) (hx : ∀ (μ : gx_M) (x1 : Int32), k μ x1 = some rr → K μ 67 [(0, .ref (gy_a Y c0)), (1, .int x1)] []) :
    ∀ (n : Nat) (μ : gx_M) (x1 : Int32), lf_X7_leastTolerance_7 (gy_k Y) c0 k n μ x1 = some rr → K μ 7 [(0, .ref (gy_a Y c0)), (1, .int x1)] [] := by
  intro n
  induction n with
  | zero =>
    intro μ x1 hf
    exact absurd hf (by simp [lf_X7_leastTolerance_7])
  | succ n ih =>
    intro μ x1 hf
    rw [lf_X7_leastTolerance_7] at hf
    refine gw_aload_n (pc := 7) hK 0 dX7_leastTolerance_7 rfl rfl ?_
    refine gf_X7_7 (pc := 8) hK hc0.1 dX7_leastTolerance_8 ?_
    refine gw_iconst (v := 1) (pc := 11) hK dX7_leastTolerance_11 (by decide) ?_
    refine gw_iald (pc := 12) hK hc0.2.1.1 (gk_100 hc0.2.1) dX7_leastTolerance_12 hf (fun hf => ?_)
    refine gw_if_le (tgt := 67) (pc := 13) hK dX7_leastTolerance_13 (by decide) hf (fun cc3 hf => ?_) (fun cc3 hf => ?_)
    ·
      refine gw_sub (L' := [(0, .ref (gy_a Y c0)), (1, .int x1)]) hK [0, 1] rfl (hx _ _ hf)
    ·
      refine gw_aload_n (pc := 16) hK 0 dX7_leastTolerance_16 rfl rfl ?_
      refine gf_X7_7 (pc := 17) hK hc0.1 dX7_leastTolerance_17 ?_
      refine gw_iconst (v := 0) (pc := 20) hK dX7_leastTolerance_20 (by decide) ?_
      refine gw_iald (pc := 21) hK hc0.2.1.1 (gk_100 hc0.2.1) dX7_leastTolerance_21 hf (fun hf => ?_)
      refine gw_sipush (v := 3600) (pc := 22) hK dX7_leastTolerance_22 (by decide) ?_
      refine gw_icmp_ge (tgt := 67) (pc := 25) hK dX7_leastTolerance_25 (by decide) hf (fun cc4 hf => ?_) (fun cc4 hf => ?_)
      ·
        refine gw_sub (L' := [(0, .ref (gy_a Y c0)), (1, .int x1)]) hK [0, 1] rfl (hx _ _ hf)
      ·
        refine gw_aload_n (pc := 28) hK 0 dX7_leastTolerance_28 rfl rfl ?_
        refine gv_X7_122 (pc := 29) hK hc0 dX7_leastTolerance_29 (by decide) (Nat.le_of_ble_eq_true rfl) hf (fun r5 m6 hf => ?_)
        refine gw_istore_n (L' := [(2, .int r5), (0, .ref (gy_a Y c0)), (1, .int x1)]) (pc := 32) hK dX7_leastTolerance_32 rfl (by decide) rfl ?_
        refine gw_iload_n (pc := 33) hK 0 dX7_leastTolerance_33 rfl rfl ?_
        refine gw_if_lt (tgt := 62) (pc := 34) hK dX7_leastTolerance_34 (by decide) hf (fun cc7 hf => ?_) (fun cc7 hf => ?_)
        ·
          refine gw_iload_n (pc := 62) hK 2 dX7_leastTolerance_62 rfl rfl ?_
          refine gw_istore_n (L' := [(1, .int x1), (2, .int r5), (0, .ref (gy_a Y c0))]) (pc := 63) hK dX7_leastTolerance_63 rfl (by decide) rfl ?_
          refine gw_goto (tgt := 7) (pc := 64) hK dX7_leastTolerance_64 (by decide) ?_
          refine gw_sub (L' := [(0, .ref (gy_a Y c0)), (1, .int x1)]) hK [2, 0] rfl (ih _ _ hf)
        ·
          refine gw_aload_n (pc := 37) hK 1 dX7_leastTolerance_37 rfl rfl ?_
          refine gw_iload_n (pc := 38) hK 0 dX7_leastTolerance_38 rfl rfl ?_
          refine gw_iconst (v := 4) (pc := 39) hK dX7_leastTolerance_39 (by decide) ?_
          refine gv_X7_81 (pc := 40) hK hc0 dX7_leastTolerance_40 (by decide) (Nat.le_of_ble_eq_true rfl) hf (fun r8 m9 hf => ?_)
          refine gv_X7_67 (pc := 43) hK dX7_leastTolerance_43 (by decide) (Nat.le_of_ble_eq_true rfl) hf (fun r10 m11 hf => ?_)
          refine gw_iload_n (pc := 46) hK 2 dX7_leastTolerance_46 rfl rfl ?_
          refine gw_icmp_le (tgt := 62) (pc := 47) hK dX7_leastTolerance_47 (by decide) hf (fun cc12 hf => ?_) (fun cc12 hf => ?_)
          ·
            refine gw_iload_n (pc := 62) hK 2 dX7_leastTolerance_62 rfl rfl ?_
            refine gw_istore_n (L' := [(1, .int x1), (2, .int r5), (0, .ref (gy_a Y c0))]) (pc := 63) hK dX7_leastTolerance_63 rfl (by decide) rfl ?_
            refine gw_goto (tgt := 7) (pc := 64) hK dX7_leastTolerance_64 (by decide) ?_
            refine gw_sub (L' := [(0, .ref (gy_a Y c0)), (1, .int x1)]) hK [2, 0] rfl (ih _ _ hf)
          ·
            refine gw_aload_n (pc := 50) hK 1 dX7_leastTolerance_50 rfl rfl ?_
            refine gw_iload_n (pc := 51) hK 0 dX7_leastTolerance_51 rfl rfl ?_
            refine gw_iconst (v := 4) (pc := 52) hK dX7_leastTolerance_52 (by decide) ?_
            refine gv_X7_81 (pc := 53) hK hc0 dX7_leastTolerance_53 (by decide) (Nat.le_of_ble_eq_true rfl) hf (fun r13 m14 hf => ?_)
            refine gv_X7_67 (pc := 56) hK dX7_leastTolerance_56 (by decide) (Nat.le_of_ble_eq_true rfl) hf (fun r15 m16 hf => ?_)
            refine gw_goto (tgt := 63) (pc := 59) hK dX7_leastTolerance_59 (by decide) ?_
            refine gw_istore_n (L' := [(1, .int r15), (2, .int r5), (0, .ref (gy_a Y c0))]) (pc := 63) hK dX7_leastTolerance_63 rfl (by decide) rfl ?_
            refine gw_goto (tgt := 7) (pc := 64) hK dX7_leastTolerance_64 (by decide) ?_
            refine gw_sub (L' := [(0, .ref (gy_a Y c0)), (1, .int r15)]) hK [2, 0] rfl (ih _ _ hf)
set_option maxRecDepth 100000 in
set_option maxHeartbeats 4000000 in
theorem ct_X7_leastTolerance (l : Launch) (Y : gx_Y) (μ : gx_M) (c : Nat) (rr : Int32 × gx_M) (hc : gk_mod Y c) (hf : fn_X7_leastTolerance (gy_k Y) μ c = some rr) : gx_Con l yX7_leastTolerance cX7_leastTolerance 3 (some .int) 6 133 Y [.ref (gy_a Y c)] μ rr := by
  refine gx_Con_of (L0 := [(0, .ref (gy_a Y c))]) (by decide) (Nat.le_of_ble_eq_true rfl) rfl (fun K hK => ?_)
  unfold fn_X7_leastTolerance at hf
  refine gw_aload_n (pc := 0) hK 0 dX7_leastTolerance_0 rfl rfl ?_
  refine gv_X7_134 (pc := 1) hK hc dX7_leastTolerance_1 (by decide) (Nat.le_of_ble_eq_true rfl) hf (fun _ m2 hf => ?_)
  refine gw_ldc (pc := 4) hK dX7_leastTolerance_4 kw_k_RX7_70 ?_
  refine gw_istore_n (L' := [(1, .int (-100004)), (0, .ref (gy_a Y c))]) (pc := 6) hK dX7_leastTolerance_6 rfl (by decide) rfl ?_
  refine gw_sub (L' := [(0, .ref (gy_a Y c)), (1, .int (-100004))]) hK [1, 0] rfl (lt_X7_leastTolerance_7 hK c hc _ (fun m17 y18 hf => ?_) gx_F _ _ hf)
  refine gw_aload_n (pc := 67) hK 0 dX7_leastTolerance_67 rfl rfl ?_
  refine gv_X7_140 (pc := 68) hK hc dX7_leastTolerance_68 (by decide) (Nat.le_of_ble_eq_true rfl) hf (fun _ m20 hf => ?_)
  refine gw_iload_n (pc := 71) hK 1 dX7_leastTolerance_71 rfl rfl ?_
  exact gw_ret_i (pc := 72) hK dX7_leastTolerance_72 (Option.some.inj hf)

def lf_X7_levelFor_29 (kd : Nat → Nat) (c0 : Nat) (q1 : Int32) (q2 : Int32) (k : gx_M → Int32 → Int32 → Option (Int32 × gx_M)) : Nat → gx_M → Int32 → Int32 → Option (Int32 × gx_M)
  | 0, _, _, _ => none
  | n + 1, μ, x3, x4 => gx_b (fn_X7_of kd μ c0 q1 4) (fun r7 m8 =>
(if r7 < x4 then
k m8 x3 x4
else
gx_b (fn_X7_pitchBy kd m8 c0 q1 x4) (fun r10 m11 =>
gx_b (fn_X7_size kd m11 (r10 - q2)) (fun r12 m13 =>
gx_b (fn_X7_pitchBy kd m13 c0 q1 x3) (fun r14 m15 =>
gx_b (fn_X7_size kd m15 (r14 - q2)) (fun r16 m17 =>
(if r16 ≤ r12 then
lf_X7_levelFor_29 kd c0 q1 q2 k n m17 x3 (x4 + 1)
else
lf_X7_levelFor_29 kd c0 q1 q2 k n m17 x4 (x4 + 1))))))))
def fn_X7_levelFor (kd : Nat → Nat) (μ : gx_M) (c : Nat) (p1 : Int32) (p2 : Int32) : Option (Int32 × gx_M) :=
  gx_b (fn_X7_isBowl kd μ c p1) (fun r1 m2 =>
(if r1 = 0 then
some ((-100001), m2)
else
gx_b (fn_X7_in kd m2 p2 (-3000) 6000) (fun r4 m5 =>
(if r4 = 0 then
some ((-100001), m5)
else
lf_X7_levelFor_29 kd c p1 p2 (fun m19 y20 y21 =>
some (y20, m19)) gx_F m5 0 1))))
set_option maxRecDepth 100000 in
set_option maxHeartbeats 4000000 in
theorem lt_X7_levelFor_29 {l : Launch} {Y : gx_Y} {rr : Int32 × gx_M} {K : gx_KT} (hK : gx_K l RX7 cX7_levelFor 5 2 44 (some .int) Y (fun r m => (r, m) = rr) K) (c0 : Nat) (q1 : Int32) (q2 : Int32) (hc0 : gk_mod Y c0) (k : gx_M → Int32 → Int32 → Option (Int32 × gx_M)) (hx : ∀ (μ : gx_M) (x3 : Int32) (x4 : Int32), k μ x3 x4 = some rr → K μ 79 [(0, .ref (gy_a Y c0)), (1, .int q1), (2, .int q2), (3, .int x3), (4, .int x4)] []) :
    ∀ (n : Nat) (μ : gx_M) (x3 : Int32) (x4 : Int32), lf_X7_levelFor_29 (gy_k Y) c0 q1 q2 k n μ x3 x4 = some rr → K μ 29 [(0, .ref (gy_a Y c0)), (1, .int q1), (2, .int q2), (3, .int x3), (4, .int x4)] [] := by
  intro n
  induction n with
  | zero =>
    intro μ x3 x4 hf
    exact absurd hf (by simp [lf_X7_levelFor_29])
  | succ n ih =>
    intro μ x3 x4 hf
    rw [lf_X7_levelFor_29] at hf
    refine gw_iload (pc := 29) hK 4 dX7_levelFor_29 rfl ?_
    refine gw_aload_n (pc := 31) hK 0 dX7_levelFor_31 rfl rfl ?_
    refine gw_iload_n (pc := 32) hK 1 dX7_levelFor_32 rfl rfl ?_
    refine gw_iconst (v := 4) (pc := 33) hK dX7_levelFor_33 (by decide) ?_
    refine gv_X7_34 (pc := 34) hK hc0 dX7_levelFor_34 (by decide) (Nat.le_of_ble_eq_true rfl) hf (fun r7 m8 hf => ?_)
    refine gw_icmp_gt (tgt := 79) (pc := 37) hK dX7_levelFor_37 (by decide) hf (fun cc9 hf => ?_) (fun cc9 hf => ?_)
    ·
      refine gw_sub (L' := [(0, .ref (gy_a Y c0)), (1, .int q1), (2, .int q2), (3, .int x3), (4, .int x4)]) hK [0, 1, 2, 3, 4] rfl (hx _ _ _ hf)
    ·
      refine gw_aload_n (pc := 40) hK 0 dX7_levelFor_40 rfl rfl ?_
      refine gw_iload_n (pc := 41) hK 1 dX7_levelFor_41 rfl rfl ?_
      refine gw_iload (pc := 42) hK 4 dX7_levelFor_42 rfl ?_
      refine gv_X7_40 (pc := 44) hK hc0 dX7_levelFor_44 (by decide) (Nat.le_of_ble_eq_true rfl) hf (fun r10 m11 hf => ?_)
      refine gw_iload_n (pc := 47) hK 2 dX7_levelFor_47 rfl rfl ?_
      refine gw_isub (pc := 48) hK dX7_levelFor_48 ?_
      refine gv_X7_67 (pc := 49) hK dX7_levelFor_49 (by decide) (Nat.le_of_ble_eq_true rfl) hf (fun r12 m13 hf => ?_)
      refine gw_aload_n (pc := 52) hK 0 dX7_levelFor_52 rfl rfl ?_
      refine gw_iload_n (pc := 53) hK 1 dX7_levelFor_53 rfl rfl ?_
      refine gw_iload_n (pc := 54) hK 3 dX7_levelFor_54 rfl rfl ?_
      refine gv_X7_40 (pc := 55) hK hc0 dX7_levelFor_55 (by decide) (Nat.le_of_ble_eq_true rfl) hf (fun r14 m15 hf => ?_)
      refine gw_iload_n (pc := 58) hK 2 dX7_levelFor_58 rfl rfl ?_
      refine gw_isub (pc := 59) hK dX7_levelFor_59 ?_
      refine gv_X7_67 (pc := 60) hK dX7_levelFor_60 (by decide) (Nat.le_of_ble_eq_true rfl) hf (fun r16 m17 hf => ?_)
      refine gw_icmp_ge (tgt := 71) (pc := 63) hK dX7_levelFor_63 (by decide) hf (fun cc18 hf => ?_) (fun cc18 hf => ?_)
      ·
        refine gw_iload_n (pc := 71) hK 3 dX7_levelFor_71 rfl rfl ?_
        refine gw_istore_n (L' := [(3, .int x3), (0, .ref (gy_a Y c0)), (1, .int q1), (2, .int q2), (4, .int x4)]) (pc := 72) hK dX7_levelFor_72 rfl (by decide) rfl ?_
        refine gw_iinc (v := (x4 + 1)) (L' := [(4, .int (x4 + 1)), (3, .int x3), (0, .ref (gy_a Y c0)), (1, .int q1), (2, .int q2)]) (pc := 73) hK 4 dX7_levelFor_73 rfl rfl (by decide) rfl ?_
        refine gw_goto (tgt := 29) (pc := 76) hK dX7_levelFor_76 (by decide) ?_
        refine gw_sub (L' := [(0, .ref (gy_a Y c0)), (1, .int q1), (2, .int q2), (3, .int x3), (4, .int (x4 + 1))]) hK [2, 3, 4, 1, 0] rfl (ih _ _ _ hf)
      ·
        refine gw_iload (pc := 66) hK 4 dX7_levelFor_66 rfl ?_
        refine gw_goto (tgt := 72) (pc := 68) hK dX7_levelFor_68 (by decide) ?_
        refine gw_istore_n (L' := [(3, .int x4), (0, .ref (gy_a Y c0)), (1, .int q1), (2, .int q2), (4, .int x4)]) (pc := 72) hK dX7_levelFor_72 rfl (by decide) rfl ?_
        refine gw_iinc (v := (x4 + 1)) (L' := [(4, .int (x4 + 1)), (3, .int x4), (0, .ref (gy_a Y c0)), (1, .int q1), (2, .int q2)]) (pc := 73) hK 4 dX7_levelFor_73 rfl rfl (by decide) rfl ?_
        refine gw_goto (tgt := 29) (pc := 76) hK dX7_levelFor_76 (by decide) ?_
        refine gw_sub (L' := [(0, .ref (gy_a Y c0)), (1, .int q1), (2, .int q2), (3, .int x4), (4, .int (x4 + 1))]) hK [2, 3, 4, 1, 0] rfl (ih _ _ _ hf)
set_option maxRecDepth 100000 in
set_option maxHeartbeats 4000000 in
theorem ct_X7_levelFor (l : Launch) (Y : gx_Y) (μ : gx_M) (c : Nat) (p1 : Int32) (p2 : Int32) (rr : Int32 × gx_M) (hc : gk_mod Y c) (hf : fn_X7_levelFor (gy_k Y) μ c p1 p2 = some rr) : gx_Con l yX7_levelFor cX7_levelFor 5 (some .int) 2 44 Y [.ref (gy_a Y c), .int p1, .int p2] μ rr := by
  refine gx_Con_of (L0 := [(0, .ref (gy_a Y c)), (1, .int p1), (2, .int p2)]) (by decide) (Nat.le_of_ble_eq_true rfl) rfl (fun K hK => ?_)
  unfold fn_X7_levelFor at hf
  refine gw_aload_n (pc := 0) hK 0 dX7_levelFor_0 rfl rfl ?_
  refine gw_iload_n (pc := 1) hK 1 dX7_levelFor_1 rfl rfl ?_
  refine gv_X7_56 (pc := 2) hK hc dX7_levelFor_2 (by decide) (Nat.le_of_ble_eq_true rfl) hf (fun r1 m2 hf => ?_)
  refine gw_if_eq (tgt := 21) (pc := 5) hK dX7_levelFor_5 (by decide) hf (fun cc3 hf => ?_) (fun cc3 hf => ?_)
  ·
    refine gw_ldc (pc := 21) hK dX7_levelFor_21 kw_k_RX7_51 ?_
    exact gw_ret_i (pc := 23) hK dX7_levelFor_23 (Option.some.inj hf)
  ·
    refine gw_iload_n (pc := 8) hK 2 dX7_levelFor_8 rfl rfl ?_
    refine gw_sipush (v := (-3000)) (pc := 9) hK dX7_levelFor_9 (by decide) ?_
    refine gw_sipush (v := 6000) (pc := 12) hK dX7_levelFor_12 (by decide) ?_
    refine gv_X7_25 (pc := 15) hK dX7_levelFor_15 (by decide) (Nat.le_of_ble_eq_true rfl) hf (fun r4 m5 hf => ?_)
    refine gw_if_ne (tgt := 24) (pc := 18) hK dX7_levelFor_18 (by decide) hf (fun cc6 hf => ?_) (fun cc6 hf => ?_)
    ·
      refine gw_iconst (v := 0) (pc := 24) hK dX7_levelFor_24 (by decide) ?_
      refine gw_istore_n (L' := [(3, .int 0), (0, .ref (gy_a Y c)), (1, .int p1), (2, .int p2)]) (pc := 25) hK dX7_levelFor_25 rfl (by decide) rfl ?_
      refine gw_iconst (v := 1) (pc := 26) hK dX7_levelFor_26 (by decide) ?_
      refine gw_istore (L' := [(4, .int 1), (3, .int 0), (0, .ref (gy_a Y c)), (1, .int p1), (2, .int p2)]) (pc := 27) hK dX7_levelFor_27 (by decide) rfl ?_
      refine gw_sub (L' := [(0, .ref (gy_a Y c)), (1, .int p1), (2, .int p2), (3, .int 0), (4, .int 1)]) hK [2, 3, 4, 1, 0] rfl (lt_X7_levelFor_29 hK c p1 p2 hc _ (fun m19 y20 y21 hf => ?_) gx_F _ _ _ hf)
      refine gw_iload_n (pc := 79) hK 3 dX7_levelFor_79 rfl rfl ?_
      exact gw_ret_i (pc := 80) hK dX7_levelFor_80 (Option.some.inj hf)
    ·
      refine gw_ldc (pc := 21) hK dX7_levelFor_21 kw_k_RX7_51 ?_
      exact gw_ret_i (pc := 23) hK dX7_levelFor_23 (Option.some.inj hf)

def fn_X7_mark (kd : Nat → Nat) (μ : gx_M) (c : Nat) (p1 : Int32) (p2 : Int32) : Option (Int32 × gx_M) :=
  gx_b (fn_X7_isBowl kd μ c p1) (fun r1 m2 =>
(if r1 = 0 then
some ((-100001), m2)
else
gx_b (fn_X7_in kd m2 p2 0 1000) (fun r4 m5 =>
(if r4 = 0 then
some ((-100001), m5)
else
gx_b (fn_X7_records kd m5 c) (fun _ m8 =>
gx_b (fn_X7_of kd m8 c p1 3) (fun r9 m10 =>
gx_b (fn_X7_put kd m10 c p1 3 p2) (fun _ m12 =>
some (r9, m12))))))))
set_option maxRecDepth 100000 in
set_option maxHeartbeats 4000000 in
theorem ct_X7_mark (l : Launch) (Y : gx_Y) (μ : gx_M) (c : Nat) (p1 : Int32) (p2 : Int32) (rr : Int32 × gx_M) (hc : gk_mod Y c) (hf : fn_X7_mark (gy_k Y) μ c p1 p2 = some rr) : gx_Con l yX7_mark cX7_mark 4 (some .int) 2 43 Y [.ref (gy_a Y c), .int p1, .int p2] μ rr := by
  refine gx_Con_of (L0 := [(0, .ref (gy_a Y c)), (1, .int p1), (2, .int p2)]) (by decide) (Nat.le_of_ble_eq_true rfl) rfl (fun K hK => ?_)
  unfold fn_X7_mark at hf
  refine gw_aload_n (pc := 0) hK 0 dX7_mark_0 rfl rfl ?_
  refine gw_iload_n (pc := 1) hK 1 dX7_mark_1 rfl rfl ?_
  refine gv_X7_56 (pc := 2) hK hc dX7_mark_2 (by decide) (Nat.le_of_ble_eq_true rfl) hf (fun r1 m2 hf => ?_)
  refine gw_if_eq (tgt := 19) (pc := 5) hK dX7_mark_5 (by decide) hf (fun cc3 hf => ?_) (fun cc3 hf => ?_)
  ·
    refine gw_ldc (pc := 19) hK dX7_mark_19 kw_k_RX7_51 ?_
    exact gw_ret_i (pc := 21) hK dX7_mark_21 (Option.some.inj hf)
  ·
    refine gw_iload_n (pc := 8) hK 2 dX7_mark_8 rfl rfl ?_
    refine gw_iconst (v := 0) (pc := 9) hK dX7_mark_9 (by decide) ?_
    refine gw_sipush (v := 1000) (pc := 10) hK dX7_mark_10 (by decide) ?_
    refine gv_X7_25 (pc := 13) hK dX7_mark_13 (by decide) (Nat.le_of_ble_eq_true rfl) hf (fun r4 m5 hf => ?_)
    refine gw_if_ne (tgt := 22) (pc := 16) hK dX7_mark_16 (by decide) hf (fun cc6 hf => ?_) (fun cc6 hf => ?_)
    ·
      refine gw_aload_n (pc := 22) hK 0 dX7_mark_22 rfl rfl ?_
      refine gv_X7_53 (pc := 23) hK hc dX7_mark_23 (by decide) (Nat.le_of_ble_eq_true rfl) hf (fun _ m8 hf => ?_)
      refine gw_aload_n (pc := 26) hK 0 dX7_mark_26 rfl rfl ?_
      refine gw_iload_n (pc := 27) hK 1 dX7_mark_27 rfl rfl ?_
      refine gw_iconst (v := 3) (pc := 28) hK dX7_mark_28 (by decide) ?_
      refine gv_X7_34 (pc := 29) hK hc dX7_mark_29 (by decide) (Nat.le_of_ble_eq_true rfl) hf (fun r9 m10 hf => ?_)
      refine gw_istore_n (L' := [(3, .int r9), (0, .ref (gy_a Y c)), (1, .int p1), (2, .int p2)]) (pc := 32) hK dX7_mark_32 rfl (by decide) rfl ?_
      refine gw_aload_n (pc := 33) hK 1 dX7_mark_33 rfl rfl ?_
      refine gw_iload_n (pc := 34) hK 2 dX7_mark_34 rfl rfl ?_
      refine gw_iconst (v := 3) (pc := 35) hK dX7_mark_35 (by decide) ?_
      refine gw_iload_n (pc := 36) hK 3 dX7_mark_36 rfl rfl ?_
      refine gv_X7_43 (pc := 37) hK hc dX7_mark_37 (by decide) (Nat.le_of_ble_eq_true rfl) hf (fun _ m12 hf => ?_)
      refine gw_iload_n (pc := 40) hK 0 dX7_mark_40 rfl rfl ?_
      exact gw_ret_i (pc := 41) hK dX7_mark_41 (Option.some.inj hf)
    ·
      refine gw_ldc (pc := 19) hK dX7_mark_19 kw_k_RX7_51 ?_
      exact gw_ret_i (pc := 21) hK dX7_mark_21 (Option.some.inj hf)

def fn_X7_nearest (kd : Nat → Nat) (μ : gx_M) (c : Nat) (p1 : Int32) : Option (Int32 × gx_M) :=
  gx_b (fn_X7_in kd μ p1 0 6000) (fun r1 m2 =>
(if r1 = 0 then
some ((-100001), m2)
else
(if gx_ix 1 (kd (c + 1) - 100) = true then (if m2 (c + 1) (Int32.toNatClampNeg 1) = 0 then
some ((-100004), m2)
else
gx_b (fn_X7_sounds kd m2 c p1) (fun r5 m6 =>
some (r5, m6))) else none)))
set_option maxRecDepth 100000 in
set_option maxHeartbeats 4000000 in
theorem ct_X7_nearest (l : Launch) (Y : gx_Y) (μ : gx_M) (c : Nat) (p1 : Int32) (rr : Int32 × gx_M) (hc : gk_mod Y c) (hf : fn_X7_nearest (gy_k Y) μ c p1 = some rr) : gx_Con l yX7_nearest cX7_nearest 2 (some .int) 4 88 Y [.ref (gy_a Y c), .int p1] μ rr := by
  refine gx_Con_of (L0 := [(0, .ref (gy_a Y c)), (1, .int p1)]) (by decide) (Nat.le_of_ble_eq_true rfl) rfl (fun K hK => ?_)
  unfold fn_X7_nearest at hf
  refine gw_iload_n (pc := 0) hK 1 dX7_nearest_0 rfl rfl ?_
  refine gw_iconst (v := 0) (pc := 1) hK dX7_nearest_1 (by decide) ?_
  refine gw_sipush (v := 6000) (pc := 2) hK dX7_nearest_2 (by decide) ?_
  refine gv_X7_25 (pc := 5) hK dX7_nearest_5 (by decide) (Nat.le_of_ble_eq_true rfl) hf (fun r1 m2 hf => ?_)
  refine gw_if_ne (tgt := 14) (pc := 8) hK dX7_nearest_8 (by decide) hf (fun cc3 hf => ?_) (fun cc3 hf => ?_)
  ·
    refine gw_aload_n (pc := 14) hK 0 dX7_nearest_14 rfl rfl ?_
    refine gf_X7_7 (pc := 15) hK hc.1 dX7_nearest_15 ?_
    refine gw_iconst (v := 1) (pc := 18) hK dX7_nearest_18 (by decide) ?_
    refine gw_iald (pc := 19) hK hc.2.1.1 (gk_100 hc.2.1) dX7_nearest_19 hf (fun hf => ?_)
    refine gw_if_ne (tgt := 28) (pc := 20) hK dX7_nearest_20 (by decide) hf (fun cc4 hf => ?_) (fun cc4 hf => ?_)
    ·
      refine gw_aload_n (pc := 28) hK 0 dX7_nearest_28 rfl rfl ?_
      refine gw_iload_n (pc := 29) hK 1 dX7_nearest_29 rfl rfl ?_
      refine gv_X7_71 (pc := 30) hK hc dX7_nearest_30 (by decide) (Nat.le_of_ble_eq_true rfl) hf (fun r5 m6 hf => ?_)
      exact gw_ret_i (pc := 33) hK dX7_nearest_33 (Option.some.inj hf)
    ·
      refine gw_ldc (pc := 23) hK dX7_nearest_23 kw_k_RX7_70 ?_
      refine gw_goto (tgt := 33) (pc := 25) hK dX7_nearest_25 (by decide) ?_
      exact gw_ret_i (pc := 33) hK dX7_nearest_33 (Option.some.inj hf)
  ·
    refine gw_ldc (pc := 11) hK dX7_nearest_11 kw_k_RX7_51 ?_
    exact gw_ret_i (pc := 13) hK dX7_nearest_13 (Option.some.inj hf)

def fn_X7_note (kd : Nat → Nat) (μ : gx_M) (c : Nat) (p1 : Int32) (p2 : Int32) : Option (Int32 × gx_M) :=
  gx_b (fn_X7_in kd μ p1 0 3600) (fun r1 m2 =>
(if r1 = 0 then
some ((-100001), m2)
else
gx_b (fn_X7_in kd m2 p2 0 6000) (fun r4 m5 =>
(if r4 = 0 then
some ((-100001), m5)
else
gx_b (fn_X7_noteAt kd m5 c p1) (fun r7 m8 =>
(if r7 < 0 then
(if gx_ix 2 (kd (c + 1) - 100) = true then (if m8 (c + 1) (Int32.toNatClampNeg 2) = 40 then
some ((-100003), m8)
else
gx_b (fn_X7_records kd m8 c) (fun _ m12 =>
gx_b (fn_X7_newNote kd m12 c p1 p2) (fun r13 m14 =>
some (r13, m14)))) else none)
else
some ((-100002), m8)))))))
set_option maxRecDepth 100000 in
set_option maxHeartbeats 4000000 in
theorem ct_X7_note (l : Launch) (Y : gx_Y) (μ : gx_M) (c : Nat) (p1 : Int32) (p2 : Int32) (rr : Int32 × gx_M) (hc : gk_mod Y c) (hf : fn_X7_note (gy_k Y) μ c p1 p2 = some rr) : gx_Con l yX7_note cX7_note 3 (some .int) 2 47 Y [.ref (gy_a Y c), .int p1, .int p2] μ rr := by
  refine gx_Con_of (L0 := [(0, .ref (gy_a Y c)), (1, .int p1), (2, .int p2)]) (by decide) (Nat.le_of_ble_eq_true rfl) rfl (fun K hK => ?_)
  unfold fn_X7_note at hf
  refine gw_iload_n (pc := 0) hK 1 dX7_note_0 rfl rfl ?_
  refine gw_iconst (v := 0) (pc := 1) hK dX7_note_1 (by decide) ?_
  refine gw_sipush (v := 3600) (pc := 2) hK dX7_note_2 (by decide) ?_
  refine gv_X7_25 (pc := 5) hK dX7_note_5 (by decide) (Nat.le_of_ble_eq_true rfl) hf (fun r1 m2 hf => ?_)
  refine gw_if_eq (tgt := 22) (pc := 8) hK dX7_note_8 (by decide) hf (fun cc3 hf => ?_) (fun cc3 hf => ?_)
  ·
    refine gw_ldc (pc := 22) hK dX7_note_22 kw_k_RX7_51 ?_
    exact gw_ret_i (pc := 24) hK dX7_note_24 (Option.some.inj hf)
  ·
    refine gw_iload_n (pc := 11) hK 2 dX7_note_11 rfl rfl ?_
    refine gw_iconst (v := 0) (pc := 12) hK dX7_note_12 (by decide) ?_
    refine gw_sipush (v := 6000) (pc := 13) hK dX7_note_13 (by decide) ?_
    refine gv_X7_25 (pc := 16) hK dX7_note_16 (by decide) (Nat.le_of_ble_eq_true rfl) hf (fun r4 m5 hf => ?_)
    refine gw_if_ne (tgt := 25) (pc := 19) hK dX7_note_19 (by decide) hf (fun cc6 hf => ?_) (fun cc6 hf => ?_)
    ·
      refine gw_aload_n (pc := 25) hK 0 dX7_note_25 rfl rfl ?_
      refine gw_iload_n (pc := 26) hK 1 dX7_note_26 rfl rfl ?_
      refine gv_X7_103 (pc := 27) hK hc dX7_note_27 (by decide) (Nat.le_of_ble_eq_true rfl) hf (fun r7 m8 hf => ?_)
      refine gw_if_lt (tgt := 36) (pc := 30) hK dX7_note_30 (by decide) hf (fun cc9 hf => ?_) (fun cc9 hf => ?_)
      ·
        refine gw_aload_n (pc := 36) hK 0 dX7_note_36 rfl rfl ?_
        refine gf_X7_7 (pc := 37) hK hc.1 dX7_note_37 ?_
        refine gw_iconst (v := 2) (pc := 40) hK dX7_note_40 (by decide) ?_
        refine gw_iald (pc := 41) hK hc.2.1.1 (gk_100 hc.2.1) dX7_note_41 hf (fun hf => ?_)
        refine gw_bipush (v := 40) (pc := 42) hK dX7_note_42 (by decide) ?_
        refine gw_icmp_ne (tgt := 50) (pc := 44) hK dX7_note_44 (by decide) hf (fun cc10 hf => ?_) (fun cc10 hf => ?_)
        ·
          refine gw_aload_n (pc := 50) hK 0 dX7_note_50 rfl rfl ?_
          refine gv_X7_53 (pc := 51) hK hc dX7_note_51 (by decide) (Nat.le_of_ble_eq_true rfl) hf (fun _ m12 hf => ?_)
          refine gw_aload_n (pc := 54) hK 0 dX7_note_54 rfl rfl ?_
          refine gw_iload_n (pc := 55) hK 1 dX7_note_55 rfl rfl ?_
          refine gw_iload_n (pc := 56) hK 2 dX7_note_56 rfl rfl ?_
          refine gv_X7_106 (pc := 57) hK hc dX7_note_57 (by decide) (Nat.le_of_ble_eq_true rfl) hf (fun r13 m14 hf => ?_)
          exact gw_ret_i (pc := 60) hK dX7_note_60 (Option.some.inj hf)
        ·
          refine gw_ldc (pc := 47) hK dX7_note_47 kw_k_RX7_52 ?_
          exact gw_ret_i (pc := 49) hK dX7_note_49 (Option.some.inj hf)
      ·
        refine gw_ldc (pc := 33) hK dX7_note_33 kw_k_RX7_33 ?_
        exact gw_ret_i (pc := 35) hK dX7_note_35 (Option.some.inj hf)
    ·
      refine gw_ldc (pc := 22) hK dX7_note_22 kw_k_RX7_51 ?_
      exact gw_ret_i (pc := 24) hK dX7_note_24 (Option.some.inj hf)

def fn_X7_noteOf (kd : Nat → Nat) (μ : gx_M) (c : Nat) (p1 : Int32) (p2 : Int32) : Option (Int32 × gx_M) :=
  gx_b (fn_X7_isNote kd μ c p1) (fun r1 m2 =>
(if r1 = 0 then
some ((-100001), m2)
else
gx_b (fn_X7_in kd m2 p2 0 6) (fun r4 m5 =>
(if r4 = 0 then
some ((-100001), m5)
else
gx_b (fn_X7_has kd m5 c p1 2) (fun r7 m8 =>
(if r7 = 1 then
gx_b (fn_X7_has kd m8 c p1 3) (fun r23 m24 =>
(if r23 = (-1) then
(if p2 = 0 then
gx_b (fn_X7_has kd m24 c p1 p2) (fun r27 m28 =>
some (r27, m28))
else
(if p2 = 1 then
gx_b (fn_X7_has kd m24 c p1 p2) (fun r30 m31 =>
some (r30, m31))
else
(if p2 = 2 then
gx_b (fn_X7_phraseOf kd m24 c p1) (fun r33 m34 =>
some (r33, m34))
else
(if p2 = 3 then
gx_b (fn_X7_has kd m24 c p1 2) (fun r36 m37 =>
some (r36, m37))
else
some ((-100004), m24)))))
else
(if p2 = 0 then
gx_b (fn_X7_has kd m24 c p1 p2) (fun r40 m41 =>
some (r40, m41))
else
(if p2 = 1 then
gx_b (fn_X7_has kd m24 c p1 p2) (fun r43 m44 =>
some (r43, m44))
else
(if p2 = 2 then
gx_b (fn_X7_phraseOf kd m24 c p1) (fun r46 m47 =>
some (r46, m47))
else
(if p2 = 3 then
gx_b (fn_X7_has kd m24 c p1 2) (fun r49 m50 =>
some (r49, m50))
else
gx_b (fn_X7_has kd m24 c p1 (p2 - 1)) (fun r52 m53 =>
some (r52, m53))))))))
else
(if p2 = 0 then
gx_b (fn_X7_has kd m8 c p1 p2) (fun r11 m12 =>
some (r11, m12))
else
(if p2 = 1 then
gx_b (fn_X7_has kd m8 c p1 p2) (fun r14 m15 =>
some (r14, m15))
else
(if p2 = 2 then
gx_b (fn_X7_phraseOf kd m8 c p1) (fun r17 m18 =>
some (r17, m18))
else
(if p2 = 3 then
gx_b (fn_X7_has kd m8 c p1 2) (fun r20 m21 =>
some (r20, m21))
else
some ((-100004), m8)))))))))))
set_option maxRecDepth 100000 in
set_option maxHeartbeats 4000000 in
theorem ct_X7_noteOf (l : Launch) (Y : gx_Y) (μ : gx_M) (c : Nat) (p1 : Int32) (p2 : Int32) (rr : Int32 × gx_M) (hc : gk_mod Y c) (hf : fn_X7_noteOf (gy_k Y) μ c p1 p2 = some rr) : gx_Con l yX7_noteOf cX7_noteOf 4 (some .int) 3 66 Y [.ref (gy_a Y c), .int p1, .int p2] μ rr := by
  refine gx_Con_of (L0 := [(0, .ref (gy_a Y c)), (1, .int p1), (2, .int p2)]) (by decide) (Nat.le_of_ble_eq_true rfl) rfl (fun K hK => ?_)
  unfold fn_X7_noteOf at hf
  refine gw_aload_n (pc := 0) hK 0 dX7_noteOf_0 rfl rfl ?_
  refine gw_iload_n (pc := 1) hK 1 dX7_noteOf_1 rfl rfl ?_
  refine gv_X7_109 (pc := 2) hK hc dX7_noteOf_2 (by decide) (Nat.le_of_ble_eq_true rfl) hf (fun r1 m2 hf => ?_)
  refine gw_if_eq (tgt := 18) (pc := 5) hK dX7_noteOf_5 (by decide) hf (fun cc3 hf => ?_) (fun cc3 hf => ?_)
  ·
    refine gw_ldc (pc := 18) hK dX7_noteOf_18 kw_k_RX7_51 ?_
    exact gw_ret_i (pc := 20) hK dX7_noteOf_20 (Option.some.inj hf)
  ·
    refine gw_iload_n (pc := 8) hK 2 dX7_noteOf_8 rfl rfl ?_
    refine gw_iconst (v := 0) (pc := 9) hK dX7_noteOf_9 (by decide) ?_
    refine gw_bipush (v := 6) (pc := 10) hK dX7_noteOf_10 (by decide) ?_
    refine gv_X7_25 (pc := 12) hK dX7_noteOf_12 (by decide) (Nat.le_of_ble_eq_true rfl) hf (fun r4 m5 hf => ?_)
    refine gw_if_ne (tgt := 21) (pc := 15) hK dX7_noteOf_15 (by decide) hf (fun cc6 hf => ?_) (fun cc6 hf => ?_)
    ·
      refine gw_aload_n (pc := 21) hK 0 dX7_noteOf_21 rfl rfl ?_
      refine gw_iload_n (pc := 22) hK 1 dX7_noteOf_22 rfl rfl ?_
      refine gw_iconst (v := 2) (pc := 23) hK dX7_noteOf_23 (by decide) ?_
      refine gv_X7_81 (pc := 24) hK hc dX7_noteOf_24 (by decide) (Nat.le_of_ble_eq_true rfl) hf (fun r7 m8 hf => ?_)
      refine gw_iconst (v := 1) (pc := 27) hK dX7_noteOf_27 (by decide) ?_
      refine gw_icmp_ne (tgt := 45) (pc := 28) hK dX7_noteOf_28 (by decide) hf (fun cc9 hf => ?_) (fun cc9 hf => ?_)
      ·
        refine gw_iconst (v := 0) (pc := 45) hK dX7_noteOf_45 (by decide) ?_
        refine gw_istore_n (L' := [(3, .int 0), (0, .ref (gy_a Y c)), (1, .int p1), (2, .int p2)]) (pc := 46) hK dX7_noteOf_46 rfl (by decide) rfl ?_
        refine gw_iload_n (pc := 47) hK 3 dX7_noteOf_47 rfl rfl ?_
        by_cases cs10 : p2 = 0
        · replace hf := gx_pos cs10 hf
          refine gw_tblIn (tgt := 80) (pc := 48) hK dX7_noteOf_48 (by rw [cs10]; decide) (by rw [cs10]; decide) (by rw [cs10]; rfl) (by decide) ?_
          refine gw_aload_n (pc := 80) hK 1 dX7_noteOf_80 rfl rfl ?_
          refine gw_iload_n (pc := 81) hK 2 dX7_noteOf_81 rfl rfl ?_
          refine gw_iload_n (pc := 82) hK 3 dX7_noteOf_82 rfl rfl ?_
          refine gv_X7_81 (pc := 83) hK hc dX7_noteOf_83 (by decide) (Nat.le_of_ble_eq_true rfl) hf (fun r11 m12 hf => ?_)
          exact gw_ret_i (pc := 86) hK dX7_noteOf_86 (Option.some.inj hf)
        replace hf := gx_neg cs10 hf
        by_cases cs13 : p2 = 1
        · replace hf := gx_pos cs13 hf
          refine gw_tblIn (tgt := 80) (pc := 48) hK dX7_noteOf_48 (by rw [cs13]; decide) (by rw [cs13]; decide) (by rw [cs13]; rfl) (by decide) ?_
          refine gw_aload_n (pc := 80) hK 1 dX7_noteOf_80 rfl rfl ?_
          refine gw_iload_n (pc := 81) hK 2 dX7_noteOf_81 rfl rfl ?_
          refine gw_iload_n (pc := 82) hK 3 dX7_noteOf_82 rfl rfl ?_
          refine gv_X7_81 (pc := 83) hK hc dX7_noteOf_83 (by decide) (Nat.le_of_ble_eq_true rfl) hf (fun r14 m15 hf => ?_)
          exact gw_ret_i (pc := 86) hK dX7_noteOf_86 (Option.some.inj hf)
        replace hf := gx_neg cs13 hf
        by_cases cs16 : p2 = 2
        · replace hf := gx_pos cs16 hf
          refine gw_tblIn (tgt := 87) (pc := 48) hK dX7_noteOf_48 (by rw [cs16]; decide) (by rw [cs16]; decide) (by rw [cs16]; rfl) (by decide) ?_
          refine gw_aload_n (pc := 87) hK 1 dX7_noteOf_87 rfl rfl ?_
          refine gw_iload_n (pc := 88) hK 2 dX7_noteOf_88 rfl rfl ?_
          refine gv_X7_84 (pc := 89) hK hc dX7_noteOf_89 (by decide) (Nat.le_of_ble_eq_true rfl) hf (fun r17 m18 hf => ?_)
          exact gw_ret_i (pc := 92) hK dX7_noteOf_92 (Option.some.inj hf)
        replace hf := gx_neg cs16 hf
        by_cases cs19 : p2 = 3
        · replace hf := gx_pos cs19 hf
          refine gw_tblIn (tgt := 93) (pc := 48) hK dX7_noteOf_48 (by rw [cs19]; decide) (by rw [cs19]; decide) (by rw [cs19]; rfl) (by decide) ?_
          refine gw_aload_n (pc := 93) hK 1 dX7_noteOf_93 rfl rfl ?_
          refine gw_iload_n (pc := 94) hK 2 dX7_noteOf_94 rfl rfl ?_
          refine gw_iconst (v := 2) (pc := 95) hK dX7_noteOf_95 (by decide) ?_
          refine gv_X7_81 (pc := 96) hK hc dX7_noteOf_96 (by decide) (Nat.le_of_ble_eq_true rfl) hf (fun r20 m21 hf => ?_)
          exact gw_ret_i (pc := 99) hK dX7_noteOf_99 (Option.some.inj hf)
        replace hf := gx_neg cs19 hf
        have ncs10 := lv_neT cs10 (a := 0) (by decide)
        have ncs13 := lv_neT cs13 (a := 1) (by decide)
        have ncs16 := lv_neT cs16 (a := 2) (by decide)
        have ncs19 := lv_neT cs19 (a := 3) (by decide)
        refine gw_tblOut (tgt := 100) (pc := 48) hK dX7_noteOf_48 (by omega) (by decide) ?_
        refine gw_iload_n (pc := 100) hK 0 dX7_noteOf_100 rfl rfl ?_
        refine gw_if_eq_c (tgt := 115) (pc := 101) hK dX7_noteOf_101 (by decide) (fun _ => ?_) (fun cc22 => absurd cc22 (by decide))
        refine gw_ldc (pc := 115) hK dX7_noteOf_115 kw_k_RX7_70 ?_
        exact gw_ret_i (pc := 117) hK dX7_noteOf_117 (Option.some.inj hf)
      ·
        refine gw_aload_n (pc := 31) hK 0 dX7_noteOf_31 rfl rfl ?_
        refine gw_iload_n (pc := 32) hK 1 dX7_noteOf_32 rfl rfl ?_
        refine gw_iconst (v := 3) (pc := 33) hK dX7_noteOf_33 (by decide) ?_
        refine gv_X7_81 (pc := 34) hK hc dX7_noteOf_34 (by decide) (Nat.le_of_ble_eq_true rfl) hf (fun r23 m24 hf => ?_)
        refine gw_iconst (v := (-1)) (pc := 37) hK dX7_noteOf_37 (by decide) ?_
        refine gw_icmp_eq (tgt := 45) (pc := 38) hK dX7_noteOf_38 (by decide) hf (fun cc25 hf => ?_) (fun cc25 hf => ?_)
        ·
          refine gw_iconst (v := 0) (pc := 45) hK dX7_noteOf_45 (by decide) ?_
          refine gw_istore_n (L' := [(3, .int 0), (0, .ref (gy_a Y c)), (1, .int p1), (2, .int p2)]) (pc := 46) hK dX7_noteOf_46 rfl (by decide) rfl ?_
          refine gw_iload_n (pc := 47) hK 3 dX7_noteOf_47 rfl rfl ?_
          by_cases cs26 : p2 = 0
          · replace hf := gx_pos cs26 hf
            refine gw_tblIn (tgt := 80) (pc := 48) hK dX7_noteOf_48 (by rw [cs26]; decide) (by rw [cs26]; decide) (by rw [cs26]; rfl) (by decide) ?_
            refine gw_aload_n (pc := 80) hK 1 dX7_noteOf_80 rfl rfl ?_
            refine gw_iload_n (pc := 81) hK 2 dX7_noteOf_81 rfl rfl ?_
            refine gw_iload_n (pc := 82) hK 3 dX7_noteOf_82 rfl rfl ?_
            refine gv_X7_81 (pc := 83) hK hc dX7_noteOf_83 (by decide) (Nat.le_of_ble_eq_true rfl) hf (fun r27 m28 hf => ?_)
            exact gw_ret_i (pc := 86) hK dX7_noteOf_86 (Option.some.inj hf)
          replace hf := gx_neg cs26 hf
          by_cases cs29 : p2 = 1
          · replace hf := gx_pos cs29 hf
            refine gw_tblIn (tgt := 80) (pc := 48) hK dX7_noteOf_48 (by rw [cs29]; decide) (by rw [cs29]; decide) (by rw [cs29]; rfl) (by decide) ?_
            refine gw_aload_n (pc := 80) hK 1 dX7_noteOf_80 rfl rfl ?_
            refine gw_iload_n (pc := 81) hK 2 dX7_noteOf_81 rfl rfl ?_
            refine gw_iload_n (pc := 82) hK 3 dX7_noteOf_82 rfl rfl ?_
            refine gv_X7_81 (pc := 83) hK hc dX7_noteOf_83 (by decide) (Nat.le_of_ble_eq_true rfl) hf (fun r30 m31 hf => ?_)
            exact gw_ret_i (pc := 86) hK dX7_noteOf_86 (Option.some.inj hf)
          replace hf := gx_neg cs29 hf
          by_cases cs32 : p2 = 2
          · replace hf := gx_pos cs32 hf
            refine gw_tblIn (tgt := 87) (pc := 48) hK dX7_noteOf_48 (by rw [cs32]; decide) (by rw [cs32]; decide) (by rw [cs32]; rfl) (by decide) ?_
            refine gw_aload_n (pc := 87) hK 1 dX7_noteOf_87 rfl rfl ?_
            refine gw_iload_n (pc := 88) hK 2 dX7_noteOf_88 rfl rfl ?_
            refine gv_X7_84 (pc := 89) hK hc dX7_noteOf_89 (by decide) (Nat.le_of_ble_eq_true rfl) hf (fun r33 m34 hf => ?_)
            exact gw_ret_i (pc := 92) hK dX7_noteOf_92 (Option.some.inj hf)
          replace hf := gx_neg cs32 hf
          by_cases cs35 : p2 = 3
          · replace hf := gx_pos cs35 hf
            refine gw_tblIn (tgt := 93) (pc := 48) hK dX7_noteOf_48 (by rw [cs35]; decide) (by rw [cs35]; decide) (by rw [cs35]; rfl) (by decide) ?_
            refine gw_aload_n (pc := 93) hK 1 dX7_noteOf_93 rfl rfl ?_
            refine gw_iload_n (pc := 94) hK 2 dX7_noteOf_94 rfl rfl ?_
            refine gw_iconst (v := 2) (pc := 95) hK dX7_noteOf_95 (by decide) ?_
            refine gv_X7_81 (pc := 96) hK hc dX7_noteOf_96 (by decide) (Nat.le_of_ble_eq_true rfl) hf (fun r36 m37 hf => ?_)
            exact gw_ret_i (pc := 99) hK dX7_noteOf_99 (Option.some.inj hf)
          replace hf := gx_neg cs35 hf
          have ncs26 := lv_neT cs26 (a := 0) (by decide)
          have ncs29 := lv_neT cs29 (a := 1) (by decide)
          have ncs32 := lv_neT cs32 (a := 2) (by decide)
          have ncs35 := lv_neT cs35 (a := 3) (by decide)
          refine gw_tblOut (tgt := 100) (pc := 48) hK dX7_noteOf_48 (by omega) (by decide) ?_
          refine gw_iload_n (pc := 100) hK 0 dX7_noteOf_100 rfl rfl ?_
          refine gw_if_eq_c (tgt := 115) (pc := 101) hK dX7_noteOf_101 (by decide) (fun _ => ?_) (fun cc38 => absurd cc38 (by decide))
          refine gw_ldc (pc := 115) hK dX7_noteOf_115 kw_k_RX7_70 ?_
          exact gw_ret_i (pc := 117) hK dX7_noteOf_117 (Option.some.inj hf)
        ·
          refine gw_iconst (v := 1) (pc := 41) hK dX7_noteOf_41 (by decide) ?_
          refine gw_goto (tgt := 46) (pc := 42) hK dX7_noteOf_42 (by decide) ?_
          refine gw_istore_n (L' := [(3, .int 1), (0, .ref (gy_a Y c)), (1, .int p1), (2, .int p2)]) (pc := 46) hK dX7_noteOf_46 rfl (by decide) rfl ?_
          refine gw_iload_n (pc := 47) hK 3 dX7_noteOf_47 rfl rfl ?_
          by_cases cs39 : p2 = 0
          · replace hf := gx_pos cs39 hf
            refine gw_tblIn (tgt := 80) (pc := 48) hK dX7_noteOf_48 (by rw [cs39]; decide) (by rw [cs39]; decide) (by rw [cs39]; rfl) (by decide) ?_
            refine gw_aload_n (pc := 80) hK 1 dX7_noteOf_80 rfl rfl ?_
            refine gw_iload_n (pc := 81) hK 2 dX7_noteOf_81 rfl rfl ?_
            refine gw_iload_n (pc := 82) hK 3 dX7_noteOf_82 rfl rfl ?_
            refine gv_X7_81 (pc := 83) hK hc dX7_noteOf_83 (by decide) (Nat.le_of_ble_eq_true rfl) hf (fun r40 m41 hf => ?_)
            exact gw_ret_i (pc := 86) hK dX7_noteOf_86 (Option.some.inj hf)
          replace hf := gx_neg cs39 hf
          by_cases cs42 : p2 = 1
          · replace hf := gx_pos cs42 hf
            refine gw_tblIn (tgt := 80) (pc := 48) hK dX7_noteOf_48 (by rw [cs42]; decide) (by rw [cs42]; decide) (by rw [cs42]; rfl) (by decide) ?_
            refine gw_aload_n (pc := 80) hK 1 dX7_noteOf_80 rfl rfl ?_
            refine gw_iload_n (pc := 81) hK 2 dX7_noteOf_81 rfl rfl ?_
            refine gw_iload_n (pc := 82) hK 3 dX7_noteOf_82 rfl rfl ?_
            refine gv_X7_81 (pc := 83) hK hc dX7_noteOf_83 (by decide) (Nat.le_of_ble_eq_true rfl) hf (fun r43 m44 hf => ?_)
            exact gw_ret_i (pc := 86) hK dX7_noteOf_86 (Option.some.inj hf)
          replace hf := gx_neg cs42 hf
          by_cases cs45 : p2 = 2
          · replace hf := gx_pos cs45 hf
            refine gw_tblIn (tgt := 87) (pc := 48) hK dX7_noteOf_48 (by rw [cs45]; decide) (by rw [cs45]; decide) (by rw [cs45]; rfl) (by decide) ?_
            refine gw_aload_n (pc := 87) hK 1 dX7_noteOf_87 rfl rfl ?_
            refine gw_iload_n (pc := 88) hK 2 dX7_noteOf_88 rfl rfl ?_
            refine gv_X7_84 (pc := 89) hK hc dX7_noteOf_89 (by decide) (Nat.le_of_ble_eq_true rfl) hf (fun r46 m47 hf => ?_)
            exact gw_ret_i (pc := 92) hK dX7_noteOf_92 (Option.some.inj hf)
          replace hf := gx_neg cs45 hf
          by_cases cs48 : p2 = 3
          · replace hf := gx_pos cs48 hf
            refine gw_tblIn (tgt := 93) (pc := 48) hK dX7_noteOf_48 (by rw [cs48]; decide) (by rw [cs48]; decide) (by rw [cs48]; rfl) (by decide) ?_
            refine gw_aload_n (pc := 93) hK 1 dX7_noteOf_93 rfl rfl ?_
            refine gw_iload_n (pc := 94) hK 2 dX7_noteOf_94 rfl rfl ?_
            refine gw_iconst (v := 2) (pc := 95) hK dX7_noteOf_95 (by decide) ?_
            refine gv_X7_81 (pc := 96) hK hc dX7_noteOf_96 (by decide) (Nat.le_of_ble_eq_true rfl) hf (fun r49 m50 hf => ?_)
            exact gw_ret_i (pc := 99) hK dX7_noteOf_99 (Option.some.inj hf)
          replace hf := gx_neg cs48 hf
          have ncs39 := lv_neT cs39 (a := 0) (by decide)
          have ncs42 := lv_neT cs42 (a := 1) (by decide)
          have ncs45 := lv_neT cs45 (a := 2) (by decide)
          have ncs48 := lv_neT cs48 (a := 3) (by decide)
          refine gw_tblOut (tgt := 100) (pc := 48) hK dX7_noteOf_48 (by omega) (by decide) ?_
          refine gw_iload_n (pc := 100) hK 0 dX7_noteOf_100 rfl rfl ?_
          refine gw_if_eq_c (tgt := 115) (pc := 101) hK dX7_noteOf_101 (by decide) (fun cc51 => absurd cc51 (by decide)) (fun _ => ?_)
          refine gw_aload_n (pc := 104) hK 1 dX7_noteOf_104 rfl rfl ?_
          refine gw_iload_n (pc := 105) hK 2 dX7_noteOf_105 rfl rfl ?_
          refine gw_iload_n (pc := 106) hK 3 dX7_noteOf_106 rfl rfl ?_
          refine gw_iconst (v := 1) (pc := 107) hK dX7_noteOf_107 (by decide) ?_
          refine gw_isub (pc := 108) hK dX7_noteOf_108 ?_
          refine gv_X7_81 (pc := 109) hK hc dX7_noteOf_109 (by decide) (Nat.le_of_ble_eq_true rfl) hf (fun r52 m53 hf => ?_)
          refine gw_goto (tgt := 117) (pc := 112) hK dX7_noteOf_112 (by decide) ?_
          exact gw_ret_i (pc := 117) hK dX7_noteOf_117 (Option.some.inj hf)
    ·
      refine gw_ldc (pc := 18) hK dX7_noteOf_18 kw_k_RX7_51 ?_
      exact gw_ret_i (pc := 20) hK dX7_noteOf_20 (Option.some.inj hf)

def fn_X7_pitchAt (kd : Nat → Nat) (μ : gx_M) (c : Nat) (p1 : Int32) (p2 : Int32) : Option (Int32 × gx_M) :=
  gx_b (fn_X7_isBowl kd μ c p1) (fun r1 m2 =>
(if r1 = 0 then
some ((-100001), m2)
else
(if gx_ix 0 (kd (c + 1) - 100) = true then gx_b (fn_X7_in kd m2 p2 (m2 (c + 1) (Int32.toNatClampNeg 0)) 3600) (fun r4 m5 =>
(if r4 = 0 then
some ((-100001), m5)
else
gx_b (fn_X7_laysAside kd m5 c) (fun _ m8 =>
gx_b (fn_X7_goesTo kd m8 c p2) (fun _ m10 =>
gx_b (fn_X7_pitch kd m10 c p1) (fun r11 m12 =>
gx_b (fn_X7_bringsBack kd m12 c) (fun _ m14 =>
some (r11, m14))))))) else none)))
set_option maxRecDepth 100000 in
set_option maxHeartbeats 4000000 in
theorem ct_X7_pitchAt (l : Launch) (Y : gx_Y) (μ : gx_M) (c : Nat) (p1 : Int32) (p2 : Int32) (rr : Int32 × gx_M) (hc : gk_mod Y c) (hf : fn_X7_pitchAt (gy_k Y) μ c p1 p2 = some rr) : gx_Con l yX7_pitchAt cX7_pitchAt 4 (some .int) 7 155 Y [.ref (gy_a Y c), .int p1, .int p2] μ rr := by
  refine gx_Con_of (L0 := [(0, .ref (gy_a Y c)), (1, .int p1), (2, .int p2)]) (by decide) (Nat.le_of_ble_eq_true rfl) rfl (fun K hK => ?_)
  unfold fn_X7_pitchAt at hf
  refine gw_aload_n (pc := 0) hK 0 dX7_pitchAt_0 rfl rfl ?_
  refine gw_iload_n (pc := 1) hK 1 dX7_pitchAt_1 rfl rfl ?_
  refine gv_X7_56 (pc := 2) hK hc dX7_pitchAt_2 (by decide) (Nat.le_of_ble_eq_true rfl) hf (fun r1 m2 hf => ?_)
  refine gw_if_eq (tgt := 24) (pc := 5) hK dX7_pitchAt_5 (by decide) hf (fun cc3 hf => ?_) (fun cc3 hf => ?_)
  ·
    refine gw_ldc (pc := 24) hK dX7_pitchAt_24 kw_k_RX7_51 ?_
    exact gw_ret_i (pc := 26) hK dX7_pitchAt_26 (Option.some.inj hf)
  ·
    refine gw_iload_n (pc := 8) hK 2 dX7_pitchAt_8 rfl rfl ?_
    refine gw_aload_n (pc := 9) hK 0 dX7_pitchAt_9 rfl rfl ?_
    refine gf_X7_7 (pc := 10) hK hc.1 dX7_pitchAt_10 ?_
    refine gw_iconst (v := 0) (pc := 13) hK dX7_pitchAt_13 (by decide) ?_
    refine gw_iald (pc := 14) hK hc.2.1.1 (gk_100 hc.2.1) dX7_pitchAt_14 hf (fun hf => ?_)
    refine gw_sipush (v := 3600) (pc := 15) hK dX7_pitchAt_15 (by decide) ?_
    refine gv_X7_25 (pc := 18) hK dX7_pitchAt_18 (by decide) (Nat.le_of_ble_eq_true rfl) hf (fun r4 m5 hf => ?_)
    refine gw_if_ne (tgt := 27) (pc := 21) hK dX7_pitchAt_21 (by decide) hf (fun cc6 hf => ?_) (fun cc6 hf => ?_)
    ·
      refine gw_aload_n (pc := 27) hK 0 dX7_pitchAt_27 rfl rfl ?_
      refine gv_X7_134 (pc := 28) hK hc dX7_pitchAt_28 (by decide) (Nat.le_of_ble_eq_true rfl) hf (fun _ m8 hf => ?_)
      refine gw_aload_n (pc := 31) hK 0 dX7_pitchAt_31 rfl rfl ?_
      refine gw_iload_n (pc := 32) hK 2 dX7_pitchAt_32 rfl rfl ?_
      refine gv_X7_137 (pc := 33) hK hc dX7_pitchAt_33 (by decide) (Nat.le_of_ble_eq_true rfl) hf (fun _ m10 hf => ?_)
      refine gw_aload_n (pc := 36) hK 0 dX7_pitchAt_36 rfl rfl ?_
      refine gw_iload_n (pc := 37) hK 1 dX7_pitchAt_37 rfl rfl ?_
      refine gv_X7_64 (pc := 38) hK hc dX7_pitchAt_38 (by decide) (Nat.le_of_ble_eq_true rfl) hf (fun r11 m12 hf => ?_)
      refine gw_istore_n (L' := [(3, .int r11), (0, .ref (gy_a Y c)), (1, .int p1), (2, .int p2)]) (pc := 41) hK dX7_pitchAt_41 rfl (by decide) rfl ?_
      refine gw_aload_n (pc := 42) hK 1 dX7_pitchAt_42 rfl rfl ?_
      refine gv_X7_140 (pc := 43) hK hc dX7_pitchAt_43 (by decide) (Nat.le_of_ble_eq_true rfl) hf (fun _ m14 hf => ?_)
      refine gw_iload_n (pc := 46) hK 0 dX7_pitchAt_46 rfl rfl ?_
      exact gw_ret_i (pc := 47) hK dX7_pitchAt_47 (Option.some.inj hf)
    ·
      refine gw_ldc (pc := 24) hK dX7_pitchAt_24 kw_k_RX7_51 ?_
      exact gw_ret_i (pc := 26) hK dX7_pitchAt_26 (Option.some.inj hf)

def fn_X7_pour (kd : Nat → Nat) (μ : gx_M) (c : Nat) (p1 : Int32) (p2 : Int32) : Option (Int32 × gx_M) :=
  gx_b (fn_X7_isBowl kd μ c p1) (fun r1 m2 =>
(if r1 = 0 then
some ((-100001), m2)
else
gx_b (fn_X7_in kd m2 p2 1 1000) (fun r4 m5 =>
(if r4 = 0 then
some ((-100001), m5)
else
gx_b (fn_X7_of kd m5 c p1 2) (fun r7 m8 =>
(if (r7 + p2) ≤ 1000 then
gx_b (fn_X7_records kd m8 c) (fun _ m11 =>
gx_b (fn_X7_comes kd m11 c p1 p2) (fun _ m13 =>
gx_b (fn_X7_of kd m13 c p1 2) (fun r14 m15 =>
some (r14, m15))))
else
some ((-100003), m8)))))))
set_option maxRecDepth 100000 in
set_option maxHeartbeats 4000000 in
theorem ct_X7_pour (l : Launch) (Y : gx_Y) (μ : gx_M) (c : Nat) (p1 : Int32) (p2 : Int32) (rr : Int32 × gx_M) (hc : gk_mod Y c) (hf : fn_X7_pour (gy_k Y) μ c p1 p2 = some rr) : gx_Con l yX7_pour cX7_pour 3 (some .int) 3 68 Y [.ref (gy_a Y c), .int p1, .int p2] μ rr := by
  refine gx_Con_of (L0 := [(0, .ref (gy_a Y c)), (1, .int p1), (2, .int p2)]) (by decide) (Nat.le_of_ble_eq_true rfl) rfl (fun K hK => ?_)
  unfold fn_X7_pour at hf
  refine gw_aload_n (pc := 0) hK 0 dX7_pour_0 rfl rfl ?_
  refine gw_iload_n (pc := 1) hK 1 dX7_pour_1 rfl rfl ?_
  refine gv_X7_56 (pc := 2) hK hc dX7_pour_2 (by decide) (Nat.le_of_ble_eq_true rfl) hf (fun r1 m2 hf => ?_)
  refine gw_if_eq (tgt := 19) (pc := 5) hK dX7_pour_5 (by decide) hf (fun cc3 hf => ?_) (fun cc3 hf => ?_)
  ·
    refine gw_ldc (pc := 19) hK dX7_pour_19 kw_k_RX7_51 ?_
    exact gw_ret_i (pc := 21) hK dX7_pour_21 (Option.some.inj hf)
  ·
    refine gw_iload_n (pc := 8) hK 2 dX7_pour_8 rfl rfl ?_
    refine gw_iconst (v := 1) (pc := 9) hK dX7_pour_9 (by decide) ?_
    refine gw_sipush (v := 1000) (pc := 10) hK dX7_pour_10 (by decide) ?_
    refine gv_X7_25 (pc := 13) hK dX7_pour_13 (by decide) (Nat.le_of_ble_eq_true rfl) hf (fun r4 m5 hf => ?_)
    refine gw_if_ne (tgt := 22) (pc := 16) hK dX7_pour_16 (by decide) hf (fun cc6 hf => ?_) (fun cc6 hf => ?_)
    ·
      refine gw_aload_n (pc := 22) hK 0 dX7_pour_22 rfl rfl ?_
      refine gw_iload_n (pc := 23) hK 1 dX7_pour_23 rfl rfl ?_
      refine gw_iconst (v := 2) (pc := 24) hK dX7_pour_24 (by decide) ?_
      refine gv_X7_34 (pc := 25) hK hc dX7_pour_25 (by decide) (Nat.le_of_ble_eq_true rfl) hf (fun r7 m8 hf => ?_)
      refine gw_iload_n (pc := 28) hK 2 dX7_pour_28 rfl rfl ?_
      refine gw_iadd (pc := 29) hK dX7_pour_29 ?_
      refine gw_sipush (v := 1000) (pc := 30) hK dX7_pour_30 (by decide) ?_
      refine gw_icmp_le (tgt := 39) (pc := 33) hK dX7_pour_33 (by decide) hf (fun cc9 hf => ?_) (fun cc9 hf => ?_)
      ·
        refine gw_aload_n (pc := 39) hK 0 dX7_pour_39 rfl rfl ?_
        refine gv_X7_53 (pc := 40) hK hc dX7_pour_40 (by decide) (Nat.le_of_ble_eq_true rfl) hf (fun _ m11 hf => ?_)
        refine gw_aload_n (pc := 43) hK 0 dX7_pour_43 rfl rfl ?_
        refine gw_iload_n (pc := 44) hK 1 dX7_pour_44 rfl rfl ?_
        refine gw_iload_n (pc := 45) hK 2 dX7_pour_45 rfl rfl ?_
        refine gv_X7_60 (pc := 46) hK hc dX7_pour_46 (by decide) (Nat.le_of_ble_eq_true rfl) hf (fun _ m13 hf => ?_)
        refine gw_aload_n (pc := 49) hK 0 dX7_pour_49 rfl rfl ?_
        refine gw_iload_n (pc := 50) hK 1 dX7_pour_50 rfl rfl ?_
        refine gw_iconst (v := 2) (pc := 51) hK dX7_pour_51 (by decide) ?_
        refine gv_X7_34 (pc := 52) hK hc dX7_pour_52 (by decide) (Nat.le_of_ble_eq_true rfl) hf (fun r14 m15 hf => ?_)
        exact gw_ret_i (pc := 55) hK dX7_pour_55 (Option.some.inj hf)
      ·
        refine gw_ldc (pc := 36) hK dX7_pour_36 kw_k_RX7_52 ?_
        exact gw_ret_i (pc := 38) hK dX7_pour_38 (Option.some.inj hf)
    ·
      refine gw_ldc (pc := 19) hK dX7_pour_19 kw_k_RX7_51 ?_
      exact gw_ret_i (pc := 21) hK dX7_pour_21 (Option.some.inj hf)

def lf_X7_remove_48 (kd : Nat → Nat) (c0 : Nat) (q1 : Int32) (k : gx_M → Int32 → Option (Int32 × gx_M)) : Nat → gx_M → Int32 → Option (Int32 × gx_M)
  | 0, _, _ => none
  | n + 1, μ, x2 => (if gx_ix 1 (kd (c0 + 1) - 100) = true then (if (11 + (5 * μ (c0 + 1) (Int32.toNatClampNeg 1))) ≤ x2 then
k μ x2
else
(if gx_ix (x2 + 5) (kd (c0 + 1) - 100) = true then (if gx_ix x2 (kd (c0 + 1) - 100) = true then lf_X7_remove_48 kd c0 q1 k n (gx_u μ (c0 + 1) (Int32.toNatClampNeg x2) (μ (c0 + 1) (Int32.toNatClampNeg (x2 + 5)))) (x2 + 1) else none) else none)) else none)
def fn_X7_remove (kd : Nat → Nat) (μ : gx_M) (c : Nat) (p1 : Int32) : Option (Int32 × gx_M) :=
  gx_b (fn_X7_isBowl kd μ c p1) (fun r1 m2 =>
(if r1 = 0 then
some ((-100001), m2)
else
gx_b (fn_X7_records kd m2 c) (fun _ m5 =>
(if gx_ix 6 (kd (c + 1) - 100) = true then gx_b (fn_X7_of kd m5 c p1 2) (fun r6 m7 =>
(if gx_ix 6 (kd (c + 1) - 100) = true then (if gx_ix 1 (kd (c + 1) - 100) = true then (if gx_ix 1 (kd (c + 1) - 100) = true then lf_X7_remove_48 kd c p1 (fun m9 y10 =>
(if gx_ix 1 (kd (c + 1) - 100) = true then some (m9 (c + 1) (Int32.toNatClampNeg 1), m9) else none)) gx_F (gx_u (gx_u m7 (c + 1) (Int32.toNatClampNeg 6) (m5 (c + 1) (Int32.toNatClampNeg 6) + r6)) (c + 1) (Int32.toNatClampNeg 1) ((gx_u m7 (c + 1) (Int32.toNatClampNeg 6) (m5 (c + 1) (Int32.toNatClampNeg 6) + r6)) (c + 1) (Int32.toNatClampNeg 1) - 1)) (11 + (5 * p1)) else none) else none) else none)) else none))))
set_option maxRecDepth 100000 in
set_option maxHeartbeats 4000000 in
theorem lt_X7_remove_48 {l : Launch} {Y : gx_Y} {rr : Int32 × gx_M} {K : gx_KT} (hK : gx_K l RX7 cX7_remove 3 2 43 (some .int) Y (fun r m => (r, m) = rr) K) (c0 : Nat) (q1 : Int32) (hc0 : gk_mod Y c0) (k : gx_M → Int32 → Option (Int32 × gx_M)) (hx : ∀ (μ : gx_M) (x2 : Int32), k μ x2 = some rr → K μ 83 [(0, .ref (gy_a Y c0)), (1, .int q1), (2, .int x2)] []) :
    ∀ (n : Nat) (μ : gx_M) (x2 : Int32), lf_X7_remove_48 (gy_k Y) c0 q1 k n μ x2 = some rr → K μ 48 [(0, .ref (gy_a Y c0)), (1, .int q1), (2, .int x2)] [] := by
  intro n
  induction n with
  | zero =>
    intro μ x2 hf
    exact absurd hf (by simp [lf_X7_remove_48])
  | succ n ih =>
    intro μ x2 hf
    rw [lf_X7_remove_48] at hf
    refine gw_iload_n (pc := 48) hK 2 dX7_remove_48 rfl rfl ?_
    refine gw_bipush (v := 11) (pc := 49) hK dX7_remove_49 (by decide) ?_
    refine gw_iconst (v := 5) (pc := 51) hK dX7_remove_51 (by decide) ?_
    refine gw_aload_n (pc := 52) hK 0 dX7_remove_52 rfl rfl ?_
    refine gf_X7_7 (pc := 53) hK hc0.1 dX7_remove_53 ?_
    refine gw_iconst (v := 1) (pc := 56) hK dX7_remove_56 (by decide) ?_
    refine gw_iald (pc := 57) hK hc0.2.1.1 (gk_100 hc0.2.1) dX7_remove_57 hf (fun hf => ?_)
    refine gw_imul (pc := 58) hK dX7_remove_58 ?_
    refine gw_iadd (pc := 59) hK dX7_remove_59 ?_
    refine gw_icmp_ge (tgt := 83) (pc := 60) hK dX7_remove_60 (by decide) hf (fun cc8 hf => ?_) (fun cc8 hf => ?_)
    ·
      refine gw_sub (L' := [(0, .ref (gy_a Y c0)), (1, .int q1), (2, .int x2)]) hK [0, 1, 2] rfl (hx _ _ hf)
    ·
      refine gw_aload_n (pc := 63) hK 0 dX7_remove_63 rfl rfl ?_
      refine gf_X7_7 (pc := 64) hK hc0.1 dX7_remove_64 ?_
      refine gw_iload_n (pc := 67) hK 2 dX7_remove_67 rfl rfl ?_
      refine gw_aload_n (pc := 68) hK 0 dX7_remove_68 rfl rfl ?_
      refine gf_X7_7 (pc := 69) hK hc0.1 dX7_remove_69 ?_
      refine gw_iload_n (pc := 72) hK 2 dX7_remove_72 rfl rfl ?_
      refine gw_iconst (v := 5) (pc := 73) hK dX7_remove_73 (by decide) ?_
      refine gw_iadd (pc := 74) hK dX7_remove_74 ?_
      refine gw_iald (pc := 75) hK hc0.2.1.1 (gk_100 hc0.2.1) dX7_remove_75 hf (fun hf => ?_)
      refine gw_iast (pc := 76) hK hc0.2.1.1 (gk_100 hc0.2.1) dX7_remove_76 hf (fun hf => ?_)
      refine gw_iinc (v := (x2 + 1)) (L' := [(2, .int (x2 + 1)), (0, .ref (gy_a Y c0)), (1, .int q1)]) (pc := 77) hK 2 dX7_remove_77 rfl rfl (by decide) rfl ?_
      refine gw_goto (tgt := 48) (pc := 80) hK dX7_remove_80 (by decide) ?_
      refine gw_sub (L' := [(0, .ref (gy_a Y c0)), (1, .int q1), (2, .int (x2 + 1))]) hK [1, 2, 0] rfl (ih _ _ hf)
set_option maxRecDepth 100000 in
set_option maxHeartbeats 4000000 in
theorem ct_X7_remove (l : Launch) (Y : gx_Y) (μ : gx_M) (c : Nat) (p1 : Int32) (rr : Int32 × gx_M) (hc : gk_mod Y c) (hf : fn_X7_remove (gy_k Y) μ c p1 = some rr) : gx_Con l yX7_remove cX7_remove 3 (some .int) 2 43 Y [.ref (gy_a Y c), .int p1] μ rr := by
  refine gx_Con_of (L0 := [(0, .ref (gy_a Y c)), (1, .int p1)]) (by decide) (Nat.le_of_ble_eq_true rfl) rfl (fun K hK => ?_)
  unfold fn_X7_remove at hf
  refine gw_aload_n (pc := 0) hK 0 dX7_remove_0 rfl rfl ?_
  refine gw_iload_n (pc := 1) hK 1 dX7_remove_1 rfl rfl ?_
  refine gv_X7_56 (pc := 2) hK hc dX7_remove_2 (by decide) (Nat.le_of_ble_eq_true rfl) hf (fun r1 m2 hf => ?_)
  refine gw_if_ne (tgt := 11) (pc := 5) hK dX7_remove_5 (by decide) hf (fun cc3 hf => ?_) (fun cc3 hf => ?_)
  ·
    refine gw_aload_n (pc := 11) hK 0 dX7_remove_11 rfl rfl ?_
    refine gv_X7_53 (pc := 12) hK hc dX7_remove_12 (by decide) (Nat.le_of_ble_eq_true rfl) hf (fun _ m5 hf => ?_)
    refine gw_aload_n (pc := 15) hK 0 dX7_remove_15 rfl rfl ?_
    refine gf_X7_7 (pc := 16) hK hc.1 dX7_remove_16 ?_
    refine gw_bipush (v := 6) (pc := 19) hK dX7_remove_19 (by decide) ?_
    refine gw_dup2 (pc := 21) hK dX7_remove_21 rfl rfl ?_
    refine gw_iald (pc := 22) hK hc.2.1.1 (gk_100 hc.2.1) dX7_remove_22 hf (fun hf => ?_)
    refine gw_aload_n (pc := 23) hK 0 dX7_remove_23 rfl rfl ?_
    refine gw_iload_n (pc := 24) hK 1 dX7_remove_24 rfl rfl ?_
    refine gw_iconst (v := 2) (pc := 25) hK dX7_remove_25 (by decide) ?_
    refine gv_X7_34 (pc := 26) hK hc dX7_remove_26 (by decide) (Nat.le_of_ble_eq_true rfl) hf (fun r6 m7 hf => ?_)
    refine gw_iadd (pc := 29) hK dX7_remove_29 ?_
    refine gw_iast (pc := 30) hK hc.2.1.1 (gk_100 hc.2.1) dX7_remove_30 hf (fun hf => ?_)
    refine gw_aload_n (pc := 31) hK 0 dX7_remove_31 rfl rfl ?_
    refine gf_X7_7 (pc := 32) hK hc.1 dX7_remove_32 ?_
    refine gw_iconst (v := 1) (pc := 35) hK dX7_remove_35 (by decide) ?_
    refine gw_dup2 (pc := 36) hK dX7_remove_36 rfl rfl ?_
    refine gw_iald (pc := 37) hK hc.2.1.1 (gk_100 hc.2.1) dX7_remove_37 hf (fun hf => ?_)
    refine gw_iconst (v := 1) (pc := 38) hK dX7_remove_38 (by decide) ?_
    refine gw_isub (pc := 39) hK dX7_remove_39 ?_
    refine gw_iast (pc := 40) hK hc.2.1.1 (gk_100 hc.2.1) dX7_remove_40 hf (fun hf => ?_)
    refine gw_bipush (v := 11) (pc := 41) hK dX7_remove_41 (by decide) ?_
    refine gw_iconst (v := 5) (pc := 43) hK dX7_remove_43 (by decide) ?_
    refine gw_iload_n (pc := 44) hK 1 dX7_remove_44 rfl rfl ?_
    refine gw_imul (pc := 45) hK dX7_remove_45 ?_
    refine gw_iadd (pc := 46) hK dX7_remove_46 ?_
    refine gw_istore_n (L' := [(2, .int (11 + (5 * p1))), (0, .ref (gy_a Y c)), (1, .int p1)]) (pc := 47) hK dX7_remove_47 rfl (by decide) rfl ?_
    refine gw_sub (L' := [(0, .ref (gy_a Y c)), (1, .int p1), (2, .int (11 + (5 * p1)))]) hK [1, 2, 0] rfl (lt_X7_remove_48 hK c p1 hc _ (fun m9 y10 hf => ?_) gx_F _ _ hf)
    refine gw_aload_n (pc := 83) hK 0 dX7_remove_83 rfl rfl ?_
    refine gf_X7_7 (pc := 84) hK hc.1 dX7_remove_84 ?_
    refine gw_iconst (v := 1) (pc := 87) hK dX7_remove_87 (by decide) ?_
    refine gw_iald (pc := 88) hK hc.2.1.1 (gk_100 hc.2.1) dX7_remove_88 hf (fun hf => ?_)
    exact gw_ret_i (pc := 89) hK dX7_remove_89 (Option.some.inj hf)
  ·
    refine gw_ldc (pc := 8) hK dX7_remove_8 kw_k_RX7_51 ?_
    exact gw_ret_i (pc := 10) hK dX7_remove_10 (Option.some.inj hf)

def lf_X7_rewind_20 (kd : Nat → Nat) (c0 : Nat) (q1 : Int32) (k : gx_M → Int32 → Option (Int32 × gx_M)) : Nat → gx_M → Int32 → Option (Int32 × gx_M)
  | 0, _, _ => none
  | n + 1, μ, x2 => (if gx_ix 2 (kd (c0 + 1) - 100) = true then (if μ (c0 + 1) (Int32.toNatClampNeg 2) ≤ x2 then
k μ x2
else
gx_b (fn_X7_lay kd μ c0 x2 2 0) (fun _ m5 =>
gx_b (fn_X7_lay kd m5 c0 x2 3 (-1)) (fun _ m7 =>
lf_X7_rewind_20 kd c0 q1 k n m7 (x2 + 1)))) else none)
def fn_X7_rewind (kd : Nat → Nat) (μ : gx_M) (c : Nat) : Option (Int32 × gx_M) :=
  gx_b (fn_X7_records kd μ c) (fun _ m2 =>
(if gx_ix 0 (kd (c + 1) - 100) = true then (if gx_ix 0 (kd (c + 1) - 100) = true then lf_X7_rewind_20 kd c (m2 (c + 1) (Int32.toNatClampNeg 0)) (fun m8 y9 =>
some (m2 (c + 1) (Int32.toNatClampNeg 0), m8)) gx_F (gx_u m2 (c + 1) (Int32.toNatClampNeg 0) 0) 0 else none) else none))
set_option maxRecDepth 100000 in
set_option maxHeartbeats 4000000 in
theorem lt_X7_rewind_20 {l : Launch} {Y : gx_Y} {rr : Int32 × gx_M} {K : gx_KT} (hK : gx_K l RX7 cX7_rewind 3 1 23 (some .int) Y (fun r m => (r, m) = rr) K) (c0 : Nat) (q1 : Int32) (hc0 : gk_mod Y c0) (k : gx_M → Int32 → Option (Int32 × gx_M)) (hx : ∀ (μ : gx_M) (x2 : Int32), k μ x2 = some rr → K μ 50 [(0, .ref (gy_a Y c0)), (1, .int q1), (2, .int x2)] []) :
    ∀ (n : Nat) (μ : gx_M) (x2 : Int32), lf_X7_rewind_20 (gy_k Y) c0 q1 k n μ x2 = some rr → K μ 20 [(0, .ref (gy_a Y c0)), (1, .int q1), (2, .int x2)] [] := by
  intro n
  induction n with
  | zero =>
    intro μ x2 hf
    exact absurd hf (by simp [lf_X7_rewind_20])
  | succ n ih =>
    intro μ x2 hf
    rw [lf_X7_rewind_20] at hf
    refine gw_iload_n (pc := 20) hK 2 dX7_rewind_20 rfl rfl ?_
    refine gw_aload_n (pc := 21) hK 0 dX7_rewind_21 rfl rfl ?_
    refine gf_X7_7 (pc := 22) hK hc0.1 dX7_rewind_22 ?_
    refine gw_iconst (v := 2) (pc := 25) hK dX7_rewind_25 (by decide) ?_
    refine gw_iald (pc := 26) hK hc0.2.1.1 (gk_100 hc0.2.1) dX7_rewind_26 hf (fun hf => ?_)
    refine gw_icmp_ge (tgt := 50) (pc := 27) hK dX7_rewind_27 (by decide) hf (fun cc3 hf => ?_) (fun cc3 hf => ?_)
    ·
      refine gw_sub (L' := [(0, .ref (gy_a Y c0)), (1, .int q1), (2, .int x2)]) hK [0, 1, 2] rfl (hx _ _ hf)
    ·
      refine gw_aload_n (pc := 30) hK 0 dX7_rewind_30 rfl rfl ?_
      refine gw_iload_n (pc := 31) hK 2 dX7_rewind_31 rfl rfl ?_
      refine gw_iconst (v := 2) (pc := 32) hK dX7_rewind_32 (by decide) ?_
      refine gw_iconst (v := 0) (pc := 33) hK dX7_rewind_33 (by decide) ?_
      refine gv_X7_100 (pc := 34) hK hc0 dX7_rewind_34 (by decide) (Nat.le_of_ble_eq_true rfl) hf (fun _ m5 hf => ?_)
      refine gw_aload_n (pc := 37) hK 0 dX7_rewind_37 rfl rfl ?_
      refine gw_iload_n (pc := 38) hK 2 dX7_rewind_38 rfl rfl ?_
      refine gw_iconst (v := 3) (pc := 39) hK dX7_rewind_39 (by decide) ?_
      refine gw_iconst (v := (-1)) (pc := 40) hK dX7_rewind_40 (by decide) ?_
      refine gv_X7_100 (pc := 41) hK hc0 dX7_rewind_41 (by decide) (Nat.le_of_ble_eq_true rfl) hf (fun _ m7 hf => ?_)
      refine gw_iinc (v := (x2 + 1)) (L' := [(2, .int (x2 + 1)), (0, .ref (gy_a Y c0)), (1, .int q1)]) (pc := 44) hK 2 dX7_rewind_44 rfl rfl (by decide) rfl ?_
      refine gw_goto (tgt := 20) (pc := 47) hK dX7_rewind_47 (by decide) ?_
      refine gw_sub (L' := [(0, .ref (gy_a Y c0)), (1, .int q1), (2, .int (x2 + 1))]) hK [1, 2, 0] rfl (ih _ _ hf)
set_option maxRecDepth 100000 in
set_option maxHeartbeats 4000000 in
theorem ct_X7_rewind (l : Launch) (Y : gx_Y) (μ : gx_M) (c : Nat) (rr : Int32 × gx_M) (hc : gk_mod Y c) (hf : fn_X7_rewind (gy_k Y) μ c = some rr) : gx_Con l yX7_rewind cX7_rewind 3 (some .int) 1 23 Y [.ref (gy_a Y c)] μ rr := by
  refine gx_Con_of (L0 := [(0, .ref (gy_a Y c))]) (by decide) (Nat.le_of_ble_eq_true rfl) rfl (fun K hK => ?_)
  unfold fn_X7_rewind at hf
  refine gw_aload_n (pc := 0) hK 0 dX7_rewind_0 rfl rfl ?_
  refine gv_X7_53 (pc := 1) hK hc dX7_rewind_1 (by decide) (Nat.le_of_ble_eq_true rfl) hf (fun _ m2 hf => ?_)
  refine gw_aload_n (pc := 4) hK 0 dX7_rewind_4 rfl rfl ?_
  refine gf_X7_7 (pc := 5) hK hc.1 dX7_rewind_5 ?_
  refine gw_iconst (v := 0) (pc := 8) hK dX7_rewind_8 (by decide) ?_
  refine gw_iald (pc := 9) hK hc.2.1.1 (gk_100 hc.2.1) dX7_rewind_9 hf (fun hf => ?_)
  refine gw_istore_n (L' := [(1, .int (m2 (c + 1) (Int32.toNatClampNeg 0))), (0, .ref (gy_a Y c))]) (pc := 10) hK dX7_rewind_10 rfl (by decide) rfl ?_
  refine gw_aload_n (pc := 11) hK 1 dX7_rewind_11 rfl rfl ?_
  refine gf_X7_7 (pc := 12) hK hc.1 dX7_rewind_12 ?_
  refine gw_iconst (v := 0) (pc := 15) hK dX7_rewind_15 (by decide) ?_
  refine gw_iconst (v := 0) (pc := 16) hK dX7_rewind_16 (by decide) ?_
  refine gw_iast (pc := 17) hK hc.2.1.1 (gk_100 hc.2.1) dX7_rewind_17 hf (fun hf => ?_)
  refine gw_iconst (v := 0) (pc := 18) hK dX7_rewind_18 (by decide) ?_
  refine gw_istore_n (L' := [(2, .int 0), (1, .int (m2 (c + 1) (Int32.toNatClampNeg 0))), (0, .ref (gy_a Y c))]) (pc := 19) hK dX7_rewind_19 rfl (by decide) rfl ?_
  refine gw_sub (L' := [(0, .ref (gy_a Y c)), (1, .int (m2 (c + 1) (Int32.toNatClampNeg 0))), (2, .int 0)]) hK [2, 1, 0] rfl (lt_X7_rewind_20 hK c (m2 (c + 1) (Int32.toNatClampNeg 0)) hc _ (fun m8 y9 hf => ?_) gx_F _ _ hf)
  refine gw_iload_n (pc := 50) hK 1 dX7_rewind_50 rfl rfl ?_
  exact gw_ret_i (pc := 51) hK dX7_rewind_51 (Option.some.inj hf)

def lf_X7_run_39 (kd : Nat → Nat) (c0 : Nat) (q1 : Int32) (k : gx_M → Int32 → Int32 → Option (Int32 × gx_M)) : Nat → gx_M → Int32 → Int32 → Option (Int32 × gx_M)
  | 0, _, _, _ => none
  | n + 1, μ, x2, x3 => (if q1 ≤ x3 then
k μ x2 x3
else
gx_b (fn_X7_second kd μ c0) (fun r8 m9 =>
(if r8 < 0 then
lf_X7_run_39 kd c0 q1 k n m9 (x2 + 0) (x3 + 1)
else
lf_X7_run_39 kd c0 q1 k n m9 (x2 + 1) (x3 + 1))))
def fn_X7_run (kd : Nat → Nat) (μ : gx_M) (c : Nat) (p1 : Int32) : Option (Int32 × gx_M) :=
  gx_b (fn_X7_in kd μ p1 1 600) (fun r1 m2 =>
(if r1 = 0 then
some ((-100001), m2)
else
(if gx_ix 0 (kd (c + 1) - 100) = true then (if (m2 (c + 1) (Int32.toNatClampNeg 0) + p1) ≤ 3600 then
gx_b (fn_X7_records kd m2 c) (fun _ m6 =>
lf_X7_run_39 kd c p1 (fun m11 y12 y13 =>
some (y12, m11)) gx_F m6 0 0)
else
some ((-100003), m2)) else none)))
set_option maxRecDepth 100000 in
set_option maxHeartbeats 4000000 in
theorem lt_X7_run_39 {l : Launch} {Y : gx_Y} {rr : Int32 × gx_M} {K : gx_KT} (hK : gx_K l RX7 cX7_run 4 6 133 (some .int) Y (fun r m => (r, m) = rr) K) (c0 : Nat) (q1 : Int32) (hc0 : gk_mod Y c0) (k : gx_M → Int32 → Int32 → Option (Int32 × gx_M)) (hx : ∀ (μ : gx_M) (x2 : Int32) (x3 : Int32), k μ x2 x3 = some rr → K μ 65 [(0, .ref (gy_a Y c0)), (1, .int q1), (2, .int x2), (3, .int x3)] []) :
    ∀ (n : Nat) (μ : gx_M) (x2 : Int32) (x3 : Int32), lf_X7_run_39 (gy_k Y) c0 q1 k n μ x2 x3 = some rr → K μ 39 [(0, .ref (gy_a Y c0)), (1, .int q1), (2, .int x2), (3, .int x3)] [] := by
  intro n
  induction n with
  | zero =>
    intro μ x2 x3 hf
    exact absurd hf (by simp [lf_X7_run_39])
  | succ n ih =>
    intro μ x2 x3 hf
    rw [lf_X7_run_39] at hf
    refine gw_iload_n (pc := 39) hK 3 dX7_run_39 rfl rfl ?_
    refine gw_iload_n (pc := 40) hK 1 dX7_run_40 rfl rfl ?_
    refine gw_icmp_ge (tgt := 65) (pc := 41) hK dX7_run_41 (by decide) hf (fun cc7 hf => ?_) (fun cc7 hf => ?_)
    ·
      refine gw_sub (L' := [(0, .ref (gy_a Y c0)), (1, .int q1), (2, .int x2), (3, .int x3)]) hK [0, 1, 2, 3] rfl (hx _ _ _ hf)
    ·
      refine gw_iload_n (pc := 44) hK 2 dX7_run_44 rfl rfl ?_
      refine gw_aload_n (pc := 45) hK 0 dX7_run_45 rfl rfl ?_
      refine gv_X7_122 (pc := 46) hK hc0 dX7_run_46 (by decide) (Nat.le_of_ble_eq_true rfl) hf (fun r8 m9 hf => ?_)
      refine gw_if_lt (tgt := 56) (pc := 49) hK dX7_run_49 (by decide) hf (fun cc10 hf => ?_) (fun cc10 hf => ?_)
      ·
        refine gw_iconst (v := 0) (pc := 56) hK dX7_run_56 (by decide) ?_
        refine gw_iadd (pc := 57) hK dX7_run_57 ?_
        refine gw_istore_n (L' := [(2, .int (x2 + 0)), (0, .ref (gy_a Y c0)), (1, .int q1), (3, .int x3)]) (pc := 58) hK dX7_run_58 rfl (by decide) rfl ?_
        refine gw_iinc (v := (x3 + 1)) (L' := [(3, .int (x3 + 1)), (2, .int (x2 + 0)), (0, .ref (gy_a Y c0)), (1, .int q1)]) (pc := 59) hK 3 dX7_run_59 rfl rfl (by decide) rfl ?_
        refine gw_goto (tgt := 39) (pc := 62) hK dX7_run_62 (by decide) ?_
        refine gw_sub (L' := [(0, .ref (gy_a Y c0)), (1, .int q1), (2, .int (x2 + 0)), (3, .int (x3 + 1))]) hK [2, 3, 1, 0] rfl (ih _ _ _ hf)
      ·
        refine gw_iconst (v := 1) (pc := 52) hK dX7_run_52 (by decide) ?_
        refine gw_goto (tgt := 57) (pc := 53) hK dX7_run_53 (by decide) ?_
        refine gw_iadd (pc := 57) hK dX7_run_57 ?_
        refine gw_istore_n (L' := [(2, .int (x2 + 1)), (0, .ref (gy_a Y c0)), (1, .int q1), (3, .int x3)]) (pc := 58) hK dX7_run_58 rfl (by decide) rfl ?_
        refine gw_iinc (v := (x3 + 1)) (L' := [(3, .int (x3 + 1)), (2, .int (x2 + 1)), (0, .ref (gy_a Y c0)), (1, .int q1)]) (pc := 59) hK 3 dX7_run_59 rfl rfl (by decide) rfl ?_
        refine gw_goto (tgt := 39) (pc := 62) hK dX7_run_62 (by decide) ?_
        refine gw_sub (L' := [(0, .ref (gy_a Y c0)), (1, .int q1), (2, .int (x2 + 1)), (3, .int (x3 + 1))]) hK [2, 3, 1, 0] rfl (ih _ _ _ hf)
set_option maxRecDepth 100000 in
set_option maxHeartbeats 4000000 in
theorem ct_X7_run (l : Launch) (Y : gx_Y) (μ : gx_M) (c : Nat) (p1 : Int32) (rr : Int32 × gx_M) (hc : gk_mod Y c) (hf : fn_X7_run (gy_k Y) μ c p1 = some rr) : gx_Con l yX7_run cX7_run 4 (some .int) 6 133 Y [.ref (gy_a Y c), .int p1] μ rr := by
  refine gx_Con_of (L0 := [(0, .ref (gy_a Y c)), (1, .int p1)]) (by decide) (Nat.le_of_ble_eq_true rfl) rfl (fun K hK => ?_)
  unfold fn_X7_run at hf
  refine gw_iload_n (pc := 0) hK 1 dX7_run_0 rfl rfl ?_
  refine gw_iconst (v := 1) (pc := 1) hK dX7_run_1 (by decide) ?_
  refine gw_sipush (v := 600) (pc := 2) hK dX7_run_2 (by decide) ?_
  refine gv_X7_25 (pc := 5) hK dX7_run_5 (by decide) (Nat.le_of_ble_eq_true rfl) hf (fun r1 m2 hf => ?_)
  refine gw_if_ne (tgt := 14) (pc := 8) hK dX7_run_8 (by decide) hf (fun cc3 hf => ?_) (fun cc3 hf => ?_)
  ·
    refine gw_aload_n (pc := 14) hK 0 dX7_run_14 rfl rfl ?_
    refine gf_X7_7 (pc := 15) hK hc.1 dX7_run_15 ?_
    refine gw_iconst (v := 0) (pc := 18) hK dX7_run_18 (by decide) ?_
    refine gw_iald (pc := 19) hK hc.2.1.1 (gk_100 hc.2.1) dX7_run_19 hf (fun hf => ?_)
    refine gw_iload_n (pc := 20) hK 1 dX7_run_20 rfl rfl ?_
    refine gw_iadd (pc := 21) hK dX7_run_21 ?_
    refine gw_sipush (v := 3600) (pc := 22) hK dX7_run_22 (by decide) ?_
    refine gw_icmp_le (tgt := 31) (pc := 25) hK dX7_run_25 (by decide) hf (fun cc4 hf => ?_) (fun cc4 hf => ?_)
    ·
      refine gw_aload_n (pc := 31) hK 0 dX7_run_31 rfl rfl ?_
      refine gv_X7_53 (pc := 32) hK hc dX7_run_32 (by decide) (Nat.le_of_ble_eq_true rfl) hf (fun _ m6 hf => ?_)
      refine gw_iconst (v := 0) (pc := 35) hK dX7_run_35 (by decide) ?_
      refine gw_istore_n (L' := [(2, .int 0), (0, .ref (gy_a Y c)), (1, .int p1)]) (pc := 36) hK dX7_run_36 rfl (by decide) rfl ?_
      refine gw_iconst (v := 0) (pc := 37) hK dX7_run_37 (by decide) ?_
      refine gw_istore_n (L' := [(3, .int 0), (2, .int 0), (0, .ref (gy_a Y c)), (1, .int p1)]) (pc := 38) hK dX7_run_38 rfl (by decide) rfl ?_
      refine gw_sub (L' := [(0, .ref (gy_a Y c)), (1, .int p1), (2, .int 0), (3, .int 0)]) hK [2, 3, 1, 0] rfl (lt_X7_run_39 hK c p1 hc _ (fun m11 y12 y13 hf => ?_) gx_F _ _ _ hf)
      refine gw_iload_n (pc := 65) hK 2 dX7_run_65 rfl rfl ?_
      exact gw_ret_i (pc := 66) hK dX7_run_66 (Option.some.inj hf)
    ·
      refine gw_ldc (pc := 28) hK dX7_run_28 kw_k_RX7_52 ?_
      exact gw_ret_i (pc := 30) hK dX7_run_30 (Option.some.inj hf)
  ·
    refine gw_ldc (pc := 11) hK dX7_run_11 kw_k_RX7_51 ?_
    exact gw_ret_i (pc := 13) hK dX7_run_13 (Option.some.inj hf)

def fn_X7_set (kd : Nat → Nat) (μ : gx_M) (c : Nat) (p1 : Int32) (p2 : Int32) : Option (Int32 × gx_M) :=
  gx_b (fn_X7_canBe kd μ p1 p2) (fun r1 m2 =>
(if r1 = 0 then
some ((-100001), m2)
else
gx_b (fn_X7_records kd m2 c) (fun _ m5 =>
gx_b (fn_X7_setting kd m5 c p1) (fun r6 m7 =>
(if gx_ix (7 + p1) (kd (c + 1) - 100) = true then some (r6, (gx_u m7 (c + 1) (Int32.toNatClampNeg (7 + p1)) p2)) else none)))))
set_option maxRecDepth 100000 in
set_option maxHeartbeats 4000000 in
theorem ct_X7_set (l : Launch) (Y : gx_Y) (μ : gx_M) (c : Nat) (p1 : Int32) (p2 : Int32) (rr : Int32 × gx_M) (hc : gk_mod Y c) (hf : fn_X7_set (gy_k Y) μ c p1 p2 = some rr) : gx_Con l yX7_set cX7_set 4 (some .int) 2 43 Y [.ref (gy_a Y c), .int p1, .int p2] μ rr := by
  refine gx_Con_of (L0 := [(0, .ref (gy_a Y c)), (1, .int p1), (2, .int p2)]) (by decide) (Nat.le_of_ble_eq_true rfl) rfl (fun K hK => ?_)
  unfold fn_X7_set at hf
  refine gw_iload_n (pc := 0) hK 1 dX7_set_0 rfl rfl ?_
  refine gw_iload_n (pc := 1) hK 2 dX7_set_1 rfl rfl ?_
  refine gv_X7_74 (pc := 2) hK dX7_set_2 (by decide) (Nat.le_of_ble_eq_true rfl) hf (fun r1 m2 hf => ?_)
  refine gw_if_ne (tgt := 11) (pc := 5) hK dX7_set_5 (by decide) hf (fun cc3 hf => ?_) (fun cc3 hf => ?_)
  ·
    refine gw_aload_n (pc := 11) hK 0 dX7_set_11 rfl rfl ?_
    refine gv_X7_53 (pc := 12) hK hc dX7_set_12 (by decide) (Nat.le_of_ble_eq_true rfl) hf (fun _ m5 hf => ?_)
    refine gw_aload_n (pc := 15) hK 0 dX7_set_15 rfl rfl ?_
    refine gw_iload_n (pc := 16) hK 1 dX7_set_16 rfl rfl ?_
    refine gv_X7_78 (pc := 17) hK hc dX7_set_17 (by decide) (Nat.le_of_ble_eq_true rfl) hf (fun r6 m7 hf => ?_)
    refine gw_istore_n (L' := [(3, .int r6), (0, .ref (gy_a Y c)), (1, .int p1), (2, .int p2)]) (pc := 20) hK dX7_set_20 rfl (by decide) rfl ?_
    refine gw_aload_n (pc := 21) hK 1 dX7_set_21 rfl rfl ?_
    refine gf_X7_7 (pc := 22) hK hc.1 dX7_set_22 ?_
    refine gw_bipush (v := 7) (pc := 25) hK dX7_set_25 (by decide) ?_
    refine gw_iload_n (pc := 27) hK 2 dX7_set_27 rfl rfl ?_
    refine gw_iadd (pc := 28) hK dX7_set_28 ?_
    refine gw_iload_n (pc := 29) hK 3 dX7_set_29 rfl rfl ?_
    refine gw_iast (pc := 30) hK hc.2.1.1 (gk_100 hc.2.1) dX7_set_30 hf (fun hf => ?_)
    refine gw_iload_n (pc := 31) hK 0 dX7_set_31 rfl rfl ?_
    exact gw_ret_i (pc := 32) hK dX7_set_32 (Option.some.inj hf)
  ·
    refine gw_ldc (pc := 8) hK dX7_set_8 kw_k_RX7_51 ?_
    exact gw_ret_i (pc := 10) hK dX7_set_10 (Option.some.inj hf)

def fn_X7_spill (kd : Nat → Nat) (μ : gx_M) (c : Nat) (p1 : Int32) (p2 : Int32) : Option (Int32 × gx_M) :=
  gx_b (fn_X7_isBowl kd μ c p1) (fun r1 m2 =>
(if r1 = 0 then
some ((-100001), m2)
else
gx_b (fn_X7_in kd m2 p2 1 1000) (fun r4 m5 =>
(if r4 = 0 then
some ((-100001), m5)
else
gx_b (fn_X7_of kd m5 c p1 2) (fun r7 m8 =>
(if p2 ≤ r7 then
gx_b (fn_X7_records kd m8 c) (fun _ m11 =>
gx_b (fn_X7_of kd m11 c p1 2) (fun r12 m13 =>
gx_b (fn_X7_put kd m13 c p1 2 (r12 - p2)) (fun _ m15 =>
(if gx_ix 6 (kd (c + 1) - 100) = true then (if gx_ix 6 (kd (c + 1) - 100) = true then gx_b (fn_X7_of kd (gx_u m15 (c + 1) (Int32.toNatClampNeg 6) (m15 (c + 1) (Int32.toNatClampNeg 6) + p2)) c p1 2) (fun r16 m17 =>
some (r16, m17)) else none) else none))))
else
some ((-100002), m8)))))))
set_option maxRecDepth 100000 in
set_option maxHeartbeats 4000000 in
theorem ct_X7_spill (l : Launch) (Y : gx_Y) (μ : gx_M) (c : Nat) (p1 : Int32) (p2 : Int32) (rr : Int32 × gx_M) (hc : gk_mod Y c) (hf : fn_X7_spill (gy_k Y) μ c p1 p2 = some rr) : gx_Con l yX7_spill cX7_spill 3 (some .int) 2 43 Y [.ref (gy_a Y c), .int p1, .int p2] μ rr := by
  refine gx_Con_of (L0 := [(0, .ref (gy_a Y c)), (1, .int p1), (2, .int p2)]) (by decide) (Nat.le_of_ble_eq_true rfl) rfl (fun K hK => ?_)
  unfold fn_X7_spill at hf
  refine gw_aload_n (pc := 0) hK 0 dX7_spill_0 rfl rfl ?_
  refine gw_iload_n (pc := 1) hK 1 dX7_spill_1 rfl rfl ?_
  refine gv_X7_56 (pc := 2) hK hc dX7_spill_2 (by decide) (Nat.le_of_ble_eq_true rfl) hf (fun r1 m2 hf => ?_)
  refine gw_if_eq (tgt := 19) (pc := 5) hK dX7_spill_5 (by decide) hf (fun cc3 hf => ?_) (fun cc3 hf => ?_)
  ·
    refine gw_ldc (pc := 19) hK dX7_spill_19 kw_k_RX7_51 ?_
    exact gw_ret_i (pc := 21) hK dX7_spill_21 (Option.some.inj hf)
  ·
    refine gw_iload_n (pc := 8) hK 2 dX7_spill_8 rfl rfl ?_
    refine gw_iconst (v := 1) (pc := 9) hK dX7_spill_9 (by decide) ?_
    refine gw_sipush (v := 1000) (pc := 10) hK dX7_spill_10 (by decide) ?_
    refine gv_X7_25 (pc := 13) hK dX7_spill_13 (by decide) (Nat.le_of_ble_eq_true rfl) hf (fun r4 m5 hf => ?_)
    refine gw_if_ne (tgt := 22) (pc := 16) hK dX7_spill_16 (by decide) hf (fun cc6 hf => ?_) (fun cc6 hf => ?_)
    ·
      refine gw_aload_n (pc := 22) hK 0 dX7_spill_22 rfl rfl ?_
      refine gw_iload_n (pc := 23) hK 1 dX7_spill_23 rfl rfl ?_
      refine gw_iconst (v := 2) (pc := 24) hK dX7_spill_24 (by decide) ?_
      refine gv_X7_34 (pc := 25) hK hc dX7_spill_25 (by decide) (Nat.le_of_ble_eq_true rfl) hf (fun r7 m8 hf => ?_)
      refine gw_iload_n (pc := 28) hK 2 dX7_spill_28 rfl rfl ?_
      refine gw_icmp_ge (tgt := 35) (pc := 29) hK dX7_spill_29 (by decide) hf (fun cc9 hf => ?_) (fun cc9 hf => ?_)
      ·
        refine gw_aload_n (pc := 35) hK 0 dX7_spill_35 rfl rfl ?_
        refine gv_X7_53 (pc := 36) hK hc dX7_spill_36 (by decide) (Nat.le_of_ble_eq_true rfl) hf (fun _ m11 hf => ?_)
        refine gw_aload_n (pc := 39) hK 0 dX7_spill_39 rfl rfl ?_
        refine gw_iload_n (pc := 40) hK 1 dX7_spill_40 rfl rfl ?_
        refine gw_iconst (v := 2) (pc := 41) hK dX7_spill_41 (by decide) ?_
        refine gw_aload_n (pc := 42) hK 0 dX7_spill_42 rfl rfl ?_
        refine gw_iload_n (pc := 43) hK 1 dX7_spill_43 rfl rfl ?_
        refine gw_iconst (v := 2) (pc := 44) hK dX7_spill_44 (by decide) ?_
        refine gv_X7_34 (pc := 45) hK hc dX7_spill_45 (by decide) (Nat.le_of_ble_eq_true rfl) hf (fun r12 m13 hf => ?_)
        refine gw_iload_n (pc := 48) hK 2 dX7_spill_48 rfl rfl ?_
        refine gw_isub (pc := 49) hK dX7_spill_49 ?_
        refine gv_X7_43 (pc := 50) hK hc dX7_spill_50 (by decide) (Nat.le_of_ble_eq_true rfl) hf (fun _ m15 hf => ?_)
        refine gw_aload_n (pc := 53) hK 0 dX7_spill_53 rfl rfl ?_
        refine gf_X7_7 (pc := 54) hK hc.1 dX7_spill_54 ?_
        refine gw_bipush (v := 6) (pc := 57) hK dX7_spill_57 (by decide) ?_
        refine gw_dup2 (pc := 59) hK dX7_spill_59 rfl rfl ?_
        refine gw_iald (pc := 60) hK hc.2.1.1 (gk_100 hc.2.1) dX7_spill_60 hf (fun hf => ?_)
        refine gw_iload_n (pc := 61) hK 2 dX7_spill_61 rfl rfl ?_
        refine gw_iadd (pc := 62) hK dX7_spill_62 ?_
        refine gw_iast (pc := 63) hK hc.2.1.1 (gk_100 hc.2.1) dX7_spill_63 hf (fun hf => ?_)
        refine gw_aload_n (pc := 64) hK 0 dX7_spill_64 rfl rfl ?_
        refine gw_iload_n (pc := 65) hK 1 dX7_spill_65 rfl rfl ?_
        refine gw_iconst (v := 2) (pc := 66) hK dX7_spill_66 (by decide) ?_
        refine gv_X7_34 (pc := 67) hK hc dX7_spill_67 (by decide) (Nat.le_of_ble_eq_true rfl) hf (fun r16 m17 hf => ?_)
        exact gw_ret_i (pc := 70) hK dX7_spill_70 (Option.some.inj hf)
      ·
        refine gw_ldc (pc := 32) hK dX7_spill_32 kw_k_RX7_33 ?_
        exact gw_ret_i (pc := 34) hK dX7_spill_34 (Option.some.inj hf)
    ·
      refine gw_ldc (pc := 19) hK dX7_spill_19 kw_k_RX7_51 ?_
      exact gw_ret_i (pc := 21) hK dX7_spill_21 (Option.some.inj hf)

def lf_X7_standAhead_4 (kd : Nat → Nat) (c0 : Nat) (q1 : Int32) (k : gx_M → Int32 → Int32 → Option (Int32 × gx_M)) : Nat → gx_M → Int32 → Int32 → Option (Int32 × gx_M)
  | 0, _, _, _ => none
  | n + 1, μ, x2, x3 => (if gx_ix 2 (kd (c0 + 1) - 100) = true then (if μ (c0 + 1) (Int32.toNatClampNeg 2) ≤ x3 then
k μ x2 x3
else
gx_b (fn_X7_has kd μ c0 x3 4) (fun r2 m3 =>
gx_b (fn_X7_size kd m3 r2) (fun r4 m5 =>
gx_b (fn_X7_has kd m5 c0 q1 4) (fun r6 m7 =>
gx_b (fn_X7_size kd m7 r6) (fun r8 m9 =>
gx_b (fn_X7_hasSounded kd m9 c0 x3) (fun r10 m11 =>
(if r10 = 0 then
lf_X7_standAhead_4 kd c0 q1 k n m11 (x2 + 0) (x3 + 1)
else
(if 0 < (r4 - r8) then
lf_X7_standAhead_4 kd c0 q1 k n m11 (x2 + 1) (x3 + 1)
else
(if (r4 - r8) = 0 then
(if q1 ≤ x3 then
lf_X7_standAhead_4 kd c0 q1 k n m11 (x2 + 0) (x3 + 1)
else
lf_X7_standAhead_4 kd c0 q1 k n m11 (x2 + 1) (x3 + 1))
else
lf_X7_standAhead_4 kd c0 q1 k n m11 (x2 + 0) (x3 + 1)))))))))) else none)
def fn_X7_standAhead (kd : Nat → Nat) (μ : gx_M) (c : Nat) (p1 : Int32) : Option (Int32 × gx_M) :=
  lf_X7_standAhead_4 kd c p1 (fun m16 y17 y18 =>
some (y17, m16)) gx_F μ 0 0
set_option maxRecDepth 100000 in
set_option maxHeartbeats 4000000 in
theorem lt_X7_standAhead_4 {l : Launch} {Y : gx_Y} {rr : Int32 × gx_M} {K : gx_KT} (hK : gx_K l RX7 cX7_standAhead 5 2 43 (some .int) Y (fun r m => (r, m) = rr) K) (c0 : Nat) (q1 : Int32) (hc0 : gk_mod Y c0) (k : gx_M → Int32 → Int32 → Option (Int32 × gx_M)) (hx : ∀ (μ : gx_M) (x2 : Int32) (x3 : Int32), k μ x2 x3 = some rr → K μ 72 [(0, .ref (gy_a Y c0)), (1, .int q1), (2, .int x2), (3, .int x3)] []) :
    ∀ (n : Nat) (μ : gx_M) (x2 : Int32) (x3 : Int32), lf_X7_standAhead_4 (gy_k Y) c0 q1 k n μ x2 x3 = some rr → K μ 4 [(0, .ref (gy_a Y c0)), (1, .int q1), (2, .int x2), (3, .int x3)] [] := by
  intro n
  induction n with
  | zero =>
    intro μ x2 x3 hf
    exact absurd hf (by simp [lf_X7_standAhead_4])
  | succ n ih =>
    intro μ x2 x3 hf
    rw [lf_X7_standAhead_4] at hf
    refine gw_iload_n (pc := 4) hK 3 dX7_standAhead_4 rfl rfl ?_
    refine gw_aload_n (pc := 5) hK 0 dX7_standAhead_5 rfl rfl ?_
    refine gf_X7_7 (pc := 6) hK hc0.1 dX7_standAhead_6 ?_
    refine gw_iconst (v := 2) (pc := 9) hK dX7_standAhead_9 (by decide) ?_
    refine gw_iald (pc := 10) hK hc0.2.1.1 (gk_100 hc0.2.1) dX7_standAhead_10 hf (fun hf => ?_)
    refine gw_icmp_ge (tgt := 72) (pc := 11) hK dX7_standAhead_11 (by decide) hf (fun cc1 hf => ?_) (fun cc1 hf => ?_)
    ·
      refine gw_sub (L' := [(0, .ref (gy_a Y c0)), (1, .int q1), (2, .int x2), (3, .int x3)]) hK [0, 1, 2, 3] rfl (hx _ _ _ hf)
    ·
      refine gw_aload_n (pc := 14) hK 0 dX7_standAhead_14 rfl rfl ?_
      refine gw_iload_n (pc := 15) hK 3 dX7_standAhead_15 rfl rfl ?_
      refine gw_iconst (v := 4) (pc := 16) hK dX7_standAhead_16 (by decide) ?_
      refine gv_X7_81 (pc := 17) hK hc0 dX7_standAhead_17 (by decide) (Nat.le_of_ble_eq_true rfl) hf (fun r2 m3 hf => ?_)
      refine gv_X7_67 (pc := 20) hK dX7_standAhead_20 (by decide) (Nat.le_of_ble_eq_true rfl) hf (fun r4 m5 hf => ?_)
      refine gw_aload_n (pc := 23) hK 0 dX7_standAhead_23 rfl rfl ?_
      refine gw_iload_n (pc := 24) hK 1 dX7_standAhead_24 rfl rfl ?_
      refine gw_iconst (v := 4) (pc := 25) hK dX7_standAhead_25 (by decide) ?_
      refine gv_X7_81 (pc := 26) hK hc0 dX7_standAhead_26 (by decide) (Nat.le_of_ble_eq_true rfl) hf (fun r6 m7 hf => ?_)
      refine gv_X7_67 (pc := 29) hK dX7_standAhead_29 (by decide) (Nat.le_of_ble_eq_true rfl) hf (fun r8 m9 hf => ?_)
      refine gw_isub (pc := 32) hK dX7_standAhead_32 ?_
      refine gw_istore (L' := [(4, .int (r4 - r8)), (0, .ref (gy_a Y c0)), (1, .int q1), (2, .int x2), (3, .int x3)]) (pc := 33) hK dX7_standAhead_33 (by decide) rfl ?_
      refine gw_iload_n (pc := 35) hK 3 dX7_standAhead_35 rfl rfl ?_
      refine gw_aload_n (pc := 36) hK 1 dX7_standAhead_36 rfl rfl ?_
      refine gw_iload_n (pc := 37) hK 4 dX7_standAhead_37 rfl rfl ?_
      refine gv_X7_125 (pc := 38) hK hc0 dX7_standAhead_38 (by decide) (Nat.le_of_ble_eq_true rfl) hf (fun r10 m11 hf => ?_)
      refine gw_if_eq (tgt := 63) (pc := 41) hK dX7_standAhead_41 (by decide) hf (fun cc12 hf => ?_) (fun cc12 hf => ?_)
      ·
        refine gw_iconst (v := 0) (pc := 63) hK dX7_standAhead_63 (by decide) ?_
        refine gw_iadd (pc := 64) hK dX7_standAhead_64 ?_
        refine gw_istore_n (L' := [(2, .int (x2 + 0)), (4, .int (r4 - r8)), (0, .ref (gy_a Y c0)), (1, .int q1), (3, .int x3)]) (pc := 65) hK dX7_standAhead_65 rfl (by decide) rfl ?_
        refine gw_iinc (v := (x3 + 1)) (L' := [(3, .int (x3 + 1)), (2, .int (x2 + 0)), (4, .int (r4 - r8)), (0, .ref (gy_a Y c0)), (1, .int q1)]) (pc := 66) hK 4 dX7_standAhead_66 rfl rfl (by decide) rfl ?_
        refine gw_goto (tgt := 4) (pc := 69) hK dX7_standAhead_69 (by decide) ?_
        refine gw_sub (L' := [(0, .ref (gy_a Y c0)), (1, .int q1), (2, .int (x2 + 0)), (3, .int (x3 + 1))]) hK [3, 4, 1, 0] rfl (ih _ _ _ hf)
      ·
        refine gw_iload (pc := 44) hK 0 dX7_standAhead_44 rfl ?_
        refine gw_if_gt (tgt := 59) (pc := 46) hK dX7_standAhead_46 (by decide) hf (fun cc13 hf => ?_) (fun cc13 hf => ?_)
        ·
          refine gw_iconst (v := 1) (pc := 59) hK dX7_standAhead_59 (by decide) ?_
          refine gw_goto (tgt := 64) (pc := 60) hK dX7_standAhead_60 (by decide) ?_
          refine gw_iadd (pc := 64) hK dX7_standAhead_64 ?_
          refine gw_istore_n (L' := [(2, .int (x2 + 1)), (4, .int (r4 - r8)), (0, .ref (gy_a Y c0)), (1, .int q1), (3, .int x3)]) (pc := 65) hK dX7_standAhead_65 rfl (by decide) rfl ?_
          refine gw_iinc (v := (x3 + 1)) (L' := [(3, .int (x3 + 1)), (2, .int (x2 + 1)), (4, .int (r4 - r8)), (0, .ref (gy_a Y c0)), (1, .int q1)]) (pc := 66) hK 4 dX7_standAhead_66 rfl rfl (by decide) rfl ?_
          refine gw_goto (tgt := 4) (pc := 69) hK dX7_standAhead_69 (by decide) ?_
          refine gw_sub (L' := [(0, .ref (gy_a Y c0)), (1, .int q1), (2, .int (x2 + 1)), (3, .int (x3 + 1))]) hK [3, 4, 1, 0] rfl (ih _ _ _ hf)
        ·
          refine gw_iload (pc := 49) hK 0 dX7_standAhead_49 rfl ?_
          refine gw_if_ne (tgt := 63) (pc := 51) hK dX7_standAhead_51 (by decide) hf (fun cc14 hf => ?_) (fun cc14 hf => ?_)
          ·
            refine gw_iconst (v := 0) (pc := 63) hK dX7_standAhead_63 (by decide) ?_
            refine gw_iadd (pc := 64) hK dX7_standAhead_64 ?_
            refine gw_istore_n (L' := [(2, .int (x2 + 0)), (4, .int (r4 - r8)), (0, .ref (gy_a Y c0)), (1, .int q1), (3, .int x3)]) (pc := 65) hK dX7_standAhead_65 rfl (by decide) rfl ?_
            refine gw_iinc (v := (x3 + 1)) (L' := [(3, .int (x3 + 1)), (2, .int (x2 + 0)), (4, .int (r4 - r8)), (0, .ref (gy_a Y c0)), (1, .int q1)]) (pc := 66) hK 4 dX7_standAhead_66 rfl rfl (by decide) rfl ?_
            refine gw_goto (tgt := 4) (pc := 69) hK dX7_standAhead_69 (by decide) ?_
            refine gw_sub (L' := [(0, .ref (gy_a Y c0)), (1, .int q1), (2, .int (x2 + 0)), (3, .int (x3 + 1))]) hK [3, 4, 1, 0] rfl (ih _ _ _ hf)
          ·
            refine gw_iload_n (pc := 54) hK 4 dX7_standAhead_54 rfl rfl ?_
            refine gw_iload_n (pc := 55) hK 2 dX7_standAhead_55 rfl rfl ?_
            refine gw_icmp_ge (tgt := 63) (pc := 56) hK dX7_standAhead_56 (by decide) hf (fun cc15 hf => ?_) (fun cc15 hf => ?_)
            ·
              refine gw_iconst (v := 0) (pc := 63) hK dX7_standAhead_63 (by decide) ?_
              refine gw_iadd (pc := 64) hK dX7_standAhead_64 ?_
              refine gw_istore_n (L' := [(2, .int (x2 + 0)), (4, .int (r4 - r8)), (0, .ref (gy_a Y c0)), (1, .int q1), (3, .int x3)]) (pc := 65) hK dX7_standAhead_65 rfl (by decide) rfl ?_
              refine gw_iinc (v := (x3 + 1)) (L' := [(3, .int (x3 + 1)), (2, .int (x2 + 0)), (4, .int (r4 - r8)), (0, .ref (gy_a Y c0)), (1, .int q1)]) (pc := 66) hK 4 dX7_standAhead_66 rfl rfl (by decide) rfl ?_
              refine gw_goto (tgt := 4) (pc := 69) hK dX7_standAhead_69 (by decide) ?_
              refine gw_sub (L' := [(0, .ref (gy_a Y c0)), (1, .int q1), (2, .int (x2 + 0)), (3, .int (x3 + 1))]) hK [3, 4, 1, 0] rfl (ih _ _ _ hf)
            ·
              refine gw_iconst (v := 1) (pc := 59) hK dX7_standAhead_59 (by decide) ?_
              refine gw_goto (tgt := 64) (pc := 60) hK dX7_standAhead_60 (by decide) ?_
              refine gw_iadd (pc := 64) hK dX7_standAhead_64 ?_
              refine gw_istore_n (L' := [(2, .int (x2 + 1)), (4, .int (r4 - r8)), (0, .ref (gy_a Y c0)), (1, .int q1), (3, .int x3)]) (pc := 65) hK dX7_standAhead_65 rfl (by decide) rfl ?_
              refine gw_iinc (v := (x3 + 1)) (L' := [(3, .int (x3 + 1)), (2, .int (x2 + 1)), (4, .int (r4 - r8)), (0, .ref (gy_a Y c0)), (1, .int q1)]) (pc := 66) hK 4 dX7_standAhead_66 rfl rfl (by decide) rfl ?_
              refine gw_goto (tgt := 4) (pc := 69) hK dX7_standAhead_69 (by decide) ?_
              refine gw_sub (L' := [(0, .ref (gy_a Y c0)), (1, .int q1), (2, .int (x2 + 1)), (3, .int (x3 + 1))]) hK [3, 4, 1, 0] rfl (ih _ _ _ hf)
set_option maxRecDepth 100000 in
set_option maxHeartbeats 4000000 in
theorem ct_X7_standAhead (l : Launch) (Y : gx_Y) (μ : gx_M) (c : Nat) (p1 : Int32) (rr : Int32 × gx_M) (hc : gk_mod Y c) (hf : fn_X7_standAhead (gy_k Y) μ c p1 = some rr) : gx_Con l yX7_standAhead cX7_standAhead 5 (some .int) 2 43 Y [.ref (gy_a Y c), .int p1] μ rr := by
  refine gx_Con_of (L0 := [(0, .ref (gy_a Y c)), (1, .int p1)]) (by decide) (Nat.le_of_ble_eq_true rfl) rfl (fun K hK => ?_)
  unfold fn_X7_standAhead at hf
  refine gw_iconst (v := 0) (pc := 0) hK dX7_standAhead_0 (by decide) ?_
  refine gw_istore_n (L' := [(2, .int 0), (0, .ref (gy_a Y c)), (1, .int p1)]) (pc := 1) hK dX7_standAhead_1 rfl (by decide) rfl ?_
  refine gw_iconst (v := 0) (pc := 2) hK dX7_standAhead_2 (by decide) ?_
  refine gw_istore_n (L' := [(3, .int 0), (2, .int 0), (0, .ref (gy_a Y c)), (1, .int p1)]) (pc := 3) hK dX7_standAhead_3 rfl (by decide) rfl ?_
  refine gw_sub (L' := [(0, .ref (gy_a Y c)), (1, .int p1), (2, .int 0), (3, .int 0)]) hK [2, 3, 1, 0] rfl (lt_X7_standAhead_4 hK c p1 hc _ (fun m16 y17 y18 hf => ?_) gx_F _ _ _ hf)
  refine gw_iload_n (pc := 72) hK 2 dX7_standAhead_72 rfl rfl ?_
  exact gw_ret_i (pc := 73) hK dX7_standAhead_73 (Option.some.inj hf)
theorem gv_X7_128 {l : Launch} {cc : ByteArray} {nL fr lo : Nat} {ret : Option FieldType} {Y : gx_Y} {Post : Int32 → gx_M → Prop} {K : gx_KT} {pc : Nat} {μ : gx_M} {L : List (Nat × Value)} {st : List Value} {rr : Int32 × gx_M} (h : gx_K l RX7 cc nL fr lo ret Y Post K) {c : Nat} {p1 : Int32} (hc : gk_mod Y c) (d : decode cc pc = .ok (.invokevirtual 128, 3)) (hR : 2 + 1 ≤ fr ∧ 67 ≤ lo) (hst : (st.map fun v => v.category).sum ≤ 8) {k : Int32 → gx_M → Option (Int32 × gx_M)} (hf : gx_b (fn_X7_standAhead (gy_k Y) μ c p1) k = some rr) (kk : ∀ (r : Int32) (m : gx_M), k r m = some rr → K m (pc + 3) L (.int r :: st)) : K μ pc L (.int p1 :: .ref (gy_a Y c) :: st) := by
  obtain ⟨r, m, e, hk⟩ := gx_b_some hf
  exact gw_callV (As := [.int p1]) (q := (r, m)) h hc.1 (by decide) rfl (by refine ⟨rfl, by decide, by decide, (show (parseMethodDescriptor yX7_standAhead.desc).map (fun d => d.parameters.length) = some 1 by decide +kernel)⟩) kw_ml_RX7_128 kw_im_X7_standAhead kw_se_X7_standAhead kw_in_RX7 kw_co_X7_standAhead hR hst d (ct_X7_standAhead l Y μ c p1 (r, m) hc e) (kk r m hk)
def lf_X7_transpose_44 (kd : Nat → Nat) (c0 : Nat) (q1 : Int32) (q2 : Int32) (q3 : Int32) (k : gx_M → Int32 → Option (Int32 × gx_M)) : Nat → gx_M → Int32 → Option (Int32 × gx_M)
  | 0, _, _ => none
  | n + 1, μ, x4 => (if q2 < x4 then
k μ x4
else
gx_b (fn_X7_has kd μ c0 x4 1) (fun r13 m14 =>
gx_b (fn_X7_in kd m14 (r13 + q3) 0 6000) (fun r15 m16 =>
(if r15 = 0 then
some ((-100002), m16)
else
lf_X7_transpose_44 kd c0 q1 q2 q3 k n m16 (x4 + 1)))))
def lf_X7_transpose_85 (kd : Nat → Nat) (c0 : Nat) (q1 : Int32) (q2 : Int32) (q3 : Int32) (k : gx_M → Int32 → Option (Int32 × gx_M)) : Nat → gx_M → Int32 → Option (Int32 × gx_M)
  | 0, _, _ => none
  | n + 1, μ, x4 => (if q2 < x4 then
k μ x4
else
gx_b (fn_X7_has kd μ c0 x4 1) (fun r23 m24 =>
gx_b (fn_X7_lay kd m24 c0 x4 1 (r23 + q3)) (fun _ m26 =>
lf_X7_transpose_85 kd c0 q1 q2 q3 k n m26 (x4 + 1))))
def fn_X7_transpose (kd : Nat → Nat) (μ : gx_M) (c : Nat) (p1 : Int32) (p2 : Int32) (p3 : Int32) : Option (Int32 × gx_M) :=
  gx_b (fn_X7_isNote kd μ c p1) (fun r1 m2 =>
(if r1 = 0 then
some ((-100001), m2)
else
gx_b (fn_X7_isNote kd m2 c p2) (fun r4 m5 =>
(if r4 = 0 then
some ((-100001), m5)
else
(if p2 < p1 then
some ((-100001), m5)
else
(if p3 = 0 then
some ((-100001), m5)
else
gx_b (fn_X7_in kd m5 p3 (-6000) 6000) (fun r9 m10 =>
(if r9 = 0 then
some ((-100001), m10)
else
lf_X7_transpose_44 kd c p1 p2 p3 (fun m18 y19 =>
gx_b (fn_X7_records kd m18 c) (fun _ m21 =>
lf_X7_transpose_85 kd c p1 p2 p3 (fun m27 y28 =>
some (((p2 - p1) + 1), m27)) gx_F m21 p1)) gx_F m10 p1))))))))
set_option maxRecDepth 100000 in
set_option maxHeartbeats 4000000 in
theorem lt_X7_transpose_44 {l : Launch} {Y : gx_Y} {rr : Int32 × gx_M} {K : gx_KT} (hK : gx_K l RX7 cX7_transpose 5 2 43 (some .int) Y (fun r m => (r, m) = rr) K) (c0 : Nat) (q1 : Int32) (q2 : Int32) (q3 : Int32) (hc0 : gk_mod Y c0) (k : gx_M → Int32 → Option (Int32 × gx_M)) (hx : ∀ (μ : gx_M) (x4 : Int32), k μ x4 = some rr → K μ 78 [(0, .ref (gy_a Y c0)), (1, .int q1), (2, .int q2), (3, .int q3), (4, .int x4)] []) :
    ∀ (n : Nat) (μ : gx_M) (x4 : Int32), lf_X7_transpose_44 (gy_k Y) c0 q1 q2 q3 k n μ x4 = some rr → K μ 44 [(0, .ref (gy_a Y c0)), (1, .int q1), (2, .int q2), (3, .int q3), (4, .int x4)] [] := by
  intro n
  induction n with
  | zero =>
    intro μ x4 hf
    exact absurd hf (by simp [lf_X7_transpose_44])
  | succ n ih =>
    intro μ x4 hf
    rw [lf_X7_transpose_44] at hf
    refine gw_iload (pc := 44) hK 4 dX7_transpose_44 rfl ?_
    refine gw_iload_n (pc := 46) hK 2 dX7_transpose_46 rfl rfl ?_
    refine gw_icmp_gt (tgt := 78) (pc := 47) hK dX7_transpose_47 (by decide) hf (fun cc12 hf => ?_) (fun cc12 hf => ?_)
    ·
      refine gw_sub (L' := [(0, .ref (gy_a Y c0)), (1, .int q1), (2, .int q2), (3, .int q3), (4, .int x4)]) hK [0, 1, 2, 3, 4] rfl (hx _ _ hf)
    ·
      refine gw_aload_n (pc := 50) hK 0 dX7_transpose_50 rfl rfl ?_
      refine gw_iload (pc := 51) hK 4 dX7_transpose_51 rfl ?_
      refine gw_iconst (v := 1) (pc := 53) hK dX7_transpose_53 (by decide) ?_
      refine gv_X7_81 (pc := 54) hK hc0 dX7_transpose_54 (by decide) (Nat.le_of_ble_eq_true rfl) hf (fun r13 m14 hf => ?_)
      refine gw_iload_n (pc := 57) hK 3 dX7_transpose_57 rfl rfl ?_
      refine gw_iadd (pc := 58) hK dX7_transpose_58 ?_
      refine gw_iconst (v := 0) (pc := 59) hK dX7_transpose_59 (by decide) ?_
      refine gw_sipush (v := 6000) (pc := 60) hK dX7_transpose_60 (by decide) ?_
      refine gv_X7_25 (pc := 63) hK dX7_transpose_63 (by decide) (Nat.le_of_ble_eq_true rfl) hf (fun r15 m16 hf => ?_)
      refine gw_if_ne (tgt := 72) (pc := 66) hK dX7_transpose_66 (by decide) hf (fun cc17 hf => ?_) (fun cc17 hf => ?_)
      ·
        refine gw_iinc (v := (x4 + 1)) (L' := [(4, .int (x4 + 1)), (0, .ref (gy_a Y c0)), (1, .int q1), (2, .int q2), (3, .int q3)]) (pc := 72) hK 4 dX7_transpose_72 rfl rfl (by decide) rfl ?_
        refine gw_goto (tgt := 44) (pc := 75) hK dX7_transpose_75 (by decide) ?_
        refine gw_sub (L' := [(0, .ref (gy_a Y c0)), (1, .int q1), (2, .int q2), (3, .int q3), (4, .int (x4 + 1))]) hK [1, 2, 3, 4, 0] rfl (ih _ _ hf)
      ·
        refine gw_ldc (pc := 69) hK dX7_transpose_69 kw_k_RX7_33 ?_
        exact gw_ret_i (pc := 71) hK dX7_transpose_71 (Option.some.inj hf)
set_option maxRecDepth 100000 in
set_option maxHeartbeats 4000000 in
theorem lt_X7_transpose_85 {l : Launch} {Y : gx_Y} {rr : Int32 × gx_M} {K : gx_KT} (hK : gx_K l RX7 cX7_transpose 5 2 43 (some .int) Y (fun r m => (r, m) = rr) K) (c0 : Nat) (q1 : Int32) (q2 : Int32) (q3 : Int32) (hc0 : gk_mod Y c0) (k : gx_M → Int32 → Option (Int32 × gx_M)) (hx : ∀ (μ : gx_M) (x4 : Int32), k μ x4 = some rr → K μ 113 [(0, .ref (gy_a Y c0)), (1, .int q1), (2, .int q2), (3, .int q3), (4, .int x4)] []) :
    ∀ (n : Nat) (μ : gx_M) (x4 : Int32), lf_X7_transpose_85 (gy_k Y) c0 q1 q2 q3 k n μ x4 = some rr → K μ 85 [(0, .ref (gy_a Y c0)), (1, .int q1), (2, .int q2), (3, .int q3), (4, .int x4)] [] := by
  intro n
  induction n with
  | zero =>
    intro μ x4 hf
    exact absurd hf (by simp [lf_X7_transpose_85])
  | succ n ih =>
    intro μ x4 hf
    rw [lf_X7_transpose_85] at hf
    refine gw_iload (pc := 85) hK 4 dX7_transpose_85 rfl ?_
    refine gw_iload_n (pc := 87) hK 2 dX7_transpose_87 rfl rfl ?_
    refine gw_icmp_gt (tgt := 113) (pc := 88) hK dX7_transpose_88 (by decide) hf (fun cc22 hf => ?_) (fun cc22 hf => ?_)
    ·
      refine gw_sub (L' := [(0, .ref (gy_a Y c0)), (1, .int q1), (2, .int q2), (3, .int q3), (4, .int x4)]) hK [0, 1, 2, 3, 4] rfl (hx _ _ hf)
    ·
      refine gw_aload_n (pc := 91) hK 0 dX7_transpose_91 rfl rfl ?_
      refine gw_iload (pc := 92) hK 4 dX7_transpose_92 rfl ?_
      refine gw_iconst (v := 1) (pc := 94) hK dX7_transpose_94 (by decide) ?_
      refine gw_aload_n (pc := 95) hK 0 dX7_transpose_95 rfl rfl ?_
      refine gw_iload (pc := 96) hK 4 dX7_transpose_96 rfl ?_
      refine gw_iconst (v := 1) (pc := 98) hK dX7_transpose_98 (by decide) ?_
      refine gv_X7_81 (pc := 99) hK hc0 dX7_transpose_99 (by decide) (Nat.le_of_ble_eq_true rfl) hf (fun r23 m24 hf => ?_)
      refine gw_iload_n (pc := 102) hK 3 dX7_transpose_102 rfl rfl ?_
      refine gw_iadd (pc := 103) hK dX7_transpose_103 ?_
      refine gv_X7_100 (pc := 104) hK hc0 dX7_transpose_104 (by decide) (Nat.le_of_ble_eq_true rfl) hf (fun _ m26 hf => ?_)
      refine gw_iinc (v := (x4 + 1)) (L' := [(4, .int (x4 + 1)), (0, .ref (gy_a Y c0)), (1, .int q1), (2, .int q2), (3, .int q3)]) (pc := 107) hK 4 dX7_transpose_107 rfl rfl (by decide) rfl ?_
      refine gw_goto (tgt := 85) (pc := 110) hK dX7_transpose_110 (by decide) ?_
      refine gw_sub (L' := [(0, .ref (gy_a Y c0)), (1, .int q1), (2, .int q2), (3, .int q3), (4, .int (x4 + 1))]) hK [1, 2, 3, 4, 0] rfl (ih _ _ hf)
set_option maxRecDepth 100000 in
set_option maxHeartbeats 4000000 in
theorem ct_X7_transpose (l : Launch) (Y : gx_Y) (μ : gx_M) (c : Nat) (p1 : Int32) (p2 : Int32) (p3 : Int32) (rr : Int32 × gx_M) (hc : gk_mod Y c) (hf : fn_X7_transpose (gy_k Y) μ c p1 p2 p3 = some rr) : gx_Con l yX7_transpose cX7_transpose 5 (some .int) 2 43 Y [.ref (gy_a Y c), .int p1, .int p2, .int p3] μ rr := by
  refine gx_Con_of (L0 := [(0, .ref (gy_a Y c)), (1, .int p1), (2, .int p2), (3, .int p3)]) (by decide) (Nat.le_of_ble_eq_true rfl) rfl (fun K hK => ?_)
  unfold fn_X7_transpose at hf
  refine gw_aload_n (pc := 0) hK 0 dX7_transpose_0 rfl rfl ?_
  refine gw_iload_n (pc := 1) hK 1 dX7_transpose_1 rfl rfl ?_
  refine gv_X7_109 (pc := 2) hK hc dX7_transpose_2 (by decide) (Nat.le_of_ble_eq_true rfl) hf (fun r1 m2 hf => ?_)
  refine gw_if_eq (tgt := 38) (pc := 5) hK dX7_transpose_5 (by decide) hf (fun cc3 hf => ?_) (fun cc3 hf => ?_)
  ·
    refine gw_ldc (pc := 38) hK dX7_transpose_38 kw_k_RX7_51 ?_
    exact gw_ret_i (pc := 40) hK dX7_transpose_40 (Option.some.inj hf)
  ·
    refine gw_aload_n (pc := 8) hK 0 dX7_transpose_8 rfl rfl ?_
    refine gw_iload_n (pc := 9) hK 2 dX7_transpose_9 rfl rfl ?_
    refine gv_X7_109 (pc := 10) hK hc dX7_transpose_10 (by decide) (Nat.le_of_ble_eq_true rfl) hf (fun r4 m5 hf => ?_)
    refine gw_if_eq (tgt := 38) (pc := 13) hK dX7_transpose_13 (by decide) hf (fun cc6 hf => ?_) (fun cc6 hf => ?_)
    ·
      refine gw_ldc (pc := 38) hK dX7_transpose_38 kw_k_RX7_51 ?_
      exact gw_ret_i (pc := 40) hK dX7_transpose_40 (Option.some.inj hf)
    ·
      refine gw_iload_n (pc := 16) hK 2 dX7_transpose_16 rfl rfl ?_
      refine gw_iload_n (pc := 17) hK 1 dX7_transpose_17 rfl rfl ?_
      refine gw_icmp_lt (tgt := 38) (pc := 18) hK dX7_transpose_18 (by decide) hf (fun cc7 hf => ?_) (fun cc7 hf => ?_)
      ·
        refine gw_ldc (pc := 38) hK dX7_transpose_38 kw_k_RX7_51 ?_
        exact gw_ret_i (pc := 40) hK dX7_transpose_40 (Option.some.inj hf)
      ·
        refine gw_iload_n (pc := 21) hK 3 dX7_transpose_21 rfl rfl ?_
        refine gw_if_eq (tgt := 38) (pc := 22) hK dX7_transpose_22 (by decide) hf (fun cc8 hf => ?_) (fun cc8 hf => ?_)
        ·
          refine gw_ldc (pc := 38) hK dX7_transpose_38 kw_k_RX7_51 ?_
          exact gw_ret_i (pc := 40) hK dX7_transpose_40 (Option.some.inj hf)
        ·
          refine gw_iload_n (pc := 25) hK 3 dX7_transpose_25 rfl rfl ?_
          refine gw_sipush (v := (-6000)) (pc := 26) hK dX7_transpose_26 (by decide) ?_
          refine gw_sipush (v := 6000) (pc := 29) hK dX7_transpose_29 (by decide) ?_
          refine gv_X7_25 (pc := 32) hK dX7_transpose_32 (by decide) (Nat.le_of_ble_eq_true rfl) hf (fun r9 m10 hf => ?_)
          refine gw_if_ne (tgt := 41) (pc := 35) hK dX7_transpose_35 (by decide) hf (fun cc11 hf => ?_) (fun cc11 hf => ?_)
          ·
            refine gw_iload_n (pc := 41) hK 1 dX7_transpose_41 rfl rfl ?_
            refine gw_istore (L' := [(4, .int p1), (0, .ref (gy_a Y c)), (1, .int p1), (2, .int p2), (3, .int p3)]) (pc := 42) hK dX7_transpose_42 (by decide) rfl ?_
            refine gw_sub (L' := [(0, .ref (gy_a Y c)), (1, .int p1), (2, .int p2), (3, .int p3), (4, .int p1)]) hK [1, 2, 3, 4, 0] rfl (lt_X7_transpose_44 hK c p1 p2 p3 hc _ (fun m18 y19 hf => ?_) gx_F _ _ hf)
            refine gw_aload_n (pc := 78) hK 0 dX7_transpose_78 rfl rfl ?_
            refine gv_X7_53 (pc := 79) hK hc dX7_transpose_79 (by decide) (Nat.le_of_ble_eq_true rfl) hf (fun _ m21 hf => ?_)
            refine gw_iload_n (pc := 82) hK 1 dX7_transpose_82 rfl rfl ?_
            refine gw_istore (L' := [(4, .int p1), (0, .ref (gy_a Y c)), (1, .int p1), (2, .int p2), (3, .int p3)]) (pc := 83) hK dX7_transpose_83 (by decide) rfl ?_
            refine gw_sub (L' := [(0, .ref (gy_a Y c)), (1, .int p1), (2, .int p2), (3, .int p3), (4, .int p1)]) hK [1, 2, 3, 4, 0] rfl (lt_X7_transpose_85 hK c p1 p2 p3 hc _ (fun m27 y28 hf => ?_) gx_F _ _ hf)
            refine gw_iload_n (pc := 113) hK 2 dX7_transpose_113 rfl rfl ?_
            refine gw_iload_n (pc := 114) hK 1 dX7_transpose_114 rfl rfl ?_
            refine gw_isub (pc := 115) hK dX7_transpose_115 ?_
            refine gw_iconst (v := 1) (pc := 116) hK dX7_transpose_116 (by decide) ?_
            refine gw_iadd (pc := 117) hK dX7_transpose_117 ?_
            exact gw_ret_i (pc := 118) hK dX7_transpose_118 (Option.some.inj hf)
          ·
            refine gw_ldc (pc := 38) hK dX7_transpose_38 kw_k_RX7_51 ?_
            exact gw_ret_i (pc := 40) hK dX7_transpose_40 (Option.some.inj hf)

def fn_X7_type (kd : Nat → Nat) (μ : gx_M) (c : Nat) (p1 : Int32) : Option (Int32 × gx_M) :=
  gx_b (fn_X7_in kd μ p1 32 126) (fun r1 m2 =>
(if r1 = 0 then
some ((-100001), m2)
else
(if m2 c 5 = 100 then
some ((-100003), m2)
else
(if gx_ix (m2 c 5) (kd (c + 4) - 100) = true then some ((gx_u (gx_u m2 (c + 4) (Int32.toNatClampNeg (m2 c 5)) p1) c 5 ((gx_u m2 (c + 4) (Int32.toNatClampNeg (m2 c 5)) p1) c 5 + 1)) c 5, (gx_u (gx_u m2 (c + 4) (Int32.toNatClampNeg (m2 c 5)) p1) c 5 ((gx_u m2 (c + 4) (Int32.toNatClampNeg (m2 c 5)) p1) c 5 + 1))) else none))))
set_option maxRecDepth 100000 in
set_option maxHeartbeats 4000000 in
theorem ct_X7_type (l : Launch) (Y : gx_Y) (μ : gx_M) (c : Nat) (p1 : Int32) (rr : Int32 × gx_M) (hc : gk_mod Y c) (hf : fn_X7_type (gy_k Y) μ c p1 = some rr) : gx_Con l yX7_type cX7_type 2 (some .int) 1 22 Y [.ref (gy_a Y c), .int p1] μ rr := by
  refine gx_Con_of (L0 := [(0, .ref (gy_a Y c)), (1, .int p1)]) (by decide) (Nat.le_of_ble_eq_true rfl) rfl (fun K hK => ?_)
  unfold fn_X7_type at hf
  refine gw_iload_n (pc := 0) hK 1 dX7_type_0 rfl rfl ?_
  refine gw_bipush (v := 32) (pc := 1) hK dX7_type_1 (by decide) ?_
  refine gw_bipush (v := 126) (pc := 3) hK dX7_type_3 (by decide) ?_
  refine gv_X7_25 (pc := 5) hK dX7_type_5 (by decide) (Nat.le_of_ble_eq_true rfl) hf (fun r1 m2 hf => ?_)
  refine gw_if_ne (tgt := 14) (pc := 8) hK dX7_type_8 (by decide) hf (fun cc3 hf => ?_) (fun cc3 hf => ?_)
  ·
    refine gw_aload_n (pc := 14) hK 0 dX7_type_14 rfl rfl ?_
    refine gf_X7_90 (pc := 15) hK hc.1 dX7_type_15 ?_
    refine gw_bipush (v := 100) (pc := 18) hK dX7_type_18 (by decide) ?_
    refine gw_icmp_ne (tgt := 26) (pc := 20) hK dX7_type_20 (by decide) hf (fun cc4 hf => ?_) (fun cc4 hf => ?_)
    ·
      refine gw_aload_n (pc := 26) hK 0 dX7_type_26 rfl rfl ?_
      refine gf_X7_19 (pc := 27) hK hc.1 dX7_type_27 ?_
      refine gw_aload_n (pc := 30) hK 0 dX7_type_30 rfl rfl ?_
      refine gf_X7_90 (pc := 31) hK hc.1 dX7_type_31 ?_
      refine gw_iload_n (pc := 34) hK 1 dX7_type_34 rfl rfl ?_
      refine gw_iast (pc := 35) hK hc.2.2.2.2.1.1 (gk_100 hc.2.2.2.2.1) dX7_type_35 hf (fun hf => ?_)
      refine gw_aload_n (pc := 36) hK 0 dX7_type_36 rfl rfl ?_
      refine gw_dup (pc := 37) hK dX7_type_37 rfl ?_
      refine gf_X7_90 (pc := 38) hK hc.1 dX7_type_38 ?_
      refine gw_iconst (v := 1) (pc := 41) hK dX7_type_41 (by decide) ?_
      refine gw_iadd (pc := 42) hK dX7_type_42 ?_
      refine gp_X7_90 (pc := 43) hK hc.1 dX7_type_43 ?_
      refine gw_aload_n (pc := 46) hK 0 dX7_type_46 rfl rfl ?_
      refine gf_X7_90 (pc := 47) hK hc.1 dX7_type_47 ?_
      exact gw_ret_i (pc := 50) hK dX7_type_50 (Option.some.inj hf)
    ·
      refine gw_ldc (pc := 23) hK dX7_type_23 kw_k_RX7_52 ?_
      exact gw_ret_i (pc := 25) hK dX7_type_25 (Option.some.inj hf)
  ·
    refine gw_ldc (pc := 11) hK dX7_type_11 kw_k_RX7_51 ?_
    exact gw_ret_i (pc := 13) hK dX7_type_13 (Option.some.inj hf)

def lf_X7_undo_22 (kd : Nat → Nat) (c0 : Nat) (k : gx_M → Int32 → Option (Int32 × gx_M)) : Nat → gx_M → Int32 → Option (Int32 × gx_M)
  | 0, _, _ => none
  | n + 1, μ, x1 => (if 301 ≤ x1 then
k μ x1
else
(if gx_ix ((301 * μ c0 3) + x1) (kd (c0 + 2) - 100) = true then (if gx_ix x1 (kd (c0 + 1) - 100) = true then lf_X7_undo_22 kd c0 k n (gx_u μ (c0 + 1) (Int32.toNatClampNeg x1) (μ (c0 + 2) (Int32.toNatClampNeg ((301 * μ c0 3) + x1)))) (x1 + 1) else none) else none))
def fn_X7_undo (kd : Nat → Nat) (μ : gx_M) (c : Nat) : Option (Int32 × gx_M) :=
  (if μ c 3 = 0 then
some ((-100002), μ)
else
lf_X7_undo_22 kd c (fun m3 y4 =>
some (m3 c 3, m3)) gx_F (gx_u μ c 3 (μ c 3 - 1)) 0)
set_option maxRecDepth 100000 in
set_option maxHeartbeats 4000000 in
theorem lt_X7_undo_22 {l : Launch} {Y : gx_Y} {rr : Int32 × gx_M} {K : gx_KT} (hK : gx_K l RX7 cX7_undo 2 0 0 (some .int) Y (fun r m => (r, m) = rr) K) (c0 : Nat) (hc0 : gk_mod Y c0) (k : gx_M → Int32 → Option (Int32 × gx_M)) (hx : ∀ (μ : gx_M) (x1 : Int32), k μ x1 = some rr → K μ 56 [(0, .ref (gy_a Y c0)), (1, .int x1)] []) :
    ∀ (n : Nat) (μ : gx_M) (x1 : Int32), lf_X7_undo_22 (gy_k Y) c0 k n μ x1 = some rr → K μ 22 [(0, .ref (gy_a Y c0)), (1, .int x1)] [] := by
  intro n
  induction n with
  | zero =>
    intro μ x1 hf
    exact absurd hf (by simp [lf_X7_undo_22])
  | succ n ih =>
    intro μ x1 hf
    rw [lf_X7_undo_22] at hf
    refine gw_iload_n (pc := 22) hK 1 dX7_undo_22 rfl rfl ?_
    refine gw_sipush (v := 301) (pc := 23) hK dX7_undo_23 (by decide) ?_
    refine gw_icmp_ge (tgt := 56) (pc := 26) hK dX7_undo_26 (by decide) hf (fun cc2 hf => ?_) (fun cc2 hf => ?_)
    ·
      refine gw_sub (L' := [(0, .ref (gy_a Y c0)), (1, .int x1)]) hK [0, 1] rfl (hx _ _ hf)
    ·
      refine gw_aload_n (pc := 29) hK 0 dX7_undo_29 rfl rfl ?_
      refine gf_X7_7 (pc := 30) hK hc0.1 dX7_undo_30 ?_
      refine gw_iload_n (pc := 33) hK 1 dX7_undo_33 rfl rfl ?_
      refine gw_aload_n (pc := 34) hK 0 dX7_undo_34 rfl rfl ?_
      refine gf_X7_13 (pc := 35) hK hc0.1 dX7_undo_35 ?_
      refine gw_sipush (v := 301) (pc := 38) hK dX7_undo_38 (by decide) ?_
      refine gw_aload_n (pc := 41) hK 0 dX7_undo_41 rfl rfl ?_
      refine gf_X7_29 (pc := 42) hK hc0.1 dX7_undo_42 ?_
      refine gw_imul (pc := 45) hK dX7_undo_45 ?_
      refine gw_iload_n (pc := 46) hK 1 dX7_undo_46 rfl rfl ?_
      refine gw_iadd (pc := 47) hK dX7_undo_47 ?_
      refine gw_iald (pc := 48) hK hc0.2.2.1.1 (gk_100 hc0.2.2.1) dX7_undo_48 hf (fun hf => ?_)
      refine gw_iast (pc := 49) hK hc0.2.1.1 (gk_100 hc0.2.1) dX7_undo_49 hf (fun hf => ?_)
      refine gw_iinc (v := (x1 + 1)) (L' := [(1, .int (x1 + 1)), (0, .ref (gy_a Y c0))]) (pc := 50) hK 1 dX7_undo_50 rfl rfl (by decide) rfl ?_
      refine gw_goto (tgt := 22) (pc := 53) hK dX7_undo_53 (by decide) ?_
      refine gw_sub (L' := [(0, .ref (gy_a Y c0)), (1, .int (x1 + 1))]) hK [1, 0] rfl (ih _ _ hf)
set_option maxRecDepth 100000 in
set_option maxHeartbeats 4000000 in
theorem ct_X7_undo (l : Launch) (Y : gx_Y) (μ : gx_M) (c : Nat) (rr : Int32 × gx_M) (hc : gk_mod Y c) (hf : fn_X7_undo (gy_k Y) μ c = some rr) : gx_Con l yX7_undo cX7_undo 2 (some .int) 0 0 Y [.ref (gy_a Y c)] μ rr := by
  refine gx_Con_of (L0 := [(0, .ref (gy_a Y c))]) (by decide) (Nat.le_of_ble_eq_true rfl) rfl (fun K hK => ?_)
  unfold fn_X7_undo at hf
  refine gw_aload_n (pc := 0) hK 0 dX7_undo_0 rfl rfl ?_
  refine gf_X7_29 (pc := 1) hK hc.1 dX7_undo_1 ?_
  refine gw_if_ne (tgt := 10) (pc := 4) hK dX7_undo_4 (by decide) hf (fun cc1 hf => ?_) (fun cc1 hf => ?_)
  ·
    refine gw_aload_n (pc := 10) hK 0 dX7_undo_10 rfl rfl ?_
    refine gw_dup (pc := 11) hK dX7_undo_11 rfl ?_
    refine gf_X7_29 (pc := 12) hK hc.1 dX7_undo_12 ?_
    refine gw_iconst (v := 1) (pc := 15) hK dX7_undo_15 (by decide) ?_
    refine gw_isub (pc := 16) hK dX7_undo_16 ?_
    refine gp_X7_29 (pc := 17) hK hc.1 dX7_undo_17 ?_
    refine gw_iconst (v := 0) (pc := 20) hK dX7_undo_20 (by decide) ?_
    refine gw_istore_n (L' := [(1, .int 0), (0, .ref (gy_a Y c))]) (pc := 21) hK dX7_undo_21 rfl (by decide) rfl ?_
    refine gw_sub (L' := [(0, .ref (gy_a Y c)), (1, .int 0)]) hK [1, 0] rfl (lt_X7_undo_22 hK c hc _ (fun m3 y4 hf => ?_) gx_F _ _ hf)
    refine gw_aload_n (pc := 56) hK 0 dX7_undo_56 rfl rfl ?_
    refine gf_X7_29 (pc := 57) hK hc.1 dX7_undo_57 ?_
    exact gw_ret_i (pc := 60) hK dX7_undo_60 (Option.some.inj hf)
  ·
    refine gw_ldc (pc := 7) hK dX7_undo_7 kw_k_RX7_33 ?_
    exact gw_ret_i (pc := 9) hK dX7_undo_9 (Option.some.inj hf)

def lf_X7_worst_9 (kd : Nat → Nat) (c0 : Nat) (q1 : Int32) (k : gx_M → Int32 → Option (Int32 × gx_M)) : Nat → gx_M → Int32 → Option (Int32 × gx_M)
  | 0, _, _ => none
  | n + 1, μ, x2 => (if gx_ix 2 (kd (c0 + 1) - 100) = true then (if μ (c0 + 1) (Int32.toNatClampNeg 2) ≤ x2 then
k μ x2
else
gx_b (fn_X7_hasSounded kd μ c0 x2) (fun r3 m4 =>
(if r3 = 0 then
lf_X7_worst_9 kd c0 q1 k n m4 (x2 + 1)
else
gx_b (fn_X7_standAhead kd m4 c0 x2) (fun r6 m7 =>
(if r6 = q1 then
some (x2, m7)
else
lf_X7_worst_9 kd c0 q1 k n m7 (x2 + 1)))))) else none)
def fn_X7_worst (kd : Nat → Nat) (μ : gx_M) (c : Nat) (p1 : Int32) : Option (Int32 × gx_M) :=
  (if 0 ≤ p1 then
lf_X7_worst_9 kd c p1 (fun m9 y10 =>
some ((-100004), m9)) gx_F μ 0
else
some ((-100001), μ))
set_option maxRecDepth 100000 in
set_option maxHeartbeats 4000000 in
theorem lt_X7_worst_9 {l : Launch} {Y : gx_Y} {rr : Int32 × gx_M} {K : gx_KT} (hK : gx_K l RX7 cX7_worst 3 3 67 (some .int) Y (fun r m => (r, m) = rr) K) (c0 : Nat) (q1 : Int32) (hc0 : gk_mod Y c0) (k : gx_M → Int32 → Option (Int32 × gx_M)) (hx : ∀ (μ : gx_M) (x2 : Int32), k μ x2 = some rr → K μ 44 [(0, .ref (gy_a Y c0)), (1, .int q1), (2, .int x2)] []) :
    ∀ (n : Nat) (μ : gx_M) (x2 : Int32), lf_X7_worst_9 (gy_k Y) c0 q1 k n μ x2 = some rr → K μ 9 [(0, .ref (gy_a Y c0)), (1, .int q1), (2, .int x2)] [] := by
  intro n
  induction n with
  | zero =>
    intro μ x2 hf
    exact absurd hf (by simp [lf_X7_worst_9])
  | succ n ih =>
    intro μ x2 hf
    rw [lf_X7_worst_9] at hf
    refine gw_iload_n (pc := 9) hK 2 dX7_worst_9 rfl rfl ?_
    refine gw_aload_n (pc := 10) hK 0 dX7_worst_10 rfl rfl ?_
    refine gf_X7_7 (pc := 11) hK hc0.1 dX7_worst_11 ?_
    refine gw_iconst (v := 2) (pc := 14) hK dX7_worst_14 (by decide) ?_
    refine gw_iald (pc := 15) hK hc0.2.1.1 (gk_100 hc0.2.1) dX7_worst_15 hf (fun hf => ?_)
    refine gw_icmp_ge (tgt := 44) (pc := 16) hK dX7_worst_16 (by decide) hf (fun cc2 hf => ?_) (fun cc2 hf => ?_)
    ·
      refine gw_sub (L' := [(0, .ref (gy_a Y c0)), (1, .int q1), (2, .int x2)]) hK [0, 1, 2] rfl (hx _ _ hf)
    ·
      refine gw_aload_n (pc := 19) hK 0 dX7_worst_19 rfl rfl ?_
      refine gw_iload_n (pc := 20) hK 2 dX7_worst_20 rfl rfl ?_
      refine gv_X7_125 (pc := 21) hK hc0 dX7_worst_21 (by decide) (Nat.le_of_ble_eq_true rfl) hf (fun r3 m4 hf => ?_)
      refine gw_if_eq (tgt := 38) (pc := 24) hK dX7_worst_24 (by decide) hf (fun cc5 hf => ?_) (fun cc5 hf => ?_)
      ·
        refine gw_iinc (v := (x2 + 1)) (L' := [(2, .int (x2 + 1)), (0, .ref (gy_a Y c0)), (1, .int q1)]) (pc := 38) hK 2 dX7_worst_38 rfl rfl (by decide) rfl ?_
        refine gw_goto (tgt := 9) (pc := 41) hK dX7_worst_41 (by decide) ?_
        refine gw_sub (L' := [(0, .ref (gy_a Y c0)), (1, .int q1), (2, .int (x2 + 1))]) hK [1, 2, 0] rfl (ih _ _ hf)
      ·
        refine gw_aload_n (pc := 27) hK 0 dX7_worst_27 rfl rfl ?_
        refine gw_iload_n (pc := 28) hK 2 dX7_worst_28 rfl rfl ?_
        refine gv_X7_128 (pc := 29) hK hc0 dX7_worst_29 (by decide) (Nat.le_of_ble_eq_true rfl) hf (fun r6 m7 hf => ?_)
        refine gw_iload_n (pc := 32) hK 1 dX7_worst_32 rfl rfl ?_
        refine gw_icmp_ne (tgt := 38) (pc := 33) hK dX7_worst_33 (by decide) hf (fun cc8 hf => ?_) (fun cc8 hf => ?_)
        ·
          refine gw_iinc (v := (x2 + 1)) (L' := [(2, .int (x2 + 1)), (0, .ref (gy_a Y c0)), (1, .int q1)]) (pc := 38) hK 2 dX7_worst_38 rfl rfl (by decide) rfl ?_
          refine gw_goto (tgt := 9) (pc := 41) hK dX7_worst_41 (by decide) ?_
          refine gw_sub (L' := [(0, .ref (gy_a Y c0)), (1, .int q1), (2, .int (x2 + 1))]) hK [1, 2, 0] rfl (ih _ _ hf)
        ·
          refine gw_iload_n (pc := 36) hK 2 dX7_worst_36 rfl rfl ?_
          exact gw_ret_i (pc := 37) hK dX7_worst_37 (Option.some.inj hf)
set_option maxRecDepth 100000 in
set_option maxHeartbeats 4000000 in
theorem ct_X7_worst (l : Launch) (Y : gx_Y) (μ : gx_M) (c : Nat) (p1 : Int32) (rr : Int32 × gx_M) (hc : gk_mod Y c) (hf : fn_X7_worst (gy_k Y) μ c p1 = some rr) : gx_Con l yX7_worst cX7_worst 3 (some .int) 3 67 Y [.ref (gy_a Y c), .int p1] μ rr := by
  refine gx_Con_of (L0 := [(0, .ref (gy_a Y c)), (1, .int p1)]) (by decide) (Nat.le_of_ble_eq_true rfl) rfl (fun K hK => ?_)
  unfold fn_X7_worst at hf
  refine gw_iload_n (pc := 0) hK 1 dX7_worst_0 rfl rfl ?_
  refine gw_if_ge (tgt := 7) (pc := 1) hK dX7_worst_1 (by decide) hf (fun cc1 hf => ?_) (fun cc1 hf => ?_)
  ·
    refine gw_iconst (v := 0) (pc := 7) hK dX7_worst_7 (by decide) ?_
    refine gw_istore_n (L' := [(2, .int 0), (0, .ref (gy_a Y c)), (1, .int p1)]) (pc := 8) hK dX7_worst_8 rfl (by decide) rfl ?_
    refine gw_sub (L' := [(0, .ref (gy_a Y c)), (1, .int p1), (2, .int 0)]) hK [1, 2, 0] rfl (lt_X7_worst_9 hK c p1 hc _ (fun m9 y10 hf => ?_) gx_F _ _ hf)
    refine gw_ldc (pc := 44) hK dX7_worst_44 kw_k_RX7_70 ?_
    exact gw_ret_i (pc := 46) hK dX7_worst_46 (Option.some.inj hf)
  ·
    refine gw_ldc (pc := 4) hK dX7_worst_4 kw_k_RX7_51 ?_
    exact gw_ret_i (pc := 6) hK dX7_worst_6 (Option.some.inj hf)

def fn_X7_wouldBe (kd : Nat → Nat) (μ : gx_M) (c : Nat) (p1 : Int32) : Option (Int32 × gx_M) :=
  gx_b (fn_X7_isNote kd μ c p1) (fun r1 m2 =>
(if r1 = 0 then
some ((-100001), m2)
else
gx_b (fn_X7_isToCome kd m2 c p1) (fun r4 m5 =>
(if r4 = 0 then
some ((-100002), m5)
else
(if gx_ix 1 (kd (c + 1) - 100) = true then (if m5 (c + 1) (Int32.toNatClampNeg 1) = 0 then
some ((-100004), m5)
else
gx_b (fn_X7_laysAside kd m5 c) (fun _ m9 =>
gx_b (fn_X7_has kd m9 c p1 0) (fun r10 m11 =>
gx_b (fn_X7_goesTo kd m11 c r10) (fun _ m13 =>
gx_b (fn_X7_has kd m13 c p1 4) (fun r14 m15 =>
gx_b (fn_X7_bringsBack kd m15 c) (fun _ m17 =>
some (r14, m17))))))) else none)))))
set_option maxRecDepth 100000 in
set_option maxHeartbeats 4000000 in
theorem ct_X7_wouldBe (l : Launch) (Y : gx_Y) (μ : gx_M) (c : Nat) (p1 : Int32) (rr : Int32 × gx_M) (hc : gk_mod Y c) (hf : fn_X7_wouldBe (gy_k Y) μ c p1 = some rr) : gx_Con l yX7_wouldBe cX7_wouldBe 3 (some .int) 7 155 Y [.ref (gy_a Y c), .int p1] μ rr := by
  refine gx_Con_of (L0 := [(0, .ref (gy_a Y c)), (1, .int p1)]) (by decide) (Nat.le_of_ble_eq_true rfl) rfl (fun K hK => ?_)
  unfold fn_X7_wouldBe at hf
  refine gw_aload_n (pc := 0) hK 0 dX7_wouldBe_0 rfl rfl ?_
  refine gw_iload_n (pc := 1) hK 1 dX7_wouldBe_1 rfl rfl ?_
  refine gv_X7_109 (pc := 2) hK hc dX7_wouldBe_2 (by decide) (Nat.le_of_ble_eq_true rfl) hf (fun r1 m2 hf => ?_)
  refine gw_if_ne (tgt := 11) (pc := 5) hK dX7_wouldBe_5 (by decide) hf (fun cc3 hf => ?_) (fun cc3 hf => ?_)
  ·
    refine gw_aload_n (pc := 11) hK 0 dX7_wouldBe_11 rfl rfl ?_
    refine gw_iload_n (pc := 12) hK 1 dX7_wouldBe_12 rfl rfl ?_
    refine gv_X7_131 (pc := 13) hK hc dX7_wouldBe_13 (by decide) (Nat.le_of_ble_eq_true rfl) hf (fun r4 m5 hf => ?_)
    refine gw_if_ne (tgt := 22) (pc := 16) hK dX7_wouldBe_16 (by decide) hf (fun cc6 hf => ?_) (fun cc6 hf => ?_)
    ·
      refine gw_aload_n (pc := 22) hK 0 dX7_wouldBe_22 rfl rfl ?_
      refine gf_X7_7 (pc := 23) hK hc.1 dX7_wouldBe_23 ?_
      refine gw_iconst (v := 1) (pc := 26) hK dX7_wouldBe_26 (by decide) ?_
      refine gw_iald (pc := 27) hK hc.2.1.1 (gk_100 hc.2.1) dX7_wouldBe_27 hf (fun hf => ?_)
      refine gw_if_ne (tgt := 34) (pc := 28) hK dX7_wouldBe_28 (by decide) hf (fun cc7 hf => ?_) (fun cc7 hf => ?_)
      ·
        refine gw_aload_n (pc := 34) hK 0 dX7_wouldBe_34 rfl rfl ?_
        refine gv_X7_134 (pc := 35) hK hc dX7_wouldBe_35 (by decide) (Nat.le_of_ble_eq_true rfl) hf (fun _ m9 hf => ?_)
        refine gw_aload_n (pc := 38) hK 0 dX7_wouldBe_38 rfl rfl ?_
        refine gw_aload_n (pc := 39) hK 0 dX7_wouldBe_39 rfl rfl ?_
        refine gw_iload_n (pc := 40) hK 1 dX7_wouldBe_40 rfl rfl ?_
        refine gw_iconst (v := 0) (pc := 41) hK dX7_wouldBe_41 (by decide) ?_
        refine gv_X7_81 (pc := 42) hK hc dX7_wouldBe_42 (by decide) (Nat.le_of_ble_eq_true rfl) hf (fun r10 m11 hf => ?_)
        refine gv_X7_137 (pc := 45) hK hc dX7_wouldBe_45 (by decide) (Nat.le_of_ble_eq_true rfl) hf (fun _ m13 hf => ?_)
        refine gw_aload_n (pc := 48) hK 0 dX7_wouldBe_48 rfl rfl ?_
        refine gw_iload_n (pc := 49) hK 1 dX7_wouldBe_49 rfl rfl ?_
        refine gw_iconst (v := 4) (pc := 50) hK dX7_wouldBe_50 (by decide) ?_
        refine gv_X7_81 (pc := 51) hK hc dX7_wouldBe_51 (by decide) (Nat.le_of_ble_eq_true rfl) hf (fun r14 m15 hf => ?_)
        refine gw_istore_n (L' := [(2, .int r14), (0, .ref (gy_a Y c)), (1, .int p1)]) (pc := 54) hK dX7_wouldBe_54 rfl (by decide) rfl ?_
        refine gw_aload_n (pc := 55) hK 1 dX7_wouldBe_55 rfl rfl ?_
        refine gv_X7_140 (pc := 56) hK hc dX7_wouldBe_56 (by decide) (Nat.le_of_ble_eq_true rfl) hf (fun _ m17 hf => ?_)
        refine gw_iload_n (pc := 59) hK 0 dX7_wouldBe_59 rfl rfl ?_
        exact gw_ret_i (pc := 60) hK dX7_wouldBe_60 (Option.some.inj hf)
      ·
        refine gw_ldc (pc := 31) hK dX7_wouldBe_31 kw_k_RX7_70 ?_
        exact gw_ret_i (pc := 33) hK dX7_wouldBe_33 (Option.some.inj hf)
    ·
      refine gw_ldc (pc := 19) hK dX7_wouldBe_19 kw_k_RX7_33 ?_
      exact gw_ret_i (pc := 21) hK dX7_wouldBe_21 (Option.some.inj hf)
  ·
    refine gw_ldc (pc := 8) hK dX7_wouldBe_8 kw_k_RX7_51 ?_
    exact gw_ret_i (pc := 10) hK dX7_wouldBe_10 (Option.some.inj hf)

