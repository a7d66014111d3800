def fn_X4_copyFrom (kd : Nat → Nat) (μ : gx_M) (c : Nat) (c1 : Nat) : Option (Int32 × gx_M) :=
  gx_b (fn_X0_copyFrom kd μ (c + 1) (c1 + 1)) (fun _ m2 =>
gx_b (fn_X2_copyFrom kd m2 (c + 12) (c1 + 12)) (fun _ m4 =>
gx_b (fn_X3_copyFrom kd m4 (c + 23) (c1 + 23)) (fun _ m6 =>
some (0, (gx_u m6 c 3 (m6 c1 3))))))
set_option maxRecDepth 100000 in
set_option maxHeartbeats 4000000 in
theorem ct_X4_copyFrom (l : Launch) (Y : gx_Y) (μ : gx_M) (c : Nat) (c1 : Nat) (rr : Int32 × gx_M) (hc : gk_tab Y c) (hc1 : gk_tab Y c1) (hf : fn_X4_copyFrom (gy_k Y) μ c c1 = some rr) : gx_Con l yX4_copyFrom cX4_copyFrom 2 none 3 82 Y [.ref (gy_a Y c), .ref (gy_a Y c1)] μ rr := by
  refine gx_Con_of (L0 := [(0, .ref (gy_a Y c)), (1, .ref (gy_a Y c1))]) (by decide) (Nat.le_of_ble_eq_true rfl) rfl (fun K hK => ?_)
  unfold fn_X4_copyFrom at hf
  refine gw_aload_n (pc := 0) hK 1 dX4_copyFrom_0 rfl rfl ?_
  refine gw_ifnonnull (tgt := 5) (pc := 1) hK dX4_copyFrom_1 (by decide) ?_
  refine gw_aload_n (pc := 5) hK 0 dX4_copyFrom_5 rfl rfl ?_
  refine gf_X4_12 (pc := 6) hK hc.1 dX4_copyFrom_6 ?_
  refine gw_aload_n (pc := 9) hK 1 dX4_copyFrom_9 rfl rfl ?_
  refine gf_X4_12 (pc := 10) hK hc1.1 dX4_copyFrom_10 ?_
  refine gv_X4_91 (pc := 13) hK hc.2.1 hc1.2.1 dX4_copyFrom_13 (by decide) (Nat.le_of_ble_eq_true rfl) hf (fun _ m2 hf => ?_)
  refine gw_aload_n (pc := 16) hK 0 dX4_copyFrom_16 rfl rfl ?_
  refine gf_X4_21 (pc := 17) hK hc.1 dX4_copyFrom_17 ?_
  refine gw_aload_n (pc := 20) hK 1 dX4_copyFrom_20 rfl rfl ?_
  refine gf_X4_21 (pc := 21) hK hc1.1 dX4_copyFrom_21 ?_
  refine gv_X4_95 (pc := 24) hK hc.2.2.1 hc1.2.2.1 dX4_copyFrom_24 (by decide) (Nat.le_of_ble_eq_true rfl) hf (fun _ m4 hf => ?_)
  refine gw_aload_n (pc := 27) hK 0 dX4_copyFrom_27 rfl rfl ?_
  refine gf_X4_30 (pc := 28) hK hc.1 dX4_copyFrom_28 ?_
  refine gw_aload_n (pc := 31) hK 1 dX4_copyFrom_31 rfl rfl ?_
  refine gf_X4_30 (pc := 32) hK hc1.1 dX4_copyFrom_32 ?_
  refine gv_X4_98 (pc := 35) hK hc.2.2.2 hc1.2.2.2 dX4_copyFrom_35 (by decide) (Nat.le_of_ble_eq_true rfl) hf (fun _ m6 hf => ?_)
  refine gw_aload_n (pc := 38) hK 0 dX4_copyFrom_38 rfl rfl ?_
  refine gw_aload_n (pc := 39) hK 1 dX4_copyFrom_39 rfl rfl ?_
  refine gf_X4_34 (pc := 40) hK hc1.1 dX4_copyFrom_40 ?_
  refine gp_X4_34 (pc := 43) hK hc.1 dX4_copyFrom_43 ?_
  exact gw_ret_v (pc := 46) hK dX4_copyFrom_46 (Option.some.inj hf)
theorem gv_X1_29 {l : Launch} {cc : ByteArray} {nL fr lo : Nat} {ret : Option FieldType} {Y : gx_Y} {Post : Value → gx_M → Prop} {K : gx_KT} {pc : Nat} {μ : gx_M} {L : List (Nat × Value)} {st : List Value} {α : Type} {rr : α} (h : gx_K l RX1 cc nL fr lo ret Y Post K) {c : Nat} {c1 : Nat} (hc : gk_tab Y c) (hc1 : gk_tab Y c1) (d : decode cc pc = .ok (.invokevirtual 29, 3)) (hR : 3 + 1 ≤ fr ∧ 103 ≤ lo) (hst : (st.map fun v => v.category).sum ≤ 8) {k : Int32 → gx_M → Option α} (hf : gx_b (fn_X4_copyFrom (gy_k Y) μ c c1) k = some rr) (kk : ∀ (r : Int32) (m : gx_M), k r m = some rr → K m (pc + 3) L (st)) : K μ pc L (.ref (gy_a Y c1) :: .ref (gy_a Y c) :: st) := by
  obtain ⟨r, m, e, hk⟩ := gx_b_some hf
  exact gw_callV (As := [.ref (gy_a Y c1)]) (q := (r, m)) h hc.1 (by decide) rfl (by refine ⟨rfl, by decide, by decide, (show (parseMethodDescriptor yX4_copyFrom.desc).map (fun d => d.parameters.length) = some 1 by decide +kernel)⟩) kw_ml_RX1_29 kw_im_X4_copyFrom kw_se_X4_copyFrom kw_in_RX4 kw_co_X4_copyFrom hR hst d (ct_X4_copyFrom l Y μ c c1 (r, m) hc hc1 e) (kk r m hk)
theorem gv_X6_198 {l : Launch} {cc : ByteArray} {nL fr lo : Nat} {ret : Option FieldType} {Y : gx_Y} {Post : Value → gx_M → Prop} {K : gx_KT} {pc : Nat} {μ : gx_M} {L : List (Nat × Value)} {st : List Value} {α : Type} {rr : α} (h : gx_K l RX6 cc nL fr lo ret Y Post K) {c : Nat} {c1 : Nat} (hc : gk_tab Y c) (hc1 : gk_tab Y c1) (d : decode cc pc = .ok (.invokevirtual 198, 3)) (hR : 3 + 1 ≤ fr ∧ 103 ≤ lo) (hst : (st.map fun v => v.category).sum ≤ 8) {k : Int32 → gx_M → Option α} (hf : gx_b (fn_X4_copyFrom (gy_k Y) μ c c1) k = some rr) (kk : ∀ (r : Int32) (m : gx_M), k r m = some rr → K m (pc + 3) L (st)) : K μ pc L (.ref (gy_a Y c1) :: .ref (gy_a Y c) :: st) := by
  obtain ⟨r, m, e, hk⟩ := gx_b_some hf
  exact gw_callV (As := [.ref (gy_a Y c1)]) (q := (r, m)) h hc.1 (by decide) rfl (by refine ⟨rfl, by decide, by decide, (show (parseMethodDescriptor yX4_copyFrom.desc).map (fun d => d.parameters.length) = some 1 by decide +kernel)⟩) kw_ml_RX6_198 kw_im_X4_copyFrom kw_se_X4_copyFrom kw_in_RX4 kw_co_X4_copyFrom hR hst d (ct_X4_copyFrom l Y μ c c1 (r, m) hc hc1 e) (kk r m hk)
def fn_X4_setting (kd : Nat → Nat) (μ : gx_M) (c : Nat) (p1 : Int32) : Option (Int32 × gx_M) :=
  gx_b (fn_X3_get kd μ (c + 23) p1) (fun r1 m2 =>
some (r1, m2))
set_option maxRecDepth 100000 in
set_option maxHeartbeats 4000000 in
theorem ct_X4_setting (l : Launch) (Y : gx_Y) (μ : gx_M) (c : Nat) (p1 : Int32) (rr : Int32 × gx_M) (hc : gk_tab Y c) (hf : fn_X4_setting (gy_k Y) μ c p1 = some rr) : gx_Con l yX4_setting cX4_setting 2 (some .int) 1 21 Y [.ref (gy_a Y c), .int p1] μ rr := by
  refine gx_Con_of (L0 := [(0, .ref (gy_a Y c)), (1, .int p1)]) (by decide) (Nat.le_of_ble_eq_true rfl) rfl (fun K hK => ?_)
  unfold fn_X4_setting at hf
  refine gw_aload_n (pc := 0) hK 0 dX4_setting_0 rfl rfl ?_
  refine gf_X4_30 (pc := 1) hK hc.1 dX4_setting_1 ?_
  refine gw_iload_n (pc := 4) hK 1 dX4_setting_4 rfl rfl ?_
  refine gv_X4_42 (pc := 5) hK hc.2.2.2 dX4_setting_5 (by decide) (Nat.le_of_ble_eq_true rfl) hf (fun r1 m2 hf => ?_)
  exact gw_ret_i (pc := 8) hK dX4_setting_8 (Option.some.inj hf)
theorem gv_X6_102 {l : Launch} {cc : ByteArray} {nL fr lo : Nat} {ret : Option FieldType} {Y : gx_Y} {Post : Value → gx_M → Prop} {K : gx_KT} {pc : Nat} {μ : gx_M} {L : List (Nat × Value)} {st : List Value} {α : Type} {rr : α} (h : gx_K l RX6 cc nL fr lo ret Y Post K) {c : Nat} {p1 : Int32} (hc : gk_tab Y c) (d : decode cc pc = .ok (.invokevirtual 102, 3)) (hR : 1 + 1 ≤ fr ∧ 42 ≤ lo) (hst : (st.map fun v => v.category).sum ≤ 8) {k : Int32 → gx_M → Option α} (hf : gx_b (fn_X4_setting (gy_k Y) μ c p1) k = some rr) (kk : ∀ (r : Int32) (m : gx_M), k r m = some rr → K m (pc + 3) L (.int r :: st)) : K μ pc L (.int p1 :: .ref (gy_a Y c) :: st) := by
  obtain ⟨r, m, e, hk⟩ := gx_b_some hf
  exact gw_callV (As := [.int p1]) (q := (r, m)) h hc.1 (by decide) rfl (by refine ⟨rfl, by decide, by decide, (show (parseMethodDescriptor yX4_setting.desc).map (fun d => d.parameters.length) = some 1 by decide +kernel)⟩) kw_ml_RX6_102 kw_im_X4_setting kw_se_X4_setting kw_in_RX4 kw_co_X4_setting hR hst d (ct_X4_setting l Y μ c p1 (r, m) hc e) (kk r m hk)
def fn_X4_time (kd : Nat → Nat) (μ : gx_M) (c : Nat) : Option (Int32 × gx_M) :=
  some (μ c 3, μ)
set_option maxRecDepth 100000 in
set_option maxHeartbeats 4000000 in
theorem ct_X4_time (l : Launch) (Y : gx_Y) (μ : gx_M) (c : Nat) (rr : Int32 × gx_M) (hc : gk_tab Y c) (hf : fn_X4_time (gy_k Y) μ c = some rr) : gx_Con l yX4_time cX4_time 1 (some .int) 0 0 Y [.ref (gy_a Y c)] μ rr := by
  refine gx_Con_of (L0 := [(0, .ref (gy_a Y c))]) (by decide) (Nat.le_of_ble_eq_true rfl) rfl (fun K hK => ?_)
  unfold fn_X4_time at hf
  refine gw_aload_n (pc := 0) hK 0 dX4_time_0 rfl rfl ?_
  refine gf_X4_34 (pc := 1) hK hc.1 dX4_time_1 ?_
  exact gw_ret_i (pc := 4) hK dX4_time_4 (Option.some.inj hf)
theorem gv_X6_108 {l : Launch} {cc : ByteArray} {nL fr lo : Nat} {ret : Option FieldType} {Y : gx_Y} {Post : Value → gx_M → Prop} {K : gx_KT} {pc : Nat} {μ : gx_M} {L : List (Nat × Value)} {st : List Value} {α : Type} {rr : α} (h : gx_K l RX6 cc nL fr lo ret Y Post K) {c : Nat} (hc : gk_tab Y c) (d : decode cc pc = .ok (.invokevirtual 108, 3)) (hR : 0 + 1 ≤ fr ∧ 20 ≤ lo) (hst : (st.map fun v => v.category).sum ≤ 8) {k : Int32 → gx_M → Option α} (hf : gx_b (fn_X4_time (gy_k Y) μ c) k = some rr) (kk : ∀ (r : Int32) (m : gx_M), k r m = some rr → K m (pc + 3) L (.int r :: st)) : K μ pc L (.ref (gy_a Y c) :: st) := by
  obtain ⟨r, m, e, hk⟩ := gx_b_some hf
  exact gw_callV (As := []) (q := (r, m)) h hc.1 (by decide) rfl (by refine ⟨rfl, by decide, by decide, (show (parseMethodDescriptor yX4_time.desc).map (fun d => d.parameters.length) = some 0 by decide +kernel)⟩) kw_ml_RX6_108 kw_im_X4_time kw_se_X4_time kw_in_RX4 kw_co_X4_time hR hst d (ct_X4_time l Y μ c (r, m) hc e) (kk r m hk)
def fn_X4_dryUntil (kd : Nat → Nat) (μ : gx_M) (c : Nat) (p1 : Int32) : Option (Int32 × gx_M) :=
  gx_b (fn_X3_get kd μ (c + 23) 0) (fun r1 m2 =>
(if r1 ≤ 0 then
some (0, (gx_u m2 c 3 p1))
else
(if ¬ r1 = 0 then (if ¬ r1 = 0 then gx_b (fn_X0_dry kd m2 (c + 1) ((p1 / r1) - (m2 c 3 / r1))) (fun _ m7 =>
some (0, (gx_u m7 c 3 p1))) else none) else none)))
set_option maxRecDepth 100000 in
set_option maxHeartbeats 4000000 in
theorem ct_X4_dryUntil (l : Launch) (Y : gx_Y) (μ : gx_M) (c : Nat) (p1 : Int32) (rr : Int32 × gx_M) (hc : gk_tab Y c) (hf : fn_X4_dryUntil (gy_k Y) μ c p1 = some rr) : gx_Con l yX4_dryUntil cX4_dryUntil 3 none 3 67 Y [.ref (gy_a Y c), .int p1] μ rr := by
  refine gx_Con_of (L0 := [(0, .ref (gy_a Y c)), (1, .int p1)]) (by decide) (Nat.le_of_ble_eq_true rfl) rfl (fun K hK => ?_)
  unfold fn_X4_dryUntil at hf
  refine gw_aload_n (pc := 0) hK 0 dX4_dryUntil_0 rfl rfl ?_
  refine gf_X4_30 (pc := 1) hK hc.1 dX4_dryUntil_1 ?_
  refine gw_iconst (v := 0) (pc := 4) hK dX4_dryUntil_4 (by decide) ?_
  refine gv_X4_42 (pc := 5) hK hc.2.2.2 dX4_dryUntil_5 (by decide) (Nat.le_of_ble_eq_true rfl) hf (fun r1 m2 hf => ?_)
  refine gw_istore_n (L' := [(2, .int r1), (0, .ref (gy_a Y c)), (1, .int p1)]) (pc := 8) hK dX4_dryUntil_8 rfl (by decide) rfl ?_
  refine gw_iload_n (pc := 9) hK 0 dX4_dryUntil_9 rfl rfl ?_
  refine gw_if_le (tgt := 30) (pc := 10) hK dX4_dryUntil_10 (by decide) hf (fun cc3 hf => ?_) (fun cc3 hf => ?_)
  ·
    refine gw_aload_n (pc := 30) hK 1 dX4_dryUntil_30 rfl rfl ?_
    refine gw_iload_n (pc := 31) hK 2 dX4_dryUntil_31 rfl rfl ?_
    refine gp_X4_34 (pc := 32) hK hc.1 dX4_dryUntil_32 ?_
    exact gw_ret_v (pc := 35) hK dX4_dryUntil_35 (Option.some.inj hf)
  ·
    refine gw_aload_n (pc := 13) hK 1 dX4_dryUntil_13 rfl rfl ?_
    refine gf_X4_12 (pc := 14) hK hc.1 dX4_dryUntil_14 ?_
    refine gw_iload_n (pc := 17) hK 2 dX4_dryUntil_17 rfl rfl ?_
    refine gw_iload_n (pc := 18) hK 0 dX4_dryUntil_18 rfl rfl ?_
    obtain ⟨hz4, hf⟩ := gx_must hf
    refine gw_idiv (pc := 19) hK dX4_dryUntil_19 hz4 ?_
    refine gw_aload_n (pc := 20) hK 1 dX4_dryUntil_20 rfl rfl ?_
    refine gf_X4_34 (pc := 21) hK hc.1 dX4_dryUntil_21 ?_
    refine gw_iload_n (pc := 24) hK 0 dX4_dryUntil_24 rfl rfl ?_
    obtain ⟨hz5, hf⟩ := gx_must hf
    refine gw_idiv (pc := 25) hK dX4_dryUntil_25 hz5 ?_
    refine gw_isub (pc := 26) hK dX4_dryUntil_26 ?_
    refine gv_X4_62 (pc := 27) hK hc.2.1 dX4_dryUntil_27 (by decide) (Nat.le_of_ble_eq_true rfl) hf (fun _ m7 hf => ?_)
    refine gw_aload_n (pc := 30) hK 1 dX4_dryUntil_30 rfl rfl ?_
    refine gw_iload_n (pc := 31) hK 2 dX4_dryUntil_31 rfl rfl ?_
    refine gp_X4_34 (pc := 32) hK hc.1 dX4_dryUntil_32 ?_
    exact gw_ret_v (pc := 35) hK dX4_dryUntil_35 (Option.some.inj hf)
theorem gv_X4_56 {l : Launch} {cc : ByteArray} {nL fr lo : Nat} {ret : Option FieldType} {Y : gx_Y} {Post : Value → gx_M → Prop} {K : gx_KT} {pc : Nat} {μ : gx_M} {L : List (Nat × Value)} {st : List Value} {α : Type} {rr : α} (h : gx_K l RX4 cc nL fr lo ret Y Post K) {c : Nat} {p1 : Int32} (hc : gk_tab Y c) (d : decode cc pc = .ok (.invokevirtual 56, 3)) (hR : 3 + 1 ≤ fr ∧ 89 ≤ lo) (hst : (st.map fun v => v.category).sum ≤ 8) {k : Int32 → gx_M → Option α} (hf : gx_b (fn_X4_dryUntil (gy_k Y) μ c p1) k = some rr) (kk : ∀ (r : Int32) (m : gx_M), k r m = some rr → K m (pc + 3) L (st)) : K μ pc L (.int p1 :: .ref (gy_a Y c) :: st) := by
  obtain ⟨r, m, e, hk⟩ := gx_b_some hf
  exact gw_callV (As := [.int p1]) (q := (r, m)) h hc.1 (by decide) rfl (by refine ⟨rfl, by decide, by decide, (show (parseMethodDescriptor yX4_dryUntil.desc).map (fun d => d.parameters.length) = some 1 by decide +kernel)⟩) kw_ml_RX4_56 kw_im_X4_dryUntil kw_se_X4_dryUntil kw_in_RX4 kw_co_X4_dryUntil hR hst d (ct_X4_dryUntil l Y μ c p1 (r, m) hc e) (kk r m hk)
def fn_X4_playNote (kd : Nat → Nat) (μ : gx_M) (c : Nat) (p1 : Int32) : Option (Int32 × gx_M) :=
  gx_b (fn_X3_get kd μ (c + 23) 3) (fun r1 m2 =>
(if r1 = 1 then
gx_b (fn_X3_get kd m2 (c + 23) 1) (fun r22 m23 =>
gx_b (fn_X2_beginsPhrase kd m23 (c + 12) p1 r22) (fun r24 m25 =>
(if r24 = 0 then
gx_b (fn_X2_pitchOf kd m25 (c + 12) p1) (fun r27 m28 =>
gx_b (fn_X0_nearestBowl kd m28 (c + 1) r27) (fun r29 m30 =>
(if r29 = (-1) then
gx_b (fn_X2_keepSilence kd m30 (c + 12) p1) (fun _ m44 =>
some (0, m44))
else
gx_b (fn_X0_pitchOf kd m30 (c + 1) r29) (fun r32 m33 =>
gx_b (fn_X2_pitchOf kd m33 (c + 12) p1) (fun r34 m35 =>
gx_b (fn_X3_get kd m35 (c + 23) 2) (fun r36 m37 =>
(if r36 < (if 0 ≤ (r32 - r34) then (r32 - r34) else 0 - (r32 - r34)) then
gx_b (fn_X2_keepSound kd m37 (c + 12) p1 r29 (r32 - r34) 0) (fun _ m40 =>
some (0, m40))
else
gx_b (fn_X2_keepSound kd m37 (c + 12) p1 r29 (r32 - r34) 1) (fun _ m42 =>
some (0, m42)))))))))
else
gx_b (fn_X0_fillToMarks kd m25 (c + 1)) (fun _ m46 =>
gx_b (fn_X2_pitchOf kd m46 (c + 12) p1) (fun r47 m48 =>
gx_b (fn_X0_nearestBowl kd m48 (c + 1) r47) (fun r49 m50 =>
(if r49 = (-1) then
gx_b (fn_X2_keepSilence kd m50 (c + 12) p1) (fun _ m64 =>
some (0, m64))
else
gx_b (fn_X0_pitchOf kd m50 (c + 1) r49) (fun r52 m53 =>
gx_b (fn_X2_pitchOf kd m53 (c + 12) p1) (fun r54 m55 =>
gx_b (fn_X3_get kd m55 (c + 23) 2) (fun r56 m57 =>
(if r56 < (if 0 ≤ (r52 - r54) then (r52 - r54) else 0 - (r52 - r54)) then
gx_b (fn_X2_keepSound kd m57 (c + 12) p1 r49 (r52 - r54) 0) (fun _ m60 =>
some (0, m60))
else
gx_b (fn_X2_keepSound kd m57 (c + 12) p1 r49 (r52 - r54) 1) (fun _ m62 =>
some (0, m62)))))))))))))
else
gx_b (fn_X2_pitchOf kd m2 (c + 12) p1) (fun r4 m5 =>
gx_b (fn_X0_nearestBowl kd m5 (c + 1) r4) (fun r6 m7 =>
(if r6 = (-1) then
gx_b (fn_X2_keepSilence kd m7 (c + 12) p1) (fun _ m21 =>
some (0, m21))
else
gx_b (fn_X0_pitchOf kd m7 (c + 1) r6) (fun r9 m10 =>
gx_b (fn_X2_pitchOf kd m10 (c + 12) p1) (fun r11 m12 =>
gx_b (fn_X3_get kd m12 (c + 23) 2) (fun r13 m14 =>
(if r13 < (if 0 ≤ (r9 - r11) then (r9 - r11) else 0 - (r9 - r11)) then
gx_b (fn_X2_keepSound kd m14 (c + 12) p1 r6 (r9 - r11) 0) (fun _ m17 =>
some (0, m17))
else
gx_b (fn_X2_keepSound kd m14 (c + 12) p1 r6 (r9 - r11) 1) (fun _ m19 =>
some (0, m19)))))))))))
set_option maxRecDepth 100000 in
set_option maxHeartbeats 4000000 in
theorem ct_X4_playNote (l : Launch) (Y : gx_Y) (μ : gx_M) (c : Nat) (p1 : Int32) (rr : Int32 × gx_M) (hc : gk_tab Y c) (hf : fn_X4_playNote (gy_k Y) μ c p1 = some rr) : gx_Con l yX4_playNote cX4_playNote 4 none 3 70 Y [.ref (gy_a Y c), .int p1] μ rr := by
  refine gx_Con_of (L0 := [(0, .ref (gy_a Y c)), (1, .int p1)]) (by decide) (Nat.le_of_ble_eq_true rfl) rfl (fun K hK => ?_)
  unfold fn_X4_playNote at hf
  refine gw_aload_n (pc := 0) hK 0 dX4_playNote_0 rfl rfl ?_
  refine gf_X4_30 (pc := 1) hK hc.1 dX4_playNote_1 ?_
  refine gw_iconst (v := 3) (pc := 4) hK dX4_playNote_4 (by decide) ?_
  refine gv_X4_42 (pc := 5) hK hc.2.2.2 dX4_playNote_5 (by decide) (Nat.le_of_ble_eq_true rfl) hf (fun r1 m2 hf => ?_)
  refine gw_iconst (v := 1) (pc := 8) hK dX4_playNote_8 (by decide) ?_
  refine gw_icmp_ne (tgt := 38) (pc := 9) hK dX4_playNote_9 (by decide) hf (fun cc3 hf => ?_) (fun cc3 hf => ?_)
  ·
    refine gw_aload_n (pc := 38) hK 0 dX4_playNote_38 rfl rfl ?_
    refine gf_X4_12 (pc := 39) hK hc.1 dX4_playNote_39 ?_
    refine gw_aload_n (pc := 42) hK 0 dX4_playNote_42 rfl rfl ?_
    refine gf_X4_21 (pc := 43) hK hc.1 dX4_playNote_43 ?_
    refine gw_iload_n (pc := 46) hK 1 dX4_playNote_46 rfl rfl ?_
    refine gv_X4_72 (pc := 47) hK hc.2.2.1 dX4_playNote_47 (by decide) (Nat.le_of_ble_eq_true rfl) hf (fun r4 m5 hf => ?_)
    refine gv_X4_75 (pc := 50) hK hc.2.1 dX4_playNote_50 (by decide) (Nat.le_of_ble_eq_true rfl) hf (fun r6 m7 hf => ?_)
    refine gw_istore_n (L' := [(2, .int r6), (0, .ref (gy_a Y c)), (1, .int p1)]) (pc := 53) hK dX4_playNote_53 rfl (by decide) rfl ?_
    refine gw_iload_n (pc := 54) hK 0 dX4_playNote_54 rfl rfl ?_
    refine gw_iconst (v := (-1)) (pc := 55) hK dX4_playNote_55 (by decide) ?_
    refine gw_icmp_ne (tgt := 70) (pc := 56) hK dX4_playNote_56 (by decide) hf (fun cc8 hf => ?_) (fun cc8 hf => ?_)
    ·
      refine gw_aload_n (pc := 70) hK 1 dX4_playNote_70 rfl rfl ?_
      refine gf_X4_12 (pc := 71) hK hc.1 dX4_playNote_71 ?_
      refine gw_iload_n (pc := 74) hK 0 dX4_playNote_74 rfl rfl ?_
      refine gv_X4_81 (pc := 75) hK hc.2.1 dX4_playNote_75 (by decide) (Nat.le_of_ble_eq_true rfl) hf (fun r9 m10 hf => ?_)
      refine gw_aload_n (pc := 78) hK 1 dX4_playNote_78 rfl rfl ?_
      refine gf_X4_21 (pc := 79) hK hc.1 dX4_playNote_79 ?_
      refine gw_iload_n (pc := 82) hK 2 dX4_playNote_82 rfl rfl ?_
      refine gv_X4_72 (pc := 83) hK hc.2.2.1 dX4_playNote_83 (by decide) (Nat.le_of_ble_eq_true rfl) hf (fun r11 m12 hf => ?_)
      refine gw_isub (pc := 86) hK dX4_playNote_86 ?_
      refine gw_istore_n (L' := [(3, .int (r9 - r11)), (2, .int r6), (0, .ref (gy_a Y c)), (1, .int p1)]) (pc := 87) hK dX4_playNote_87 rfl (by decide) rfl ?_
      refine gw_aload_n (pc := 88) hK 2 dX4_playNote_88 rfl rfl ?_
      refine gf_X4_21 (pc := 89) hK hc.1 dX4_playNote_89 ?_
      refine gw_iload_n (pc := 92) hK 3 dX4_playNote_92 rfl rfl ?_
      refine gw_iload_n (pc := 93) hK 1 dX4_playNote_93 rfl rfl ?_
      refine gw_iload_n (pc := 94) hK 0 dX4_playNote_94 rfl rfl ?_
      refine gw_iload_n (pc := 95) hK 0 dX4_playNote_95 rfl rfl ?_
      refine gw_mabs (pc := 96) hK kw_ml_RX4_82 dX4_playNote_96 (Nat.le_of_ble_eq_true rfl) (Nat.le_of_ble_eq_true rfl) ?_
      refine gw_aload_n (pc := 99) hK 2 dX4_playNote_99 rfl rfl ?_
      refine gf_X4_30 (pc := 100) hK hc.1 dX4_playNote_100 ?_
      refine gw_iconst (v := 2) (pc := 103) hK dX4_playNote_103 (by decide) ?_
      refine gv_X4_42 (pc := 104) hK hc.2.2.2 dX4_playNote_104 (by decide) (Nat.le_of_ble_eq_true rfl) hf (fun r13 m14 hf => ?_)
      refine gw_icmp_gt (tgt := 114) (pc := 107) hK dX4_playNote_107 (by decide) hf (fun cc15 hf => ?_) (fun cc15 hf => ?_)
      ·
        refine gw_iconst (v := 0) (pc := 114) hK dX4_playNote_114 (by decide) ?_
        refine gv_X4_87 (pc := 115) hK hc.2.2.1 dX4_playNote_115 (by decide) (Nat.le_of_ble_eq_true rfl) hf (fun _ m17 hf => ?_)
        exact gw_ret_v (pc := 118) hK dX4_playNote_118 (Option.some.inj hf)
      ·
        refine gw_iconst (v := 1) (pc := 110) hK dX4_playNote_110 (by decide) ?_
        refine gw_goto (tgt := 115) (pc := 111) hK dX4_playNote_111 (by decide) ?_
        refine gv_X4_87 (pc := 115) hK hc.2.2.1 dX4_playNote_115 (by decide) (Nat.le_of_ble_eq_true rfl) hf (fun _ m19 hf => ?_)
        exact gw_ret_v (pc := 118) hK dX4_playNote_118 (Option.some.inj hf)
    ·
      refine gw_aload_n (pc := 59) hK 1 dX4_playNote_59 rfl rfl ?_
      refine gf_X4_21 (pc := 60) hK hc.1 dX4_playNote_60 ?_
      refine gw_iload_n (pc := 63) hK 2 dX4_playNote_63 rfl rfl ?_
      refine gv_X4_78 (pc := 64) hK hc.2.2.1 dX4_playNote_64 (by decide) (Nat.le_of_ble_eq_true rfl) hf (fun _ m21 hf => ?_)
      refine gw_goto (tgt := 118) (pc := 67) hK dX4_playNote_67 (by decide) ?_
      exact gw_ret_v (pc := 118) hK dX4_playNote_118 (Option.some.inj hf)
  ·
    refine gw_aload_n (pc := 12) hK 0 dX4_playNote_12 rfl rfl ?_
    refine gf_X4_21 (pc := 13) hK hc.1 dX4_playNote_13 ?_
    refine gw_iload_n (pc := 16) hK 1 dX4_playNote_16 rfl rfl ?_
    refine gw_aload_n (pc := 17) hK 0 dX4_playNote_17 rfl rfl ?_
    refine gf_X4_30 (pc := 18) hK hc.1 dX4_playNote_18 ?_
    refine gw_iconst (v := 1) (pc := 21) hK dX4_playNote_21 (by decide) ?_
    refine gv_X4_42 (pc := 22) hK hc.2.2.2 dX4_playNote_22 (by decide) (Nat.le_of_ble_eq_true rfl) hf (fun r22 m23 hf => ?_)
    refine gv_X4_65 (pc := 25) hK hc.2.2.1 dX4_playNote_25 (by decide) (Nat.le_of_ble_eq_true rfl) hf (fun r24 m25 hf => ?_)
    refine gw_if_eq (tgt := 38) (pc := 28) hK dX4_playNote_28 (by decide) hf (fun cc26 hf => ?_) (fun cc26 hf => ?_)
    ·
      refine gw_aload_n (pc := 38) hK 0 dX4_playNote_38 rfl rfl ?_
      refine gf_X4_12 (pc := 39) hK hc.1 dX4_playNote_39 ?_
      refine gw_aload_n (pc := 42) hK 0 dX4_playNote_42 rfl rfl ?_
      refine gf_X4_21 (pc := 43) hK hc.1 dX4_playNote_43 ?_
      refine gw_iload_n (pc := 46) hK 1 dX4_playNote_46 rfl rfl ?_
      refine gv_X4_72 (pc := 47) hK hc.2.2.1 dX4_playNote_47 (by decide) (Nat.le_of_ble_eq_true rfl) hf (fun r27 m28 hf => ?_)
      refine gv_X4_75 (pc := 50) hK hc.2.1 dX4_playNote_50 (by decide) (Nat.le_of_ble_eq_true rfl) hf (fun r29 m30 hf => ?_)
      refine gw_istore_n (L' := [(2, .int r29), (0, .ref (gy_a Y c)), (1, .int p1)]) (pc := 53) hK dX4_playNote_53 rfl (by decide) rfl ?_
      refine gw_iload_n (pc := 54) hK 0 dX4_playNote_54 rfl rfl ?_
      refine gw_iconst (v := (-1)) (pc := 55) hK dX4_playNote_55 (by decide) ?_
      refine gw_icmp_ne (tgt := 70) (pc := 56) hK dX4_playNote_56 (by decide) hf (fun cc31 hf => ?_) (fun cc31 hf => ?_)
      ·
        refine gw_aload_n (pc := 70) hK 1 dX4_playNote_70 rfl rfl ?_
        refine gf_X4_12 (pc := 71) hK hc.1 dX4_playNote_71 ?_
        refine gw_iload_n (pc := 74) hK 0 dX4_playNote_74 rfl rfl ?_
        refine gv_X4_81 (pc := 75) hK hc.2.1 dX4_playNote_75 (by decide) (Nat.le_of_ble_eq_true rfl) hf (fun r32 m33 hf => ?_)
        refine gw_aload_n (pc := 78) hK 1 dX4_playNote_78 rfl rfl ?_
        refine gf_X4_21 (pc := 79) hK hc.1 dX4_playNote_79 ?_
        refine gw_iload_n (pc := 82) hK 2 dX4_playNote_82 rfl rfl ?_
        refine gv_X4_72 (pc := 83) hK hc.2.2.1 dX4_playNote_83 (by decide) (Nat.le_of_ble_eq_true rfl) hf (fun r34 m35 hf => ?_)
        refine gw_isub (pc := 86) hK dX4_playNote_86 ?_
        refine gw_istore_n (L' := [(3, .int (r32 - r34)), (2, .int r29), (0, .ref (gy_a Y c)), (1, .int p1)]) (pc := 87) hK dX4_playNote_87 rfl (by decide) rfl ?_
        refine gw_aload_n (pc := 88) hK 2 dX4_playNote_88 rfl rfl ?_
        refine gf_X4_21 (pc := 89) hK hc.1 dX4_playNote_89 ?_
        refine gw_iload_n (pc := 92) hK 3 dX4_playNote_92 rfl rfl ?_
        refine gw_iload_n (pc := 93) hK 1 dX4_playNote_93 rfl rfl ?_
        refine gw_iload_n (pc := 94) hK 0 dX4_playNote_94 rfl rfl ?_
        refine gw_iload_n (pc := 95) hK 0 dX4_playNote_95 rfl rfl ?_
        refine gw_mabs (pc := 96) hK kw_ml_RX4_82 dX4_playNote_96 (Nat.le_of_ble_eq_true rfl) (Nat.le_of_ble_eq_true rfl) ?_
        refine gw_aload_n (pc := 99) hK 2 dX4_playNote_99 rfl rfl ?_
        refine gf_X4_30 (pc := 100) hK hc.1 dX4_playNote_100 ?_
        refine gw_iconst (v := 2) (pc := 103) hK dX4_playNote_103 (by decide) ?_
        refine gv_X4_42 (pc := 104) hK hc.2.2.2 dX4_playNote_104 (by decide) (Nat.le_of_ble_eq_true rfl) hf (fun r36 m37 hf => ?_)
        refine gw_icmp_gt (tgt := 114) (pc := 107) hK dX4_playNote_107 (by decide) hf (fun cc38 hf => ?_) (fun cc38 hf => ?_)
        ·
          refine gw_iconst (v := 0) (pc := 114) hK dX4_playNote_114 (by decide) ?_
          refine gv_X4_87 (pc := 115) hK hc.2.2.1 dX4_playNote_115 (by decide) (Nat.le_of_ble_eq_true rfl) hf (fun _ m40 hf => ?_)
          exact gw_ret_v (pc := 118) hK dX4_playNote_118 (Option.some.inj hf)
        ·
          refine gw_iconst (v := 1) (pc := 110) hK dX4_playNote_110 (by decide) ?_
          refine gw_goto (tgt := 115) (pc := 111) hK dX4_playNote_111 (by decide) ?_
          refine gv_X4_87 (pc := 115) hK hc.2.2.1 dX4_playNote_115 (by decide) (Nat.le_of_ble_eq_true rfl) hf (fun _ m42 hf => ?_)
          exact gw_ret_v (pc := 118) hK dX4_playNote_118 (Option.some.inj hf)
      ·
        refine gw_aload_n (pc := 59) hK 1 dX4_playNote_59 rfl rfl ?_
        refine gf_X4_21 (pc := 60) hK hc.1 dX4_playNote_60 ?_
        refine gw_iload_n (pc := 63) hK 2 dX4_playNote_63 rfl rfl ?_
        refine gv_X4_78 (pc := 64) hK hc.2.2.1 dX4_playNote_64 (by decide) (Nat.le_of_ble_eq_true rfl) hf (fun _ m44 hf => ?_)
        refine gw_goto (tgt := 118) (pc := 67) hK dX4_playNote_67 (by decide) ?_
        exact gw_ret_v (pc := 118) hK dX4_playNote_118 (Option.some.inj hf)
    ·
      refine gw_aload_n (pc := 31) hK 0 dX4_playNote_31 rfl rfl ?_
      refine gf_X4_12 (pc := 32) hK hc.1 dX4_playNote_32 ?_
      refine gv_X4_69 (pc := 35) hK hc.2.1 dX4_playNote_35 (by decide) (Nat.le_of_ble_eq_true rfl) hf (fun _ m46 hf => ?_)
      refine gw_aload_n (pc := 38) hK 0 dX4_playNote_38 rfl rfl ?_
      refine gf_X4_12 (pc := 39) hK hc.1 dX4_playNote_39 ?_
      refine gw_aload_n (pc := 42) hK 0 dX4_playNote_42 rfl rfl ?_
      refine gf_X4_21 (pc := 43) hK hc.1 dX4_playNote_43 ?_
      refine gw_iload_n (pc := 46) hK 1 dX4_playNote_46 rfl rfl ?_
      refine gv_X4_72 (pc := 47) hK hc.2.2.1 dX4_playNote_47 (by decide) (Nat.le_of_ble_eq_true rfl) hf (fun r47 m48 hf => ?_)
      refine gv_X4_75 (pc := 50) hK hc.2.1 dX4_playNote_50 (by decide) (Nat.le_of_ble_eq_true rfl) hf (fun r49 m50 hf => ?_)
      refine gw_istore_n (L' := [(2, .int r49), (0, .ref (gy_a Y c)), (1, .int p1)]) (pc := 53) hK dX4_playNote_53 rfl (by decide) rfl ?_
      refine gw_iload_n (pc := 54) hK 0 dX4_playNote_54 rfl rfl ?_
      refine gw_iconst (v := (-1)) (pc := 55) hK dX4_playNote_55 (by decide) ?_
      refine gw_icmp_ne (tgt := 70) (pc := 56) hK dX4_playNote_56 (by decide) hf (fun cc51 hf => ?_) (fun cc51 hf => ?_)
      ·
        refine gw_aload_n (pc := 70) hK 1 dX4_playNote_70 rfl rfl ?_
        refine gf_X4_12 (pc := 71) hK hc.1 dX4_playNote_71 ?_
        refine gw_iload_n (pc := 74) hK 0 dX4_playNote_74 rfl rfl ?_
        refine gv_X4_81 (pc := 75) hK hc.2.1 dX4_playNote_75 (by decide) (Nat.le_of_ble_eq_true rfl) hf (fun r52 m53 hf => ?_)
        refine gw_aload_n (pc := 78) hK 1 dX4_playNote_78 rfl rfl ?_
        refine gf_X4_21 (pc := 79) hK hc.1 dX4_playNote_79 ?_
        refine gw_iload_n (pc := 82) hK 2 dX4_playNote_82 rfl rfl ?_
        refine gv_X4_72 (pc := 83) hK hc.2.2.1 dX4_playNote_83 (by decide) (Nat.le_of_ble_eq_true rfl) hf (fun r54 m55 hf => ?_)
        refine gw_isub (pc := 86) hK dX4_playNote_86 ?_
        refine gw_istore_n (L' := [(3, .int (r52 - r54)), (2, .int r49), (0, .ref (gy_a Y c)), (1, .int p1)]) (pc := 87) hK dX4_playNote_87 rfl (by decide) rfl ?_
        refine gw_aload_n (pc := 88) hK 2 dX4_playNote_88 rfl rfl ?_
        refine gf_X4_21 (pc := 89) hK hc.1 dX4_playNote_89 ?_
        refine gw_iload_n (pc := 92) hK 3 dX4_playNote_92 rfl rfl ?_
        refine gw_iload_n (pc := 93) hK 1 dX4_playNote_93 rfl rfl ?_
        refine gw_iload_n (pc := 94) hK 0 dX4_playNote_94 rfl rfl ?_
        refine gw_iload_n (pc := 95) hK 0 dX4_playNote_95 rfl rfl ?_
        refine gw_mabs (pc := 96) hK kw_ml_RX4_82 dX4_playNote_96 (Nat.le_of_ble_eq_true rfl) (Nat.le_of_ble_eq_true rfl) ?_
        refine gw_aload_n (pc := 99) hK 2 dX4_playNote_99 rfl rfl ?_
        refine gf_X4_30 (pc := 100) hK hc.1 dX4_playNote_100 ?_
        refine gw_iconst (v := 2) (pc := 103) hK dX4_playNote_103 (by decide) ?_
        refine gv_X4_42 (pc := 104) hK hc.2.2.2 dX4_playNote_104 (by decide) (Nat.le_of_ble_eq_true rfl) hf (fun r56 m57 hf => ?_)
        refine gw_icmp_gt (tgt := 114) (pc := 107) hK dX4_playNote_107 (by decide) hf (fun cc58 hf => ?_) (fun cc58 hf => ?_)
        ·
          refine gw_iconst (v := 0) (pc := 114) hK dX4_playNote_114 (by decide) ?_
          refine gv_X4_87 (pc := 115) hK hc.2.2.1 dX4_playNote_115 (by decide) (Nat.le_of_ble_eq_true rfl) hf (fun _ m60 hf => ?_)
          exact gw_ret_v (pc := 118) hK dX4_playNote_118 (Option.some.inj hf)
        ·
          refine gw_iconst (v := 1) (pc := 110) hK dX4_playNote_110 (by decide) ?_
          refine gw_goto (tgt := 115) (pc := 111) hK dX4_playNote_111 (by decide) ?_
          refine gv_X4_87 (pc := 115) hK hc.2.2.1 dX4_playNote_115 (by decide) (Nat.le_of_ble_eq_true rfl) hf (fun _ m62 hf => ?_)
          exact gw_ret_v (pc := 118) hK dX4_playNote_118 (Option.some.inj hf)
      ·
        refine gw_aload_n (pc := 59) hK 1 dX4_playNote_59 rfl rfl ?_
        refine gf_X4_21 (pc := 60) hK hc.1 dX4_playNote_60 ?_
        refine gw_iload_n (pc := 63) hK 2 dX4_playNote_63 rfl rfl ?_
        refine gv_X4_78 (pc := 64) hK hc.2.2.1 dX4_playNote_64 (by decide) (Nat.le_of_ble_eq_true rfl) hf (fun _ m64 hf => ?_)
        refine gw_goto (tgt := 118) (pc := 67) hK dX4_playNote_67 (by decide) ?_
        exact gw_ret_v (pc := 118) hK dX4_playNote_118 (Option.some.inj hf)
theorem gv_X4_59 {l : Launch} {cc : ByteArray} {nL fr lo : Nat} {ret : Option FieldType} {Y : gx_Y} {Post : Value → gx_M → Prop} {K : gx_KT} {pc : Nat} {μ : gx_M} {L : List (Nat × Value)} {st : List Value} {α : Type} {rr : α} (h : gx_K l RX4 cc nL fr lo ret Y Post K) {c : Nat} {p1 : Int32} (hc : gk_tab Y c) (d : decode cc pc = .ok (.invokevirtual 59, 3)) (hR : 3 + 1 ≤ fr ∧ 93 ≤ lo) (hst : (st.map fun v => v.category).sum ≤ 8) {k : Int32 → gx_M → Option α} (hf : gx_b (fn_X4_playNote (gy_k Y) μ c p1) k = some rr) (kk : ∀ (r : Int32) (m : gx_M), k r m = some rr → K m (pc + 3) L (st)) : K μ pc L (.int p1 :: .ref (gy_a Y c) :: st) := by
  obtain ⟨r, m, e, hk⟩ := gx_b_some hf
  exact gw_callV (As := [.int p1]) (q := (r, m)) h hc.1 (by decide) rfl (by refine ⟨rfl, by decide, by decide, (show (parseMethodDescriptor yX4_playNote.desc).map (fun d => d.parameters.length) = some 1 by decide +kernel)⟩) kw_ml_RX4_59 kw_im_X4_playNote kw_se_X4_playNote kw_in_RX4 kw_co_X4_playNote hR hst d (ct_X4_playNote l Y μ c p1 (r, m) hc e) (kk r m hk)
def lf_X4_advance_4 (kd : Nat → Nat) (c0 : Nat) (q1 : Int32) (k : gx_M → Int32 → Int32 → Option (Int32 × gx_M)) : Nat → gx_M → Int32 → Int32 → Option (Int32 × gx_M)
  | 0, _, _, _ => none
  | n + 1, μ, x2, x3 => gx_b (fn_X2_size kd μ (c0 + 12)) (fun r1 m2 =>
(if r1 ≤ x3 then
k m2 x2 x3
else
gx_b (fn_X2_timeOf kd m2 (c0 + 12) x3) (fun r4 m5 =>
(if r4 ≤ m5 c0 3 then
lf_X4_advance_4 kd c0 q1 k n m5 x2 (x3 + 1)
else
(if q1 < r4 then
lf_X4_advance_4 kd c0 q1 k n m5 x2 (x3 + 1)
else
gx_b (fn_X4_dryUntil kd m5 c0 r4) (fun _ m9 =>
gx_b (fn_X4_playNote kd m9 c0 x3) (fun _ m11 =>
lf_X4_advance_4 kd c0 q1 k n m11 (x2 + 1) (x3 + 1))))))))
def fn_X4_advance (kd : Nat → Nat) (μ : gx_M) (c : Nat) (p1 : Int32) : Option (Int32 × gx_M) :=
  lf_X4_advance_4 kd c p1 (fun m12 y13 y14 =>
gx_b (fn_X4_dryUntil kd m12 c p1) (fun _ m16 =>
some (y13, m16))) gx_F μ 0 0
set_option maxRecDepth 100000 in
set_option maxHeartbeats 4000000 in
theorem lt_X4_advance_4 {l : Launch} {Y : gx_Y} {rr : Int32 × gx_M} {K : gx_KT} (hK : gx_K l RX4 cX4_advance 5 4 93 (some .int) Y (gx_P rr) K) (c0 : Nat) (q1 : Int32) (hc0 : gk_tab Y c0) (k : gx_M → Int32 → Int32 → Option (Int32 × gx_M)) (hx : ∀ (μ : gx_M) (x2 : Int32) (x3 : Int32), k μ x2 x3 = some rr → K μ 60 [(0, .ref (gy_a Y c0)), (1, .int q1), (2, .int x2), (3, .int x3)] []) :
    ∀ (n : Nat) (μ : gx_M) (x2 : Int32) (x3 : Int32), lf_X4_advance_4 (gy_k Y) c0 q1 k n μ x2 x3 = some rr → K μ 4 [(0, .ref (gy_a Y c0)), (1, .int q1), (2, .int x2), (3, .int x3)] [] := by
  intro n
  induction n with
  | zero =>
    intro μ x2 x3 hf
    exact absurd hf (by simp [lf_X4_advance_4])
  | succ n ih =>
    intro μ x2 x3 hf
    rw [lf_X4_advance_4] at hf
    refine gw_iload_n (pc := 4) hK 3 dX4_advance_4 rfl rfl ?_
    refine gw_aload_n (pc := 5) hK 0 dX4_advance_5 rfl rfl ?_
    refine gf_X4_21 (pc := 6) hK hc0.1 dX4_advance_6 ?_
    refine gv_X4_49 (pc := 9) hK hc0.2.2.1 dX4_advance_9 (by decide) (Nat.le_of_ble_eq_true rfl) hf (fun r1 m2 hf => ?_)
    refine gw_icmp_ge (tgt := 60) (pc := 12) hK dX4_advance_12 (by decide) hf (fun cc3 hf => ?_) (fun cc3 hf => ?_)
    ·
      refine gw_sub (L' := [(0, .ref (gy_a Y c0)), (1, .int q1), (2, .int x2), (3, .int x3)]) hK [0, 1, 2, 3] rfl (hx _ _ _ hf)
    ·
      refine gw_aload_n (pc := 15) hK 0 dX4_advance_15 rfl rfl ?_
      refine gf_X4_21 (pc := 16) hK hc0.1 dX4_advance_16 ?_
      refine gw_iload_n (pc := 19) hK 3 dX4_advance_19 rfl rfl ?_
      refine gv_X4_53 (pc := 20) hK hc0.2.2.1 dX4_advance_20 (by decide) (Nat.le_of_ble_eq_true rfl) hf (fun r4 m5 hf => ?_)
      refine gw_istore (L' := [(4, .int r4), (0, .ref (gy_a Y c0)), (1, .int q1), (2, .int x2), (3, .int x3)]) (pc := 23) hK dX4_advance_23 (by decide) rfl ?_
      refine gw_iload (pc := 25) hK 0 dX4_advance_25 rfl ?_
      refine gw_aload_n (pc := 27) hK 1 dX4_advance_27 rfl rfl ?_
      refine gf_X4_34 (pc := 28) hK hc0.1 dX4_advance_28 ?_
      refine gw_icmp_le (tgt := 54) (pc := 31) hK dX4_advance_31 (by decide) hf (fun cc6 hf => ?_) (fun cc6 hf => ?_)
      ·
        refine gw_iinc (v := (x3 + 1)) (L' := [(3, .int (x3 + 1)), (4, .int r4), (0, .ref (gy_a Y c0)), (1, .int q1), (2, .int x2)]) (pc := 54) hK 4 dX4_advance_54 rfl rfl (by decide) rfl ?_
        refine gw_goto (tgt := 4) (pc := 57) hK dX4_advance_57 (by decide) ?_
        refine gw_sub (L' := [(0, .ref (gy_a Y c0)), (1, .int q1), (2, .int x2), (3, .int (x3 + 1))]) hK [2, 3, 4, 0] rfl (ih _ _ _ hf)
      ·
        refine gw_iload (pc := 34) hK 0 dX4_advance_34 rfl ?_
        refine gw_iload_n (pc := 36) hK 2 dX4_advance_36 rfl rfl ?_
        refine gw_icmp_gt (tgt := 54) (pc := 37) hK dX4_advance_37 (by decide) hf (fun cc7 hf => ?_) (fun cc7 hf => ?_)
        ·
          refine gw_iinc (v := (x3 + 1)) (L' := [(3, .int (x3 + 1)), (4, .int r4), (0, .ref (gy_a Y c0)), (1, .int q1), (2, .int x2)]) (pc := 54) hK 4 dX4_advance_54 rfl rfl (by decide) rfl ?_
          refine gw_goto (tgt := 4) (pc := 57) hK dX4_advance_57 (by decide) ?_
          refine gw_sub (L' := [(0, .ref (gy_a Y c0)), (1, .int q1), (2, .int x2), (3, .int (x3 + 1))]) hK [2, 3, 4, 0] rfl (ih _ _ _ hf)
        ·
          refine gw_aload_n (pc := 40) hK 1 dX4_advance_40 rfl rfl ?_
          refine gw_iload (pc := 41) hK 0 dX4_advance_41 rfl ?_
          refine gv_X4_56 (pc := 43) hK hc0 dX4_advance_43 (by decide) (Nat.le_of_ble_eq_true rfl) hf (fun _ m9 hf => ?_)
          refine gw_aload_n (pc := 46) hK 1 dX4_advance_46 rfl rfl ?_
          refine gw_iload_n (pc := 47) hK 4 dX4_advance_47 rfl rfl ?_
          refine gv_X4_59 (pc := 48) hK hc0 dX4_advance_48 (by decide) (Nat.le_of_ble_eq_true rfl) hf (fun _ m11 hf => ?_)
          refine gw_iinc (v := (x2 + 1)) (L' := [(2, .int (x2 + 1)), (4, .int r4), (0, .ref (gy_a Y c0)), (1, .int q1), (3, .int x3)]) (pc := 51) hK 3 dX4_advance_51 rfl rfl (by decide) rfl ?_
          refine gw_iinc (v := (x3 + 1)) (L' := [(3, .int (x3 + 1)), (2, .int (x2 + 1)), (4, .int r4), (0, .ref (gy_a Y c0)), (1, .int q1)]) (pc := 54) hK 4 dX4_advance_54 rfl rfl (by decide) rfl ?_
          refine gw_goto (tgt := 4) (pc := 57) hK dX4_advance_57 (by decide) ?_
          refine gw_sub (L' := [(0, .ref (gy_a Y c0)), (1, .int q1), (2, .int (x2 + 1)), (3, .int (x3 + 1))]) hK [3, 4, 1, 0] rfl (ih _ _ _ hf)
set_option maxRecDepth 100000 in
set_option maxHeartbeats 4000000 in
theorem ct_X4_advance (l : Launch) (Y : gx_Y) (μ : gx_M) (c : Nat) (p1 : Int32) (rr : Int32 × gx_M) (hc : gk_tab Y c) (hf : fn_X4_advance (gy_k Y) μ c p1 = some rr) : gx_Con l yX4_advance cX4_advance 5 (some .int) 4 93 Y [.ref (gy_a Y c), .int p1] μ rr := by
  refine gx_Con_of (L0 := [(0, .ref (gy_a Y c)), (1, .int p1)]) (by decide) (Nat.le_of_ble_eq_true rfl) rfl (fun K hK => ?_)
  unfold fn_X4_advance at hf
  refine gw_iconst (v := 0) (pc := 0) hK dX4_advance_0 (by decide) ?_
  refine gw_istore_n (L' := [(2, .int 0), (0, .ref (gy_a Y c)), (1, .int p1)]) (pc := 1) hK dX4_advance_1 rfl (by decide) rfl ?_
  refine gw_iconst (v := 0) (pc := 2) hK dX4_advance_2 (by decide) ?_
  refine gw_istore_n (L' := [(3, .int 0), (2, .int 0), (0, .ref (gy_a Y c)), (1, .int p1)]) (pc := 3) hK dX4_advance_3 rfl (by decide) rfl ?_
  refine gw_sub (L' := [(0, .ref (gy_a Y c)), (1, .int p1), (2, .int 0), (3, .int 0)]) hK [2, 3, 1, 0] rfl (lt_X4_advance_4 hK c p1 hc _ (fun m12 y13 y14 hf => ?_) gx_F _ _ _ hf)
  refine gw_aload_n (pc := 60) hK 0 dX4_advance_60 rfl rfl ?_
  refine gw_iload_n (pc := 61) hK 1 dX4_advance_61 rfl rfl ?_
  refine gv_X4_56 (pc := 62) hK hc dX4_advance_62 (by decide) (Nat.le_of_ble_eq_true rfl) hf (fun _ m16 hf => ?_)
  refine gw_iload_n (pc := 65) hK 2 dX4_advance_65 rfl rfl ?_
  exact gw_ret_i (pc := 66) hK dX4_advance_66 (Option.some.inj hf)
theorem gv_X6_156 {l : Launch} {cc : ByteArray} {nL fr lo : Nat} {ret : Option FieldType} {Y : gx_Y} {Post : Value → gx_M → Prop} {K : gx_KT} {pc : Nat} {μ : gx_M} {L : List (Nat × Value)} {st : List Value} {α : Type} {rr : α} (h : gx_K l RX6 cc nL fr lo ret Y Post K) {c : Nat} {p1 : Int32} (hc : gk_tab Y c) (d : decode cc pc = .ok (.invokevirtual 156, 3)) (hR : 4 + 1 ≤ fr ∧ 117 ≤ lo) (hst : (st.map fun v => v.category).sum ≤ 8) {k : Int32 → gx_M → Option α} (hf : gx_b (fn_X4_advance (gy_k Y) μ c p1) k = some rr) (kk : ∀ (r : Int32) (m : gx_M), k r m = some rr → K m (pc + 3) L (.int r :: st)) : K μ pc L (.int p1 :: .ref (gy_a Y c) :: st) := by
  obtain ⟨r, m, e, hk⟩ := gx_b_some hf
  exact gw_callV (As := [.int p1]) (q := (r, m)) h hc.1 (by decide) rfl (by refine ⟨rfl, by decide, by decide, (show (parseMethodDescriptor yX4_advance.desc).map (fun d => d.parameters.length) = some 1 by decide +kernel)⟩) kw_ml_RX6_156 kw_im_X4_advance kw_se_X4_advance kw_in_RX4 kw_co_X4_advance hR hst d (ct_X4_advance l Y μ c p1 (r, m) hc e) (kk r m hk)
def fn_X4_changeSetting (kd : Nat → Nat) (μ : gx_M) (c : Nat) (p1 : Int32) (p2 : Int32) : Option (Int32 × gx_M) :=
  gx_b (fn_X3_get kd μ (c + 23) p1) (fun r1 m2 =>
gx_b (fn_X3_put kd m2 (c + 23) p1 p2) (fun _ m4 =>
some (r1, m4)))
set_option maxRecDepth 100000 in
set_option maxHeartbeats 4000000 in
theorem ct_X4_changeSetting (l : Launch) (Y : gx_Y) (μ : gx_M) (c : Nat) (p1 : Int32) (p2 : Int32) (rr : Int32 × gx_M) (hc : gk_tab Y c) (hf : fn_X4_changeSetting (gy_k Y) μ c p1 p2 = some rr) : gx_Con l yX4_changeSetting cX4_changeSetting 4 (some .int) 1 22 Y [.ref (gy_a Y c), .int p1, .int p2] μ rr := by
  refine gx_Con_of (L0 := [(0, .ref (gy_a Y c)), (1, .int p1), (2, .int p2)]) (by decide) (Nat.le_of_ble_eq_true rfl) rfl (fun K hK => ?_)
  unfold fn_X4_changeSetting at hf
  refine gw_aload_n (pc := 0) hK 0 dX4_changeSetting_0 rfl rfl ?_
  refine gf_X4_30 (pc := 1) hK hc.1 dX4_changeSetting_1 ?_
  refine gw_iload_n (pc := 4) hK 1 dX4_changeSetting_4 rfl rfl ?_
  refine gv_X4_42 (pc := 5) hK hc.2.2.2 dX4_changeSetting_5 (by decide) (Nat.le_of_ble_eq_true rfl) hf (fun r1 m2 hf => ?_)
  refine gw_istore_n (L' := [(3, .int r1), (0, .ref (gy_a Y c)), (1, .int p1), (2, .int p2)]) (pc := 8) hK dX4_changeSetting_8 rfl (by decide) rfl ?_
  refine gw_aload_n (pc := 9) hK 1 dX4_changeSetting_9 rfl rfl ?_
  refine gf_X4_30 (pc := 10) hK hc.1 dX4_changeSetting_10 ?_
  refine gw_iload_n (pc := 13) hK 2 dX4_changeSetting_13 rfl rfl ?_
  refine gw_iload_n (pc := 14) hK 3 dX4_changeSetting_14 rfl rfl ?_
  refine gv_X4_38 (pc := 15) hK hc.2.2.2 dX4_changeSetting_15 (by decide) (Nat.le_of_ble_eq_true rfl) hf (fun _ m4 hf => ?_)
  refine gw_iload_n (pc := 18) hK 0 dX4_changeSetting_18 rfl rfl ?_
  exact gw_ret_i (pc := 19) hK dX4_changeSetting_19 (Option.some.inj hf)
theorem gv_X6_99 {l : Launch} {cc : ByteArray} {nL fr lo : Nat} {ret : Option FieldType} {Y : gx_Y} {Post : Value → gx_M → Prop} {K : gx_KT} {pc : Nat} {μ : gx_M} {L : List (Nat × Value)} {st : List Value} {α : Type} {rr : α} (h : gx_K l RX6 cc nL fr lo ret Y Post K) {c : Nat} {p1 : Int32} {p2 : Int32} (hc : gk_tab Y c) (d : decode cc pc = .ok (.invokevirtual 99, 3)) (hR : 1 + 1 ≤ fr ∧ 45 ≤ lo) (hst : (st.map fun v => v.category).sum ≤ 8) {k : Int32 → gx_M → Option α} (hf : gx_b (fn_X4_changeSetting (gy_k Y) μ c p1 p2) k = some rr) (kk : ∀ (r : Int32) (m : gx_M), k r m = some rr → K m (pc + 3) L (.int r :: st)) : K μ pc L (.int p2 :: .int p1 :: .ref (gy_a Y c) :: st) := by
  obtain ⟨r, m, e, hk⟩ := gx_b_some hf
  exact gw_callV (As := [.int p1, .int p2]) (q := (r, m)) h hc.1 (by decide) rfl (by refine ⟨rfl, by decide, by decide, (show (parseMethodDescriptor yX4_changeSetting.desc).map (fun d => d.parameters.length) = some 2 by decide +kernel)⟩) kw_ml_RX6_99 kw_im_X4_changeSetting kw_se_X4_changeSetting kw_in_RX4 kw_co_X4_changeSetting hR hst d (ct_X4_changeSetting l Y μ c p1 p2 (r, m) hc e) (kk r m hk)
def fn_X4_startAgain (kd : Nat → Nat) (μ : gx_M) (c : Nat) : Option (Int32 × gx_M) :=
  gx_b (fn_X2_forgetPlaying kd (gx_u μ c 3 0) (c + 12)) (fun _ m2 =>
some (0, m2))
set_option maxRecDepth 100000 in
set_option maxHeartbeats 4000000 in
theorem ct_X4_startAgain (l : Launch) (Y : gx_Y) (μ : gx_M) (c : Nat) (rr : Int32 × gx_M) (hc : gk_tab Y c) (hf : fn_X4_startAgain (gy_k Y) μ c = some rr) : gx_Con l yX4_startAgain cX4_startAgain 1 none 2 43 Y [.ref (gy_a Y c)] μ rr := by
  refine gx_Con_of (L0 := [(0, .ref (gy_a Y c))]) (by decide) (Nat.le_of_ble_eq_true rfl) rfl (fun K hK => ?_)
  unfold fn_X4_startAgain at hf
  refine gw_aload_n (pc := 0) hK 0 dX4_startAgain_0 rfl rfl ?_
  refine gw_iconst (v := 0) (pc := 1) hK dX4_startAgain_1 (by decide) ?_
  refine gp_X4_34 (pc := 2) hK hc.1 dX4_startAgain_2 ?_
  refine gw_aload_n (pc := 5) hK 0 dX4_startAgain_5 rfl rfl ?_
  refine gf_X4_21 (pc := 6) hK hc.1 dX4_startAgain_6 ?_
  refine gv_X4_46 (pc := 9) hK hc.2.2.1 dX4_startAgain_9 (by decide) (Nat.le_of_ble_eq_true rfl) hf (fun _ m2 hf => ?_)
  exact gw_ret_v (pc := 12) hK dX4_startAgain_12 (Option.some.inj hf)
theorem gv_X6_159 {l : Launch} {cc : ByteArray} {nL fr lo : Nat} {ret : Option FieldType} {Y : gx_Y} {Post : Value → gx_M → Prop} {K : gx_KT} {pc : Nat} {μ : gx_M} {L : List (Nat × Value)} {st : List Value} {α : Type} {rr : α} (h : gx_K l RX6 cc nL fr lo ret Y Post K) {c : Nat} (hc : gk_tab Y c) (d : decode cc pc = .ok (.invokevirtual 159, 3)) (hR : 2 + 1 ≤ fr ∧ 63 ≤ lo) (hst : (st.map fun v => v.category).sum ≤ 8) {k : Int32 → gx_M → Option α} (hf : gx_b (fn_X4_startAgain (gy_k Y) μ c) k = some rr) (kk : ∀ (r : Int32) (m : gx_M), k r m = some rr → K m (pc + 3) L (st)) : K μ pc L (.ref (gy_a Y c) :: st) := by
  obtain ⟨r, m, e, hk⟩ := gx_b_some hf
  exact gw_callV (As := []) (q := (r, m)) h hc.1 (by decide) rfl (by refine ⟨rfl, by decide, by decide, (show (parseMethodDescriptor yX4_startAgain.desc).map (fun d => d.parameters.length) = some 0 by decide +kernel)⟩) kw_ml_RX6_159 kw_im_X4_startAgain kw_se_X4_startAgain kw_in_RX4 kw_co_X4_startAgain hR hst d (ct_X4_startAgain l Y μ c (r, m) hc e) (kk r m hk)
