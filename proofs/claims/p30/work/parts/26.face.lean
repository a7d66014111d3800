def fn_X6_type (kd : Nat → Nat) (μ : gx_M) (c : Nat) (p1 : Int32) : Option (Int32 × gx_M) :=
  gx_b (fn_X6_isWithin kd μ p1 32 126) (fun r1 m2 =>
(if r1 = 0 then
some ((-100001), m2)
else
gx_b (fn_X5_length kd m2 (c + 178)) (fun r4 m5 =>
(if r4 < 100 then
gx_b (fn_X5_append kd m5 (c + 178) p1) (fun _ m8 =>
gx_b (fn_X5_length kd m8 (c + 178)) (fun r9 m10 =>
some (r9, m10)))
else
some ((-100003), m5)))))
set_option maxRecDepth 100000 in
set_option maxHeartbeats 4000000 in
theorem ct_X6_type (l : Launch) (Y : gx_Y) (μ : gx_M) (c : Nat) (p1 : Int32) (rr : Int32 × gx_M) (hc : gk_bow Y c) (hf : fn_X6_type (gy_k Y) μ c p1 = some rr) : gx_Con l yX6_type cX6_type 2 (some .int) 2 43 Y [.ref (gy_a Y c), .int p1] μ rr := by
  refine gx_Con_of (L0 := [(0, .ref (gy_a Y c)), (1, .int p1)]) (by decide) (Nat.le_of_ble_eq_true rfl) rfl (fun K hK => ?_)
  unfold fn_X6_type at hf
  refine gw_iload_n (pc := 0) hK 1 dX6_type_0 rfl rfl ?_
  refine gw_bipush (v := 32) (pc := 1) hK dX6_type_1 (by decide) ?_
  refine gw_bipush (v := 126) (pc := 3) hK dX6_type_3 (by decide) ?_
  refine gv_X6_33 (pc := 5) hK dX6_type_5 (by decide) (Nat.le_of_ble_eq_true rfl) hf (fun r1 m2 hf => ?_)
  refine gw_if_ne (tgt := 14) (pc := 8) hK dX6_type_8 (by decide) hf (fun cc3 hf => ?_) (fun cc3 hf => ?_)
  ·
    refine gw_aload_n (pc := 14) hK 0 dX6_type_14 rfl rfl ?_
    refine gf_X6_29 (pc := 15) hK hc.1 dX6_type_15 ?_
    refine gv_X6_128 (pc := 18) hK hc.2.2.2.2 dX6_type_18 (by decide) (Nat.le_of_ble_eq_true rfl) hf (fun r4 m5 hf => ?_)
    refine gw_bipush (v := 100) (pc := 21) hK dX6_type_21 (by decide) ?_
    refine gw_icmp_lt (tgt := 29) (pc := 23) hK dX6_type_23 (by decide) hf (fun cc6 hf => ?_) (fun cc6 hf => ?_)
    ·
      refine gw_aload_n (pc := 29) hK 0 dX6_type_29 rfl rfl ?_
      refine gf_X6_29 (pc := 30) hK hc.1 dX6_type_30 ?_
      refine gw_iload_n (pc := 33) hK 1 dX6_type_33 rfl rfl ?_
      refine gv_X6_184 (pc := 34) hK hc.2.2.2.2 dX6_type_34 (by decide) (Nat.le_of_ble_eq_true rfl) hf (fun _ m8 hf => ?_)
      refine gw_aload_n (pc := 37) hK 0 dX6_type_37 rfl rfl ?_
      refine gf_X6_29 (pc := 38) hK hc.1 dX6_type_38 ?_
      refine gv_X6_128 (pc := 41) hK hc.2.2.2.2 dX6_type_41 (by decide) (Nat.le_of_ble_eq_true rfl) hf (fun r9 m10 hf => ?_)
      exact gw_ret_i (pc := 44) hK dX6_type_44 (Option.some.inj hf)
    ·
      refine gw_ldc (pc := 26) hK dX6_type_26 kw_k_RX6_48 ?_
      exact gw_ret_i (pc := 28) hK dX6_type_28 (Option.some.inj hf)
  ·
    refine gw_ldc (pc := 11) hK dX6_type_11 kw_k_RX6_37 ?_
    exact gw_ret_i (pc := 13) hK dX6_type_13 (Option.some.inj hf)
theorem gv_L_102 {l : Launch} {cc : ByteArray} {nL fr lo : Nat} {ret : Option FieldType} {Y : gx_Y} {Post : Value → gx_M → Prop} {K : gx_KT} {pc : Nat} {μ : gx_M} {L : List (Nat × Value)} {st : List Value} {α : Type} {rr : α} (h : gx_K l RL cc nL fr lo ret Y Post K) {c : Nat} {p1 : Int32} (hc : gk_bow Y c) (d : decode cc pc = .ok (.invokevirtual 102, 3)) (hR : 2 + 1 ≤ fr ∧ 64 ≤ lo) (hst : (st.map fun v => v.category).sum ≤ 8) {k : Int32 → gx_M → Option α} (hf : gx_b (fn_X6_type (gy_k Y) μ c p1) k = some rr) (kk : ∀ (r : Int32) (m : gx_M), k r m = some rr → K m (pc + 3) L (.int r :: st)) : K μ pc L (.int p1 :: .ref (gy_a Y c) :: st) := by
  obtain ⟨r, m, e, hk⟩ := gx_b_some hf
  exact gw_callV (As := [.int p1]) (q := (r, m)) h hc.1 (by decide) rfl (by refine ⟨rfl, by decide, by decide, (show (parseMethodDescriptor yX6_type.desc).map (fun d => d.parameters.length) = some 1 by decide +kernel)⟩) kw_ml_RL_102 kw_im_X6_type kw_se_X6_type kw_in_RX6 kw_co_X6_type hR hst d (ct_X6_type l Y μ c p1 (r, m) hc e) (kk r m hk)
def fn_X6_clearText (kd : Nat → Nat) (μ : gx_M) (c : Nat) : Option (Int32 × gx_M) :=
  gx_b (fn_X5_length kd μ (c + 178)) (fun r1 m2 =>
gx_b (fn_X5_empty kd m2 (c + 178)) (fun _ m4 =>
some (r1, m4)))
set_option maxRecDepth 100000 in
set_option maxHeartbeats 4000000 in
theorem ct_X6_clearText (l : Launch) (Y : gx_Y) (μ : gx_M) (c : Nat) (rr : Int32 × gx_M) (hc : gk_bow Y c) (hf : fn_X6_clearText (gy_k Y) μ c = some rr) : gx_Con l yX6_clearText cX6_clearText 2 (some .int) 2 43 Y [.ref (gy_a Y c)] μ rr := by
  refine gx_Con_of (L0 := [(0, .ref (gy_a Y c))]) (by decide) (Nat.le_of_ble_eq_true rfl) rfl (fun K hK => ?_)
  unfold fn_X6_clearText at hf
  refine gw_aload_n (pc := 0) hK 0 dX6_clearText_0 rfl rfl ?_
  refine gf_X6_29 (pc := 1) hK hc.1 dX6_clearText_1 ?_
  refine gv_X6_128 (pc := 4) hK hc.2.2.2.2 dX6_clearText_4 (by decide) (Nat.le_of_ble_eq_true rfl) hf (fun r1 m2 hf => ?_)
  refine gw_istore_n (L' := [(1, .int r1), (0, .ref (gy_a Y c))]) (pc := 7) hK dX6_clearText_7 rfl (by decide) rfl ?_
  refine gw_aload_n (pc := 8) hK 1 dX6_clearText_8 rfl rfl ?_
  refine gf_X6_29 (pc := 9) hK hc.1 dX6_clearText_9 ?_
  refine gv_X6_186 (pc := 12) hK hc.2.2.2.2 dX6_clearText_12 (by decide) (Nat.le_of_ble_eq_true rfl) hf (fun _ m4 hf => ?_)
  refine gw_iload_n (pc := 15) hK 0 dX6_clearText_15 rfl rfl ?_
  exact gw_ret_i (pc := 16) hK dX6_clearText_16 (Option.some.inj hf)
theorem gv_L_110 {l : Launch} {cc : ByteArray} {nL fr lo : Nat} {ret : Option FieldType} {Y : gx_Y} {Post : Value → gx_M → Prop} {K : gx_KT} {pc : Nat} {μ : gx_M} {L : List (Nat × Value)} {st : List Value} {α : Type} {rr : α} (h : gx_K l RL cc nL fr lo ret Y Post K) {c : Nat} (hc : gk_bow Y c) (d : decode cc pc = .ok (.invokevirtual 110, 3)) (hR : 2 + 1 ≤ fr ∧ 64 ≤ lo) (hst : (st.map fun v => v.category).sum ≤ 8) {k : Int32 → gx_M → Option α} (hf : gx_b (fn_X6_clearText (gy_k Y) μ c) k = some rr) (kk : ∀ (r : Int32) (m : gx_M), k r m = some rr → K m (pc + 3) L (.int r :: st)) : K μ pc L (.ref (gy_a Y c) :: st) := by
  obtain ⟨r, m, e, hk⟩ := gx_b_some hf
  exact gw_callV (As := []) (q := (r, m)) h hc.1 (by decide) rfl (by refine ⟨rfl, by decide, by decide, (show (parseMethodDescriptor yX6_clearText.desc).map (fun d => d.parameters.length) = some 0 by decide +kernel)⟩) kw_ml_RL_110 kw_im_X6_clearText kw_se_X6_clearText kw_in_RX6 kw_co_X6_clearText hR hst d (ct_X6_clearText l Y μ c (r, m) hc e) (kk r m hk)
def fn_X6_tryText (kd : Nat → Nat) (μ : gx_M) (c : Nat) : Option (Int32 × gx_M) :=
  gx_b (fn_X4_copyFrom kd μ (c + 26) (c + 1)) (fun _ m2 =>
gx_b (fn_X5_readInto kd m2 (c + 178) (c + 26 + 12)) (fun _ m4 =>
some (0, m4)))
set_option maxRecDepth 100000 in
set_option maxHeartbeats 4000000 in
theorem ct_X6_tryText (l : Launch) (Y : gx_Y) (μ : gx_M) (c : Nat) (rr : Int32 × gx_M) (hc : gk_bow Y c) (hf : fn_X6_tryText (gy_k Y) μ c = some rr) : gx_Con l yX6_tryText cX6_tryText 1 none 5 108 Y [.ref (gy_a Y c)] μ rr := by
  refine gx_Con_of (L0 := [(0, .ref (gy_a Y c))]) (by decide) (Nat.le_of_ble_eq_true rfl) rfl (fun K hK => ?_)
  unfold fn_X6_tryText at hf
  refine gw_aload_n (pc := 0) hK 0 dX6_tryText_0 rfl rfl ?_
  refine gf_X6_16 (pc := 1) hK hc.1 dX6_tryText_1 ?_
  refine gw_aload_n (pc := 4) hK 0 dX6_tryText_4 rfl rfl ?_
  refine gf_X6_10 (pc := 5) hK hc.1 dX6_tryText_5 ?_
  refine gv_X6_198 (pc := 8) hK hc.2.2.1 hc.2.1 dX6_tryText_8 (by decide) (Nat.le_of_ble_eq_true rfl) hf (fun _ m2 hf => ?_)
  refine gw_aload_n (pc := 11) hK 0 dX6_tryText_11 rfl rfl ?_
  refine gf_X6_29 (pc := 12) hK hc.1 dX6_tryText_12 ?_
  refine gw_aload_n (pc := 15) hK 0 dX6_tryText_15 rfl rfl ?_
  refine gf_X6_16 (pc := 16) hK hc.1 dX6_tryText_16 ?_
  refine gf_X6_111 (pc := 19) hK hc.2.2.1.1 dX6_tryText_19 ?_
  refine gv_X6_204 (pc := 22) hK hc.2.2.2.2 hc.2.2.1.2.2.1 dX6_tryText_22 (by decide) (Nat.le_of_ble_eq_true rfl) hf (fun _ m4 hf => ?_)
  exact gw_ret_v (pc := 25) hK dX6_tryText_25 (Option.some.inj hf)
theorem gv_X6_189 {l : Launch} {cc : ByteArray} {nL fr lo : Nat} {ret : Option FieldType} {Y : gx_Y} {Post : Value → gx_M → Prop} {K : gx_KT} {pc : Nat} {μ : gx_M} {L : List (Nat × Value)} {st : List Value} {α : Type} {rr : α} (h : gx_K l RX6 cc nL fr lo ret Y Post K) {c : Nat} (hc : gk_bow Y c) (d : decode cc pc = .ok (.invokevirtual 189, 3)) (hR : 5 + 1 ≤ fr ∧ 128 ≤ lo) (hst : (st.map fun v => v.category).sum ≤ 8) {k : Int32 → gx_M → Option α} (hf : gx_b (fn_X6_tryText (gy_k Y) μ c) k = some rr) (kk : ∀ (r : Int32) (m : gx_M), k r m = some rr → K m (pc + 3) L (st)) : K μ pc L (.ref (gy_a Y c) :: st) := by
  obtain ⟨r, m, e, hk⟩ := gx_b_some hf
  exact gw_callV (As := []) (q := (r, m)) h hc.1 (by decide) rfl (by refine ⟨rfl, by decide, by decide, (show (parseMethodDescriptor yX6_tryText.desc).map (fun d => d.parameters.length) = some 0 by decide +kernel)⟩) kw_ml_RX6_189 kw_im_X6_tryText kw_se_X6_tryText kw_in_RX6 kw_co_X6_tryText hR hst d (ct_X6_tryText l Y μ c (r, m) hc e) (kk r m hk)
def fn_X6_fault (kd : Nat → Nat) (μ : gx_M) (c : Nat) (p1 : Int32) : Option (Int32 × gx_M) :=
  gx_b (fn_X6_isWithin kd μ p1 0 1) (fun r1 m2 =>
(if r1 = 0 then
some ((-100001), m2)
else
gx_b (fn_X6_tryText kd m2 c) (fun _ m5 =>
gx_b (fn_X5_faultReason kd m5 (c + 178)) (fun r6 m7 =>
(if r6 = 0 then
some ((-100004), m7)
else
(if p1 = 0 then
gx_b (fn_X5_faultPlace kd m7 (c + 178)) (fun r12 m13 =>
some (r12, m13))
else
gx_b (fn_X5_faultReason kd m7 (c + 178)) (fun r10 m11 =>
some (r10, m11))))))))
set_option maxRecDepth 100000 in
set_option maxHeartbeats 4000000 in
theorem ct_X6_fault (l : Launch) (Y : gx_Y) (μ : gx_M) (c : Nat) (p1 : Int32) (rr : Int32 × gx_M) (hc : gk_bow Y c) (hf : fn_X6_fault (gy_k Y) μ c p1 = some rr) : gx_Con l yX6_fault cX6_fault 2 (some .int) 6 128 Y [.ref (gy_a Y c), .int p1] μ rr := by
  refine gx_Con_of (L0 := [(0, .ref (gy_a Y c)), (1, .int p1)]) (by decide) (Nat.le_of_ble_eq_true rfl) rfl (fun K hK => ?_)
  unfold fn_X6_fault at hf
  refine gw_iload_n (pc := 0) hK 1 dX6_fault_0 rfl rfl ?_
  refine gw_iconst (v := 0) (pc := 1) hK dX6_fault_1 (by decide) ?_
  refine gw_iconst (v := 1) (pc := 2) hK dX6_fault_2 (by decide) ?_
  refine gv_X6_33 (pc := 3) hK dX6_fault_3 (by decide) (Nat.le_of_ble_eq_true rfl) hf (fun r1 m2 hf => ?_)
  refine gw_if_ne (tgt := 12) (pc := 6) hK dX6_fault_6 (by decide) hf (fun cc3 hf => ?_) (fun cc3 hf => ?_)
  ·
    refine gw_aload_n (pc := 12) hK 0 dX6_fault_12 rfl rfl ?_
    refine gv_X6_189 (pc := 13) hK hc dX6_fault_13 (by decide) (Nat.le_of_ble_eq_true rfl) hf (fun _ m5 hf => ?_)
    refine gw_aload_n (pc := 16) hK 0 dX6_fault_16 rfl rfl ?_
    refine gf_X6_29 (pc := 17) hK hc.1 dX6_fault_17 ?_
    refine gv_X6_192 (pc := 20) hK hc.2.2.2.2 dX6_fault_20 (by decide) (Nat.le_of_ble_eq_true rfl) hf (fun r6 m7 hf => ?_)
    refine gw_if_ne (tgt := 29) (pc := 23) hK dX6_fault_23 (by decide) hf (fun cc8 hf => ?_) (fun cc8 hf => ?_)
    ·
      refine gw_iload_n (pc := 29) hK 1 dX6_fault_29 rfl rfl ?_
      refine gw_if_ne (tgt := 43) (pc := 30) hK dX6_fault_30 (by decide) hf (fun cc9 hf => ?_) (fun cc9 hf => ?_)
      ·
        refine gw_aload_n (pc := 43) hK 0 dX6_fault_43 rfl rfl ?_
        refine gf_X6_29 (pc := 44) hK hc.1 dX6_fault_44 ?_
        refine gv_X6_192 (pc := 47) hK hc.2.2.2.2 dX6_fault_47 (by decide) (Nat.le_of_ble_eq_true rfl) hf (fun r10 m11 hf => ?_)
        exact gw_ret_i (pc := 50) hK dX6_fault_50 (Option.some.inj hf)
      ·
        refine gw_aload_n (pc := 33) hK 0 dX6_fault_33 rfl rfl ?_
        refine gf_X6_29 (pc := 34) hK hc.1 dX6_fault_34 ?_
        refine gv_X6_195 (pc := 37) hK hc.2.2.2.2 dX6_fault_37 (by decide) (Nat.le_of_ble_eq_true rfl) hf (fun r12 m13 hf => ?_)
        refine gw_goto (tgt := 50) (pc := 40) hK dX6_fault_40 (by decide) ?_
        exact gw_ret_i (pc := 50) hK dX6_fault_50 (Option.some.inj hf)
    ·
      refine gw_ldc (pc := 26) hK dX6_fault_26 kw_k_RX6_168 ?_
      exact gw_ret_i (pc := 28) hK dX6_fault_28 (Option.some.inj hf)
  ·
    refine gw_ldc (pc := 9) hK dX6_fault_9 kw_k_RX6_37 ?_
    exact gw_ret_i (pc := 11) hK dX6_fault_11 (Option.some.inj hf)
theorem gv_L_105 {l : Launch} {cc : ByteArray} {nL fr lo : Nat} {ret : Option FieldType} {Y : gx_Y} {Post : Value → gx_M → Prop} {K : gx_KT} {pc : Nat} {μ : gx_M} {L : List (Nat × Value)} {st : List Value} {α : Type} {rr : α} (h : gx_K l RL cc nL fr lo ret Y Post K) {c : Nat} {p1 : Int32} (hc : gk_bow Y c) (d : decode cc pc = .ok (.invokevirtual 105, 3)) (hR : 6 + 1 ≤ fr ∧ 149 ≤ lo) (hst : (st.map fun v => v.category).sum ≤ 8) {k : Int32 → gx_M → Option α} (hf : gx_b (fn_X6_fault (gy_k Y) μ c p1) k = some rr) (kk : ∀ (r : Int32) (m : gx_M), k r m = some rr → K m (pc + 3) L (.int r :: st)) : K μ pc L (.int p1 :: .ref (gy_a Y c) :: st) := by
  obtain ⟨r, m, e, hk⟩ := gx_b_some hf
  exact gw_callV (As := [.int p1]) (q := (r, m)) h hc.1 (by decide) rfl (by refine ⟨rfl, by decide, by decide, (show (parseMethodDescriptor yX6_fault.desc).map (fun d => d.parameters.length) = some 1 by decide +kernel)⟩) kw_ml_RL_105 kw_im_X6_fault kw_se_X6_fault kw_in_RX6 kw_co_X6_fault hR hst d (ct_X6_fault l Y μ c p1 (r, m) hc e) (kk r m hk)
def fn_X6_bowl (kd : Nat → Nat) (μ : gx_M) (c : Nat) (p1 : Int32) (p2 : Int32) : Option (Int32 × gx_M) :=
  gx_b (fn_X6_isWithin kd μ p1 0 6000) (fun r1 m2 =>
(if r1 = 0 then
some ((-100001), m2)
else
gx_b (fn_X6_isWithin kd m2 p2 1 2400) (fun r4 m5 =>
(if r4 = 0 then
some ((-100001), m5)
else
gx_b (fn_X0_size kd m5 (c + 1 + 1)) (fun r7 m8 =>
(if r7 < 10 then
gx_b (fn_X1_record kd m8 (c + 51) (c + 1)) (fun _ m11 =>
gx_b (fn_X0_append kd m11 (c + 1 + 1) p1 p2) (fun _ m13 =>
gx_b (fn_X0_size kd m13 (c + 1 + 1)) (fun r14 m15 =>
some ((r14 - 1), m15))))
else
some ((-100003), m8)))))))
set_option maxRecDepth 100000 in
set_option maxHeartbeats 4000000 in
theorem ct_X6_bowl (l : Launch) (Y : gx_Y) (μ : gx_M) (c : Nat) (p1 : Int32) (p2 : Int32) (rr : Int32 × gx_M) (hc : gk_bow Y c) (hf : fn_X6_bowl (gy_k Y) μ c p1 p2 = some rr) : gx_Con l yX6_bowl cX6_bowl 3 (some .int) 5 125 Y [.ref (gy_a Y c), .int p1, .int p2] μ rr := by
  refine gx_Con_of (L0 := [(0, .ref (gy_a Y c)), (1, .int p1), (2, .int p2)]) (by decide) (Nat.le_of_ble_eq_true rfl) rfl (fun K hK => ?_)
  unfold fn_X6_bowl at hf
  refine gw_iload_n (pc := 0) hK 1 dX6_bowl_0 rfl rfl ?_
  refine gw_iconst (v := 0) (pc := 1) hK dX6_bowl_1 (by decide) ?_
  refine gw_sipush (v := 6000) (pc := 2) hK dX6_bowl_2 (by decide) ?_
  refine gv_X6_33 (pc := 5) hK dX6_bowl_5 (by decide) (Nat.le_of_ble_eq_true rfl) hf (fun r1 m2 hf => ?_)
  refine gw_if_eq (tgt := 22) (pc := 8) hK dX6_bowl_8 (by decide) hf (fun cc3 hf => ?_) (fun cc3 hf => ?_)
  ·
    refine gw_ldc (pc := 22) hK dX6_bowl_22 kw_k_RX6_37 ?_
    exact gw_ret_i (pc := 24) hK dX6_bowl_24 (Option.some.inj hf)
  ·
    refine gw_iload_n (pc := 11) hK 2 dX6_bowl_11 rfl rfl ?_
    refine gw_iconst (v := 1) (pc := 12) hK dX6_bowl_12 (by decide) ?_
    refine gw_sipush (v := 2400) (pc := 13) hK dX6_bowl_13 (by decide) ?_
    refine gv_X6_33 (pc := 16) hK dX6_bowl_16 (by decide) (Nat.le_of_ble_eq_true rfl) hf (fun r4 m5 hf => ?_)
    refine gw_if_ne (tgt := 25) (pc := 19) hK dX6_bowl_19 (by decide) hf (fun cc6 hf => ?_) (fun cc6 hf => ?_)
    ·
      refine gw_aload_n (pc := 25) hK 0 dX6_bowl_25 rfl rfl ?_
      refine gf_X6_10 (pc := 26) hK hc.1 dX6_bowl_26 ?_
      refine gf_X6_38 (pc := 29) hK hc.2.1.1 dX6_bowl_29 ?_
      refine gv_X6_42 (pc := 32) hK hc.2.1.2.1 dX6_bowl_32 (by decide) (Nat.le_of_ble_eq_true rfl) hf (fun r7 m8 hf => ?_)
      refine gw_bipush (v := 10) (pc := 35) hK dX6_bowl_35 (by decide) ?_
      refine gw_icmp_lt (tgt := 43) (pc := 37) hK dX6_bowl_37 (by decide) hf (fun cc9 hf => ?_) (fun cc9 hf => ?_)
      ·
        refine gw_aload_n (pc := 43) hK 0 dX6_bowl_43 rfl rfl ?_
        refine gf_X6_22 (pc := 44) hK hc.1 dX6_bowl_44 ?_
        refine gw_aload_n (pc := 47) hK 0 dX6_bowl_47 rfl rfl ?_
        refine gf_X6_10 (pc := 48) hK hc.1 dX6_bowl_48 ?_
        refine gv_X6_49 (pc := 51) hK hc.2.2.2.1 hc.2.1 dX6_bowl_51 (by decide) (Nat.le_of_ble_eq_true rfl) hf (fun _ m11 hf => ?_)
        refine gw_aload_n (pc := 54) hK 0 dX6_bowl_54 rfl rfl ?_
        refine gf_X6_10 (pc := 55) hK hc.1 dX6_bowl_55 ?_
        refine gf_X6_38 (pc := 58) hK hc.2.1.1 dX6_bowl_58 ?_
        refine gw_iload_n (pc := 61) hK 1 dX6_bowl_61 rfl rfl ?_
        refine gw_iload_n (pc := 62) hK 2 dX6_bowl_62 rfl rfl ?_
        refine gv_X6_53 (pc := 63) hK hc.2.1.2.1 dX6_bowl_63 (by decide) (Nat.le_of_ble_eq_true rfl) hf (fun _ m13 hf => ?_)
        refine gw_aload_n (pc := 66) hK 0 dX6_bowl_66 rfl rfl ?_
        refine gf_X6_10 (pc := 67) hK hc.1 dX6_bowl_67 ?_
        refine gf_X6_38 (pc := 70) hK hc.2.1.1 dX6_bowl_70 ?_
        refine gv_X6_42 (pc := 73) hK hc.2.1.2.1 dX6_bowl_73 (by decide) (Nat.le_of_ble_eq_true rfl) hf (fun r14 m15 hf => ?_)
        refine gw_iconst (v := 1) (pc := 76) hK dX6_bowl_76 (by decide) ?_
        refine gw_isub (pc := 77) hK dX6_bowl_77 ?_
        exact gw_ret_i (pc := 78) hK dX6_bowl_78 (Option.some.inj hf)
      ·
        refine gw_ldc (pc := 40) hK dX6_bowl_40 kw_k_RX6_48 ?_
        exact gw_ret_i (pc := 42) hK dX6_bowl_42 (Option.some.inj hf)
    ·
      refine gw_ldc (pc := 22) hK dX6_bowl_22 kw_k_RX6_37 ?_
      exact gw_ret_i (pc := 24) hK dX6_bowl_24 (Option.some.inj hf)
theorem gv_L_32 {l : Launch} {cc : ByteArray} {nL fr lo : Nat} {ret : Option FieldType} {Y : gx_Y} {Post : Value → gx_M → Prop} {K : gx_KT} {pc : Nat} {μ : gx_M} {L : List (Nat × Value)} {st : List Value} {α : Type} {rr : α} (h : gx_K l RL cc nL fr lo ret Y Post K) {c : Nat} {p1 : Int32} {p2 : Int32} (hc : gk_bow Y c) (d : decode cc pc = .ok (.invokevirtual 32, 3)) (hR : 5 + 1 ≤ fr ∧ 147 ≤ lo) (hst : (st.map fun v => v.category).sum ≤ 8) {k : Int32 → gx_M → Option α} (hf : gx_b (fn_X6_bowl (gy_k Y) μ c p1 p2) k = some rr) (kk : ∀ (r : Int32) (m : gx_M), k r m = some rr → K m (pc + 3) L (.int r :: st)) : K μ pc L (.int p2 :: .int p1 :: .ref (gy_a Y c) :: st) := by
  obtain ⟨r, m, e, hk⟩ := gx_b_some hf
  exact gw_callV (As := [.int p1, .int p2]) (q := (r, m)) h hc.1 (by decide) rfl (by refine ⟨rfl, by decide, by decide, (show (parseMethodDescriptor yX6_bowl.desc).map (fun d => d.parameters.length) = some 2 by decide +kernel)⟩) kw_ml_RL_32 kw_im_X6_bowl kw_se_X6_bowl kw_in_RX6 kw_co_X6_bowl hR hst d (ct_X6_bowl l Y μ c p1 p2 (r, m) hc e) (kk r m hk)
def fn_X6_bowlOf (kd : Nat → Nat) (μ : gx_M) (c : Nat) (p1 : Int32) (p2 : Int32) : Option (Int32 × gx_M) :=
  gx_b (fn_X0_has kd μ (c + 1 + 1) p1) (fun r1 m2 =>
(if r1 = 0 then
some ((-100001), m2)
else
gx_b (fn_X0_property kd m2 (c + 1 + 1) p1 p2) (fun r4 m5 =>
some (r4, m5))))
set_option maxRecDepth 100000 in
set_option maxHeartbeats 4000000 in
theorem ct_X6_bowlOf (l : Launch) (Y : gx_Y) (μ : gx_M) (c : Nat) (p1 : Int32) (p2 : Int32) (rr : Int32 × gx_M) (hc : gk_bow Y c) (hf : fn_X6_bowlOf (gy_k Y) μ c p1 p2 = some rr) : gx_Con l yX6_bowlOf cX6_bowlOf 3 (some .int) 4 88 Y [.ref (gy_a Y c), .int p1, .int p2] μ rr := by
  refine gx_Con_of (L0 := [(0, .ref (gy_a Y c)), (1, .int p1), (2, .int p2)]) (by decide) (Nat.le_of_ble_eq_true rfl) rfl (fun K hK => ?_)
  unfold fn_X6_bowlOf at hf
  refine gw_aload_n (pc := 0) hK 0 dX6_bowlOf_0 rfl rfl ?_
  refine gf_X6_10 (pc := 1) hK hc.1 dX6_bowlOf_1 ?_
  refine gf_X6_38 (pc := 4) hK hc.2.1.1 dX6_bowlOf_4 ?_
  refine gw_iload_n (pc := 7) hK 1 dX6_bowlOf_7 rfl rfl ?_
  refine gv_X6_57 (pc := 8) hK hc.2.1.2.1 dX6_bowlOf_8 (by decide) (Nat.le_of_ble_eq_true rfl) hf (fun r1 m2 hf => ?_)
  refine gw_if_ne (tgt := 17) (pc := 11) hK dX6_bowlOf_11 (by decide) hf (fun cc3 hf => ?_) (fun cc3 hf => ?_)
  ·
    refine gw_aload_n (pc := 17) hK 0 dX6_bowlOf_17 rfl rfl ?_
    refine gf_X6_10 (pc := 18) hK hc.1 dX6_bowlOf_18 ?_
    refine gf_X6_38 (pc := 21) hK hc.2.1.1 dX6_bowlOf_21 ?_
    refine gw_iload_n (pc := 24) hK 1 dX6_bowlOf_24 rfl rfl ?_
    refine gw_iload_n (pc := 25) hK 2 dX6_bowlOf_25 rfl rfl ?_
    refine gv_X6_83 (pc := 26) hK hc.2.1.2.1 dX6_bowlOf_26 (by decide) (Nat.le_of_ble_eq_true rfl) hf (fun r4 m5 hf => ?_)
    exact gw_ret_i (pc := 29) hK dX6_bowlOf_29 (Option.some.inj hf)
  ·
    refine gw_ldc (pc := 14) hK dX6_bowlOf_14 kw_k_RX6_37 ?_
    exact gw_ret_i (pc := 16) hK dX6_bowlOf_16 (Option.some.inj hf)
theorem gv_L_25 {l : Launch} {cc : ByteArray} {nL fr lo : Nat} {ret : Option FieldType} {Y : gx_Y} {Post : Value → gx_M → Prop} {K : gx_KT} {pc : Nat} {μ : gx_M} {L : List (Nat × Value)} {st : List Value} {α : Type} {rr : α} (h : gx_K l RL cc nL fr lo ret Y Post K) {c : Nat} {p1 : Int32} {p2 : Int32} (hc : gk_bow Y c) (d : decode cc pc = .ok (.invokevirtual 25, 3)) (hR : 4 + 1 ≤ fr ∧ 110 ≤ lo) (hst : (st.map fun v => v.category).sum ≤ 8) {k : Int32 → gx_M → Option α} (hf : gx_b (fn_X6_bowlOf (gy_k Y) μ c p1 p2) k = some rr) (kk : ∀ (r : Int32) (m : gx_M), k r m = some rr → K m (pc + 3) L (.int r :: st)) : K μ pc L (.int p2 :: .int p1 :: .ref (gy_a Y c) :: st) := by
  obtain ⟨r, m, e, hk⟩ := gx_b_some hf
  exact gw_callV (As := [.int p1, .int p2]) (q := (r, m)) h hc.1 (by decide) rfl (by refine ⟨rfl, by decide, by decide, (show (parseMethodDescriptor yX6_bowlOf.desc).map (fun d => d.parameters.length) = some 2 by decide +kernel)⟩) kw_ml_RL_25 kw_im_X6_bowlOf kw_se_X6_bowlOf kw_in_RX6 kw_co_X6_bowlOf hR hst d (ct_X6_bowlOf l Y μ c p1 p2 (r, m) hc e) (kk r m hk)
def fn_X6_count (kd : Nat → Nat) (μ : gx_M) (c : Nat) (p1 : Int32) : Option (Int32 × gx_M) :=
  gx_b (fn_X6_isWithin kd μ p1 10 13) (fun r1 m2 =>
(if r1 = 0 then
gx_b (fn_X6_isWithin kd m2 p1 20 24) (fun r4 m5 =>
(if r4 = 0 then
(if p1 = 0 then
gx_b (fn_X4_time kd m5 (c + 1)) (fun r8 m9 =>
some (r8, m9))
else
(if p1 = 1 then
gx_b (fn_X0_size kd m5 (c + 1 + 1)) (fun r11 m12 =>
some (r11, m12))
else
(if p1 = 2 then
gx_b (fn_X2_size kd m5 (c + 1 + 12)) (fun r14 m15 =>
some (r14, m15))
else
(if p1 = 3 then
gx_b (fn_X4_setting kd m5 (c + 1) 1) (fun r17 m18 =>
gx_b (fn_X2_phrases kd m18 (c + 1 + 12) r17) (fun r19 m20 =>
some (r19, m20)))
else
(if p1 = 4 then
gx_b (fn_X2_playedNotes kd m5 (c + 1 + 12)) (fun r22 m23 =>
some (r22, m23))
else
(if p1 = 5 then
gx_b (fn_X2_notesWith kd m5 (c + 1 + 12) 3) (fun r25 m26 =>
some (r25, m26))
else
(if p1 = 6 then
gx_b (fn_X2_notesWith kd m5 (c + 1 + 12) 1) (fun r28 m29 =>
some (r28, m29))
else
(if p1 = 7 then
gx_b (fn_X1_size kd m5 (c + 51)) (fun r31 m32 =>
some (r31, m32))
else
(if p1 = 8 then
gx_b (fn_X5_length kd m5 (c + 178)) (fun r34 m35 =>
some (r34, m35))
else
some ((-100001), m5))))))))))
else
gx_b (fn_X0_account kd m5 (c + 1 + 1) (p1 - 20)) (fun r36 m37 =>
some (r36, m37))))
else
gx_b (fn_X4_setting kd m2 (c + 1) (p1 - 10)) (fun r38 m39 =>
some (r38, m39))))
set_option maxRecDepth 100000 in
set_option maxHeartbeats 4000000 in
theorem ct_X6_count (l : Launch) (Y : gx_Y) (μ : gx_M) (c : Nat) (p1 : Int32) (rr : Int32 × gx_M) (hc : gk_bow Y c) (hf : fn_X6_count (gy_k Y) μ c p1 = some rr) : gx_Con l yX6_count cX6_count 2 (some .int) 4 88 Y [.ref (gy_a Y c), .int p1] μ rr := by
  refine gx_Con_of (L0 := [(0, .ref (gy_a Y c)), (1, .int p1)]) (by decide) (Nat.le_of_ble_eq_true rfl) rfl (fun K hK => ?_)
  unfold fn_X6_count at hf
  refine gw_iload_n (pc := 0) hK 1 dX6_count_0 rfl rfl ?_
  refine gw_bipush (v := 10) (pc := 1) hK dX6_count_1 (by decide) ?_
  refine gw_bipush (v := 13) (pc := 3) hK dX6_count_3 (by decide) ?_
  refine gv_X6_33 (pc := 5) hK dX6_count_5 (by decide) (Nat.le_of_ble_eq_true rfl) hf (fun r1 m2 hf => ?_)
  refine gw_if_eq (tgt := 23) (pc := 8) hK dX6_count_8 (by decide) hf (fun cc3 hf => ?_) (fun cc3 hf => ?_)
  ·
    refine gw_iload_n (pc := 23) hK 1 dX6_count_23 rfl rfl ?_
    refine gw_bipush (v := 20) (pc := 24) hK dX6_count_24 (by decide) ?_
    refine gw_bipush (v := 24) (pc := 26) hK dX6_count_26 (by decide) ?_
    refine gv_X6_33 (pc := 28) hK dX6_count_28 (by decide) (Nat.le_of_ble_eq_true rfl) hf (fun r4 m5 hf => ?_)
    refine gw_if_eq (tgt := 49) (pc := 31) hK dX6_count_31 (by decide) hf (fun cc6 hf => ?_) (fun cc6 hf => ?_)
    ·
      refine gw_iload_n (pc := 49) hK 1 dX6_count_49 rfl rfl ?_
      by_cases cs7 : p1 = 0
      · replace hf := gx_pos cs7 hf
        refine gw_tblIn (tgt := 100) (pc := 50) hK dX6_count_50 (by rw [cs7]; decide) (by rw [cs7]; decide) (by rw [cs7]; rfl) (by decide) ?_
        refine gw_aload_n (pc := 100) hK 0 dX6_count_100 rfl rfl ?_
        refine gf_X6_10 (pc := 101) hK hc.1 dX6_count_101 ?_
        refine gv_X6_108 (pc := 104) hK hc.2.1 dX6_count_104 (by decide) (Nat.le_of_ble_eq_true rfl) hf (fun r8 m9 hf => ?_)
        exact gw_ret_i (pc := 107) hK dX6_count_107 (Option.some.inj hf)
      replace hf := gx_neg cs7 hf
      by_cases cs10 : p1 = 1
      · replace hf := gx_pos cs10 hf
        refine gw_tblIn (tgt := 108) (pc := 50) hK dX6_count_50 (by rw [cs10]; decide) (by rw [cs10]; decide) (by rw [cs10]; rfl) (by decide) ?_
        refine gw_aload_n (pc := 108) hK 0 dX6_count_108 rfl rfl ?_
        refine gf_X6_10 (pc := 109) hK hc.1 dX6_count_109 ?_
        refine gf_X6_38 (pc := 112) hK hc.2.1.1 dX6_count_112 ?_
        refine gv_X6_42 (pc := 115) hK hc.2.1.2.1 dX6_count_115 (by decide) (Nat.le_of_ble_eq_true rfl) hf (fun r11 m12 hf => ?_)
        exact gw_ret_i (pc := 118) hK dX6_count_118 (Option.some.inj hf)
      replace hf := gx_neg cs10 hf
      by_cases cs13 : p1 = 2
      · replace hf := gx_pos cs13 hf
        refine gw_tblIn (tgt := 119) (pc := 50) hK dX6_count_50 (by rw [cs13]; decide) (by rw [cs13]; decide) (by rw [cs13]; rfl) (by decide) ?_
        refine gw_aload_n (pc := 119) hK 0 dX6_count_119 rfl rfl ?_
        refine gf_X6_10 (pc := 120) hK hc.1 dX6_count_120 ?_
        refine gf_X6_111 (pc := 123) hK hc.2.1.1 dX6_count_123 ?_
        refine gv_X6_115 (pc := 126) hK hc.2.1.2.2.1 dX6_count_126 (by decide) (Nat.le_of_ble_eq_true rfl) hf (fun r14 m15 hf => ?_)
        exact gw_ret_i (pc := 129) hK dX6_count_129 (Option.some.inj hf)
      replace hf := gx_neg cs13 hf
      by_cases cs16 : p1 = 3
      · replace hf := gx_pos cs16 hf
        refine gw_tblIn (tgt := 130) (pc := 50) hK dX6_count_50 (by rw [cs16]; decide) (by rw [cs16]; decide) (by rw [cs16]; rfl) (by decide) ?_
        refine gw_aload_n (pc := 130) hK 0 dX6_count_130 rfl rfl ?_
        refine gf_X6_10 (pc := 131) hK hc.1 dX6_count_131 ?_
        refine gf_X6_111 (pc := 134) hK hc.2.1.1 dX6_count_134 ?_
        refine gw_aload_n (pc := 137) hK 0 dX6_count_137 rfl rfl ?_
        refine gf_X6_10 (pc := 138) hK hc.1 dX6_count_138 ?_
        refine gw_iconst (v := 1) (pc := 141) hK dX6_count_141 (by decide) ?_
        refine gv_X6_102 (pc := 142) hK hc.2.1 dX6_count_142 (by decide) (Nat.le_of_ble_eq_true rfl) hf (fun r17 m18 hf => ?_)
        refine gv_X6_118 (pc := 145) hK hc.2.1.2.2.1 dX6_count_145 (by decide) (Nat.le_of_ble_eq_true rfl) hf (fun r19 m20 hf => ?_)
        exact gw_ret_i (pc := 148) hK dX6_count_148 (Option.some.inj hf)
      replace hf := gx_neg cs16 hf
      by_cases cs21 : p1 = 4
      · replace hf := gx_pos cs21 hf
        refine gw_tblIn (tgt := 149) (pc := 50) hK dX6_count_50 (by rw [cs21]; decide) (by rw [cs21]; decide) (by rw [cs21]; rfl) (by decide) ?_
        refine gw_aload_n (pc := 149) hK 0 dX6_count_149 rfl rfl ?_
        refine gf_X6_10 (pc := 150) hK hc.1 dX6_count_150 ?_
        refine gf_X6_111 (pc := 153) hK hc.2.1.1 dX6_count_153 ?_
        refine gv_X6_121 (pc := 156) hK hc.2.1.2.2.1 dX6_count_156 (by decide) (Nat.le_of_ble_eq_true rfl) hf (fun r22 m23 hf => ?_)
        exact gw_ret_i (pc := 159) hK dX6_count_159 (Option.some.inj hf)
      replace hf := gx_neg cs21 hf
      by_cases cs24 : p1 = 5
      · replace hf := gx_pos cs24 hf
        refine gw_tblIn (tgt := 160) (pc := 50) hK dX6_count_50 (by rw [cs24]; decide) (by rw [cs24]; decide) (by rw [cs24]; rfl) (by decide) ?_
        refine gw_aload_n (pc := 160) hK 0 dX6_count_160 rfl rfl ?_
        refine gf_X6_10 (pc := 161) hK hc.1 dX6_count_161 ?_
        refine gf_X6_111 (pc := 164) hK hc.2.1.1 dX6_count_164 ?_
        refine gw_iconst (v := 3) (pc := 167) hK dX6_count_167 (by decide) ?_
        refine gv_X6_124 (pc := 168) hK hc.2.1.2.2.1 dX6_count_168 (by decide) (Nat.le_of_ble_eq_true rfl) hf (fun r25 m26 hf => ?_)
        exact gw_ret_i (pc := 171) hK dX6_count_171 (Option.some.inj hf)
      replace hf := gx_neg cs24 hf
      by_cases cs27 : p1 = 6
      · replace hf := gx_pos cs27 hf
        refine gw_tblIn (tgt := 172) (pc := 50) hK dX6_count_50 (by rw [cs27]; decide) (by rw [cs27]; decide) (by rw [cs27]; rfl) (by decide) ?_
        refine gw_aload_n (pc := 172) hK 0 dX6_count_172 rfl rfl ?_
        refine gf_X6_10 (pc := 173) hK hc.1 dX6_count_173 ?_
        refine gf_X6_111 (pc := 176) hK hc.2.1.1 dX6_count_176 ?_
        refine gw_iconst (v := 1) (pc := 179) hK dX6_count_179 (by decide) ?_
        refine gv_X6_124 (pc := 180) hK hc.2.1.2.2.1 dX6_count_180 (by decide) (Nat.le_of_ble_eq_true rfl) hf (fun r28 m29 hf => ?_)
        exact gw_ret_i (pc := 183) hK dX6_count_183 (Option.some.inj hf)
      replace hf := gx_neg cs27 hf
      by_cases cs30 : p1 = 7
      · replace hf := gx_pos cs30 hf
        refine gw_tblIn (tgt := 184) (pc := 50) hK dX6_count_50 (by rw [cs30]; decide) (by rw [cs30]; decide) (by rw [cs30]; rfl) (by decide) ?_
        refine gw_aload_n (pc := 184) hK 0 dX6_count_184 rfl rfl ?_
        refine gf_X6_22 (pc := 185) hK hc.1 dX6_count_185 ?_
        refine gv_X6_127 (pc := 188) hK hc.2.2.2.1 dX6_count_188 (by decide) (Nat.le_of_ble_eq_true rfl) hf (fun r31 m32 hf => ?_)
        exact gw_ret_i (pc := 191) hK dX6_count_191 (Option.some.inj hf)
      replace hf := gx_neg cs30 hf
      by_cases cs33 : p1 = 8
      · replace hf := gx_pos cs33 hf
        refine gw_tblIn (tgt := 192) (pc := 50) hK dX6_count_50 (by rw [cs33]; decide) (by rw [cs33]; decide) (by rw [cs33]; rfl) (by decide) ?_
        refine gw_aload_n (pc := 192) hK 0 dX6_count_192 rfl rfl ?_
        refine gf_X6_29 (pc := 193) hK hc.1 dX6_count_193 ?_
        refine gv_X6_128 (pc := 196) hK hc.2.2.2.2 dX6_count_196 (by decide) (Nat.le_of_ble_eq_true rfl) hf (fun r34 m35 hf => ?_)
        exact gw_ret_i (pc := 199) hK dX6_count_199 (Option.some.inj hf)
      replace hf := gx_neg cs33 hf
      have ncs7 := lv_neT cs7 (a := 0) (by decide)
      have ncs10 := lv_neT cs10 (a := 1) (by decide)
      have ncs13 := lv_neT cs13 (a := 2) (by decide)
      have ncs16 := lv_neT cs16 (a := 3) (by decide)
      have ncs21 := lv_neT cs21 (a := 4) (by decide)
      have ncs24 := lv_neT cs24 (a := 5) (by decide)
      have ncs27 := lv_neT cs27 (a := 6) (by decide)
      have ncs30 := lv_neT cs30 (a := 7) (by decide)
      have ncs33 := lv_neT cs33 (a := 8) (by decide)
      refine gw_tblOut (tgt := 200) (pc := 50) hK dX6_count_50 (by omega) (by decide) ?_
      refine gw_ldc (pc := 200) hK dX6_count_200 kw_k_RX6_37 ?_
      exact gw_ret_i (pc := 202) hK dX6_count_202 (Option.some.inj hf)
    ·
      refine gw_aload_n (pc := 34) hK 0 dX6_count_34 rfl rfl ?_
      refine gf_X6_10 (pc := 35) hK hc.1 dX6_count_35 ?_
      refine gf_X6_38 (pc := 38) hK hc.2.1.1 dX6_count_38 ?_
      refine gw_iload_n (pc := 41) hK 1 dX6_count_41 rfl rfl ?_
      refine gw_bipush (v := 20) (pc := 42) hK dX6_count_42 (by decide) ?_
      refine gw_isub (pc := 44) hK dX6_count_44 ?_
      refine gv_X6_105 (pc := 45) hK hc.2.1.2.1 dX6_count_45 (by decide) (Nat.le_of_ble_eq_true rfl) hf (fun r36 m37 hf => ?_)
      exact gw_ret_i (pc := 48) hK dX6_count_48 (Option.some.inj hf)
  ·
    refine gw_aload_n (pc := 11) hK 0 dX6_count_11 rfl rfl ?_
    refine gf_X6_10 (pc := 12) hK hc.1 dX6_count_12 ?_
    refine gw_iload_n (pc := 15) hK 1 dX6_count_15 rfl rfl ?_
    refine gw_bipush (v := 10) (pc := 16) hK dX6_count_16 (by decide) ?_
    refine gw_isub (pc := 18) hK dX6_count_18 ?_
    refine gv_X6_102 (pc := 19) hK hc.2.1 dX6_count_19 (by decide) (Nat.le_of_ble_eq_true rfl) hf (fun r38 m39 hf => ?_)
    exact gw_ret_i (pc := 22) hK dX6_count_22 (Option.some.inj hf)
theorem gv_L_13 {l : Launch} {cc : ByteArray} {nL fr lo : Nat} {ret : Option FieldType} {Y : gx_Y} {Post : Value → gx_M → Prop} {K : gx_KT} {pc : Nat} {μ : gx_M} {L : List (Nat × Value)} {st : List Value} {α : Type} {rr : α} (h : gx_K l RL cc nL fr lo ret Y Post K) {c : Nat} {p1 : Int32} (hc : gk_bow Y c) (d : decode cc pc = .ok (.invokevirtual 13, 3)) (hR : 4 + 1 ≤ fr ∧ 109 ≤ lo) (hst : (st.map fun v => v.category).sum ≤ 8) {k : Int32 → gx_M → Option α} (hf : gx_b (fn_X6_count (gy_k Y) μ c p1) k = some rr) (kk : ∀ (r : Int32) (m : gx_M), k r m = some rr → K m (pc + 3) L (.int r :: st)) : K μ pc L (.int p1 :: .ref (gy_a Y c) :: st) := by
  obtain ⟨r, m, e, hk⟩ := gx_b_some hf
  exact gw_callV (As := [.int p1]) (q := (r, m)) h hc.1 (by decide) rfl (by refine ⟨rfl, by decide, by decide, (show (parseMethodDescriptor yX6_count.desc).map (fun d => d.parameters.length) = some 1 by decide +kernel)⟩) kw_ml_RL_13 kw_im_X6_count kw_se_X6_count kw_in_RX6 kw_co_X6_count hR hst d (ct_X6_count l Y μ c p1 (r, m) hc e) (kk r m hk)
def fn_X6_crack (kd : Nat → Nat) (μ : gx_M) (c : Nat) (p1 : Int32) (p2 : Int32) : Option (Int32 × gx_M) :=
  gx_b (fn_X0_has kd μ (c + 1 + 1) p1) (fun r1 m2 =>
(if r1 = 0 then
some ((-100001), m2)
else
gx_b (fn_X6_isWithin kd m2 p2 0 1000) (fun r4 m5 =>
(if r4 = 0 then
some ((-100001), m5)
else
gx_b (fn_X1_record kd m5 (c + 51) (c + 1)) (fun _ m8 =>
gx_b (fn_X0_levelIn kd m8 (c + 1 + 1) p1) (fun r9 m10 =>
gx_b (fn_X0_moveCrack kd m10 (c + 1 + 1) p1 p2) (fun _ m12 =>
gx_b (fn_X0_levelIn kd m12 (c + 1 + 1) p1) (fun r13 m14 =>
some ((r9 - r13), m14)))))))))
set_option maxRecDepth 100000 in
set_option maxHeartbeats 4000000 in
theorem ct_X6_crack (l : Launch) (Y : gx_Y) (μ : gx_M) (c : Nat) (p1 : Int32) (p2 : Int32) (rr : Int32 × gx_M) (hc : gk_bow Y c) (hf : fn_X6_crack (gy_k Y) μ c p1 p2 = some rr) : gx_Con l yX6_crack cX6_crack 4 (some .int) 5 125 Y [.ref (gy_a Y c), .int p1, .int p2] μ rr := by
  refine gx_Con_of (L0 := [(0, .ref (gy_a Y c)), (1, .int p1), (2, .int p2)]) (by decide) (Nat.le_of_ble_eq_true rfl) rfl (fun K hK => ?_)
  unfold fn_X6_crack at hf
  refine gw_aload_n (pc := 0) hK 0 dX6_crack_0 rfl rfl ?_
  refine gf_X6_10 (pc := 1) hK hc.1 dX6_crack_1 ?_
  refine gf_X6_38 (pc := 4) hK hc.2.1.1 dX6_crack_4 ?_
  refine gw_iload_n (pc := 7) hK 1 dX6_crack_7 rfl rfl ?_
  refine gv_X6_57 (pc := 8) hK hc.2.1.2.1 dX6_crack_8 (by decide) (Nat.le_of_ble_eq_true rfl) hf (fun r1 m2 hf => ?_)
  refine gw_if_eq (tgt := 25) (pc := 11) hK dX6_crack_11 (by decide) hf (fun cc3 hf => ?_) (fun cc3 hf => ?_)
  ·
    refine gw_ldc (pc := 25) hK dX6_crack_25 kw_k_RX6_37 ?_
    exact gw_ret_i (pc := 27) hK dX6_crack_27 (Option.some.inj hf)
  ·
    refine gw_iload_n (pc := 14) hK 2 dX6_crack_14 rfl rfl ?_
    refine gw_iconst (v := 0) (pc := 15) hK dX6_crack_15 (by decide) ?_
    refine gw_sipush (v := 1000) (pc := 16) hK dX6_crack_16 (by decide) ?_
    refine gv_X6_33 (pc := 19) hK dX6_crack_19 (by decide) (Nat.le_of_ble_eq_true rfl) hf (fun r4 m5 hf => ?_)
    refine gw_if_ne (tgt := 28) (pc := 22) hK dX6_crack_22 (by decide) hf (fun cc6 hf => ?_) (fun cc6 hf => ?_)
    ·
      refine gw_aload_n (pc := 28) hK 0 dX6_crack_28 rfl rfl ?_
      refine gf_X6_22 (pc := 29) hK hc.1 dX6_crack_29 ?_
      refine gw_aload_n (pc := 32) hK 0 dX6_crack_32 rfl rfl ?_
      refine gf_X6_10 (pc := 33) hK hc.1 dX6_crack_33 ?_
      refine gv_X6_49 (pc := 36) hK hc.2.2.2.1 hc.2.1 dX6_crack_36 (by decide) (Nat.le_of_ble_eq_true rfl) hf (fun _ m8 hf => ?_)
      refine gw_aload_n (pc := 39) hK 0 dX6_crack_39 rfl rfl ?_
      refine gf_X6_10 (pc := 40) hK hc.1 dX6_crack_40 ?_
      refine gf_X6_38 (pc := 43) hK hc.2.1.1 dX6_crack_43 ?_
      refine gw_iload_n (pc := 46) hK 1 dX6_crack_46 rfl rfl ?_
      refine gv_X6_65 (pc := 47) hK hc.2.1.2.1 dX6_crack_47 (by decide) (Nat.le_of_ble_eq_true rfl) hf (fun r9 m10 hf => ?_)
      refine gw_istore_n (L' := [(3, .int r9), (0, .ref (gy_a Y c)), (1, .int p1), (2, .int p2)]) (pc := 50) hK dX6_crack_50 rfl (by decide) rfl ?_
      refine gw_aload_n (pc := 51) hK 1 dX6_crack_51 rfl rfl ?_
      refine gf_X6_10 (pc := 52) hK hc.1 dX6_crack_52 ?_
      refine gf_X6_38 (pc := 55) hK hc.2.1.1 dX6_crack_55 ?_
      refine gw_iload_n (pc := 58) hK 2 dX6_crack_58 rfl rfl ?_
      refine gw_iload_n (pc := 59) hK 3 dX6_crack_59 rfl rfl ?_
      refine gv_X6_76 (pc := 60) hK hc.2.1.2.1 dX6_crack_60 (by decide) (Nat.le_of_ble_eq_true rfl) hf (fun _ m12 hf => ?_)
      refine gw_iload_n (pc := 63) hK 0 dX6_crack_63 rfl rfl ?_
      refine gw_aload_n (pc := 64) hK 1 dX6_crack_64 rfl rfl ?_
      refine gf_X6_10 (pc := 65) hK hc.1 dX6_crack_65 ?_
      refine gf_X6_38 (pc := 68) hK hc.2.1.1 dX6_crack_68 ?_
      refine gw_iload_n (pc := 71) hK 2 dX6_crack_71 rfl rfl ?_
      refine gv_X6_65 (pc := 72) hK hc.2.1.2.1 dX6_crack_72 (by decide) (Nat.le_of_ble_eq_true rfl) hf (fun r13 m14 hf => ?_)
      refine gw_isub (pc := 75) hK dX6_crack_75 ?_
      exact gw_ret_i (pc := 76) hK dX6_crack_76 (Option.some.inj hf)
    ·
      refine gw_ldc (pc := 25) hK dX6_crack_25 kw_k_RX6_37 ?_
      exact gw_ret_i (pc := 27) hK dX6_crack_27 (Option.some.inj hf)
theorem gv_L_48 {l : Launch} {cc : ByteArray} {nL fr lo : Nat} {ret : Option FieldType} {Y : gx_Y} {Post : Value → gx_M → Prop} {K : gx_KT} {pc : Nat} {μ : gx_M} {L : List (Nat × Value)} {st : List Value} {α : Type} {rr : α} (h : gx_K l RL cc nL fr lo ret Y Post K) {c : Nat} {p1 : Int32} {p2 : Int32} (hc : gk_bow Y c) (d : decode cc pc = .ok (.invokevirtual 48, 3)) (hR : 5 + 1 ≤ fr ∧ 148 ≤ lo) (hst : (st.map fun v => v.category).sum ≤ 8) {k : Int32 → gx_M → Option α} (hf : gx_b (fn_X6_crack (gy_k Y) μ c p1 p2) k = some rr) (kk : ∀ (r : Int32) (m : gx_M), k r m = some rr → K m (pc + 3) L (.int r :: st)) : K μ pc L (.int p2 :: .int p1 :: .ref (gy_a Y c) :: st) := by
  obtain ⟨r, m, e, hk⟩ := gx_b_some hf
  exact gw_callV (As := [.int p1, .int p2]) (q := (r, m)) h hc.1 (by decide) rfl (by refine ⟨rfl, by decide, by decide, (show (parseMethodDescriptor yX6_crack.desc).map (fun d => d.parameters.length) = some 2 by decide +kernel)⟩) kw_ml_RL_48 kw_im_X6_crack kw_se_X6_crack kw_in_RX6 kw_co_X6_crack hR hst d (ct_X6_crack l Y μ c p1 p2 (r, m) hc e) (kk r m hk)
def fn_X6_tryOut (kd : Nat → Nat) (μ : gx_M) (c : Nat) (p1 : Int32) : Option (Int32 × gx_M) :=
  gx_b (fn_X4_copyFrom kd μ (c + 26) (c + 1)) (fun _ m2 =>
gx_b (fn_X4_advance kd m2 (c + 26) p1) (fun r3 m4 =>
some (0, m4)))
set_option maxRecDepth 100000 in
set_option maxHeartbeats 4000000 in
theorem ct_X6_tryOut (l : Launch) (Y : gx_Y) (μ : gx_M) (c : Nat) (p1 : Int32) (rr : Int32 × gx_M) (hc : gk_bow Y c) (hf : fn_X6_tryOut (gy_k Y) μ c p1 = some rr) : gx_Con l yX6_tryOut cX6_tryOut 2 none 5 117 Y [.ref (gy_a Y c), .int p1] μ rr := by
  refine gx_Con_of (L0 := [(0, .ref (gy_a Y c)), (1, .int p1)]) (by decide) (Nat.le_of_ble_eq_true rfl) rfl (fun K hK => ?_)
  unfold fn_X6_tryOut at hf
  refine gw_aload_n (pc := 0) hK 0 dX6_tryOut_0 rfl rfl ?_
  refine gf_X6_16 (pc := 1) hK hc.1 dX6_tryOut_1 ?_
  refine gw_aload_n (pc := 4) hK 0 dX6_tryOut_4 rfl rfl ?_
  refine gf_X6_10 (pc := 5) hK hc.1 dX6_tryOut_5 ?_
  refine gv_X6_198 (pc := 8) hK hc.2.2.1 hc.2.1 dX6_tryOut_8 (by decide) (Nat.le_of_ble_eq_true rfl) hf (fun _ m2 hf => ?_)
  refine gw_aload_n (pc := 11) hK 0 dX6_tryOut_11 rfl rfl ?_
  refine gf_X6_16 (pc := 12) hK hc.1 dX6_tryOut_12 ?_
  refine gw_iload_n (pc := 15) hK 1 dX6_tryOut_15 rfl rfl ?_
  refine gv_X6_156 (pc := 16) hK hc.2.2.1 dX6_tryOut_16 (by decide) (Nat.le_of_ble_eq_true rfl) hf (fun r3 m4 hf => ?_)
  refine gw_pop (pc := 19) hK dX6_tryOut_19 rfl ?_
  exact gw_ret_v (pc := 20) hK dX6_tryOut_20 (Option.some.inj hf)
theorem gv_X6_169 {l : Launch} {cc : ByteArray} {nL fr lo : Nat} {ret : Option FieldType} {Y : gx_Y} {Post : Value → gx_M → Prop} {K : gx_KT} {pc : Nat} {μ : gx_M} {L : List (Nat × Value)} {st : List Value} {α : Type} {rr : α} (h : gx_K l RX6 cc nL fr lo ret Y Post K) {c : Nat} {p1 : Int32} (hc : gk_bow Y c) (d : decode cc pc = .ok (.invokevirtual 169, 3)) (hR : 5 + 1 ≤ fr ∧ 138 ≤ lo) (hst : (st.map fun v => v.category).sum ≤ 8) {k : Int32 → gx_M → Option α} (hf : gx_b (fn_X6_tryOut (gy_k Y) μ c p1) k = some rr) (kk : ∀ (r : Int32) (m : gx_M), k r m = some rr → K m (pc + 3) L (st)) : K μ pc L (.int p1 :: .ref (gy_a Y c) :: st) := by
  obtain ⟨r, m, e, hk⟩ := gx_b_some hf
  exact gw_callV (As := [.int p1]) (q := (r, m)) h hc.1 (by decide) rfl (by refine ⟨rfl, by decide, by decide, (show (parseMethodDescriptor yX6_tryOut.desc).map (fun d => d.parameters.length) = some 1 by decide +kernel)⟩) kw_ml_RX6_169 kw_im_X6_tryOut kw_se_X6_tryOut kw_in_RX6 kw_co_X6_tryOut hR hst d (ct_X6_tryOut l Y μ c p1 (r, m) hc e) (kk r m hk)
def fn_X6_firstFalse (kd : Nat → Nat) (μ : gx_M) (c : Nat) : Option (Int32 × gx_M) :=
  gx_b (fn_X6_tryOut kd μ c 3600) (fun _ m2 =>
gx_b (fn_X4_time kd m2 (c + 1)) (fun r3 m4 =>
gx_b (fn_X2_firstFalseAfter kd m4 (c + 26 + 12) r3) (fun r5 m6 =>
gx_b (fn_X6_orNotFound kd m6 r5) (fun r7 m8 =>
some (r7, m8)))))
set_option maxRecDepth 100000 in
set_option maxHeartbeats 4000000 in
theorem ct_X6_firstFalse (l : Launch) (Y : gx_Y) (μ : gx_M) (c : Nat) (rr : Int32 × gx_M) (hc : gk_bow Y c) (hf : fn_X6_firstFalse (gy_k Y) μ c = some rr) : gx_Con l yX6_firstFalse cX6_firstFalse 1 (some .int) 6 138 Y [.ref (gy_a Y c)] μ rr := by
  refine gx_Con_of (L0 := [(0, .ref (gy_a Y c))]) (by decide) (Nat.le_of_ble_eq_true rfl) rfl (fun K hK => ?_)
  unfold fn_X6_firstFalse at hf
  refine gw_aload_n (pc := 0) hK 0 dX6_firstFalse_0 rfl rfl ?_
  refine gw_sipush (v := 3600) (pc := 1) hK dX6_firstFalse_1 (by decide) ?_
  refine gv_X6_169 (pc := 4) hK hc dX6_firstFalse_4 (by decide) (Nat.le_of_ble_eq_true rfl) hf (fun _ m2 hf => ?_)
  refine gw_aload_n (pc := 7) hK 0 dX6_firstFalse_7 rfl rfl ?_
  refine gf_X6_16 (pc := 8) hK hc.1 dX6_firstFalse_8 ?_
  refine gf_X6_111 (pc := 11) hK hc.2.2.1.1 dX6_firstFalse_11 ?_
  refine gw_aload_n (pc := 14) hK 0 dX6_firstFalse_14 rfl rfl ?_
  refine gf_X6_10 (pc := 15) hK hc.1 dX6_firstFalse_15 ?_
  refine gv_X6_108 (pc := 18) hK hc.2.1 dX6_firstFalse_18 (by decide) (Nat.le_of_ble_eq_true rfl) hf (fun r3 m4 hf => ?_)
  refine gv_X6_175 (pc := 21) hK hc.2.2.1.2.2.1 dX6_firstFalse_21 (by decide) (Nat.le_of_ble_eq_true rfl) hf (fun r5 m6 hf => ?_)
  refine gv_X6_92 (pc := 24) hK dX6_firstFalse_24 (by decide) (Nat.le_of_ble_eq_true rfl) hf (fun r7 m8 hf => ?_)
  exact gw_ret_i (pc := 27) hK dX6_firstFalse_27 (Option.some.inj hf)
theorem gv_L_61 {l : Launch} {cc : ByteArray} {nL fr lo : Nat} {ret : Option FieldType} {Y : gx_Y} {Post : Value → gx_M → Prop} {K : gx_KT} {pc : Nat} {μ : gx_M} {L : List (Nat × Value)} {st : List Value} {α : Type} {rr : α} (h : gx_K l RL cc nL fr lo ret Y Post K) {c : Nat} (hc : gk_bow Y c) (d : decode cc pc = .ok (.invokevirtual 61, 3)) (hR : 6 + 1 ≤ fr ∧ 158 ≤ lo) (hst : (st.map fun v => v.category).sum ≤ 8) {k : Int32 → gx_M → Option α} (hf : gx_b (fn_X6_firstFalse (gy_k Y) μ c) k = some rr) (kk : ∀ (r : Int32) (m : gx_M), k r m = some rr → K m (pc + 3) L (.int r :: st)) : K μ pc L (.ref (gy_a Y c) :: st) := by
  obtain ⟨r, m, e, hk⟩ := gx_b_some hf
  exact gw_callV (As := []) (q := (r, m)) h hc.1 (by decide) rfl (by refine ⟨rfl, by decide, by decide, (show (parseMethodDescriptor yX6_firstFalse.desc).map (fun d => d.parameters.length) = some 0 by decide +kernel)⟩) kw_ml_RL_61 kw_im_X6_firstFalse kw_se_X6_firstFalse kw_in_RX6 kw_co_X6_firstFalse hR hst d (ct_X6_firstFalse l Y μ c (r, m) hc e) (kk r m hk)
def fn_X6_leastTolerance (kd : Nat → Nat) (μ : gx_M) (c : Nat) : Option (Int32 × gx_M) :=
  gx_b (fn_X6_tryOut kd μ c 3600) (fun _ m2 =>
gx_b (fn_X4_time kd m2 (c + 1)) (fun r3 m4 =>
gx_b (fn_X2_greatestErrorAfter kd m4 (c + 26 + 12) r3) (fun r5 m6 =>
gx_b (fn_X6_orNotFound kd m6 r5) (fun r7 m8 =>
some (r7, m8)))))
set_option maxRecDepth 100000 in
set_option maxHeartbeats 4000000 in
theorem ct_X6_leastTolerance (l : Launch) (Y : gx_Y) (μ : gx_M) (c : Nat) (rr : Int32 × gx_M) (hc : gk_bow Y c) (hf : fn_X6_leastTolerance (gy_k Y) μ c = some rr) : gx_Con l yX6_leastTolerance cX6_leastTolerance 1 (some .int) 6 138 Y [.ref (gy_a Y c)] μ rr := by
  refine gx_Con_of (L0 := [(0, .ref (gy_a Y c))]) (by decide) (Nat.le_of_ble_eq_true rfl) rfl (fun K hK => ?_)
  unfold fn_X6_leastTolerance at hf
  refine gw_aload_n (pc := 0) hK 0 dX6_leastTolerance_0 rfl rfl ?_
  refine gw_sipush (v := 3600) (pc := 1) hK dX6_leastTolerance_1 (by decide) ?_
  refine gv_X6_169 (pc := 4) hK hc dX6_leastTolerance_4 (by decide) (Nat.le_of_ble_eq_true rfl) hf (fun _ m2 hf => ?_)
  refine gw_aload_n (pc := 7) hK 0 dX6_leastTolerance_7 rfl rfl ?_
  refine gf_X6_16 (pc := 8) hK hc.1 dX6_leastTolerance_8 ?_
  refine gf_X6_111 (pc := 11) hK hc.2.2.1.1 dX6_leastTolerance_11 ?_
  refine gw_aload_n (pc := 14) hK 0 dX6_leastTolerance_14 rfl rfl ?_
  refine gf_X6_10 (pc := 15) hK hc.1 dX6_leastTolerance_15 ?_
  refine gv_X6_108 (pc := 18) hK hc.2.1 dX6_leastTolerance_18 (by decide) (Nat.le_of_ble_eq_true rfl) hf (fun r3 m4 hf => ?_)
  refine gv_X6_178 (pc := 21) hK hc.2.2.1.2.2.1 dX6_leastTolerance_21 (by decide) (Nat.le_of_ble_eq_true rfl) hf (fun r5 m6 hf => ?_)
  refine gv_X6_92 (pc := 24) hK dX6_leastTolerance_24 (by decide) (Nat.le_of_ble_eq_true rfl) hf (fun r7 m8 hf => ?_)
  exact gw_ret_i (pc := 27) hK dX6_leastTolerance_27 (Option.some.inj hf)
theorem gv_L_65 {l : Launch} {cc : ByteArray} {nL fr lo : Nat} {ret : Option FieldType} {Y : gx_Y} {Post : Value → gx_M → Prop} {K : gx_KT} {pc : Nat} {μ : gx_M} {L : List (Nat × Value)} {st : List Value} {α : Type} {rr : α} (h : gx_K l RL cc nL fr lo ret Y Post K) {c : Nat} (hc : gk_bow Y c) (d : decode cc pc = .ok (.invokevirtual 65, 3)) (hR : 6 + 1 ≤ fr ∧ 158 ≤ lo) (hst : (st.map fun v => v.category).sum ≤ 8) {k : Int32 → gx_M → Option α} (hf : gx_b (fn_X6_leastTolerance (gy_k Y) μ c) k = some rr) (kk : ∀ (r : Int32) (m : gx_M), k r m = some rr → K m (pc + 3) L (.int r :: st)) : K μ pc L (.ref (gy_a Y c) :: st) := by
  obtain ⟨r, m, e, hk⟩ := gx_b_some hf
  exact gw_callV (As := []) (q := (r, m)) h hc.1 (by decide) rfl (by refine ⟨rfl, by decide, by decide, (show (parseMethodDescriptor yX6_leastTolerance.desc).map (fun d => d.parameters.length) = some 0 by decide +kernel)⟩) kw_ml_RL_65 kw_im_X6_leastTolerance kw_se_X6_leastTolerance kw_in_RX6 kw_co_X6_leastTolerance hR hst d (ct_X6_leastTolerance l Y μ c (r, m) hc e) (kk r m hk)
def fn_X6_levelFor (kd : Nat → Nat) (μ : gx_M) (c : Nat) (p1 : Int32) (p2 : Int32) : Option (Int32 × gx_M) :=
  gx_b (fn_X0_has kd μ (c + 1 + 1) p1) (fun r1 m2 =>
(if r1 = 0 then
some ((-100001), m2)
else
gx_b (fn_X6_isWithin kd m2 p2 (-3000) 6000) (fun r4 m5 =>
(if r4 = 0 then
some ((-100001), m5)
else
gx_b (fn_X0_nearestLevel kd m5 (c + 1 + 1) p1 p2) (fun r7 m8 =>
some (r7, m8))))))
set_option maxRecDepth 100000 in
set_option maxHeartbeats 4000000 in
theorem ct_X6_levelFor (l : Launch) (Y : gx_Y) (μ : gx_M) (c : Nat) (p1 : Int32) (p2 : Int32) (rr : Int32 × gx_M) (hc : gk_bow Y c) (hf : fn_X6_levelFor (gy_k Y) μ c p1 p2 = some rr) : gx_Con l yX6_levelFor cX6_levelFor 3 (some .int) 3 72 Y [.ref (gy_a Y c), .int p1, .int p2] μ rr := by
  refine gx_Con_of (L0 := [(0, .ref (gy_a Y c)), (1, .int p1), (2, .int p2)]) (by decide) (Nat.le_of_ble_eq_true rfl) rfl (fun K hK => ?_)
  unfold fn_X6_levelFor at hf
  refine gw_aload_n (pc := 0) hK 0 dX6_levelFor_0 rfl rfl ?_
  refine gf_X6_10 (pc := 1) hK hc.1 dX6_levelFor_1 ?_
  refine gf_X6_38 (pc := 4) hK hc.2.1.1 dX6_levelFor_4 ?_
  refine gw_iload_n (pc := 7) hK 1 dX6_levelFor_7 rfl rfl ?_
  refine gv_X6_57 (pc := 8) hK hc.2.1.2.1 dX6_levelFor_8 (by decide) (Nat.le_of_ble_eq_true rfl) hf (fun r1 m2 hf => ?_)
  refine gw_if_eq (tgt := 27) (pc := 11) hK dX6_levelFor_11 (by decide) hf (fun cc3 hf => ?_) (fun cc3 hf => ?_)
  ·
    refine gw_ldc (pc := 27) hK dX6_levelFor_27 kw_k_RX6_37 ?_
    exact gw_ret_i (pc := 29) hK dX6_levelFor_29 (Option.some.inj hf)
  ·
    refine gw_iload_n (pc := 14) hK 2 dX6_levelFor_14 rfl rfl ?_
    refine gw_sipush (v := (-3000)) (pc := 15) hK dX6_levelFor_15 (by decide) ?_
    refine gw_sipush (v := 6000) (pc := 18) hK dX6_levelFor_18 (by decide) ?_
    refine gv_X6_33 (pc := 21) hK dX6_levelFor_21 (by decide) (Nat.le_of_ble_eq_true rfl) hf (fun r4 m5 hf => ?_)
    refine gw_if_ne (tgt := 30) (pc := 24) hK dX6_levelFor_24 (by decide) hf (fun cc6 hf => ?_) (fun cc6 hf => ?_)
    ·
      refine gw_aload_n (pc := 30) hK 0 dX6_levelFor_30 rfl rfl ?_
      refine gf_X6_10 (pc := 31) hK hc.1 dX6_levelFor_31 ?_
      refine gf_X6_38 (pc := 34) hK hc.2.1.1 dX6_levelFor_34 ?_
      refine gw_iload_n (pc := 37) hK 1 dX6_levelFor_37 rfl rfl ?_
      refine gw_iload_n (pc := 38) hK 2 dX6_levelFor_38 rfl rfl ?_
      refine gv_X6_86 (pc := 39) hK hc.2.1.2.1 dX6_levelFor_39 (by decide) (Nat.le_of_ble_eq_true rfl) hf (fun r7 m8 hf => ?_)
      exact gw_ret_i (pc := 42) hK dX6_levelFor_42 (Option.some.inj hf)
    ·
      refine gw_ldc (pc := 27) hK dX6_levelFor_27 kw_k_RX6_37 ?_
      exact gw_ret_i (pc := 29) hK dX6_levelFor_29 (Option.some.inj hf)
theorem gv_L_54 {l : Launch} {cc : ByteArray} {nL fr lo : Nat} {ret : Option FieldType} {Y : gx_Y} {Post : Value → gx_M → Prop} {K : gx_KT} {pc : Nat} {μ : gx_M} {L : List (Nat × Value)} {st : List Value} {α : Type} {rr : α} (h : gx_K l RL cc nL fr lo ret Y Post K) {c : Nat} {p1 : Int32} {p2 : Int32} (hc : gk_bow Y c) (d : decode cc pc = .ok (.invokevirtual 54, 3)) (hR : 3 + 1 ≤ fr ∧ 94 ≤ lo) (hst : (st.map fun v => v.category).sum ≤ 8) {k : Int32 → gx_M → Option α} (hf : gx_b (fn_X6_levelFor (gy_k Y) μ c p1 p2) k = some rr) (kk : ∀ (r : Int32) (m : gx_M), k r m = some rr → K m (pc + 3) L (.int r :: st)) : K μ pc L (.int p2 :: .int p1 :: .ref (gy_a Y c) :: st) := by
  obtain ⟨r, m, e, hk⟩ := gx_b_some hf
  exact gw_callV (As := [.int p1, .int p2]) (q := (r, m)) h hc.1 (by decide) rfl (by refine ⟨rfl, by decide, by decide, (show (parseMethodDescriptor yX6_levelFor.desc).map (fun d => d.parameters.length) = some 2 by decide +kernel)⟩) kw_ml_RL_54 kw_im_X6_levelFor kw_se_X6_levelFor kw_in_RX6 kw_co_X6_levelFor hR hst d (ct_X6_levelFor l Y μ c p1 p2 (r, m) hc e) (kk r m hk)
def fn_X6_mark (kd : Nat → Nat) (μ : gx_M) (c : Nat) (p1 : Int32) (p2 : Int32) : Option (Int32 × gx_M) :=
  gx_b (fn_X0_has kd μ (c + 1 + 1) p1) (fun r1 m2 =>
(if r1 = 0 then
some ((-100001), m2)
else
gx_b (fn_X6_isWithin kd m2 p2 0 1000) (fun r4 m5 =>
(if r4 = 0 then
some ((-100001), m5)
else
gx_b (fn_X1_record kd m5 (c + 51) (c + 1)) (fun _ m8 =>
gx_b (fn_X0_moveMark kd m8 (c + 1 + 1) p1 p2) (fun r9 m10 =>
some (r9, m10)))))))
set_option maxRecDepth 100000 in
set_option maxHeartbeats 4000000 in
theorem ct_X6_mark (l : Launch) (Y : gx_Y) (μ : gx_M) (c : Nat) (p1 : Int32) (p2 : Int32) (rr : Int32 × gx_M) (hc : gk_bow Y c) (hf : fn_X6_mark (gy_k Y) μ c p1 p2 = some rr) : gx_Con l yX6_mark cX6_mark 3 (some .int) 5 125 Y [.ref (gy_a Y c), .int p1, .int p2] μ rr := by
  refine gx_Con_of (L0 := [(0, .ref (gy_a Y c)), (1, .int p1), (2, .int p2)]) (by decide) (Nat.le_of_ble_eq_true rfl) rfl (fun K hK => ?_)
  unfold fn_X6_mark at hf
  refine gw_aload_n (pc := 0) hK 0 dX6_mark_0 rfl rfl ?_
  refine gf_X6_10 (pc := 1) hK hc.1 dX6_mark_1 ?_
  refine gf_X6_38 (pc := 4) hK hc.2.1.1 dX6_mark_4 ?_
  refine gw_iload_n (pc := 7) hK 1 dX6_mark_7 rfl rfl ?_
  refine gv_X6_57 (pc := 8) hK hc.2.1.2.1 dX6_mark_8 (by decide) (Nat.le_of_ble_eq_true rfl) hf (fun r1 m2 hf => ?_)
  refine gw_if_eq (tgt := 25) (pc := 11) hK dX6_mark_11 (by decide) hf (fun cc3 hf => ?_) (fun cc3 hf => ?_)
  ·
    refine gw_ldc (pc := 25) hK dX6_mark_25 kw_k_RX6_37 ?_
    exact gw_ret_i (pc := 27) hK dX6_mark_27 (Option.some.inj hf)
  ·
    refine gw_iload_n (pc := 14) hK 2 dX6_mark_14 rfl rfl ?_
    refine gw_iconst (v := 0) (pc := 15) hK dX6_mark_15 (by decide) ?_
    refine gw_sipush (v := 1000) (pc := 16) hK dX6_mark_16 (by decide) ?_
    refine gv_X6_33 (pc := 19) hK dX6_mark_19 (by decide) (Nat.le_of_ble_eq_true rfl) hf (fun r4 m5 hf => ?_)
    refine gw_if_ne (tgt := 28) (pc := 22) hK dX6_mark_22 (by decide) hf (fun cc6 hf => ?_) (fun cc6 hf => ?_)
    ·
      refine gw_aload_n (pc := 28) hK 0 dX6_mark_28 rfl rfl ?_
      refine gf_X6_22 (pc := 29) hK hc.1 dX6_mark_29 ?_
      refine gw_aload_n (pc := 32) hK 0 dX6_mark_32 rfl rfl ?_
      refine gf_X6_10 (pc := 33) hK hc.1 dX6_mark_33 ?_
      refine gv_X6_49 (pc := 36) hK hc.2.2.2.1 hc.2.1 dX6_mark_36 (by decide) (Nat.le_of_ble_eq_true rfl) hf (fun _ m8 hf => ?_)
      refine gw_aload_n (pc := 39) hK 0 dX6_mark_39 rfl rfl ?_
      refine gf_X6_10 (pc := 40) hK hc.1 dX6_mark_40 ?_
      refine gf_X6_38 (pc := 43) hK hc.2.1.1 dX6_mark_43 ?_
      refine gw_iload_n (pc := 46) hK 1 dX6_mark_46 rfl rfl ?_
      refine gw_iload_n (pc := 47) hK 2 dX6_mark_47 rfl rfl ?_
      refine gv_X6_79 (pc := 48) hK hc.2.1.2.1 dX6_mark_48 (by decide) (Nat.le_of_ble_eq_true rfl) hf (fun r9 m10 hf => ?_)
      exact gw_ret_i (pc := 51) hK dX6_mark_51 (Option.some.inj hf)
    ·
      refine gw_ldc (pc := 25) hK dX6_mark_25 kw_k_RX6_37 ?_
      exact gw_ret_i (pc := 27) hK dX6_mark_27 (Option.some.inj hf)
theorem gv_L_51 {l : Launch} {cc : ByteArray} {nL fr lo : Nat} {ret : Option FieldType} {Y : gx_Y} {Post : Value → gx_M → Prop} {K : gx_KT} {pc : Nat} {μ : gx_M} {L : List (Nat × Value)} {st : List Value} {α : Type} {rr : α} (h : gx_K l RL cc nL fr lo ret Y Post K) {c : Nat} {p1 : Int32} {p2 : Int32} (hc : gk_bow Y c) (d : decode cc pc = .ok (.invokevirtual 51, 3)) (hR : 5 + 1 ≤ fr ∧ 147 ≤ lo) (hst : (st.map fun v => v.category).sum ≤ 8) {k : Int32 → gx_M → Option α} (hf : gx_b (fn_X6_mark (gy_k Y) μ c p1 p2) k = some rr) (kk : ∀ (r : Int32) (m : gx_M), k r m = some rr → K m (pc + 3) L (.int r :: st)) : K μ pc L (.int p2 :: .int p1 :: .ref (gy_a Y c) :: st) := by
  obtain ⟨r, m, e, hk⟩ := gx_b_some hf
  exact gw_callV (As := [.int p1, .int p2]) (q := (r, m)) h hc.1 (by decide) rfl (by refine ⟨rfl, by decide, by decide, (show (parseMethodDescriptor yX6_mark.desc).map (fun d => d.parameters.length) = some 2 by decide +kernel)⟩) kw_ml_RL_51 kw_im_X6_mark kw_se_X6_mark kw_in_RX6 kw_co_X6_mark hR hst d (ct_X6_mark l Y μ c p1 p2 (r, m) hc e) (kk r m hk)
def fn_X6_nearest (kd : Nat → Nat) (μ : gx_M) (c : Nat) (p1 : Int32) : Option (Int32 × gx_M) :=
  gx_b (fn_X6_isWithin kd μ p1 0 6000) (fun r1 m2 =>
(if r1 = 0 then
some ((-100001), m2)
else
gx_b (fn_X0_nearestBowl kd m2 (c + 1 + 1) p1) (fun r4 m5 =>
gx_b (fn_X6_orNotFound kd m5 r4) (fun r6 m7 =>
some (r6, m7)))))
set_option maxRecDepth 100000 in
set_option maxHeartbeats 4000000 in
theorem ct_X6_nearest (l : Launch) (Y : gx_Y) (μ : gx_M) (c : Nat) (p1 : Int32) (rr : Int32 × gx_M) (hc : gk_bow Y c) (hf : fn_X6_nearest (gy_k Y) μ c p1 = some rr) : gx_Con l yX6_nearest cX6_nearest 2 (some .int) 3 70 Y [.ref (gy_a Y c), .int p1] μ rr := by
  refine gx_Con_of (L0 := [(0, .ref (gy_a Y c)), (1, .int p1)]) (by decide) (Nat.le_of_ble_eq_true rfl) rfl (fun K hK => ?_)
  unfold fn_X6_nearest at hf
  refine gw_iload_n (pc := 0) hK 1 dX6_nearest_0 rfl rfl ?_
  refine gw_iconst (v := 0) (pc := 1) hK dX6_nearest_1 (by decide) ?_
  refine gw_sipush (v := 6000) (pc := 2) hK dX6_nearest_2 (by decide) ?_
  refine gv_X6_33 (pc := 5) hK dX6_nearest_5 (by decide) (Nat.le_of_ble_eq_true rfl) hf (fun r1 m2 hf => ?_)
  refine gw_if_ne (tgt := 14) (pc := 8) hK dX6_nearest_8 (by decide) hf (fun cc3 hf => ?_) (fun cc3 hf => ?_)
  ·
    refine gw_aload_n (pc := 14) hK 0 dX6_nearest_14 rfl rfl ?_
    refine gf_X6_10 (pc := 15) hK hc.1 dX6_nearest_15 ?_
    refine gf_X6_38 (pc := 18) hK hc.2.1.1 dX6_nearest_18 ?_
    refine gw_iload_n (pc := 21) hK 1 dX6_nearest_21 rfl rfl ?_
    refine gv_X6_89 (pc := 22) hK hc.2.1.2.1 dX6_nearest_22 (by decide) (Nat.le_of_ble_eq_true rfl) hf (fun r4 m5 hf => ?_)
    refine gv_X6_92 (pc := 25) hK dX6_nearest_25 (by decide) (Nat.le_of_ble_eq_true rfl) hf (fun r6 m7 hf => ?_)
    exact gw_ret_i (pc := 28) hK dX6_nearest_28 (Option.some.inj hf)
  ·
    refine gw_ldc (pc := 11) hK dX6_nearest_11 kw_k_RX6_37 ?_
    exact gw_ret_i (pc := 13) hK dX6_nearest_13 (Option.some.inj hf)
theorem gv_L_36 {l : Launch} {cc : ByteArray} {nL fr lo : Nat} {ret : Option FieldType} {Y : gx_Y} {Post : Value → gx_M → Prop} {K : gx_KT} {pc : Nat} {μ : gx_M} {L : List (Nat × Value)} {st : List Value} {α : Type} {rr : α} (h : gx_K l RL cc nL fr lo ret Y Post K) {c : Nat} {p1 : Int32} (hc : gk_bow Y c) (d : decode cc pc = .ok (.invokevirtual 36, 3)) (hR : 3 + 1 ≤ fr ∧ 91 ≤ lo) (hst : (st.map fun v => v.category).sum ≤ 8) {k : Int32 → gx_M → Option α} (hf : gx_b (fn_X6_nearest (gy_k Y) μ c p1) k = some rr) (kk : ∀ (r : Int32) (m : gx_M), k r m = some rr → K m (pc + 3) L (.int r :: st)) : K μ pc L (.int p1 :: .ref (gy_a Y c) :: st) := by
  obtain ⟨r, m, e, hk⟩ := gx_b_some hf
  exact gw_callV (As := [.int p1]) (q := (r, m)) h hc.1 (by decide) rfl (by refine ⟨rfl, by decide, by decide, (show (parseMethodDescriptor yX6_nearest.desc).map (fun d => d.parameters.length) = some 1 by decide +kernel)⟩) kw_ml_RL_36 kw_im_X6_nearest kw_se_X6_nearest kw_in_RX6 kw_co_X6_nearest hR hst d (ct_X6_nearest l Y μ c p1 (r, m) hc e) (kk r m hk)
def fn_X6_pitchAt (kd : Nat → Nat) (μ : gx_M) (c : Nat) (p1 : Int32) (p2 : Int32) : Option (Int32 × gx_M) :=
  gx_b (fn_X0_has kd μ (c + 1 + 1) p1) (fun r1 m2 =>
(if r1 = 0 then
some ((-100001), m2)
else
gx_b (fn_X4_time kd m2 (c + 1)) (fun r4 m5 =>
gx_b (fn_X6_isWithin kd m5 p2 r4 3600) (fun r6 m7 =>
(if r6 = 0 then
some ((-100001), m7)
else
gx_b (fn_X6_tryOut kd m7 c p2) (fun _ m10 =>
gx_b (fn_X0_pitchOf kd m10 (c + 26 + 1) p1) (fun r11 m12 =>
some (r11, m12))))))))
set_option maxRecDepth 100000 in
set_option maxHeartbeats 4000000 in
theorem ct_X6_pitchAt (l : Launch) (Y : gx_Y) (μ : gx_M) (c : Nat) (p1 : Int32) (p2 : Int32) (rr : Int32 × gx_M) (hc : gk_bow Y c) (hf : fn_X6_pitchAt (gy_k Y) μ c p1 p2 = some rr) : gx_Con l yX6_pitchAt cX6_pitchAt 3 (some .int) 6 138 Y [.ref (gy_a Y c), .int p1, .int p2] μ rr := by
  refine gx_Con_of (L0 := [(0, .ref (gy_a Y c)), (1, .int p1), (2, .int p2)]) (by decide) (Nat.le_of_ble_eq_true rfl) rfl (fun K hK => ?_)
  unfold fn_X6_pitchAt at hf
  refine gw_aload_n (pc := 0) hK 0 dX6_pitchAt_0 rfl rfl ?_
  refine gf_X6_10 (pc := 1) hK hc.1 dX6_pitchAt_1 ?_
  refine gf_X6_38 (pc := 4) hK hc.2.1.1 dX6_pitchAt_4 ?_
  refine gw_iload_n (pc := 7) hK 1 dX6_pitchAt_7 rfl rfl ?_
  refine gv_X6_57 (pc := 8) hK hc.2.1.2.1 dX6_pitchAt_8 (by decide) (Nat.le_of_ble_eq_true rfl) hf (fun r1 m2 hf => ?_)
  refine gw_if_eq (tgt := 31) (pc := 11) hK dX6_pitchAt_11 (by decide) hf (fun cc3 hf => ?_) (fun cc3 hf => ?_)
  ·
    refine gw_ldc (pc := 31) hK dX6_pitchAt_31 kw_k_RX6_37 ?_
    exact gw_ret_i (pc := 33) hK dX6_pitchAt_33 (Option.some.inj hf)
  ·
    refine gw_iload_n (pc := 14) hK 2 dX6_pitchAt_14 rfl rfl ?_
    refine gw_aload_n (pc := 15) hK 0 dX6_pitchAt_15 rfl rfl ?_
    refine gf_X6_10 (pc := 16) hK hc.1 dX6_pitchAt_16 ?_
    refine gv_X6_108 (pc := 19) hK hc.2.1 dX6_pitchAt_19 (by decide) (Nat.le_of_ble_eq_true rfl) hf (fun r4 m5 hf => ?_)
    refine gw_sipush (v := 3600) (pc := 22) hK dX6_pitchAt_22 (by decide) ?_
    refine gv_X6_33 (pc := 25) hK dX6_pitchAt_25 (by decide) (Nat.le_of_ble_eq_true rfl) hf (fun r6 m7 hf => ?_)
    refine gw_if_ne (tgt := 34) (pc := 28) hK dX6_pitchAt_28 (by decide) hf (fun cc8 hf => ?_) (fun cc8 hf => ?_)
    ·
      refine gw_aload_n (pc := 34) hK 0 dX6_pitchAt_34 rfl rfl ?_
      refine gw_iload_n (pc := 35) hK 2 dX6_pitchAt_35 rfl rfl ?_
      refine gv_X6_169 (pc := 36) hK hc dX6_pitchAt_36 (by decide) (Nat.le_of_ble_eq_true rfl) hf (fun _ m10 hf => ?_)
      refine gw_aload_n (pc := 39) hK 0 dX6_pitchAt_39 rfl rfl ?_
      refine gf_X6_16 (pc := 40) hK hc.1 dX6_pitchAt_40 ?_
      refine gf_X6_38 (pc := 43) hK hc.2.2.1.1 dX6_pitchAt_43 ?_
      refine gw_iload_n (pc := 46) hK 1 dX6_pitchAt_46 rfl rfl ?_
      refine gv_X6_181 (pc := 47) hK hc.2.2.1.2.1 dX6_pitchAt_47 (by decide) (Nat.le_of_ble_eq_true rfl) hf (fun r11 m12 hf => ?_)
      exact gw_ret_i (pc := 50) hK dX6_pitchAt_50 (Option.some.inj hf)
    ·
      refine gw_ldc (pc := 31) hK dX6_pitchAt_31 kw_k_RX6_37 ?_
      exact gw_ret_i (pc := 33) hK dX6_pitchAt_33 (Option.some.inj hf)
theorem gv_L_57 {l : Launch} {cc : ByteArray} {nL fr lo : Nat} {ret : Option FieldType} {Y : gx_Y} {Post : Value → gx_M → Prop} {K : gx_KT} {pc : Nat} {μ : gx_M} {L : List (Nat × Value)} {st : List Value} {α : Type} {rr : α} (h : gx_K l RL cc nL fr lo ret Y Post K) {c : Nat} {p1 : Int32} {p2 : Int32} (hc : gk_bow Y c) (d : decode cc pc = .ok (.invokevirtual 57, 3)) (hR : 6 + 1 ≤ fr ∧ 160 ≤ lo) (hst : (st.map fun v => v.category).sum ≤ 8) {k : Int32 → gx_M → Option α} (hf : gx_b (fn_X6_pitchAt (gy_k Y) μ c p1 p2) k = some rr) (kk : ∀ (r : Int32) (m : gx_M), k r m = some rr → K m (pc + 3) L (.int r :: st)) : K μ pc L (.int p2 :: .int p1 :: .ref (gy_a Y c) :: st) := by
  obtain ⟨r, m, e, hk⟩ := gx_b_some hf
  exact gw_callV (As := [.int p1, .int p2]) (q := (r, m)) h hc.1 (by decide) rfl (by refine ⟨rfl, by decide, by decide, (show (parseMethodDescriptor yX6_pitchAt.desc).map (fun d => d.parameters.length) = some 2 by decide +kernel)⟩) kw_ml_RL_57 kw_im_X6_pitchAt kw_se_X6_pitchAt kw_in_RX6 kw_co_X6_pitchAt hR hst d (ct_X6_pitchAt l Y μ c p1 p2 (r, m) hc e) (kk r m hk)
def fn_X6_pour (kd : Nat → Nat) (μ : gx_M) (c : Nat) (p1 : Int32) (p2 : Int32) : Option (Int32 × gx_M) :=
  gx_b (fn_X0_has kd μ (c + 1 + 1) p1) (fun r1 m2 =>
(if r1 = 0 then
some ((-100001), m2)
else
gx_b (fn_X6_isWithin kd m2 p2 1 1000) (fun r4 m5 =>
(if r4 = 0 then
some ((-100001), m5)
else
gx_b (fn_X0_levelIn kd m5 (c + 1 + 1) p1) (fun r7 m8 =>
(if (r7 + p2) ≤ 1000 then
gx_b (fn_X1_record kd m8 (c + 51) (c + 1)) (fun _ m11 =>
gx_b (fn_X0_addWater kd m11 (c + 1 + 1) p1 p2) (fun _ m13 =>
gx_b (fn_X0_levelIn kd m13 (c + 1 + 1) p1) (fun r14 m15 =>
some (r14, m15))))
else
some ((-100003), m8)))))))
set_option maxRecDepth 100000 in
set_option maxHeartbeats 4000000 in
theorem ct_X6_pour (l : Launch) (Y : gx_Y) (μ : gx_M) (c : Nat) (p1 : Int32) (p2 : Int32) (rr : Int32 × gx_M) (hc : gk_bow Y c) (hf : fn_X6_pour (gy_k Y) μ c p1 p2 = some rr) : gx_Con l yX6_pour cX6_pour 3 (some .int) 5 125 Y [.ref (gy_a Y c), .int p1, .int p2] μ rr := by
  refine gx_Con_of (L0 := [(0, .ref (gy_a Y c)), (1, .int p1), (2, .int p2)]) (by decide) (Nat.le_of_ble_eq_true rfl) rfl (fun K hK => ?_)
  unfold fn_X6_pour at hf
  refine gw_aload_n (pc := 0) hK 0 dX6_pour_0 rfl rfl ?_
  refine gf_X6_10 (pc := 1) hK hc.1 dX6_pour_1 ?_
  refine gf_X6_38 (pc := 4) hK hc.2.1.1 dX6_pour_4 ?_
  refine gw_iload_n (pc := 7) hK 1 dX6_pour_7 rfl rfl ?_
  refine gv_X6_57 (pc := 8) hK hc.2.1.2.1 dX6_pour_8 (by decide) (Nat.le_of_ble_eq_true rfl) hf (fun r1 m2 hf => ?_)
  refine gw_if_eq (tgt := 25) (pc := 11) hK dX6_pour_11 (by decide) hf (fun cc3 hf => ?_) (fun cc3 hf => ?_)
  ·
    refine gw_ldc (pc := 25) hK dX6_pour_25 kw_k_RX6_37 ?_
    exact gw_ret_i (pc := 27) hK dX6_pour_27 (Option.some.inj hf)
  ·
    refine gw_iload_n (pc := 14) hK 2 dX6_pour_14 rfl rfl ?_
    refine gw_iconst (v := 1) (pc := 15) hK dX6_pour_15 (by decide) ?_
    refine gw_sipush (v := 1000) (pc := 16) hK dX6_pour_16 (by decide) ?_
    refine gv_X6_33 (pc := 19) hK dX6_pour_19 (by decide) (Nat.le_of_ble_eq_true rfl) hf (fun r4 m5 hf => ?_)
    refine gw_if_ne (tgt := 28) (pc := 22) hK dX6_pour_22 (by decide) hf (fun cc6 hf => ?_) (fun cc6 hf => ?_)
    ·
      refine gw_aload_n (pc := 28) hK 0 dX6_pour_28 rfl rfl ?_
      refine gf_X6_10 (pc := 29) hK hc.1 dX6_pour_29 ?_
      refine gf_X6_38 (pc := 32) hK hc.2.1.1 dX6_pour_32 ?_
      refine gw_iload_n (pc := 35) hK 1 dX6_pour_35 rfl rfl ?_
      refine gv_X6_65 (pc := 36) hK hc.2.1.2.1 dX6_pour_36 (by decide) (Nat.le_of_ble_eq_true rfl) hf (fun r7 m8 hf => ?_)
      refine gw_iload_n (pc := 39) hK 2 dX6_pour_39 rfl rfl ?_
      refine gw_iadd (pc := 40) hK dX6_pour_40 ?_
      refine gw_sipush (v := 1000) (pc := 41) hK dX6_pour_41 (by decide) ?_
      refine gw_icmp_le (tgt := 50) (pc := 44) hK dX6_pour_44 (by decide) hf (fun cc9 hf => ?_) (fun cc9 hf => ?_)
      ·
        refine gw_aload_n (pc := 50) hK 0 dX6_pour_50 rfl rfl ?_
        refine gf_X6_22 (pc := 51) hK hc.1 dX6_pour_51 ?_
        refine gw_aload_n (pc := 54) hK 0 dX6_pour_54 rfl rfl ?_
        refine gf_X6_10 (pc := 55) hK hc.1 dX6_pour_55 ?_
        refine gv_X6_49 (pc := 58) hK hc.2.2.2.1 hc.2.1 dX6_pour_58 (by decide) (Nat.le_of_ble_eq_true rfl) hf (fun _ m11 hf => ?_)
        refine gw_aload_n (pc := 61) hK 0 dX6_pour_61 rfl rfl ?_
        refine gf_X6_10 (pc := 62) hK hc.1 dX6_pour_62 ?_
        refine gf_X6_38 (pc := 65) hK hc.2.1.1 dX6_pour_65 ?_
        refine gw_iload_n (pc := 68) hK 1 dX6_pour_68 rfl rfl ?_
        refine gw_iload_n (pc := 69) hK 2 dX6_pour_69 rfl rfl ?_
        refine gv_X6_69 (pc := 70) hK hc.2.1.2.1 dX6_pour_70 (by decide) (Nat.le_of_ble_eq_true rfl) hf (fun _ m13 hf => ?_)
        refine gw_aload_n (pc := 73) hK 0 dX6_pour_73 rfl rfl ?_
        refine gf_X6_10 (pc := 74) hK hc.1 dX6_pour_74 ?_
        refine gf_X6_38 (pc := 77) hK hc.2.1.1 dX6_pour_77 ?_
        refine gw_iload_n (pc := 80) hK 1 dX6_pour_80 rfl rfl ?_
        refine gv_X6_65 (pc := 81) hK hc.2.1.2.1 dX6_pour_81 (by decide) (Nat.le_of_ble_eq_true rfl) hf (fun r14 m15 hf => ?_)
        exact gw_ret_i (pc := 84) hK dX6_pour_84 (Option.some.inj hf)
      ·
        refine gw_ldc (pc := 47) hK dX6_pour_47 kw_k_RX6_48 ?_
        exact gw_ret_i (pc := 49) hK dX6_pour_49 (Option.some.inj hf)
    ·
      refine gw_ldc (pc := 25) hK dX6_pour_25 kw_k_RX6_37 ?_
      exact gw_ret_i (pc := 27) hK dX6_pour_27 (Option.some.inj hf)
theorem gv_L_42 {l : Launch} {cc : ByteArray} {nL fr lo : Nat} {ret : Option FieldType} {Y : gx_Y} {Post : Value → gx_M → Prop} {K : gx_KT} {pc : Nat} {μ : gx_M} {L : List (Nat × Value)} {st : List Value} {α : Type} {rr : α} (h : gx_K l RL cc nL fr lo ret Y Post K) {c : Nat} {p1 : Int32} {p2 : Int32} (hc : gk_bow Y c) (d : decode cc pc = .ok (.invokevirtual 42, 3)) (hR : 5 + 1 ≤ fr ∧ 147 ≤ lo) (hst : (st.map fun v => v.category).sum ≤ 8) {k : Int32 → gx_M → Option α} (hf : gx_b (fn_X6_pour (gy_k Y) μ c p1 p2) k = some rr) (kk : ∀ (r : Int32) (m : gx_M), k r m = some rr → K m (pc + 3) L (.int r :: st)) : K μ pc L (.int p2 :: .int p1 :: .ref (gy_a Y c) :: st) := by
  obtain ⟨r, m, e, hk⟩ := gx_b_some hf
  exact gw_callV (As := [.int p1, .int p2]) (q := (r, m)) h hc.1 (by decide) rfl (by refine ⟨rfl, by decide, by decide, (show (parseMethodDescriptor yX6_pour.desc).map (fun d => d.parameters.length) = some 2 by decide +kernel)⟩) kw_ml_RL_42 kw_im_X6_pour kw_se_X6_pour kw_in_RX6 kw_co_X6_pour hR hst d (ct_X6_pour l Y μ c p1 p2 (r, m) hc e) (kk r m hk)
def fn_X6_remove (kd : Nat → Nat) (μ : gx_M) (c : Nat) (p1 : Int32) : Option (Int32 × gx_M) :=
  gx_b (fn_X0_has kd μ (c + 1 + 1) p1) (fun r1 m2 =>
(if r1 = 0 then
some ((-100001), m2)
else
gx_b (fn_X1_record kd m2 (c + 51) (c + 1)) (fun _ m5 =>
gx_b (fn_X0_takeAway kd m5 (c + 1 + 1) p1) (fun _ m7 =>
gx_b (fn_X0_size kd m7 (c + 1 + 1)) (fun r8 m9 =>
some (r8, m9))))))
set_option maxRecDepth 100000 in
set_option maxHeartbeats 4000000 in
theorem ct_X6_remove (l : Launch) (Y : gx_Y) (μ : gx_M) (c : Nat) (p1 : Int32) (rr : Int32 × gx_M) (hc : gk_bow Y c) (hf : fn_X6_remove (gy_k Y) μ c p1 = some rr) : gx_Con l yX6_remove cX6_remove 2 (some .int) 5 125 Y [.ref (gy_a Y c), .int p1] μ rr := by
  refine gx_Con_of (L0 := [(0, .ref (gy_a Y c)), (1, .int p1)]) (by decide) (Nat.le_of_ble_eq_true rfl) rfl (fun K hK => ?_)
  unfold fn_X6_remove at hf
  refine gw_aload_n (pc := 0) hK 0 dX6_remove_0 rfl rfl ?_
  refine gf_X6_10 (pc := 1) hK hc.1 dX6_remove_1 ?_
  refine gf_X6_38 (pc := 4) hK hc.2.1.1 dX6_remove_4 ?_
  refine gw_iload_n (pc := 7) hK 1 dX6_remove_7 rfl rfl ?_
  refine gv_X6_57 (pc := 8) hK hc.2.1.2.1 dX6_remove_8 (by decide) (Nat.le_of_ble_eq_true rfl) hf (fun r1 m2 hf => ?_)
  refine gw_if_ne (tgt := 17) (pc := 11) hK dX6_remove_11 (by decide) hf (fun cc3 hf => ?_) (fun cc3 hf => ?_)
  ·
    refine gw_aload_n (pc := 17) hK 0 dX6_remove_17 rfl rfl ?_
    refine gf_X6_22 (pc := 18) hK hc.1 dX6_remove_18 ?_
    refine gw_aload_n (pc := 21) hK 0 dX6_remove_21 rfl rfl ?_
    refine gf_X6_10 (pc := 22) hK hc.1 dX6_remove_22 ?_
    refine gv_X6_49 (pc := 25) hK hc.2.2.2.1 hc.2.1 dX6_remove_25 (by decide) (Nat.le_of_ble_eq_true rfl) hf (fun _ m5 hf => ?_)
    refine gw_aload_n (pc := 28) hK 0 dX6_remove_28 rfl rfl ?_
    refine gf_X6_10 (pc := 29) hK hc.1 dX6_remove_29 ?_
    refine gf_X6_38 (pc := 32) hK hc.2.1.1 dX6_remove_32 ?_
    refine gw_iload_n (pc := 35) hK 1 dX6_remove_35 rfl rfl ?_
    refine gv_X6_61 (pc := 36) hK hc.2.1.2.1 dX6_remove_36 (by decide) (Nat.le_of_ble_eq_true rfl) hf (fun _ m7 hf => ?_)
    refine gw_aload_n (pc := 39) hK 0 dX6_remove_39 rfl rfl ?_
    refine gf_X6_10 (pc := 40) hK hc.1 dX6_remove_40 ?_
    refine gf_X6_38 (pc := 43) hK hc.2.1.1 dX6_remove_43 ?_
    refine gv_X6_42 (pc := 46) hK hc.2.1.2.1 dX6_remove_46 (by decide) (Nat.le_of_ble_eq_true rfl) hf (fun r8 m9 hf => ?_)
    exact gw_ret_i (pc := 49) hK dX6_remove_49 (Option.some.inj hf)
  ·
    refine gw_ldc (pc := 14) hK dX6_remove_14 kw_k_RX6_37 ?_
    exact gw_ret_i (pc := 16) hK dX6_remove_16 (Option.some.inj hf)
theorem gv_L_39 {l : Launch} {cc : ByteArray} {nL fr lo : Nat} {ret : Option FieldType} {Y : gx_Y} {Post : Value → gx_M → Prop} {K : gx_KT} {pc : Nat} {μ : gx_M} {L : List (Nat × Value)} {st : List Value} {α : Type} {rr : α} (h : gx_K l RL cc nL fr lo ret Y Post K) {c : Nat} {p1 : Int32} (hc : gk_bow Y c) (d : decode cc pc = .ok (.invokevirtual 39, 3)) (hR : 5 + 1 ≤ fr ∧ 146 ≤ lo) (hst : (st.map fun v => v.category).sum ≤ 8) {k : Int32 → gx_M → Option α} (hf : gx_b (fn_X6_remove (gy_k Y) μ c p1) k = some rr) (kk : ∀ (r : Int32) (m : gx_M), k r m = some rr → K m (pc + 3) L (.int r :: st)) : K μ pc L (.int p1 :: .ref (gy_a Y c) :: st) := by
  obtain ⟨r, m, e, hk⟩ := gx_b_some hf
  exact gw_callV (As := [.int p1]) (q := (r, m)) h hc.1 (by decide) rfl (by refine ⟨rfl, by decide, by decide, (show (parseMethodDescriptor yX6_remove.desc).map (fun d => d.parameters.length) = some 1 by decide +kernel)⟩) kw_ml_RL_39 kw_im_X6_remove kw_se_X6_remove kw_in_RX6 kw_co_X6_remove hR hst d (ct_X6_remove l Y μ c p1 (r, m) hc e) (kk r m hk)
def fn_X6_spill (kd : Nat → Nat) (μ : gx_M) (c : Nat) (p1 : Int32) (p2 : Int32) : Option (Int32 × gx_M) :=
  gx_b (fn_X0_has kd μ (c + 1 + 1) p1) (fun r1 m2 =>
(if r1 = 0 then
some ((-100001), m2)
else
gx_b (fn_X6_isWithin kd m2 p2 1 1000) (fun r4 m5 =>
(if r4 = 0 then
some ((-100001), m5)
else
gx_b (fn_X0_levelIn kd m5 (c + 1 + 1) p1) (fun r7 m8 =>
(if p2 ≤ r7 then
gx_b (fn_X1_record kd m8 (c + 51) (c + 1)) (fun _ m11 =>
gx_b (fn_X0_takeWater kd m11 (c + 1 + 1) p1 p2) (fun _ m13 =>
gx_b (fn_X0_levelIn kd m13 (c + 1 + 1) p1) (fun r14 m15 =>
some (r14, m15))))
else
some ((-100002), m8)))))))
set_option maxRecDepth 100000 in
set_option maxHeartbeats 4000000 in
theorem ct_X6_spill (l : Launch) (Y : gx_Y) (μ : gx_M) (c : Nat) (p1 : Int32) (p2 : Int32) (rr : Int32 × gx_M) (hc : gk_bow Y c) (hf : fn_X6_spill (gy_k Y) μ c p1 p2 = some rr) : gx_Con l yX6_spill cX6_spill 3 (some .int) 5 125 Y [.ref (gy_a Y c), .int p1, .int p2] μ rr := by
  refine gx_Con_of (L0 := [(0, .ref (gy_a Y c)), (1, .int p1), (2, .int p2)]) (by decide) (Nat.le_of_ble_eq_true rfl) rfl (fun K hK => ?_)
  unfold fn_X6_spill at hf
  refine gw_aload_n (pc := 0) hK 0 dX6_spill_0 rfl rfl ?_
  refine gf_X6_10 (pc := 1) hK hc.1 dX6_spill_1 ?_
  refine gf_X6_38 (pc := 4) hK hc.2.1.1 dX6_spill_4 ?_
  refine gw_iload_n (pc := 7) hK 1 dX6_spill_7 rfl rfl ?_
  refine gv_X6_57 (pc := 8) hK hc.2.1.2.1 dX6_spill_8 (by decide) (Nat.le_of_ble_eq_true rfl) hf (fun r1 m2 hf => ?_)
  refine gw_if_eq (tgt := 25) (pc := 11) hK dX6_spill_11 (by decide) hf (fun cc3 hf => ?_) (fun cc3 hf => ?_)
  ·
    refine gw_ldc (pc := 25) hK dX6_spill_25 kw_k_RX6_37 ?_
    exact gw_ret_i (pc := 27) hK dX6_spill_27 (Option.some.inj hf)
  ·
    refine gw_iload_n (pc := 14) hK 2 dX6_spill_14 rfl rfl ?_
    refine gw_iconst (v := 1) (pc := 15) hK dX6_spill_15 (by decide) ?_
    refine gw_sipush (v := 1000) (pc := 16) hK dX6_spill_16 (by decide) ?_
    refine gv_X6_33 (pc := 19) hK dX6_spill_19 (by decide) (Nat.le_of_ble_eq_true rfl) hf (fun r4 m5 hf => ?_)
    refine gw_if_ne (tgt := 28) (pc := 22) hK dX6_spill_22 (by decide) hf (fun cc6 hf => ?_) (fun cc6 hf => ?_)
    ·
      refine gw_aload_n (pc := 28) hK 0 dX6_spill_28 rfl rfl ?_
      refine gf_X6_10 (pc := 29) hK hc.1 dX6_spill_29 ?_
      refine gf_X6_38 (pc := 32) hK hc.2.1.1 dX6_spill_32 ?_
      refine gw_iload_n (pc := 35) hK 1 dX6_spill_35 rfl rfl ?_
      refine gv_X6_65 (pc := 36) hK hc.2.1.2.1 dX6_spill_36 (by decide) (Nat.le_of_ble_eq_true rfl) hf (fun r7 m8 hf => ?_)
      refine gw_iload_n (pc := 39) hK 2 dX6_spill_39 rfl rfl ?_
      refine gw_icmp_ge (tgt := 46) (pc := 40) hK dX6_spill_40 (by decide) hf (fun cc9 hf => ?_) (fun cc9 hf => ?_)
      ·
        refine gw_aload_n (pc := 46) hK 0 dX6_spill_46 rfl rfl ?_
        refine gf_X6_22 (pc := 47) hK hc.1 dX6_spill_47 ?_
        refine gw_aload_n (pc := 50) hK 0 dX6_spill_50 rfl rfl ?_
        refine gf_X6_10 (pc := 51) hK hc.1 dX6_spill_51 ?_
        refine gv_X6_49 (pc := 54) hK hc.2.2.2.1 hc.2.1 dX6_spill_54 (by decide) (Nat.le_of_ble_eq_true rfl) hf (fun _ m11 hf => ?_)
        refine gw_aload_n (pc := 57) hK 0 dX6_spill_57 rfl rfl ?_
        refine gf_X6_10 (pc := 58) hK hc.1 dX6_spill_58 ?_
        refine gf_X6_38 (pc := 61) hK hc.2.1.1 dX6_spill_61 ?_
        refine gw_iload_n (pc := 64) hK 1 dX6_spill_64 rfl rfl ?_
        refine gw_iload_n (pc := 65) hK 2 dX6_spill_65 rfl rfl ?_
        refine gv_X6_73 (pc := 66) hK hc.2.1.2.1 dX6_spill_66 (by decide) (Nat.le_of_ble_eq_true rfl) hf (fun _ m13 hf => ?_)
        refine gw_aload_n (pc := 69) hK 0 dX6_spill_69 rfl rfl ?_
        refine gf_X6_10 (pc := 70) hK hc.1 dX6_spill_70 ?_
        refine gf_X6_38 (pc := 73) hK hc.2.1.1 dX6_spill_73 ?_
        refine gw_iload_n (pc := 76) hK 1 dX6_spill_76 rfl rfl ?_
        refine gv_X6_65 (pc := 77) hK hc.2.1.2.1 dX6_spill_77 (by decide) (Nat.le_of_ble_eq_true rfl) hf (fun r14 m15 hf => ?_)
        exact gw_ret_i (pc := 80) hK dX6_spill_80 (Option.some.inj hf)
      ·
        refine gw_ldc (pc := 43) hK dX6_spill_43 kw_k_RX6_72 ?_
        exact gw_ret_i (pc := 45) hK dX6_spill_45 (Option.some.inj hf)
    ·
      refine gw_ldc (pc := 25) hK dX6_spill_25 kw_k_RX6_37 ?_
      exact gw_ret_i (pc := 27) hK dX6_spill_27 (Option.some.inj hf)
theorem gv_L_45 {l : Launch} {cc : ByteArray} {nL fr lo : Nat} {ret : Option FieldType} {Y : gx_Y} {Post : Value → gx_M → Prop} {K : gx_KT} {pc : Nat} {μ : gx_M} {L : List (Nat × Value)} {st : List Value} {α : Type} {rr : α} (h : gx_K l RL cc nL fr lo ret Y Post K) {c : Nat} {p1 : Int32} {p2 : Int32} (hc : gk_bow Y c) (d : decode cc pc = .ok (.invokevirtual 45, 3)) (hR : 5 + 1 ≤ fr ∧ 147 ≤ lo) (hst : (st.map fun v => v.category).sum ≤ 8) {k : Int32 → gx_M → Option α} (hf : gx_b (fn_X6_spill (gy_k Y) μ c p1 p2) k = some rr) (kk : ∀ (r : Int32) (m : gx_M), k r m = some rr → K m (pc + 3) L (.int r :: st)) : K μ pc L (.int p2 :: .int p1 :: .ref (gy_a Y c) :: st) := by
  obtain ⟨r, m, e, hk⟩ := gx_b_some hf
  exact gw_callV (As := [.int p1, .int p2]) (q := (r, m)) h hc.1 (by decide) rfl (by refine ⟨rfl, by decide, by decide, (show (parseMethodDescriptor yX6_spill.desc).map (fun d => d.parameters.length) = some 2 by decide +kernel)⟩) kw_ml_RL_45 kw_im_X6_spill kw_se_X6_spill kw_in_RX6 kw_co_X6_spill hR hst d (ct_X6_spill l Y μ c p1 p2 (r, m) hc e) (kk r m hk)
def fn_X6_drop (kd : Nat → Nat) (μ : gx_M) (c : Nat) (p1 : Int32) : Option (Int32 × gx_M) :=
  gx_b (fn_X2_has kd μ (c + 1 + 12) p1) (fun r1 m2 =>
(if r1 = 0 then
some ((-100001), m2)
else
gx_b (fn_X1_record kd m2 (c + 51) (c + 1)) (fun _ m5 =>
gx_b (fn_X2_takeAway kd m5 (c + 1 + 12) p1) (fun _ m7 =>
gx_b (fn_X2_size kd m7 (c + 1 + 12)) (fun r8 m9 =>
some (r8, m9))))))
set_option maxRecDepth 100000 in
set_option maxHeartbeats 4000000 in
theorem ct_X6_drop (l : Launch) (Y : gx_Y) (μ : gx_M) (c : Nat) (p1 : Int32) (rr : Int32 × gx_M) (hc : gk_bow Y c) (hf : fn_X6_drop (gy_k Y) μ c p1 = some rr) : gx_Con l yX6_drop cX6_drop 2 (some .int) 5 125 Y [.ref (gy_a Y c), .int p1] μ rr := by
  refine gx_Con_of (L0 := [(0, .ref (gy_a Y c)), (1, .int p1)]) (by decide) (Nat.le_of_ble_eq_true rfl) rfl (fun K hK => ?_)
  unfold fn_X6_drop at hf
  refine gw_aload_n (pc := 0) hK 0 dX6_drop_0 rfl rfl ?_
  refine gf_X6_10 (pc := 1) hK hc.1 dX6_drop_1 ?_
  refine gf_X6_111 (pc := 4) hK hc.2.1.1 dX6_drop_4 ?_
  refine gw_iload_n (pc := 7) hK 1 dX6_drop_7 rfl rfl ?_
  refine gv_X6_144 (pc := 8) hK hc.2.1.2.2.1 dX6_drop_8 (by decide) (Nat.le_of_ble_eq_true rfl) hf (fun r1 m2 hf => ?_)
  refine gw_if_ne (tgt := 17) (pc := 11) hK dX6_drop_11 (by decide) hf (fun cc3 hf => ?_) (fun cc3 hf => ?_)
  ·
    refine gw_aload_n (pc := 17) hK 0 dX6_drop_17 rfl rfl ?_
    refine gf_X6_22 (pc := 18) hK hc.1 dX6_drop_18 ?_
    refine gw_aload_n (pc := 21) hK 0 dX6_drop_21 rfl rfl ?_
    refine gf_X6_10 (pc := 22) hK hc.1 dX6_drop_22 ?_
    refine gv_X6_49 (pc := 25) hK hc.2.2.2.1 hc.2.1 dX6_drop_25 (by decide) (Nat.le_of_ble_eq_true rfl) hf (fun _ m5 hf => ?_)
    refine gw_aload_n (pc := 28) hK 0 dX6_drop_28 rfl rfl ?_
    refine gf_X6_10 (pc := 29) hK hc.1 dX6_drop_29 ?_
    refine gf_X6_111 (pc := 32) hK hc.2.1.1 dX6_drop_32 ?_
    refine gw_iload_n (pc := 35) hK 1 dX6_drop_35 rfl rfl ?_
    refine gv_X6_145 (pc := 36) hK hc.2.1.2.2.1 dX6_drop_36 (by decide) (Nat.le_of_ble_eq_true rfl) hf (fun _ m7 hf => ?_)
    refine gw_aload_n (pc := 39) hK 0 dX6_drop_39 rfl rfl ?_
    refine gf_X6_10 (pc := 40) hK hc.1 dX6_drop_40 ?_
    refine gf_X6_111 (pc := 43) hK hc.2.1.1 dX6_drop_43 ?_
    refine gv_X6_115 (pc := 46) hK hc.2.1.2.2.1 dX6_drop_46 (by decide) (Nat.le_of_ble_eq_true rfl) hf (fun r8 m9 hf => ?_)
    exact gw_ret_i (pc := 49) hK dX6_drop_49 (Option.some.inj hf)
  ·
    refine gw_ldc (pc := 14) hK dX6_drop_14 kw_k_RX6_37 ?_
    exact gw_ret_i (pc := 16) hK dX6_drop_16 (Option.some.inj hf)
theorem gv_L_78 {l : Launch} {cc : ByteArray} {nL fr lo : Nat} {ret : Option FieldType} {Y : gx_Y} {Post : Value → gx_M → Prop} {K : gx_KT} {pc : Nat} {μ : gx_M} {L : List (Nat × Value)} {st : List Value} {α : Type} {rr : α} (h : gx_K l RL cc nL fr lo ret Y Post K) {c : Nat} {p1 : Int32} (hc : gk_bow Y c) (d : decode cc pc = .ok (.invokevirtual 78, 3)) (hR : 5 + 1 ≤ fr ∧ 146 ≤ lo) (hst : (st.map fun v => v.category).sum ≤ 8) {k : Int32 → gx_M → Option α} (hf : gx_b (fn_X6_drop (gy_k Y) μ c p1) k = some rr) (kk : ∀ (r : Int32) (m : gx_M), k r m = some rr → K m (pc + 3) L (.int r :: st)) : K μ pc L (.int p1 :: .ref (gy_a Y c) :: st) := by
  obtain ⟨r, m, e, hk⟩ := gx_b_some hf
  exact gw_callV (As := [.int p1]) (q := (r, m)) h hc.1 (by decide) rfl (by refine ⟨rfl, by decide, by decide, (show (parseMethodDescriptor yX6_drop.desc).map (fun d => d.parameters.length) = some 1 by decide +kernel)⟩) kw_ml_RL_78 kw_im_X6_drop kw_se_X6_drop kw_in_RX6 kw_co_X6_drop hR hst d (ct_X6_drop l Y μ c p1 (r, m) hc e) (kk r m hk)
def fn_X6_note (kd : Nat → Nat) (μ : gx_M) (c : Nat) (p1 : Int32) (p2 : Int32) : Option (Int32 × gx_M) :=
  gx_b (fn_X6_isWithin kd μ p1 0 3600) (fun r1 m2 =>
(if r1 = 0 then
some ((-100001), m2)
else
gx_b (fn_X6_isWithin kd m2 p2 0 6000) (fun r4 m5 =>
(if r4 = 0 then
some ((-100001), m5)
else
gx_b (fn_X2_hasNoteAt kd m5 (c + 1 + 12) p1) (fun r7 m8 =>
(if r7 = 0 then
gx_b (fn_X2_isFull kd m8 (c + 1 + 12)) (fun r10 m11 =>
(if r10 = 0 then
gx_b (fn_X1_record kd m11 (c + 51) (c + 1)) (fun _ m14 =>
gx_b (fn_X2_insert kd m14 (c + 1 + 12) p1 p2) (fun r15 m16 =>
some (r15, m16)))
else
some ((-100003), m11)))
else
some ((-100002), m8)))))))
set_option maxRecDepth 100000 in
set_option maxHeartbeats 4000000 in
theorem ct_X6_note (l : Launch) (Y : gx_Y) (μ : gx_M) (c : Nat) (p1 : Int32) (p2 : Int32) (rr : Int32 × gx_M) (hc : gk_bow Y c) (hf : fn_X6_note (gy_k Y) μ c p1 p2 = some rr) : gx_Con l yX6_note cX6_note 3 (some .int) 5 125 Y [.ref (gy_a Y c), .int p1, .int p2] μ rr := by
  refine gx_Con_of (L0 := [(0, .ref (gy_a Y c)), (1, .int p1), (2, .int p2)]) (by decide) (Nat.le_of_ble_eq_true rfl) rfl (fun K hK => ?_)
  unfold fn_X6_note at hf
  refine gw_iload_n (pc := 0) hK 1 dX6_note_0 rfl rfl ?_
  refine gw_iconst (v := 0) (pc := 1) hK dX6_note_1 (by decide) ?_
  refine gw_sipush (v := 3600) (pc := 2) hK dX6_note_2 (by decide) ?_
  refine gv_X6_33 (pc := 5) hK dX6_note_5 (by decide) (Nat.le_of_ble_eq_true rfl) hf (fun r1 m2 hf => ?_)
  refine gw_if_eq (tgt := 22) (pc := 8) hK dX6_note_8 (by decide) hf (fun cc3 hf => ?_) (fun cc3 hf => ?_)
  ·
    refine gw_ldc (pc := 22) hK dX6_note_22 kw_k_RX6_37 ?_
    exact gw_ret_i (pc := 24) hK dX6_note_24 (Option.some.inj hf)
  ·
    refine gw_iload_n (pc := 11) hK 2 dX6_note_11 rfl rfl ?_
    refine gw_iconst (v := 0) (pc := 12) hK dX6_note_12 (by decide) ?_
    refine gw_sipush (v := 6000) (pc := 13) hK dX6_note_13 (by decide) ?_
    refine gv_X6_33 (pc := 16) hK dX6_note_16 (by decide) (Nat.le_of_ble_eq_true rfl) hf (fun r4 m5 hf => ?_)
    refine gw_if_ne (tgt := 25) (pc := 19) hK dX6_note_19 (by decide) hf (fun cc6 hf => ?_) (fun cc6 hf => ?_)
    ·
      refine gw_aload_n (pc := 25) hK 0 dX6_note_25 rfl rfl ?_
      refine gf_X6_10 (pc := 26) hK hc.1 dX6_note_26 ?_
      refine gf_X6_111 (pc := 29) hK hc.2.1.1 dX6_note_29 ?_
      refine gw_iload_n (pc := 32) hK 1 dX6_note_32 rfl rfl ?_
      refine gv_X6_134 (pc := 33) hK hc.2.1.2.2.1 dX6_note_33 (by decide) (Nat.le_of_ble_eq_true rfl) hf (fun r7 m8 hf => ?_)
      refine gw_if_eq (tgt := 42) (pc := 36) hK dX6_note_36 (by decide) hf (fun cc9 hf => ?_) (fun cc9 hf => ?_)
      ·
        refine gw_aload_n (pc := 42) hK 0 dX6_note_42 rfl rfl ?_
        refine gf_X6_10 (pc := 43) hK hc.1 dX6_note_43 ?_
        refine gf_X6_111 (pc := 46) hK hc.2.1.1 dX6_note_46 ?_
        refine gv_X6_137 (pc := 49) hK hc.2.1.2.2.1 dX6_note_49 (by decide) (Nat.le_of_ble_eq_true rfl) hf (fun r10 m11 hf => ?_)
        refine gw_if_eq (tgt := 58) (pc := 52) hK dX6_note_52 (by decide) hf (fun cc12 hf => ?_) (fun cc12 hf => ?_)
        ·
          refine gw_aload_n (pc := 58) hK 0 dX6_note_58 rfl rfl ?_
          refine gf_X6_22 (pc := 59) hK hc.1 dX6_note_59 ?_
          refine gw_aload_n (pc := 62) hK 0 dX6_note_62 rfl rfl ?_
          refine gf_X6_10 (pc := 63) hK hc.1 dX6_note_63 ?_
          refine gv_X6_49 (pc := 66) hK hc.2.2.2.1 hc.2.1 dX6_note_66 (by decide) (Nat.le_of_ble_eq_true rfl) hf (fun _ m14 hf => ?_)
          refine gw_aload_n (pc := 69) hK 0 dX6_note_69 rfl rfl ?_
          refine gf_X6_10 (pc := 70) hK hc.1 dX6_note_70 ?_
          refine gf_X6_111 (pc := 73) hK hc.2.1.1 dX6_note_73 ?_
          refine gw_iload_n (pc := 76) hK 1 dX6_note_76 rfl rfl ?_
          refine gw_iload_n (pc := 77) hK 2 dX6_note_77 rfl rfl ?_
          refine gv_X6_141 (pc := 78) hK hc.2.1.2.2.1 dX6_note_78 (by decide) (Nat.le_of_ble_eq_true rfl) hf (fun r15 m16 hf => ?_)
          exact gw_ret_i (pc := 81) hK dX6_note_81 (Option.some.inj hf)
        ·
          refine gw_ldc (pc := 55) hK dX6_note_55 kw_k_RX6_48 ?_
          exact gw_ret_i (pc := 57) hK dX6_note_57 (Option.some.inj hf)
      ·
        refine gw_ldc (pc := 39) hK dX6_note_39 kw_k_RX6_72 ?_
        exact gw_ret_i (pc := 41) hK dX6_note_41 (Option.some.inj hf)
    ·
      refine gw_ldc (pc := 22) hK dX6_note_22 kw_k_RX6_37 ?_
      exact gw_ret_i (pc := 24) hK dX6_note_24 (Option.some.inj hf)
theorem gv_L_68 {l : Launch} {cc : ByteArray} {nL fr lo : Nat} {ret : Option FieldType} {Y : gx_Y} {Post : Value → gx_M → Prop} {K : gx_KT} {pc : Nat} {μ : gx_M} {L : List (Nat × Value)} {st : List Value} {α : Type} {rr : α} (h : gx_K l RL cc nL fr lo ret Y Post K) {c : Nat} {p1 : Int32} {p2 : Int32} (hc : gk_bow Y c) (d : decode cc pc = .ok (.invokevirtual 68, 3)) (hR : 5 + 1 ≤ fr ∧ 147 ≤ lo) (hst : (st.map fun v => v.category).sum ≤ 8) {k : Int32 → gx_M → Option α} (hf : gx_b (fn_X6_note (gy_k Y) μ c p1 p2) k = some rr) (kk : ∀ (r : Int32) (m : gx_M), k r m = some rr → K m (pc + 3) L (.int r :: st)) : K μ pc L (.int p2 :: .int p1 :: .ref (gy_a Y c) :: st) := by
  obtain ⟨r, m, e, hk⟩ := gx_b_some hf
  exact gw_callV (As := [.int p1, .int p2]) (q := (r, m)) h hc.1 (by decide) rfl (by refine ⟨rfl, by decide, by decide, (show (parseMethodDescriptor yX6_note.desc).map (fun d => d.parameters.length) = some 2 by decide +kernel)⟩) kw_ml_RL_68 kw_im_X6_note kw_se_X6_note kw_in_RX6 kw_co_X6_note hR hst d (ct_X6_note l Y μ c p1 p2 (r, m) hc e) (kk r m hk)
def fn_X6_noteOf (kd : Nat → Nat) (μ : gx_M) (c : Nat) (p1 : Int32) (p2 : Int32) : Option (Int32 × gx_M) :=
  gx_b (fn_X2_has kd μ (c + 1 + 12) p1) (fun r1 m2 =>
(if r1 = 0 then
some ((-100001), m2)
else
gx_b (fn_X4_setting kd m2 (c + 1) 1) (fun r4 m5 =>
gx_b (fn_X2_property kd m5 (c + 1 + 12) p1 p2 r4) (fun r6 m7 =>
some (r6, m7)))))
set_option maxRecDepth 100000 in
set_option maxHeartbeats 4000000 in
theorem ct_X6_noteOf (l : Launch) (Y : gx_Y) (μ : gx_M) (c : Nat) (p1 : Int32) (p2 : Int32) (rr : Int32 × gx_M) (hc : gk_bow Y c) (hf : fn_X6_noteOf (gy_k Y) μ c p1 p2 = some rr) : gx_Con l yX6_noteOf cX6_noteOf 3 (some .int) 4 90 Y [.ref (gy_a Y c), .int p1, .int p2] μ rr := by
  refine gx_Con_of (L0 := [(0, .ref (gy_a Y c)), (1, .int p1), (2, .int p2)]) (by decide) (Nat.le_of_ble_eq_true rfl) rfl (fun K hK => ?_)
  unfold fn_X6_noteOf at hf
  refine gw_aload_n (pc := 0) hK 0 dX6_noteOf_0 rfl rfl ?_
  refine gf_X6_10 (pc := 1) hK hc.1 dX6_noteOf_1 ?_
  refine gf_X6_111 (pc := 4) hK hc.2.1.1 dX6_noteOf_4 ?_
  refine gw_iload_n (pc := 7) hK 1 dX6_noteOf_7 rfl rfl ?_
  refine gv_X6_144 (pc := 8) hK hc.2.1.2.2.1 dX6_noteOf_8 (by decide) (Nat.le_of_ble_eq_true rfl) hf (fun r1 m2 hf => ?_)
  refine gw_if_ne (tgt := 17) (pc := 11) hK dX6_noteOf_11 (by decide) hf (fun cc3 hf => ?_) (fun cc3 hf => ?_)
  ·
    refine gw_aload_n (pc := 17) hK 0 dX6_noteOf_17 rfl rfl ?_
    refine gf_X6_10 (pc := 18) hK hc.1 dX6_noteOf_18 ?_
    refine gf_X6_111 (pc := 21) hK hc.2.1.1 dX6_noteOf_21 ?_
    refine gw_iload_n (pc := 24) hK 1 dX6_noteOf_24 rfl rfl ?_
    refine gw_iload_n (pc := 25) hK 2 dX6_noteOf_25 rfl rfl ?_
    refine gw_aload_n (pc := 26) hK 0 dX6_noteOf_26 rfl rfl ?_
    refine gf_X6_10 (pc := 27) hK hc.1 dX6_noteOf_27 ?_
    refine gw_iconst (v := 1) (pc := 30) hK dX6_noteOf_30 (by decide) ?_
    refine gv_X6_102 (pc := 31) hK hc.2.1 dX6_noteOf_31 (by decide) (Nat.le_of_ble_eq_true rfl) hf (fun r4 m5 hf => ?_)
    refine gv_X6_153 (pc := 34) hK hc.2.1.2.2.1 dX6_noteOf_34 (by decide) (Nat.le_of_ble_eq_true rfl) hf (fun r6 m7 hf => ?_)
    exact gw_ret_i (pc := 37) hK dX6_noteOf_37 (Option.some.inj hf)
  ·
    refine gw_ldc (pc := 14) hK dX6_noteOf_14 kw_k_RX6_37 ?_
    exact gw_ret_i (pc := 16) hK dX6_noteOf_16 (Option.some.inj hf)
theorem gv_L_29 {l : Launch} {cc : ByteArray} {nL fr lo : Nat} {ret : Option FieldType} {Y : gx_Y} {Post : Value → gx_M → Prop} {K : gx_KT} {pc : Nat} {μ : gx_M} {L : List (Nat × Value)} {st : List Value} {α : Type} {rr : α} (h : gx_K l RL cc nL fr lo ret Y Post K) {c : Nat} {p1 : Int32} {p2 : Int32} (hc : gk_bow Y c) (d : decode cc pc = .ok (.invokevirtual 29, 3)) (hR : 4 + 1 ≤ fr ∧ 112 ≤ lo) (hst : (st.map fun v => v.category).sum ≤ 8) {k : Int32 → gx_M → Option α} (hf : gx_b (fn_X6_noteOf (gy_k Y) μ c p1 p2) k = some rr) (kk : ∀ (r : Int32) (m : gx_M), k r m = some rr → K m (pc + 3) L (.int r :: st)) : K μ pc L (.int p2 :: .int p1 :: .ref (gy_a Y c) :: st) := by
  obtain ⟨r, m, e, hk⟩ := gx_b_some hf
  exact gw_callV (As := [.int p1, .int p2]) (q := (r, m)) h hc.1 (by decide) rfl (by refine ⟨rfl, by decide, by decide, (show (parseMethodDescriptor yX6_noteOf.desc).map (fun d => d.parameters.length) = some 2 by decide +kernel)⟩) kw_ml_RL_29 kw_im_X6_noteOf kw_se_X6_noteOf kw_in_RX6 kw_co_X6_noteOf hR hst d (ct_X6_noteOf l Y μ c p1 p2 (r, m) hc e) (kk r m hk)
def fn_X6_transpose (kd : Nat → Nat) (μ : gx_M) (c : Nat) (p1 : Int32) (p2 : Int32) (p3 : Int32) : Option (Int32 × gx_M) :=
  gx_b (fn_X2_has kd μ (c + 1 + 12) p1) (fun r1 m2 =>
(if r1 = 0 then
some ((-100001), m2)
else
gx_b (fn_X2_has kd m2 (c + 1 + 12) p2) (fun r4 m5 =>
(if r4 = 0 then
some ((-100001), m5)
else
(if p2 < p1 then
some ((-100001), m5)
else
gx_b (fn_X6_isWithin kd m5 p3 (-6000) 6000) (fun r8 m9 =>
(if r8 = 0 then
some ((-100001), m9)
else
(if p3 = 0 then
some ((-100001), m9)
else
gx_b (fn_X2_canShift kd m9 (c + 1 + 12) p1 p2 p3) (fun r12 m13 =>
(if r12 = 0 then
some ((-100002), m13)
else
gx_b (fn_X1_record kd m13 (c + 51) (c + 1)) (fun _ m16 =>
gx_b (fn_X2_shift kd m16 (c + 1 + 12) p1 p2 p3) (fun _ m18 =>
some (((p2 - p1) + 1), m18)))))))))))))
set_option maxRecDepth 100000 in
set_option maxHeartbeats 4000000 in
theorem ct_X6_transpose (l : Launch) (Y : gx_Y) (μ : gx_M) (c : Nat) (p1 : Int32) (p2 : Int32) (p3 : Int32) (rr : Int32 × gx_M) (hc : gk_bow Y c) (hf : fn_X6_transpose (gy_k Y) μ c p1 p2 p3 = some rr) : gx_Con l yX6_transpose cX6_transpose 4 (some .int) 5 125 Y [.ref (gy_a Y c), .int p1, .int p2, .int p3] μ rr := by
  refine gx_Con_of (L0 := [(0, .ref (gy_a Y c)), (1, .int p1), (2, .int p2), (3, .int p3)]) (by decide) (Nat.le_of_ble_eq_true rfl) rfl (fun K hK => ?_)
  unfold fn_X6_transpose at hf
  refine gw_aload_n (pc := 0) hK 0 dX6_transpose_0 rfl rfl ?_
  refine gf_X6_10 (pc := 1) hK hc.1 dX6_transpose_1 ?_
  refine gf_X6_111 (pc := 4) hK hc.2.1.1 dX6_transpose_4 ?_
  refine gw_iload_n (pc := 7) hK 1 dX6_transpose_7 rfl rfl ?_
  refine gv_X6_144 (pc := 8) hK hc.2.1.2.2.1 dX6_transpose_8 (by decide) (Nat.le_of_ble_eq_true rfl) hf (fun r1 m2 hf => ?_)
  refine gw_if_eq (tgt := 50) (pc := 11) hK dX6_transpose_11 (by decide) hf (fun cc3 hf => ?_) (fun cc3 hf => ?_)
  ·
    refine gw_ldc (pc := 50) hK dX6_transpose_50 kw_k_RX6_37 ?_
    exact gw_ret_i (pc := 52) hK dX6_transpose_52 (Option.some.inj hf)
  ·
    refine gw_aload_n (pc := 14) hK 0 dX6_transpose_14 rfl rfl ?_
    refine gf_X6_10 (pc := 15) hK hc.1 dX6_transpose_15 ?_
    refine gf_X6_111 (pc := 18) hK hc.2.1.1 dX6_transpose_18 ?_
    refine gw_iload_n (pc := 21) hK 2 dX6_transpose_21 rfl rfl ?_
    refine gv_X6_144 (pc := 22) hK hc.2.1.2.2.1 dX6_transpose_22 (by decide) (Nat.le_of_ble_eq_true rfl) hf (fun r4 m5 hf => ?_)
    refine gw_if_eq (tgt := 50) (pc := 25) hK dX6_transpose_25 (by decide) hf (fun cc6 hf => ?_) (fun cc6 hf => ?_)
    ·
      refine gw_ldc (pc := 50) hK dX6_transpose_50 kw_k_RX6_37 ?_
      exact gw_ret_i (pc := 52) hK dX6_transpose_52 (Option.some.inj hf)
    ·
      refine gw_iload_n (pc := 28) hK 2 dX6_transpose_28 rfl rfl ?_
      refine gw_iload_n (pc := 29) hK 1 dX6_transpose_29 rfl rfl ?_
      refine gw_icmp_lt (tgt := 50) (pc := 30) hK dX6_transpose_30 (by decide) hf (fun cc7 hf => ?_) (fun cc7 hf => ?_)
      ·
        refine gw_ldc (pc := 50) hK dX6_transpose_50 kw_k_RX6_37 ?_
        exact gw_ret_i (pc := 52) hK dX6_transpose_52 (Option.some.inj hf)
      ·
        refine gw_iload_n (pc := 33) hK 3 dX6_transpose_33 rfl rfl ?_
        refine gw_sipush (v := (-6000)) (pc := 34) hK dX6_transpose_34 (by decide) ?_
        refine gw_sipush (v := 6000) (pc := 37) hK dX6_transpose_37 (by decide) ?_
        refine gv_X6_33 (pc := 40) hK dX6_transpose_40 (by decide) (Nat.le_of_ble_eq_true rfl) hf (fun r8 m9 hf => ?_)
        refine gw_if_eq (tgt := 50) (pc := 43) hK dX6_transpose_43 (by decide) hf (fun cc10 hf => ?_) (fun cc10 hf => ?_)
        ·
          refine gw_ldc (pc := 50) hK dX6_transpose_50 kw_k_RX6_37 ?_
          exact gw_ret_i (pc := 52) hK dX6_transpose_52 (Option.some.inj hf)
        ·
          refine gw_iload_n (pc := 46) hK 3 dX6_transpose_46 rfl rfl ?_
          refine gw_if_ne (tgt := 53) (pc := 47) hK dX6_transpose_47 (by decide) hf (fun cc11 hf => ?_) (fun cc11 hf => ?_)
          ·
            refine gw_aload_n (pc := 53) hK 0 dX6_transpose_53 rfl rfl ?_
            refine gf_X6_10 (pc := 54) hK hc.1 dX6_transpose_54 ?_
            refine gf_X6_111 (pc := 57) hK hc.2.1.1 dX6_transpose_57 ?_
            refine gw_iload_n (pc := 60) hK 1 dX6_transpose_60 rfl rfl ?_
            refine gw_iload_n (pc := 61) hK 2 dX6_transpose_61 rfl rfl ?_
            refine gw_iload_n (pc := 62) hK 3 dX6_transpose_62 rfl rfl ?_
            refine gv_X6_146 (pc := 63) hK hc.2.1.2.2.1 dX6_transpose_63 (by decide) (Nat.le_of_ble_eq_true rfl) hf (fun r12 m13 hf => ?_)
            refine gw_if_ne (tgt := 72) (pc := 66) hK dX6_transpose_66 (by decide) hf (fun cc14 hf => ?_) (fun cc14 hf => ?_)
            ·
              refine gw_aload_n (pc := 72) hK 0 dX6_transpose_72 rfl rfl ?_
              refine gf_X6_22 (pc := 73) hK hc.1 dX6_transpose_73 ?_
              refine gw_aload_n (pc := 76) hK 0 dX6_transpose_76 rfl rfl ?_
              refine gf_X6_10 (pc := 77) hK hc.1 dX6_transpose_77 ?_
              refine gv_X6_49 (pc := 80) hK hc.2.2.2.1 hc.2.1 dX6_transpose_80 (by decide) (Nat.le_of_ble_eq_true rfl) hf (fun _ m16 hf => ?_)
              refine gw_aload_n (pc := 83) hK 0 dX6_transpose_83 rfl rfl ?_
              refine gf_X6_10 (pc := 84) hK hc.1 dX6_transpose_84 ?_
              refine gf_X6_111 (pc := 87) hK hc.2.1.1 dX6_transpose_87 ?_
              refine gw_iload_n (pc := 90) hK 1 dX6_transpose_90 rfl rfl ?_
              refine gw_iload_n (pc := 91) hK 2 dX6_transpose_91 rfl rfl ?_
              refine gw_iload_n (pc := 92) hK 3 dX6_transpose_92 rfl rfl ?_
              refine gv_X6_149 (pc := 93) hK hc.2.1.2.2.1 dX6_transpose_93 (by decide) (Nat.le_of_ble_eq_true rfl) hf (fun _ m18 hf => ?_)
              refine gw_iload_n (pc := 96) hK 2 dX6_transpose_96 rfl rfl ?_
              refine gw_iload_n (pc := 97) hK 1 dX6_transpose_97 rfl rfl ?_
              refine gw_isub (pc := 98) hK dX6_transpose_98 ?_
              refine gw_iconst (v := 1) (pc := 99) hK dX6_transpose_99 (by decide) ?_
              refine gw_iadd (pc := 100) hK dX6_transpose_100 ?_
              exact gw_ret_i (pc := 101) hK dX6_transpose_101 (Option.some.inj hf)
            ·
              refine gw_ldc (pc := 69) hK dX6_transpose_69 kw_k_RX6_72 ?_
              exact gw_ret_i (pc := 71) hK dX6_transpose_71 (Option.some.inj hf)
          ·
            refine gw_ldc (pc := 50) hK dX6_transpose_50 kw_k_RX6_37 ?_
            exact gw_ret_i (pc := 52) hK dX6_transpose_52 (Option.some.inj hf)
theorem gv_L_71 {l : Launch} {cc : ByteArray} {nL fr lo : Nat} {ret : Option FieldType} {Y : gx_Y} {Post : Value → gx_M → Prop} {K : gx_KT} {pc : Nat} {μ : gx_M} {L : List (Nat × Value)} {st : List Value} {α : Type} {rr : α} (h : gx_K l RL cc nL fr lo ret Y Post K) {c : Nat} {p1 : Int32} {p2 : Int32} {p3 : Int32} (hc : gk_bow Y c) (d : decode cc pc = .ok (.invokevirtual 71, 3)) (hR : 5 + 1 ≤ fr ∧ 148 ≤ lo) (hst : (st.map fun v => v.category).sum ≤ 8) {k : Int32 → gx_M → Option α} (hf : gx_b (fn_X6_transpose (gy_k Y) μ c p1 p2 p3) k = some rr) (kk : ∀ (r : Int32) (m : gx_M), k r m = some rr → K m (pc + 3) L (.int r :: st)) : K μ pc L (.int p3 :: .int p2 :: .int p1 :: .ref (gy_a Y c) :: st) := by
  obtain ⟨r, m, e, hk⟩ := gx_b_some hf
  exact gw_callV (As := [.int p1, .int p2, .int p3]) (q := (r, m)) h hc.1 (by decide) rfl (by refine ⟨rfl, by decide, by decide, (show (parseMethodDescriptor yX6_transpose.desc).map (fun d => d.parameters.length) = some 3 by decide +kernel)⟩) kw_ml_RL_71 kw_im_X6_transpose kw_se_X6_transpose kw_in_RX6 kw_co_X6_transpose hR hst d (ct_X6_transpose l Y μ c p1 p2 p3 (r, m) hc e) (kk r m hk)
def fn_X6_worst (kd : Nat → Nat) (μ : gx_M) (c : Nat) (p1 : Int32) : Option (Int32 × gx_M) :=
  (if 0 ≤ p1 then
gx_b (fn_X2_noteAtRank kd μ (c + 1 + 12) p1) (fun r2 m3 =>
gx_b (fn_X6_orNotFound kd m3 r2) (fun r4 m5 =>
some (r4, m5)))
else
some ((-100001), μ))
set_option maxRecDepth 100000 in
set_option maxHeartbeats 4000000 in
theorem ct_X6_worst (l : Launch) (Y : gx_Y) (μ : gx_M) (c : Nat) (p1 : Int32) (rr : Int32 × gx_M) (hc : gk_bow Y c) (hf : fn_X6_worst (gy_k Y) μ c p1 = some rr) : gx_Con l yX6_worst cX6_worst 2 (some .int) 4 89 Y [.ref (gy_a Y c), .int p1] μ rr := by
  refine gx_Con_of (L0 := [(0, .ref (gy_a Y c)), (1, .int p1)]) (by decide) (Nat.le_of_ble_eq_true rfl) rfl (fun K hK => ?_)
  unfold fn_X6_worst at hf
  refine gw_iload_n (pc := 0) hK 1 dX6_worst_0 rfl rfl ?_
  refine gw_if_ge (tgt := 7) (pc := 1) hK dX6_worst_1 (by decide) hf (fun cc1 hf => ?_) (fun cc1 hf => ?_)
  ·
    refine gw_aload_n (pc := 7) hK 0 dX6_worst_7 rfl rfl ?_
    refine gf_X6_10 (pc := 8) hK hc.1 dX6_worst_8 ?_
    refine gf_X6_111 (pc := 11) hK hc.2.1.1 dX6_worst_11 ?_
    refine gw_iload_n (pc := 14) hK 1 dX6_worst_14 rfl rfl ?_
    refine gv_X6_162 (pc := 15) hK hc.2.1.2.2.1 dX6_worst_15 (by decide) (Nat.le_of_ble_eq_true rfl) hf (fun r2 m3 hf => ?_)
    refine gv_X6_92 (pc := 18) hK dX6_worst_18 (by decide) (Nat.le_of_ble_eq_true rfl) hf (fun r4 m5 hf => ?_)
    exact gw_ret_i (pc := 21) hK dX6_worst_21 (Option.some.inj hf)
  ·
    refine gw_ldc (pc := 4) hK dX6_worst_4 kw_k_RX6_37 ?_
    exact gw_ret_i (pc := 6) hK dX6_worst_6 (Option.some.inj hf)
theorem gv_L_75 {l : Launch} {cc : ByteArray} {nL fr lo : Nat} {ret : Option FieldType} {Y : gx_Y} {Post : Value → gx_M → Prop} {K : gx_KT} {pc : Nat} {μ : gx_M} {L : List (Nat × Value)} {st : List Value} {α : Type} {rr : α} (h : gx_K l RL cc nL fr lo ret Y Post K) {c : Nat} {p1 : Int32} (hc : gk_bow Y c) (d : decode cc pc = .ok (.invokevirtual 75, 3)) (hR : 4 + 1 ≤ fr ∧ 110 ≤ lo) (hst : (st.map fun v => v.category).sum ≤ 8) {k : Int32 → gx_M → Option α} (hf : gx_b (fn_X6_worst (gy_k Y) μ c p1) k = some rr) (kk : ∀ (r : Int32) (m : gx_M), k r m = some rr → K m (pc + 3) L (.int r :: st)) : K μ pc L (.int p1 :: .ref (gy_a Y c) :: st) := by
  obtain ⟨r, m, e, hk⟩ := gx_b_some hf
  exact gw_callV (As := [.int p1]) (q := (r, m)) h hc.1 (by decide) rfl (by refine ⟨rfl, by decide, by decide, (show (parseMethodDescriptor yX6_worst.desc).map (fun d => d.parameters.length) = some 1 by decide +kernel)⟩) kw_ml_RL_75 kw_im_X6_worst kw_se_X6_worst kw_in_RX6 kw_co_X6_worst hR hst d (ct_X6_worst l Y μ c p1 (r, m) hc e) (kk r m hk)
def fn_X6_wouldBe (kd : Nat → Nat) (μ : gx_M) (c : Nat) (p1 : Int32) : Option (Int32 × gx_M) :=
  gx_b (fn_X2_has kd μ (c + 1 + 12) p1) (fun r1 m2 =>
(if r1 = 0 then
some ((-100001), m2)
else
gx_b (fn_X2_timeOf kd m2 (c + 1 + 12) p1) (fun r4 m5 =>
gx_b (fn_X4_time kd m5 (c + 1)) (fun r6 m7 =>
(if r6 < r4 then
gx_b (fn_X0_size kd m7 (c + 1 + 1)) (fun r9 m10 =>
(if r9 = 0 then
some ((-100004), m10)
else
gx_b (fn_X6_tryOut kd m10 c r4) (fun _ m13 =>
gx_b (fn_X2_errorOf kd m13 (c + 26 + 12) p1) (fun r14 m15 =>
some (r14, m15)))))
else
some ((-100002), m7))))))
set_option maxRecDepth 100000 in
set_option maxHeartbeats 4000000 in
theorem ct_X6_wouldBe (l : Launch) (Y : gx_Y) (μ : gx_M) (c : Nat) (p1 : Int32) (rr : Int32 × gx_M) (hc : gk_bow Y c) (hf : fn_X6_wouldBe (gy_k Y) μ c p1 = some rr) : gx_Con l yX6_wouldBe cX6_wouldBe 3 (some .int) 6 138 Y [.ref (gy_a Y c), .int p1] μ rr := by
  refine gx_Con_of (L0 := [(0, .ref (gy_a Y c)), (1, .int p1)]) (by decide) (Nat.le_of_ble_eq_true rfl) rfl (fun K hK => ?_)
  unfold fn_X6_wouldBe at hf
  refine gw_aload_n (pc := 0) hK 0 dX6_wouldBe_0 rfl rfl ?_
  refine gf_X6_10 (pc := 1) hK hc.1 dX6_wouldBe_1 ?_
  refine gf_X6_111 (pc := 4) hK hc.2.1.1 dX6_wouldBe_4 ?_
  refine gw_iload_n (pc := 7) hK 1 dX6_wouldBe_7 rfl rfl ?_
  refine gv_X6_144 (pc := 8) hK hc.2.1.2.2.1 dX6_wouldBe_8 (by decide) (Nat.le_of_ble_eq_true rfl) hf (fun r1 m2 hf => ?_)
  refine gw_if_ne (tgt := 17) (pc := 11) hK dX6_wouldBe_11 (by decide) hf (fun cc3 hf => ?_) (fun cc3 hf => ?_)
  ·
    refine gw_aload_n (pc := 17) hK 0 dX6_wouldBe_17 rfl rfl ?_
    refine gf_X6_10 (pc := 18) hK hc.1 dX6_wouldBe_18 ?_
    refine gf_X6_111 (pc := 21) hK hc.2.1.1 dX6_wouldBe_21 ?_
    refine gw_iload_n (pc := 24) hK 1 dX6_wouldBe_24 rfl rfl ?_
    refine gv_X6_165 (pc := 25) hK hc.2.1.2.2.1 dX6_wouldBe_25 (by decide) (Nat.le_of_ble_eq_true rfl) hf (fun r4 m5 hf => ?_)
    refine gw_istore_n (L' := [(2, .int r4), (0, .ref (gy_a Y c)), (1, .int p1)]) (pc := 28) hK dX6_wouldBe_28 rfl (by decide) rfl ?_
    refine gw_iload_n (pc := 29) hK 0 dX6_wouldBe_29 rfl rfl ?_
    refine gw_aload_n (pc := 30) hK 1 dX6_wouldBe_30 rfl rfl ?_
    refine gf_X6_10 (pc := 31) hK hc.1 dX6_wouldBe_31 ?_
    refine gv_X6_108 (pc := 34) hK hc.2.1 dX6_wouldBe_34 (by decide) (Nat.le_of_ble_eq_true rfl) hf (fun r6 m7 hf => ?_)
    refine gw_icmp_gt (tgt := 43) (pc := 37) hK dX6_wouldBe_37 (by decide) hf (fun cc8 hf => ?_) (fun cc8 hf => ?_)
    ·
      refine gw_aload_n (pc := 43) hK 1 dX6_wouldBe_43 rfl rfl ?_
      refine gf_X6_10 (pc := 44) hK hc.1 dX6_wouldBe_44 ?_
      refine gf_X6_38 (pc := 47) hK hc.2.1.1 dX6_wouldBe_47 ?_
      refine gv_X6_42 (pc := 50) hK hc.2.1.2.1 dX6_wouldBe_50 (by decide) (Nat.le_of_ble_eq_true rfl) hf (fun r9 m10 hf => ?_)
      refine gw_if_ne (tgt := 59) (pc := 53) hK dX6_wouldBe_53 (by decide) hf (fun cc11 hf => ?_) (fun cc11 hf => ?_)
      ·
        refine gw_aload_n (pc := 59) hK 1 dX6_wouldBe_59 rfl rfl ?_
        refine gw_iload_n (pc := 60) hK 0 dX6_wouldBe_60 rfl rfl ?_
        refine gv_X6_169 (pc := 61) hK hc dX6_wouldBe_61 (by decide) (Nat.le_of_ble_eq_true rfl) hf (fun _ m13 hf => ?_)
        refine gw_aload_n (pc := 64) hK 1 dX6_wouldBe_64 rfl rfl ?_
        refine gf_X6_16 (pc := 65) hK hc.1 dX6_wouldBe_65 ?_
        refine gf_X6_111 (pc := 68) hK hc.2.2.1.1 dX6_wouldBe_68 ?_
        refine gw_iload_n (pc := 71) hK 2 dX6_wouldBe_71 rfl rfl ?_
        refine gv_X6_172 (pc := 72) hK hc.2.2.1.2.2.1 dX6_wouldBe_72 (by decide) (Nat.le_of_ble_eq_true rfl) hf (fun r14 m15 hf => ?_)
        exact gw_ret_i (pc := 75) hK dX6_wouldBe_75 (Option.some.inj hf)
      ·
        refine gw_ldc (pc := 56) hK dX6_wouldBe_56 kw_k_RX6_168 ?_
        exact gw_ret_i (pc := 58) hK dX6_wouldBe_58 (Option.some.inj hf)
    ·
      refine gw_ldc (pc := 40) hK dX6_wouldBe_40 kw_k_RX6_72 ?_
      exact gw_ret_i (pc := 42) hK dX6_wouldBe_42 (Option.some.inj hf)
  ·
    refine gw_ldc (pc := 14) hK dX6_wouldBe_14 kw_k_RX6_37 ?_
    exact gw_ret_i (pc := 16) hK dX6_wouldBe_16 (Option.some.inj hf)
theorem gv_L_81 {l : Launch} {cc : ByteArray} {nL fr lo : Nat} {ret : Option FieldType} {Y : gx_Y} {Post : Value → gx_M → Prop} {K : gx_KT} {pc : Nat} {μ : gx_M} {L : List (Nat × Value)} {st : List Value} {α : Type} {rr : α} (h : gx_K l RL cc nL fr lo ret Y Post K) {c : Nat} {p1 : Int32} (hc : gk_bow Y c) (d : decode cc pc = .ok (.invokevirtual 81, 3)) (hR : 6 + 1 ≤ fr ∧ 160 ≤ lo) (hst : (st.map fun v => v.category).sum ≤ 8) {k : Int32 → gx_M → Option α} (hf : gx_b (fn_X6_wouldBe (gy_k Y) μ c p1) k = some rr) (kk : ∀ (r : Int32) (m : gx_M), k r m = some rr → K m (pc + 3) L (.int r :: st)) : K μ pc L (.int p1 :: .ref (gy_a Y c) :: st) := by
  obtain ⟨r, m, e, hk⟩ := gx_b_some hf
  exact gw_callV (As := [.int p1]) (q := (r, m)) h hc.1 (by decide) rfl (by refine ⟨rfl, by decide, by decide, (show (parseMethodDescriptor yX6_wouldBe.desc).map (fun d => d.parameters.length) = some 1 by decide +kernel)⟩) kw_ml_RL_81 kw_im_X6_wouldBe kw_se_X6_wouldBe kw_in_RX6 kw_co_X6_wouldBe hR hst d (ct_X6_wouldBe l Y μ c p1 (r, m) hc e) (kk r m hk)
def fn_X6_run (kd : Nat → Nat) (μ : gx_M) (c : Nat) (p1 : Int32) : Option (Int32 × gx_M) :=
  gx_b (fn_X6_isWithin kd μ p1 1 600) (fun r1 m2 =>
(if r1 = 0 then
some ((-100001), m2)
else
gx_b (fn_X4_time kd m2 (c + 1)) (fun r4 m5 =>
(if (r4 + p1) ≤ 3600 then
gx_b (fn_X1_record kd m5 (c + 51) (c + 1)) (fun _ m8 =>
gx_b (fn_X4_advance kd m8 (c + 1) (r4 + p1)) (fun r9 m10 =>
some (r9, m10)))
else
some ((-100003), m5)))))
set_option maxRecDepth 100000 in
set_option maxHeartbeats 4000000 in
theorem ct_X6_run (l : Launch) (Y : gx_Y) (μ : gx_M) (c : Nat) (p1 : Int32) (rr : Int32 × gx_M) (hc : gk_bow Y c) (hf : fn_X6_run (gy_k Y) μ c p1 = some rr) : gx_Con l yX6_run cX6_run 3 (some .int) 5 125 Y [.ref (gy_a Y c), .int p1] μ rr := by
  refine gx_Con_of (L0 := [(0, .ref (gy_a Y c)), (1, .int p1)]) (by decide) (Nat.le_of_ble_eq_true rfl) rfl (fun K hK => ?_)
  unfold fn_X6_run at hf
  refine gw_iload_n (pc := 0) hK 1 dX6_run_0 rfl rfl ?_
  refine gw_iconst (v := 1) (pc := 1) hK dX6_run_1 (by decide) ?_
  refine gw_sipush (v := 600) (pc := 2) hK dX6_run_2 (by decide) ?_
  refine gv_X6_33 (pc := 5) hK dX6_run_5 (by decide) (Nat.le_of_ble_eq_true rfl) hf (fun r1 m2 hf => ?_)
  refine gw_if_ne (tgt := 14) (pc := 8) hK dX6_run_8 (by decide) hf (fun cc3 hf => ?_) (fun cc3 hf => ?_)
  ·
    refine gw_aload_n (pc := 14) hK 0 dX6_run_14 rfl rfl ?_
    refine gf_X6_10 (pc := 15) hK hc.1 dX6_run_15 ?_
    refine gv_X6_108 (pc := 18) hK hc.2.1 dX6_run_18 (by decide) (Nat.le_of_ble_eq_true rfl) hf (fun r4 m5 hf => ?_)
    refine gw_iload_n (pc := 21) hK 1 dX6_run_21 rfl rfl ?_
    refine gw_iadd (pc := 22) hK dX6_run_22 ?_
    refine gw_istore_n (L' := [(2, .int (r4 + p1)), (0, .ref (gy_a Y c)), (1, .int p1)]) (pc := 23) hK dX6_run_23 rfl (by decide) rfl ?_
    refine gw_iload_n (pc := 24) hK 0 dX6_run_24 rfl rfl ?_
    refine gw_sipush (v := 3600) (pc := 25) hK dX6_run_25 (by decide) ?_
    refine gw_icmp_le (tgt := 34) (pc := 28) hK dX6_run_28 (by decide) hf (fun cc6 hf => ?_) (fun cc6 hf => ?_)
    ·
      refine gw_aload_n (pc := 34) hK 1 dX6_run_34 rfl rfl ?_
      refine gf_X6_22 (pc := 35) hK hc.1 dX6_run_35 ?_
      refine gw_aload_n (pc := 38) hK 1 dX6_run_38 rfl rfl ?_
      refine gf_X6_10 (pc := 39) hK hc.1 dX6_run_39 ?_
      refine gv_X6_49 (pc := 42) hK hc.2.2.2.1 hc.2.1 dX6_run_42 (by decide) (Nat.le_of_ble_eq_true rfl) hf (fun _ m8 hf => ?_)
      refine gw_aload_n (pc := 45) hK 1 dX6_run_45 rfl rfl ?_
      refine gf_X6_10 (pc := 46) hK hc.1 dX6_run_46 ?_
      refine gw_iload_n (pc := 49) hK 0 dX6_run_49 rfl rfl ?_
      refine gv_X6_156 (pc := 50) hK hc.2.1 dX6_run_50 (by decide) (Nat.le_of_ble_eq_true rfl) hf (fun r9 m10 hf => ?_)
      exact gw_ret_i (pc := 53) hK dX6_run_53 (Option.some.inj hf)
    ·
      refine gw_ldc (pc := 31) hK dX6_run_31 kw_k_RX6_48 ?_
      exact gw_ret_i (pc := 33) hK dX6_run_33 (Option.some.inj hf)
  ·
    refine gw_ldc (pc := 11) hK dX6_run_11 kw_k_RX6_37 ?_
    exact gw_ret_i (pc := 13) hK dX6_run_13 (Option.some.inj hf)
theorem gv_L_99 {l : Launch} {cc : ByteArray} {nL fr lo : Nat} {ret : Option FieldType} {Y : gx_Y} {Post : Value → gx_M → Prop} {K : gx_KT} {pc : Nat} {μ : gx_M} {L : List (Nat × Value)} {st : List Value} {α : Type} {rr : α} (h : gx_K l RL cc nL fr lo ret Y Post K) {c : Nat} {p1 : Int32} (hc : gk_bow Y c) (d : decode cc pc = .ok (.invokevirtual 99, 3)) (hR : 5 + 1 ≤ fr ∧ 147 ≤ lo) (hst : (st.map fun v => v.category).sum ≤ 8) {k : Int32 → gx_M → Option α} (hf : gx_b (fn_X6_run (gy_k Y) μ c p1) k = some rr) (kk : ∀ (r : Int32) (m : gx_M), k r m = some rr → K m (pc + 3) L (.int r :: st)) : K μ pc L (.int p1 :: .ref (gy_a Y c) :: st) := by
  obtain ⟨r, m, e, hk⟩ := gx_b_some hf
  exact gw_callV (As := [.int p1]) (q := (r, m)) h hc.1 (by decide) rfl (by refine ⟨rfl, by decide, by decide, (show (parseMethodDescriptor yX6_run.desc).map (fun d => d.parameters.length) = some 1 by decide +kernel)⟩) kw_ml_RL_99 kw_im_X6_run kw_se_X6_run kw_in_RX6 kw_co_X6_run hR hst d (ct_X6_run l Y μ c p1 (r, m) hc e) (kk r m hk)
def fn_X6_set (kd : Nat → Nat) (μ : gx_M) (c : Nat) (p1 : Int32) (p2 : Int32) : Option (Int32 × gx_M) :=
  gx_b (fn_X6_isSetting kd μ p1 p2) (fun r1 m2 =>
(if r1 = 0 then
some ((-100001), m2)
else
gx_b (fn_X1_record kd m2 (c + 51) (c + 1)) (fun _ m5 =>
gx_b (fn_X4_changeSetting kd m5 (c + 1) p1 p2) (fun r6 m7 =>
some (r6, m7)))))
set_option maxRecDepth 100000 in
set_option maxHeartbeats 4000000 in
theorem ct_X6_set (l : Launch) (Y : gx_Y) (μ : gx_M) (c : Nat) (p1 : Int32) (p2 : Int32) (rr : Int32 × gx_M) (hc : gk_bow Y c) (hf : fn_X6_set (gy_k Y) μ c p1 p2 = some rr) : gx_Con l yX6_set cX6_set 3 (some .int) 5 125 Y [.ref (gy_a Y c), .int p1, .int p2] μ rr := by
  refine gx_Con_of (L0 := [(0, .ref (gy_a Y c)), (1, .int p1), (2, .int p2)]) (by decide) (Nat.le_of_ble_eq_true rfl) rfl (fun K hK => ?_)
  unfold fn_X6_set at hf
  refine gw_iload_n (pc := 0) hK 1 dX6_set_0 rfl rfl ?_
  refine gw_iload_n (pc := 1) hK 2 dX6_set_1 rfl rfl ?_
  refine gv_X6_95 (pc := 2) hK dX6_set_2 (by decide) (Nat.le_of_ble_eq_true rfl) hf (fun r1 m2 hf => ?_)
  refine gw_if_ne (tgt := 11) (pc := 5) hK dX6_set_5 (by decide) hf (fun cc3 hf => ?_) (fun cc3 hf => ?_)
  ·
    refine gw_aload_n (pc := 11) hK 0 dX6_set_11 rfl rfl ?_
    refine gf_X6_22 (pc := 12) hK hc.1 dX6_set_12 ?_
    refine gw_aload_n (pc := 15) hK 0 dX6_set_15 rfl rfl ?_
    refine gf_X6_10 (pc := 16) hK hc.1 dX6_set_16 ?_
    refine gv_X6_49 (pc := 19) hK hc.2.2.2.1 hc.2.1 dX6_set_19 (by decide) (Nat.le_of_ble_eq_true rfl) hf (fun _ m5 hf => ?_)
    refine gw_aload_n (pc := 22) hK 0 dX6_set_22 rfl rfl ?_
    refine gf_X6_10 (pc := 23) hK hc.1 dX6_set_23 ?_
    refine gw_iload_n (pc := 26) hK 1 dX6_set_26 rfl rfl ?_
    refine gw_iload_n (pc := 27) hK 2 dX6_set_27 rfl rfl ?_
    refine gv_X6_99 (pc := 28) hK hc.2.1 dX6_set_28 (by decide) (Nat.le_of_ble_eq_true rfl) hf (fun r6 m7 hf => ?_)
    exact gw_ret_i (pc := 31) hK dX6_set_31 (Option.some.inj hf)
  ·
    refine gw_ldc (pc := 8) hK dX6_set_8 kw_k_RX6_37 ?_
    exact gw_ret_i (pc := 10) hK dX6_set_10 (Option.some.inj hf)
theorem gv_L_96 {l : Launch} {cc : ByteArray} {nL fr lo : Nat} {ret : Option FieldType} {Y : gx_Y} {Post : Value → gx_M → Prop} {K : gx_KT} {pc : Nat} {μ : gx_M} {L : List (Nat × Value)} {st : List Value} {α : Type} {rr : α} (h : gx_K l RL cc nL fr lo ret Y Post K) {c : Nat} {p1 : Int32} {p2 : Int32} (hc : gk_bow Y c) (d : decode cc pc = .ok (.invokevirtual 96, 3)) (hR : 5 + 1 ≤ fr ∧ 147 ≤ lo) (hst : (st.map fun v => v.category).sum ≤ 8) {k : Int32 → gx_M → Option α} (hf : gx_b (fn_X6_set (gy_k Y) μ c p1 p2) k = some rr) (kk : ∀ (r : Int32) (m : gx_M), k r m = some rr → K m (pc + 3) L (.int r :: st)) : K μ pc L (.int p2 :: .int p1 :: .ref (gy_a Y c) :: st) := by
  obtain ⟨r, m, e, hk⟩ := gx_b_some hf
  exact gw_callV (As := [.int p1, .int p2]) (q := (r, m)) h hc.1 (by decide) rfl (by refine ⟨rfl, by decide, by decide, (show (parseMethodDescriptor yX6_set.desc).map (fun d => d.parameters.length) = some 2 by decide +kernel)⟩) kw_ml_RL_96 kw_im_X6_set kw_se_X6_set kw_in_RX6 kw_co_X6_set hR hst d (ct_X6_set l Y μ c p1 p2 (r, m) hc e) (kk r m hk)
def fn_X6_enter (kd : Nat → Nat) (μ : gx_M) (c : Nat) : Option (Int32 × gx_M) :=
  gx_b (fn_X6_tryText kd μ c) (fun _ m2 =>
gx_b (fn_X5_faultReason kd m2 (c + 178)) (fun r3 m4 =>
(if r3 = 0 then
gx_b (fn_X1_record kd m4 (c + 51) (c + 1)) (fun _ m7 =>
gx_b (fn_X4_copyFrom kd m7 (c + 1) (c + 26)) (fun _ m9 =>
gx_b (fn_X5_notesRead kd m9 (c + 178)) (fun r10 m11 =>
some (r10, m11))))
else
some ((-100002), m4))))
set_option maxRecDepth 100000 in
set_option maxHeartbeats 4000000 in
theorem ct_X6_enter (l : Launch) (Y : gx_Y) (μ : gx_M) (c : Nat) (rr : Int32 × gx_M) (hc : gk_bow Y c) (hf : fn_X6_enter (gy_k Y) μ c = some rr) : gx_Con l yX6_enter cX6_enter 1 (some .int) 6 128 Y [.ref (gy_a Y c)] μ rr := by
  refine gx_Con_of (L0 := [(0, .ref (gy_a Y c))]) (by decide) (Nat.le_of_ble_eq_true rfl) rfl (fun K hK => ?_)
  unfold fn_X6_enter at hf
  refine gw_aload_n (pc := 0) hK 0 dX6_enter_0 rfl rfl ?_
  refine gv_X6_189 (pc := 1) hK hc dX6_enter_1 (by decide) (Nat.le_of_ble_eq_true rfl) hf (fun _ m2 hf => ?_)
  refine gw_aload_n (pc := 4) hK 0 dX6_enter_4 rfl rfl ?_
  refine gf_X6_29 (pc := 5) hK hc.1 dX6_enter_5 ?_
  refine gv_X6_192 (pc := 8) hK hc.2.2.2.2 dX6_enter_8 (by decide) (Nat.le_of_ble_eq_true rfl) hf (fun r3 m4 hf => ?_)
  refine gw_if_eq (tgt := 17) (pc := 11) hK dX6_enter_11 (by decide) hf (fun cc5 hf => ?_) (fun cc5 hf => ?_)
  ·
    refine gw_aload_n (pc := 17) hK 0 dX6_enter_17 rfl rfl ?_
    refine gf_X6_22 (pc := 18) hK hc.1 dX6_enter_18 ?_
    refine gw_aload_n (pc := 21) hK 0 dX6_enter_21 rfl rfl ?_
    refine gf_X6_10 (pc := 22) hK hc.1 dX6_enter_22 ?_
    refine gv_X6_49 (pc := 25) hK hc.2.2.2.1 hc.2.1 dX6_enter_25 (by decide) (Nat.le_of_ble_eq_true rfl) hf (fun _ m7 hf => ?_)
    refine gw_aload_n (pc := 28) hK 0 dX6_enter_28 rfl rfl ?_
    refine gf_X6_10 (pc := 29) hK hc.1 dX6_enter_29 ?_
    refine gw_aload_n (pc := 32) hK 0 dX6_enter_32 rfl rfl ?_
    refine gf_X6_16 (pc := 33) hK hc.1 dX6_enter_33 ?_
    refine gv_X6_198 (pc := 36) hK hc.2.1 hc.2.2.1 dX6_enter_36 (by decide) (Nat.le_of_ble_eq_true rfl) hf (fun _ m9 hf => ?_)
    refine gw_aload_n (pc := 39) hK 0 dX6_enter_39 rfl rfl ?_
    refine gf_X6_29 (pc := 40) hK hc.1 dX6_enter_40 ?_
    refine gv_X6_201 (pc := 43) hK hc.2.2.2.2 dX6_enter_43 (by decide) (Nat.le_of_ble_eq_true rfl) hf (fun r10 m11 hf => ?_)
    exact gw_ret_i (pc := 46) hK dX6_enter_46 (Option.some.inj hf)
  ·
    refine gw_ldc (pc := 14) hK dX6_enter_14 kw_k_RX6_72 ?_
    exact gw_ret_i (pc := 16) hK dX6_enter_16 (Option.some.inj hf)
theorem gv_L_118 {l : Launch} {cc : ByteArray} {nL fr lo : Nat} {ret : Option FieldType} {Y : gx_Y} {Post : Value → gx_M → Prop} {K : gx_KT} {pc : Nat} {μ : gx_M} {L : List (Nat × Value)} {st : List Value} {α : Type} {rr : α} (h : gx_K l RL cc nL fr lo ret Y Post K) {c : Nat} (hc : gk_bow Y c) (d : decode cc pc = .ok (.invokevirtual 118, 3)) (hR : 6 + 1 ≤ fr ∧ 148 ≤ lo) (hst : (st.map fun v => v.category).sum ≤ 8) {k : Int32 → gx_M → Option α} (hf : gx_b (fn_X6_enter (gy_k Y) μ c) k = some rr) (kk : ∀ (r : Int32) (m : gx_M), k r m = some rr → K m (pc + 3) L (.int r :: st)) : K μ pc L (.ref (gy_a Y c) :: st) := by
  obtain ⟨r, m, e, hk⟩ := gx_b_some hf
  exact gw_callV (As := []) (q := (r, m)) h hc.1 (by decide) rfl (by refine ⟨rfl, by decide, by decide, (show (parseMethodDescriptor yX6_enter.desc).map (fun d => d.parameters.length) = some 0 by decide +kernel)⟩) kw_ml_RL_118 kw_im_X6_enter kw_se_X6_enter kw_in_RX6 kw_co_X6_enter hR hst d (ct_X6_enter l Y μ c (r, m) hc e) (kk r m hk)
def fn_X6_rewind (kd : Nat → Nat) (μ : gx_M) (c : Nat) : Option (Int32 × gx_M) :=
  gx_b (fn_X1_record kd μ (c + 51) (c + 1)) (fun _ m2 =>
gx_b (fn_X4_time kd m2 (c + 1)) (fun r3 m4 =>
gx_b (fn_X4_startAgain kd m4 (c + 1)) (fun _ m6 =>
some (r3, m6))))
set_option maxRecDepth 100000 in
set_option maxHeartbeats 4000000 in
theorem ct_X6_rewind (l : Launch) (Y : gx_Y) (μ : gx_M) (c : Nat) (rr : Int32 × gx_M) (hc : gk_bow Y c) (hf : fn_X6_rewind (gy_k Y) μ c = some rr) : gx_Con l yX6_rewind cX6_rewind 2 (some .int) 5 125 Y [.ref (gy_a Y c)] μ rr := by
  refine gx_Con_of (L0 := [(0, .ref (gy_a Y c))]) (by decide) (Nat.le_of_ble_eq_true rfl) rfl (fun K hK => ?_)
  unfold fn_X6_rewind at hf
  refine gw_aload_n (pc := 0) hK 0 dX6_rewind_0 rfl rfl ?_
  refine gf_X6_22 (pc := 1) hK hc.1 dX6_rewind_1 ?_
  refine gw_aload_n (pc := 4) hK 0 dX6_rewind_4 rfl rfl ?_
  refine gf_X6_10 (pc := 5) hK hc.1 dX6_rewind_5 ?_
  refine gv_X6_49 (pc := 8) hK hc.2.2.2.1 hc.2.1 dX6_rewind_8 (by decide) (Nat.le_of_ble_eq_true rfl) hf (fun _ m2 hf => ?_)
  refine gw_aload_n (pc := 11) hK 0 dX6_rewind_11 rfl rfl ?_
  refine gf_X6_10 (pc := 12) hK hc.1 dX6_rewind_12 ?_
  refine gv_X6_108 (pc := 15) hK hc.2.1 dX6_rewind_15 (by decide) (Nat.le_of_ble_eq_true rfl) hf (fun r3 m4 hf => ?_)
  refine gw_istore_n (L' := [(1, .int r3), (0, .ref (gy_a Y c))]) (pc := 18) hK dX6_rewind_18 rfl (by decide) rfl ?_
  refine gw_aload_n (pc := 19) hK 1 dX6_rewind_19 rfl rfl ?_
  refine gf_X6_10 (pc := 20) hK hc.1 dX6_rewind_20 ?_
  refine gv_X6_159 (pc := 23) hK hc.2.1 dX6_rewind_23 (by decide) (Nat.le_of_ble_eq_true rfl) hf (fun _ m6 hf => ?_)
  refine gw_iload_n (pc := 26) hK 0 dX6_rewind_26 rfl rfl ?_
  exact gw_ret_i (pc := 27) hK dX6_rewind_27 (Option.some.inj hf)
theorem gv_L_182 {l : Launch} {cc : ByteArray} {nL fr lo : Nat} {ret : Option FieldType} {Y : gx_Y} {Post : Value → gx_M → Prop} {K : gx_KT} {pc : Nat} {μ : gx_M} {L : List (Nat × Value)} {st : List Value} {α : Type} {rr : α} (h : gx_K l RL cc nL fr lo ret Y Post K) {c : Nat} (hc : gk_bow Y c) (d : decode cc pc = .ok (.invokevirtual 182, 3)) (hR : 5 + 1 ≤ fr ∧ 146 ≤ lo) (hst : (st.map fun v => v.category).sum ≤ 8) {k : Int32 → gx_M → Option α} (hf : gx_b (fn_X6_rewind (gy_k Y) μ c) k = some rr) (kk : ∀ (r : Int32) (m : gx_M), k r m = some rr → K m (pc + 3) L (.int r :: st)) : K μ pc L (.ref (gy_a Y c) :: st) := by
  obtain ⟨r, m, e, hk⟩ := gx_b_some hf
  exact gw_callV (As := []) (q := (r, m)) h hc.1 (by decide) rfl (by refine ⟨rfl, by decide, by decide, (show (parseMethodDescriptor yX6_rewind.desc).map (fun d => d.parameters.length) = some 0 by decide +kernel)⟩) kw_ml_RL_182 kw_im_X6_rewind kw_se_X6_rewind kw_in_RX6 kw_co_X6_rewind hR hst d (ct_X6_rewind l Y μ c (r, m) hc e) (kk r m hk)
def fn_X6_undo (kd : Nat → Nat) (μ : gx_M) (c : Nat) : Option (Int32 × gx_M) :=
  gx_b (fn_X1_size kd μ (c + 51)) (fun r1 m2 =>
(if r1 = 0 then
some ((-100002), m2)
else
gx_b (fn_X1_restore kd m2 (c + 51) (c + 1)) (fun _ m5 =>
gx_b (fn_X1_size kd m5 (c + 51)) (fun r6 m7 =>
some (r6, m7)))))
set_option maxRecDepth 100000 in
set_option maxHeartbeats 4000000 in
theorem ct_X6_undo (l : Launch) (Y : gx_Y) (μ : gx_M) (c : Nat) (rr : Int32 × gx_M) (hc : gk_bow Y c) (hf : fn_X6_undo (gy_k Y) μ c = some rr) : gx_Con l yX6_undo cX6_undo 1 (some .int) 5 124 Y [.ref (gy_a Y c)] μ rr := by
  refine gx_Con_of (L0 := [(0, .ref (gy_a Y c))]) (by decide) (Nat.le_of_ble_eq_true rfl) rfl (fun K hK => ?_)
  unfold fn_X6_undo at hf
  refine gw_aload_n (pc := 0) hK 0 dX6_undo_0 rfl rfl ?_
  refine gf_X6_22 (pc := 1) hK hc.1 dX6_undo_1 ?_
  refine gv_X6_127 (pc := 4) hK hc.2.2.2.1 dX6_undo_4 (by decide) (Nat.le_of_ble_eq_true rfl) hf (fun r1 m2 hf => ?_)
  refine gw_if_ne (tgt := 13) (pc := 7) hK dX6_undo_7 (by decide) hf (fun cc3 hf => ?_) (fun cc3 hf => ?_)
  ·
    refine gw_aload_n (pc := 13) hK 0 dX6_undo_13 rfl rfl ?_
    refine gf_X6_22 (pc := 14) hK hc.1 dX6_undo_14 ?_
    refine gw_aload_n (pc := 17) hK 0 dX6_undo_17 rfl rfl ?_
    refine gf_X6_10 (pc := 18) hK hc.1 dX6_undo_18 ?_
    refine gv_X6_131 (pc := 21) hK hc.2.2.2.1 hc.2.1 dX6_undo_21 (by decide) (Nat.le_of_ble_eq_true rfl) hf (fun _ m5 hf => ?_)
    refine gw_aload_n (pc := 24) hK 0 dX6_undo_24 rfl rfl ?_
    refine gf_X6_22 (pc := 25) hK hc.1 dX6_undo_25 ?_
    refine gv_X6_127 (pc := 28) hK hc.2.2.2.1 dX6_undo_28 (by decide) (Nat.le_of_ble_eq_true rfl) hf (fun r6 m7 hf => ?_)
    exact gw_ret_i (pc := 31) hK dX6_undo_31 (Option.some.inj hf)
  ·
    refine gw_ldc (pc := 10) hK dX6_undo_10 kw_k_RX6_72 ?_
    exact gw_ret_i (pc := 12) hK dX6_undo_12 (Option.some.inj hf)
theorem gv_L_179 {l : Launch} {cc : ByteArray} {nL fr lo : Nat} {ret : Option FieldType} {Y : gx_Y} {Post : Value → gx_M → Prop} {K : gx_KT} {pc : Nat} {μ : gx_M} {L : List (Nat × Value)} {st : List Value} {α : Type} {rr : α} (h : gx_K l RL cc nL fr lo ret Y Post K) {c : Nat} (hc : gk_bow Y c) (d : decode cc pc = .ok (.invokevirtual 179, 3)) (hR : 5 + 1 ≤ fr ∧ 144 ≤ lo) (hst : (st.map fun v => v.category).sum ≤ 8) {k : Int32 → gx_M → Option α} (hf : gx_b (fn_X6_undo (gy_k Y) μ c) k = some rr) (kk : ∀ (r : Int32) (m : gx_M), k r m = some rr → K m (pc + 3) L (.int r :: st)) : K μ pc L (.ref (gy_a Y c) :: st) := by
  obtain ⟨r, m, e, hk⟩ := gx_b_some hf
  exact gw_callV (As := []) (q := (r, m)) h hc.1 (by decide) rfl (by refine ⟨rfl, by decide, by decide, (show (parseMethodDescriptor yX6_undo.desc).map (fun d => d.parameters.length) = some 0 by decide +kernel)⟩) kw_ml_RL_179 kw_im_X6_undo kw_se_X6_undo kw_in_RX6 kw_co_X6_undo hR hst d (ct_X6_undo l Y μ c (r, m) hc e) (kk r m hk)
