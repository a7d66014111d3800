def fn_X5_append (kd : Nat → Nat) (μ : gx_M) (c : Nat) (p1 : Int32) : Option (Int32 × gx_M) :=
  gx_b (fn_X3_put kd μ (c + 1) (μ c 1) p1) (fun _ m2 =>
some (0, (gx_u m2 c 1 (m2 c 1 + 1))))
set_option maxRecDepth 100000 in
set_option maxHeartbeats 4000000 in
theorem ct_X5_append (l : Launch) (Y : gx_Y) (μ : gx_M) (c : Nat) (p1 : Int32) (rr : Int32 × gx_M) (hc : gk_text Y c) (hf : fn_X5_append (gy_k Y) μ c p1 = some rr) : gx_Con l yX5_append cX5_append 2 none 1 22 Y [.ref (gy_a Y c), .int p1] μ rr := by
  refine gx_Con_of (L0 := [(0, .ref (gy_a Y c)), (1, .int p1)]) (by decide) (Nat.le_of_ble_eq_true rfl) rfl (fun K hK => ?_)
  unfold fn_X5_append at hf
  refine gw_aload_n (pc := 0) hK 0 dX5_append_0 rfl rfl ?_
  refine gf_X5_14 (pc := 1) hK hc.1 dX5_append_1 ?_
  refine gw_aload_n (pc := 4) hK 0 dX5_append_4 rfl rfl ?_
  refine gf_X5_20 (pc := 5) hK hc.1 dX5_append_5 ?_
  refine gw_iload_n (pc := 8) hK 1 dX5_append_8 rfl rfl ?_
  refine gv_X5_42 (pc := 9) hK hc.2 dX5_append_9 (by decide) (Nat.le_of_ble_eq_true rfl) hf (fun _ m2 hf => ?_)
  refine gw_aload_n (pc := 12) hK 0 dX5_append_12 rfl rfl ?_
  refine gw_dup (pc := 13) hK dX5_append_13 rfl ?_
  refine gf_X5_20 (pc := 14) hK hc.1 dX5_append_14 ?_
  refine gw_iconst (v := 1) (pc := 17) hK dX5_append_17 (by decide) ?_
  refine gw_iadd (pc := 18) hK dX5_append_18 ?_
  refine gp_X5_20 (pc := 19) hK hc.1 dX5_append_19 ?_
  exact gw_ret_v (pc := 22) hK dX5_append_22 (Option.some.inj hf)
theorem gv_X6_184 {l : Launch} {cc : ByteArray} {nL fr lo : Nat} {ret : Option FieldType} {Y : gx_Y} {Post : Value → gx_M → Prop} {K : gx_KT} {pc : Nat} {μ : gx_M} {L : List (Nat × Value)} {st : List Value} {α : Type} {rr : α} (h : gx_K l RX6 cc nL fr lo ret Y Post K) {c : Nat} {p1 : Int32} (hc : gk_text Y c) (d : decode cc pc = .ok (.invokevirtual 184, 3)) (hR : 1 + 1 ≤ fr ∧ 43 ≤ lo) (hst : (st.map fun v => v.category).sum ≤ 8) {k : Int32 → gx_M → Option α} (hf : gx_b (fn_X5_append (gy_k Y) μ c p1) k = some rr) (kk : ∀ (r : Int32) (m : gx_M), k r m = some rr → K m (pc + 3) L (st)) : K μ pc L (.int p1 :: .ref (gy_a Y c) :: st) := by
  obtain ⟨r, m, e, hk⟩ := gx_b_some hf
  exact gw_callV (As := [.int p1]) (q := (r, m)) h hc.1 (by decide) rfl (by refine ⟨rfl, by decide, by decide, (show (parseMethodDescriptor yX5_append.desc).map (fun d => d.parameters.length) = some 1 by decide +kernel)⟩) kw_ml_RX6_184 kw_im_X5_append kw_se_X5_append kw_in_RX5 kw_co_X5_append hR hst d (ct_X5_append l Y μ c p1 (r, m) hc e) (kk r m hk)
def fn_X5_length (kd : Nat → Nat) (μ : gx_M) (c : Nat) : Option (Int32 × gx_M) :=
  some (μ c 1, μ)
set_option maxRecDepth 100000 in
set_option maxHeartbeats 4000000 in
theorem ct_X5_length (l : Launch) (Y : gx_Y) (μ : gx_M) (c : Nat) (rr : Int32 × gx_M) (hc : gk_text Y c) (hf : fn_X5_length (gy_k Y) μ c = some rr) : gx_Con l yX5_length cX5_length 1 (some .int) 0 0 Y [.ref (gy_a Y c)] μ rr := by
  refine gx_Con_of (L0 := [(0, .ref (gy_a Y c))]) (by decide) (Nat.le_of_ble_eq_true rfl) rfl (fun K hK => ?_)
  unfold fn_X5_length at hf
  refine gw_aload_n (pc := 0) hK 0 dX5_length_0 rfl rfl ?_
  refine gf_X5_20 (pc := 1) hK hc.1 dX5_length_1 ?_
  exact gw_ret_i (pc := 4) hK dX5_length_4 (Option.some.inj hf)
theorem gv_X6_128 {l : Launch} {cc : ByteArray} {nL fr lo : Nat} {ret : Option FieldType} {Y : gx_Y} {Post : Value → gx_M → Prop} {K : gx_KT} {pc : Nat} {μ : gx_M} {L : List (Nat × Value)} {st : List Value} {α : Type} {rr : α} (h : gx_K l RX6 cc nL fr lo ret Y Post K) {c : Nat} (hc : gk_text Y c) (d : decode cc pc = .ok (.invokevirtual 128, 3)) (hR : 0 + 1 ≤ fr ∧ 20 ≤ lo) (hst : (st.map fun v => v.category).sum ≤ 8) {k : Int32 → gx_M → Option α} (hf : gx_b (fn_X5_length (gy_k Y) μ c) k = some rr) (kk : ∀ (r : Int32) (m : gx_M), k r m = some rr → K m (pc + 3) L (.int r :: st)) : K μ pc L (.ref (gy_a Y c) :: st) := by
  obtain ⟨r, m, e, hk⟩ := gx_b_some hf
  exact gw_callV (As := []) (q := (r, m)) h hc.1 (by decide) rfl (by refine ⟨rfl, by decide, by decide, (show (parseMethodDescriptor yX5_length.desc).map (fun d => d.parameters.length) = some 0 by decide +kernel)⟩) kw_ml_RX6_128 kw_im_X5_length kw_se_X5_length kw_in_RX5 kw_co_X5_length hR hst d (ct_X5_length l Y μ c (r, m) hc e) (kk r m hk)
def lf_X5_empty_2 (kd : Nat → Nat) (c0 : Nat) (k : gx_M → Int32 → Option (Int32 × gx_M)) : Nat → gx_M → Int32 → Option (Int32 × gx_M)
  | 0, _, _ => none
  | n + 1, μ, x1 => (if μ c0 1 ≤ x1 then
k μ x1
else
gx_b (fn_X3_put kd μ (c0 + 1) x1 0) (fun _ m3 =>
lf_X5_empty_2 kd c0 k n m3 (x1 + 1)))
def fn_X5_empty (kd : Nat → Nat) (μ : gx_M) (c : Nat) : Option (Int32 × gx_M) :=
  lf_X5_empty_2 kd c (fun m4 y5 =>
some (0, (gx_u m4 c 1 0))) gx_F μ 0
set_option maxRecDepth 100000 in
set_option maxHeartbeats 4000000 in
theorem lt_X5_empty_2 {l : Launch} {Y : gx_Y} {rr : Int32 × gx_M} {K : gx_KT} (hK : gx_K l RX5 cX5_empty 2 1 22 none Y (gx_P rr) K) (c0 : Nat) (hc0 : gk_text Y c0) (k : gx_M → Int32 → Option (Int32 × gx_M)) (hx : ∀ (μ : gx_M) (x1 : Int32), k μ x1 = some rr → K μ 25 [(0, .ref (gy_a Y c0)), (1, .int x1)] []) :
    ∀ (n : Nat) (μ : gx_M) (x1 : Int32), lf_X5_empty_2 (gy_k Y) c0 k n μ x1 = some rr → K μ 2 [(0, .ref (gy_a Y c0)), (1, .int x1)] [] := by
  intro n
  induction n with
  | zero =>
    intro μ x1 hf
    exact absurd hf (by simp [lf_X5_empty_2])
  | succ n ih =>
    intro μ x1 hf
    rw [lf_X5_empty_2] at hf
    refine gw_iload_n (pc := 2) hK 1 dX5_empty_2 rfl rfl ?_
    refine gw_aload_n (pc := 3) hK 0 dX5_empty_3 rfl rfl ?_
    refine gf_X5_20 (pc := 4) hK hc0.1 dX5_empty_4 ?_
    refine gw_icmp_ge (tgt := 25) (pc := 7) hK dX5_empty_7 (by decide) hf (fun cc1 hf => ?_) (fun cc1 hf => ?_)
    ·
      refine gw_sub (L' := [(0, .ref (gy_a Y c0)), (1, .int x1)]) hK [0, 1] rfl (hx _ _ hf)
    ·
      refine gw_aload_n (pc := 10) hK 0 dX5_empty_10 rfl rfl ?_
      refine gf_X5_14 (pc := 11) hK hc0.1 dX5_empty_11 ?_
      refine gw_iload_n (pc := 14) hK 1 dX5_empty_14 rfl rfl ?_
      refine gw_iconst (v := 0) (pc := 15) hK dX5_empty_15 (by decide) ?_
      refine gv_X5_42 (pc := 16) hK hc0.2 dX5_empty_16 (by decide) (Nat.le_of_ble_eq_true rfl) hf (fun _ m3 hf => ?_)
      refine gw_iinc (v := (x1 + 1)) (L' := [(1, .int (x1 + 1)), (0, .ref (gy_a Y c0))]) (pc := 19) hK 1 dX5_empty_19 rfl rfl (by decide) rfl ?_
      refine gw_goto (tgt := 2) (pc := 22) hK dX5_empty_22 (by decide) ?_
      refine gw_sub (L' := [(0, .ref (gy_a Y c0)), (1, .int (x1 + 1))]) hK [1, 0] rfl (ih _ _ hf)
set_option maxRecDepth 100000 in
set_option maxHeartbeats 4000000 in
theorem ct_X5_empty (l : Launch) (Y : gx_Y) (μ : gx_M) (c : Nat) (rr : Int32 × gx_M) (hc : gk_text Y c) (hf : fn_X5_empty (gy_k Y) μ c = some rr) : gx_Con l yX5_empty cX5_empty 2 none 1 22 Y [.ref (gy_a Y c)] μ rr := by
  refine gx_Con_of (L0 := [(0, .ref (gy_a Y c))]) (by decide) (Nat.le_of_ble_eq_true rfl) rfl (fun K hK => ?_)
  unfold fn_X5_empty at hf
  refine gw_iconst (v := 0) (pc := 0) hK dX5_empty_0 (by decide) ?_
  refine gw_istore_n (L' := [(1, .int 0), (0, .ref (gy_a Y c))]) (pc := 1) hK dX5_empty_1 rfl (by decide) rfl ?_
  refine gw_sub (L' := [(0, .ref (gy_a Y c)), (1, .int 0)]) hK [1, 0] rfl (lt_X5_empty_2 hK c hc _ (fun m4 y5 hf => ?_) gx_F _ _ hf)
  refine gw_aload_n (pc := 25) hK 0 dX5_empty_25 rfl rfl ?_
  refine gw_iconst (v := 0) (pc := 26) hK dX5_empty_26 (by decide) ?_
  refine gp_X5_20 (pc := 27) hK hc.1 dX5_empty_27 ?_
  exact gw_ret_v (pc := 30) hK dX5_empty_30 (Option.some.inj hf)
theorem gv_X6_186 {l : Launch} {cc : ByteArray} {nL fr lo : Nat} {ret : Option FieldType} {Y : gx_Y} {Post : Value → gx_M → Prop} {K : gx_KT} {pc : Nat} {μ : gx_M} {L : List (Nat × Value)} {st : List Value} {α : Type} {rr : α} (h : gx_K l RX6 cc nL fr lo ret Y Post K) {c : Nat} (hc : gk_text Y c) (d : decode cc pc = .ok (.invokevirtual 186, 3)) (hR : 1 + 1 ≤ fr ∧ 43 ≤ lo) (hst : (st.map fun v => v.category).sum ≤ 8) {k : Int32 → gx_M → Option α} (hf : gx_b (fn_X5_empty (gy_k Y) μ c) k = some rr) (kk : ∀ (r : Int32) (m : gx_M), k r m = some rr → K m (pc + 3) L (st)) : K μ pc L (.ref (gy_a Y c) :: st) := by
  obtain ⟨r, m, e, hk⟩ := gx_b_some hf
  exact gw_callV (As := []) (q := (r, m)) h hc.1 (by decide) rfl (by refine ⟨rfl, by decide, by decide, (show (parseMethodDescriptor yX5_empty.desc).map (fun d => d.parameters.length) = some 0 by decide +kernel)⟩) kw_ml_RX6_186 kw_im_X5_empty kw_se_X5_empty kw_in_RX5 kw_co_X5_empty hR hst d (ct_X5_empty l Y μ c (r, m) hc e) (kk r m hk)
def fn_X5_faultPlace (kd : Nat → Nat) (μ : gx_M) (c : Nat) : Option (Int32 × gx_M) :=
  some (μ c 6, μ)
set_option maxRecDepth 100000 in
set_option maxHeartbeats 4000000 in
theorem ct_X5_faultPlace (l : Launch) (Y : gx_Y) (μ : gx_M) (c : Nat) (rr : Int32 × gx_M) (hc : gk_text Y c) (hf : fn_X5_faultPlace (gy_k Y) μ c = some rr) : gx_Con l yX5_faultPlace cX5_faultPlace 1 (some .int) 0 0 Y [.ref (gy_a Y c)] μ rr := by
  refine gx_Con_of (L0 := [(0, .ref (gy_a Y c))]) (by decide) (Nat.le_of_ble_eq_true rfl) rfl (fun K hK => ?_)
  unfold fn_X5_faultPlace at hf
  refine gw_aload_n (pc := 0) hK 0 dX5_faultPlace_0 rfl rfl ?_
  refine gf_X5_36 (pc := 1) hK hc.1 dX5_faultPlace_1 ?_
  exact gw_ret_i (pc := 4) hK dX5_faultPlace_4 (Option.some.inj hf)
theorem gv_X6_195 {l : Launch} {cc : ByteArray} {nL fr lo : Nat} {ret : Option FieldType} {Y : gx_Y} {Post : Value → gx_M → Prop} {K : gx_KT} {pc : Nat} {μ : gx_M} {L : List (Nat × Value)} {st : List Value} {α : Type} {rr : α} (h : gx_K l RX6 cc nL fr lo ret Y Post K) {c : Nat} (hc : gk_text Y c) (d : decode cc pc = .ok (.invokevirtual 195, 3)) (hR : 0 + 1 ≤ fr ∧ 20 ≤ lo) (hst : (st.map fun v => v.category).sum ≤ 8) {k : Int32 → gx_M → Option α} (hf : gx_b (fn_X5_faultPlace (gy_k Y) μ c) k = some rr) (kk : ∀ (r : Int32) (m : gx_M), k r m = some rr → K m (pc + 3) L (.int r :: st)) : K μ pc L (.ref (gy_a Y c) :: st) := by
  obtain ⟨r, m, e, hk⟩ := gx_b_some hf
  exact gw_callV (As := []) (q := (r, m)) h hc.1 (by decide) rfl (by refine ⟨rfl, by decide, by decide, (show (parseMethodDescriptor yX5_faultPlace.desc).map (fun d => d.parameters.length) = some 0 by decide +kernel)⟩) kw_ml_RX6_195 kw_im_X5_faultPlace kw_se_X5_faultPlace kw_in_RX5 kw_co_X5_faultPlace hR hst d (ct_X5_faultPlace l Y μ c (r, m) hc e) (kk r m hk)
def fn_X5_faultReason (kd : Nat → Nat) (μ : gx_M) (c : Nat) : Option (Int32 × gx_M) :=
  some (μ c 7, μ)
set_option maxRecDepth 100000 in
set_option maxHeartbeats 4000000 in
theorem ct_X5_faultReason (l : Launch) (Y : gx_Y) (μ : gx_M) (c : Nat) (rr : Int32 × gx_M) (hc : gk_text Y c) (hf : fn_X5_faultReason (gy_k Y) μ c = some rr) : gx_Con l yX5_faultReason cX5_faultReason 1 (some .int) 0 0 Y [.ref (gy_a Y c)] μ rr := by
  refine gx_Con_of (L0 := [(0, .ref (gy_a Y c))]) (by decide) (Nat.le_of_ble_eq_true rfl) rfl (fun K hK => ?_)
  unfold fn_X5_faultReason at hf
  refine gw_aload_n (pc := 0) hK 0 dX5_faultReason_0 rfl rfl ?_
  refine gf_X5_39 (pc := 1) hK hc.1 dX5_faultReason_1 ?_
  exact gw_ret_i (pc := 4) hK dX5_faultReason_4 (Option.some.inj hf)
theorem gv_X6_192 {l : Launch} {cc : ByteArray} {nL fr lo : Nat} {ret : Option FieldType} {Y : gx_Y} {Post : Value → gx_M → Prop} {K : gx_KT} {pc : Nat} {μ : gx_M} {L : List (Nat × Value)} {st : List Value} {α : Type} {rr : α} (h : gx_K l RX6 cc nL fr lo ret Y Post K) {c : Nat} (hc : gk_text Y c) (d : decode cc pc = .ok (.invokevirtual 192, 3)) (hR : 0 + 1 ≤ fr ∧ 20 ≤ lo) (hst : (st.map fun v => v.category).sum ≤ 8) {k : Int32 → gx_M → Option α} (hf : gx_b (fn_X5_faultReason (gy_k Y) μ c) k = some rr) (kk : ∀ (r : Int32) (m : gx_M), k r m = some rr → K m (pc + 3) L (.int r :: st)) : K μ pc L (.ref (gy_a Y c) :: st) := by
  obtain ⟨r, m, e, hk⟩ := gx_b_some hf
  exact gw_callV (As := []) (q := (r, m)) h hc.1 (by decide) rfl (by refine ⟨rfl, by decide, by decide, (show (parseMethodDescriptor yX5_faultReason.desc).map (fun d => d.parameters.length) = some 0 by decide +kernel)⟩) kw_ml_RX6_192 kw_im_X5_faultReason kw_se_X5_faultReason kw_in_RX5 kw_co_X5_faultReason hR hst d (ct_X5_faultReason l Y μ c (r, m) hc e) (kk r m hk)
def fn_X5_readCharacter (kd : Nat → Nat) (μ : gx_M) (c : Nat) (p1 : Int32) : Option (Int32 × gx_M) :=
  gx_b (fn_X3_get kd μ (c + 1) (μ c 2)) (fun r1 m2 =>
(if r1 = p1 then
some (1, (gx_u m2 c 2 (m2 c 2 + 1)))
else
some (0, (gx_u m2 c 2 (m2 c 2 + 1)))))
set_option maxRecDepth 100000 in
set_option maxHeartbeats 4000000 in
theorem ct_X5_readCharacter (l : Launch) (Y : gx_Y) (μ : gx_M) (c : Nat) (p1 : Int32) (rr : Int32 × gx_M) (hc : gk_text Y c) (hf : fn_X5_readCharacter (gy_k Y) μ c p1 = some rr) : gx_Con l yX5_readCharacter cX5_readCharacter 3 (some .boolean) 1 21 Y [.ref (gy_a Y c), .int p1] μ rr := by
  refine gx_Con_of (L0 := [(0, .ref (gy_a Y c)), (1, .int p1)]) (by decide) (Nat.le_of_ble_eq_true rfl) rfl (fun K hK => ?_)
  unfold fn_X5_readCharacter at hf
  refine gw_aload_n (pc := 0) hK 0 dX5_readCharacter_0 rfl rfl ?_
  refine gf_X5_14 (pc := 1) hK hc.1 dX5_readCharacter_1 ?_
  refine gw_aload_n (pc := 4) hK 0 dX5_readCharacter_4 rfl rfl ?_
  refine gf_X5_24 (pc := 5) hK hc.1 dX5_readCharacter_5 ?_
  refine gv_X5_74 (pc := 8) hK hc.2 dX5_readCharacter_8 (by decide) (Nat.le_of_ble_eq_true rfl) hf (fun r1 m2 hf => ?_)
  refine gw_iload_n (pc := 11) hK 1 dX5_readCharacter_11 rfl rfl ?_
  refine gw_icmp_ne (tgt := 19) (pc := 12) hK dX5_readCharacter_12 (by decide) hf (fun cc3 hf => ?_) (fun cc3 hf => ?_)
  ·
    refine gw_iconst (v := 0) (pc := 19) hK dX5_readCharacter_19 (by decide) ?_
    refine gw_istore_n (L' := [(2, .int 0), (0, .ref (gy_a Y c)), (1, .int p1)]) (pc := 20) hK dX5_readCharacter_20 rfl (by decide) rfl ?_
    refine gw_aload_n (pc := 21) hK 1 dX5_readCharacter_21 rfl rfl ?_
    refine gw_dup (pc := 22) hK dX5_readCharacter_22 rfl ?_
    refine gf_X5_24 (pc := 23) hK hc.1 dX5_readCharacter_23 ?_
    refine gw_iconst (v := 1) (pc := 26) hK dX5_readCharacter_26 (by decide) ?_
    refine gw_iadd (pc := 27) hK dX5_readCharacter_27 ?_
    refine gp_X5_24 (pc := 28) hK hc.1 dX5_readCharacter_28 ?_
    refine gw_iload_n (pc := 31) hK 0 dX5_readCharacter_31 rfl rfl ?_
    exact gw_ret_z (pc := 32) hK dX5_readCharacter_32 rfl (Option.some.inj hf)
  ·
    refine gw_iconst (v := 1) (pc := 15) hK dX5_readCharacter_15 (by decide) ?_
    refine gw_goto (tgt := 20) (pc := 16) hK dX5_readCharacter_16 (by decide) ?_
    refine gw_istore_n (L' := [(2, .int 1), (0, .ref (gy_a Y c)), (1, .int p1)]) (pc := 20) hK dX5_readCharacter_20 rfl (by decide) rfl ?_
    refine gw_aload_n (pc := 21) hK 1 dX5_readCharacter_21 rfl rfl ?_
    refine gw_dup (pc := 22) hK dX5_readCharacter_22 rfl ?_
    refine gf_X5_24 (pc := 23) hK hc.1 dX5_readCharacter_23 ?_
    refine gw_iconst (v := 1) (pc := 26) hK dX5_readCharacter_26 (by decide) ?_
    refine gw_iadd (pc := 27) hK dX5_readCharacter_27 ?_
    refine gp_X5_24 (pc := 28) hK hc.1 dX5_readCharacter_28 ?_
    refine gw_iload_n (pc := 31) hK 0 dX5_readCharacter_31 rfl rfl ?_
    exact gw_ret_z (pc := 32) hK dX5_readCharacter_32 rfl (Option.some.inj hf)
theorem gv_X5_71 {l : Launch} {cc : ByteArray} {nL fr lo : Nat} {ret : Option FieldType} {Y : gx_Y} {Post : Value → gx_M → Prop} {K : gx_KT} {pc : Nat} {μ : gx_M} {L : List (Nat × Value)} {st : List Value} {α : Type} {rr : α} (h : gx_K l RX5 cc nL fr lo ret Y Post K) {c : Nat} {p1 : Int32} (hc : gk_text Y c) (d : decode cc pc = .ok (.invokevirtual 71, 3)) (hR : 1 + 1 ≤ fr ∧ 43 ≤ lo) (hst : (st.map fun v => v.category).sum ≤ 8) {k : Int32 → gx_M → Option α} (hf : gx_b (fn_X5_readCharacter (gy_k Y) μ c p1) k = some rr) (kk : ∀ (r : Int32) (m : gx_M), k r m = some rr → K m (pc + 3) L (.int r :: st)) : K μ pc L (.int p1 :: .ref (gy_a Y c) :: st) := by
  obtain ⟨r, m, e, hk⟩ := gx_b_some hf
  exact gw_callV (As := [.int p1]) (q := (r, m)) h hc.1 (by decide) rfl (by refine ⟨rfl, by decide, by decide, (show (parseMethodDescriptor yX5_readCharacter.desc).map (fun d => d.parameters.length) = some 1 by decide +kernel)⟩) kw_ml_RX5_71 kw_im_X5_readCharacter kw_se_X5_readCharacter kw_in_RX5 kw_co_X5_readCharacter hR hst d (ct_X5_readCharacter l Y μ c p1 (r, m) hc e) (kk r m hk)
def lf_X5_readNumber_4 (kd : Nat → Nat) (c0 : Nat) (k : gx_M → Int32 → Int32 → Option (Int32 × gx_M)) : Nat → gx_M → Int32 → Int32 → Option (Int32 × gx_M)
  | 0, _, _, _ => none
  | n + 1, μ, x1, x2 => (if 4 ≤ x2 then
k μ x1 x2
else
gx_b (fn_X3_get kd μ (c0 + 1) (μ c0 2)) (fun r2 m3 =>
gx_b (fn_X6_isWithin kd m3 r2 48 57) (fun r4 m5 =>
(if r4 = 0 then
k m5 x1 x2
else
gx_b (fn_X3_get kd m5 (c0 + 1) (m5 c0 2)) (fun r7 m8 =>
lf_X5_readNumber_4 kd c0 k n (gx_u m8 c0 2 (m8 c0 2 + 1)) ((((if x1 < 0 then 0 else x1) * 10) + r7) - 48) (x2 + 1))))))
def fn_X5_readNumber (kd : Nat → Nat) (μ : gx_M) (c : Nat) : Option (Int32 × gx_M) :=
  lf_X5_readNumber_4 kd c (fun m9 y10 y11 =>
some (y10, m9)) gx_F μ (-1) 0
set_option maxRecDepth 100000 in
set_option maxHeartbeats 4000000 in
theorem lt_X5_readNumber_4 {l : Launch} {Y : gx_Y} {rr : Int32 × gx_M} {K : gx_KT} (hK : gx_K l RX5 cX5_readNumber 3 1 22 (some .int) Y (gx_P rr) K) (c0 : Nat) (hc0 : gk_text Y c0) (k : gx_M → Int32 → Int32 → Option (Int32 × gx_M)) (hx : ∀ (μ : gx_M) (x1 : Int32) (x2 : Int32), k μ x1 x2 = some rr → K μ 70 [(0, .ref (gy_a Y c0)), (1, .int x1), (2, .int x2)] []) :
    ∀ (n : Nat) (μ : gx_M) (x1 : Int32) (x2 : Int32), lf_X5_readNumber_4 (gy_k Y) c0 k n μ x1 x2 = some rr → K μ 4 [(0, .ref (gy_a Y c0)), (1, .int x1), (2, .int x2)] [] := by
  intro n
  induction n with
  | zero =>
    intro μ x1 x2 hf
    exact absurd hf (by simp [lf_X5_readNumber_4])
  | succ n ih =>
    intro μ x1 x2 hf
    rw [lf_X5_readNumber_4] at hf
    refine gw_iload_n (pc := 4) hK 2 dX5_readNumber_4 rfl rfl ?_
    refine gw_iconst (v := 4) (pc := 5) hK dX5_readNumber_5 (by decide) ?_
    refine gw_icmp_ge (tgt := 70) (pc := 6) hK dX5_readNumber_6 (by decide) hf (fun cc1 hf => ?_) (fun cc1 hf => ?_)
    ·
      refine gw_sub (L' := [(0, .ref (gy_a Y c0)), (1, .int x1), (2, .int x2)]) hK [0, 1, 2] rfl (hx _ _ _ hf)
    ·
      refine gw_aload_n (pc := 9) hK 0 dX5_readNumber_9 rfl rfl ?_
      refine gf_X5_14 (pc := 10) hK hc0.1 dX5_readNumber_10 ?_
      refine gw_aload_n (pc := 13) hK 0 dX5_readNumber_13 rfl rfl ?_
      refine gf_X5_24 (pc := 14) hK hc0.1 dX5_readNumber_14 ?_
      refine gv_X5_74 (pc := 17) hK hc0.2 dX5_readNumber_17 (by decide) (Nat.le_of_ble_eq_true rfl) hf (fun r2 m3 hf => ?_)
      refine gw_bipush (v := 48) (pc := 20) hK dX5_readNumber_20 (by decide) ?_
      refine gw_bipush (v := 57) (pc := 22) hK dX5_readNumber_22 (by decide) ?_
      refine gv_X5_78 (pc := 24) hK dX5_readNumber_24 (by decide) (Nat.le_of_ble_eq_true rfl) hf (fun r4 m5 hf => ?_)
      refine gw_if_eq (tgt := 70) (pc := 27) hK dX5_readNumber_27 (by decide) hf (fun cc6 hf => ?_) (fun cc6 hf => ?_)
      ·
        refine gw_sub (L' := [(0, .ref (gy_a Y c0)), (1, .int x1), (2, .int x2)]) hK [0, 1, 2] rfl (hx _ _ _ hf)
      ·
        refine gw_iload_n (pc := 30) hK 1 dX5_readNumber_30 rfl rfl ?_
        refine gw_iconst (v := 0) (pc := 31) hK dX5_readNumber_31 (by decide) ?_
        refine gw_mmax (pc := 32) hK kw_ml_RX5_82 dX5_readNumber_32 (Nat.le_of_ble_eq_true rfl) (Nat.le_of_ble_eq_true rfl) ?_
        refine gw_bipush (v := 10) (pc := 35) hK dX5_readNumber_35 (by decide) ?_
        refine gw_imul (pc := 37) hK dX5_readNumber_37 ?_
        refine gw_aload_n (pc := 38) hK 0 dX5_readNumber_38 rfl rfl ?_
        refine gf_X5_14 (pc := 39) hK hc0.1 dX5_readNumber_39 ?_
        refine gw_aload_n (pc := 42) hK 0 dX5_readNumber_42 rfl rfl ?_
        refine gf_X5_24 (pc := 43) hK hc0.1 dX5_readNumber_43 ?_
        refine gv_X5_74 (pc := 46) hK hc0.2 dX5_readNumber_46 (by decide) (Nat.le_of_ble_eq_true rfl) hf (fun r7 m8 hf => ?_)
        refine gw_iadd (pc := 49) hK dX5_readNumber_49 ?_
        refine gw_bipush (v := 48) (pc := 50) hK dX5_readNumber_50 (by decide) ?_
        refine gw_isub (pc := 52) hK dX5_readNumber_52 ?_
        refine gw_istore_n (L' := [(1, .int ((((if x1 < 0 then 0 else x1) * 10) + r7) - 48)), (0, .ref (gy_a Y c0)), (2, .int x2)]) (pc := 53) hK dX5_readNumber_53 rfl (by decide) rfl ?_
        refine gw_aload_n (pc := 54) hK 1 dX5_readNumber_54 rfl rfl ?_
        refine gw_dup (pc := 55) hK dX5_readNumber_55 rfl ?_
        refine gf_X5_24 (pc := 56) hK hc0.1 dX5_readNumber_56 ?_
        refine gw_iconst (v := 1) (pc := 59) hK dX5_readNumber_59 (by decide) ?_
        refine gw_iadd (pc := 60) hK dX5_readNumber_60 ?_
        refine gp_X5_24 (pc := 61) hK hc0.1 dX5_readNumber_61 ?_
        refine gw_iinc (v := (x2 + 1)) (L' := [(2, .int (x2 + 1)), (1, .int ((((if x1 < 0 then 0 else x1) * 10) + r7) - 48)), (0, .ref (gy_a Y c0))]) (pc := 64) hK 2 dX5_readNumber_64 rfl rfl (by decide) rfl ?_
        refine gw_goto (tgt := 4) (pc := 67) hK dX5_readNumber_67 (by decide) ?_
        refine gw_sub (L' := [(0, .ref (gy_a Y c0)), (1, .int ((((if x1 < 0 then 0 else x1) * 10) + r7) - 48)), (2, .int (x2 + 1))]) hK [2, 1, 0] rfl (ih _ _ _ hf)
set_option maxRecDepth 100000 in
set_option maxHeartbeats 4000000 in
theorem ct_X5_readNumber (l : Launch) (Y : gx_Y) (μ : gx_M) (c : Nat) (rr : Int32 × gx_M) (hc : gk_text Y c) (hf : fn_X5_readNumber (gy_k Y) μ c = some rr) : gx_Con l yX5_readNumber cX5_readNumber 3 (some .int) 1 22 Y [.ref (gy_a Y c)] μ rr := by
  refine gx_Con_of (L0 := [(0, .ref (gy_a Y c))]) (by decide) (Nat.le_of_ble_eq_true rfl) rfl (fun K hK => ?_)
  unfold fn_X5_readNumber at hf
  refine gw_iconst (v := (-1)) (pc := 0) hK dX5_readNumber_0 (by decide) ?_
  refine gw_istore_n (L' := [(1, .int (-1)), (0, .ref (gy_a Y c))]) (pc := 1) hK dX5_readNumber_1 rfl (by decide) rfl ?_
  refine gw_iconst (v := 0) (pc := 2) hK dX5_readNumber_2 (by decide) ?_
  refine gw_istore_n (L' := [(2, .int 0), (1, .int (-1)), (0, .ref (gy_a Y c))]) (pc := 3) hK dX5_readNumber_3 rfl (by decide) rfl ?_
  refine gw_sub (L' := [(0, .ref (gy_a Y c)), (1, .int (-1)), (2, .int 0)]) hK [2, 1, 0] rfl (lt_X5_readNumber_4 hK c hc _ (fun m9 y10 y11 hf => ?_) gx_F _ _ _ hf)
  refine gw_iload_n (pc := 70) hK 1 dX5_readNumber_70 rfl rfl ?_
  exact gw_ret_i (pc := 71) hK dX5_readNumber_71 (Option.some.inj hf)
theorem gv_X5_67 {l : Launch} {cc : ByteArray} {nL fr lo : Nat} {ret : Option FieldType} {Y : gx_Y} {Post : Value → gx_M → Prop} {K : gx_KT} {pc : Nat} {μ : gx_M} {L : List (Nat × Value)} {st : List Value} {α : Type} {rr : α} (h : gx_K l RX5 cc nL fr lo ret Y Post K) {c : Nat} (hc : gk_text Y c) (d : decode cc pc = .ok (.invokevirtual 67, 3)) (hR : 1 + 1 ≤ fr ∧ 44 ≤ lo) (hst : (st.map fun v => v.category).sum ≤ 8) {k : Int32 → gx_M → Option α} (hf : gx_b (fn_X5_readNumber (gy_k Y) μ c) k = some rr) (kk : ∀ (r : Int32) (m : gx_M), k r m = some rr → K m (pc + 3) L (.int r :: st)) : K μ pc L (.ref (gy_a Y c) :: st) := by
  obtain ⟨r, m, e, hk⟩ := gx_b_some hf
  exact gw_callV (As := []) (q := (r, m)) h hc.1 (by decide) rfl (by refine ⟨rfl, by decide, by decide, (show (parseMethodDescriptor yX5_readNumber.desc).map (fun d => d.parameters.length) = some 0 by decide +kernel)⟩) kw_ml_RX5_67 kw_im_X5_readNumber kw_se_X5_readNumber kw_in_RX5 kw_co_X5_readNumber hR hst d (ct_X5_readNumber l Y μ c (r, m) hc e) (kk r m hk)
def fn_X5_readNote (kd : Nat → Nat) (μ : gx_M) (c : Nat) : Option (Int32 × gx_M) :=
  gx_b (fn_X5_readNumber kd μ c) (fun r1 m2 =>
(if (gx_u m2 c 3 r1) c 3 = (-1) then
some (0, (gx_u m2 c 3 r1))
else
gx_b (fn_X5_readCharacter kd (gx_u m2 c 3 r1) c 58) (fun r4 m5 =>
(if r4 = 0 then
some (0, m5)
else
gx_b (fn_X5_readNumber kd m5 c) (fun r7 m8 =>
(if (gx_u m8 c 4 r7) c 4 = (-1) then
some (0, (gx_u m8 c 4 r7))
else
gx_b (fn_X5_readCharacter kd (gx_u m8 c 4 r7) c 59) (fun r10 m11 =>
(if r10 = 0 then
some (0, m11)
else
some (1, m11)))))))))
set_option maxRecDepth 100000 in
set_option maxHeartbeats 4000000 in
theorem ct_X5_readNote (l : Launch) (Y : gx_Y) (μ : gx_M) (c : Nat) (rr : Int32 × gx_M) (hc : gk_text Y c) (hf : fn_X5_readNote (gy_k Y) μ c = some rr) : gx_Con l yX5_readNote cX5_readNote 1 (some .boolean) 2 44 Y [.ref (gy_a Y c)] μ rr := by
  refine gx_Con_of (L0 := [(0, .ref (gy_a Y c))]) (by decide) (Nat.le_of_ble_eq_true rfl) rfl (fun K hK => ?_)
  unfold fn_X5_readNote at hf
  refine gw_aload_n (pc := 0) hK 0 dX5_readNote_0 rfl rfl ?_
  refine gw_aload_n (pc := 1) hK 0 dX5_readNote_1 rfl rfl ?_
  refine gv_X5_67 (pc := 2) hK hc dX5_readNote_2 (by decide) (Nat.le_of_ble_eq_true rfl) hf (fun r1 m2 hf => ?_)
  refine gp_X5_27 (pc := 5) hK hc.1 dX5_readNote_5 ?_
  refine gw_aload_n (pc := 8) hK 0 dX5_readNote_8 rfl rfl ?_
  refine gf_X5_27 (pc := 9) hK hc.1 dX5_readNote_9 ?_
  refine gw_iconst (v := (-1)) (pc := 12) hK dX5_readNote_12 (by decide) ?_
  refine gw_icmp_eq (tgt := 25) (pc := 13) hK dX5_readNote_13 (by decide) hf (fun cc3 hf => ?_) (fun cc3 hf => ?_)
  ·
    refine gw_iconst (v := 0) (pc := 25) hK dX5_readNote_25 (by decide) ?_
    exact gw_ret_z (pc := 26) hK dX5_readNote_26 rfl (Option.some.inj hf)
  ·
    refine gw_aload_n (pc := 16) hK 0 dX5_readNote_16 rfl rfl ?_
    refine gw_bipush (v := 58) (pc := 17) hK dX5_readNote_17 (by decide) ?_
    refine gv_X5_71 (pc := 19) hK hc dX5_readNote_19 (by decide) (Nat.le_of_ble_eq_true rfl) hf (fun r4 m5 hf => ?_)
    refine gw_if_ne (tgt := 27) (pc := 22) hK dX5_readNote_22 (by decide) hf (fun cc6 hf => ?_) (fun cc6 hf => ?_)
    ·
      refine gw_aload_n (pc := 27) hK 0 dX5_readNote_27 rfl rfl ?_
      refine gw_aload_n (pc := 28) hK 0 dX5_readNote_28 rfl rfl ?_
      refine gv_X5_67 (pc := 29) hK hc dX5_readNote_29 (by decide) (Nat.le_of_ble_eq_true rfl) hf (fun r7 m8 hf => ?_)
      refine gp_X5_30 (pc := 32) hK hc.1 dX5_readNote_32 ?_
      refine gw_aload_n (pc := 35) hK 0 dX5_readNote_35 rfl rfl ?_
      refine gf_X5_30 (pc := 36) hK hc.1 dX5_readNote_36 ?_
      refine gw_iconst (v := (-1)) (pc := 39) hK dX5_readNote_39 (by decide) ?_
      refine gw_icmp_eq (tgt := 56) (pc := 40) hK dX5_readNote_40 (by decide) hf (fun cc9 hf => ?_) (fun cc9 hf => ?_)
      ·
        refine gw_iconst (v := 0) (pc := 56) hK dX5_readNote_56 (by decide) ?_
        exact gw_ret_z (pc := 57) hK dX5_readNote_57 rfl (Option.some.inj hf)
      ·
        refine gw_aload_n (pc := 43) hK 0 dX5_readNote_43 rfl rfl ?_
        refine gw_bipush (v := 59) (pc := 44) hK dX5_readNote_44 (by decide) ?_
        refine gv_X5_71 (pc := 46) hK hc dX5_readNote_46 (by decide) (Nat.le_of_ble_eq_true rfl) hf (fun r10 m11 hf => ?_)
        refine gw_if_eq (tgt := 56) (pc := 49) hK dX5_readNote_49 (by decide) hf (fun cc12 hf => ?_) (fun cc12 hf => ?_)
        ·
          refine gw_iconst (v := 0) (pc := 56) hK dX5_readNote_56 (by decide) ?_
          exact gw_ret_z (pc := 57) hK dX5_readNote_57 rfl (Option.some.inj hf)
        ·
          refine gw_iconst (v := 1) (pc := 52) hK dX5_readNote_52 (by decide) ?_
          refine gw_goto (tgt := 57) (pc := 53) hK dX5_readNote_53 (by decide) ?_
          exact gw_ret_z (pc := 57) hK dX5_readNote_57 rfl (Option.some.inj hf)
    ·
      refine gw_iconst (v := 0) (pc := 25) hK dX5_readNote_25 (by decide) ?_
      exact gw_ret_z (pc := 26) hK dX5_readNote_26 rfl (Option.some.inj hf)
theorem gv_X5_56 {l : Launch} {cc : ByteArray} {nL fr lo : Nat} {ret : Option FieldType} {Y : gx_Y} {Post : Value → gx_M → Prop} {K : gx_KT} {pc : Nat} {μ : gx_M} {L : List (Nat × Value)} {st : List Value} {α : Type} {rr : α} (h : gx_K l RX5 cc nL fr lo ret Y Post K) {c : Nat} (hc : gk_text Y c) (d : decode cc pc = .ok (.invokevirtual 56, 3)) (hR : 2 + 1 ≤ fr ∧ 64 ≤ lo) (hst : (st.map fun v => v.category).sum ≤ 8) {k : Int32 → gx_M → Option α} (hf : gx_b (fn_X5_readNote (gy_k Y) μ c) k = some rr) (kk : ∀ (r : Int32) (m : gx_M), k r m = some rr → K m (pc + 3) L (.int r :: st)) : K μ pc L (.ref (gy_a Y c) :: st) := by
  obtain ⟨r, m, e, hk⟩ := gx_b_some hf
  exact gw_callV (As := []) (q := (r, m)) h hc.1 (by decide) rfl (by refine ⟨rfl, by decide, by decide, (show (parseMethodDescriptor yX5_readNote.desc).map (fun d => d.parameters.length) = some 0 by decide +kernel)⟩) kw_ml_RX5_56 kw_im_X5_readNote kw_se_X5_readNote kw_in_RX5 kw_co_X5_readNote hR hst d (ct_X5_readNote l Y μ c (r, m) hc e) (kk r m hk)
def fn_X5_reasonAgainstNext (kd : Nat → Nat) (μ : gx_M) (c : Nat) (c1 : Nat) : Option (Int32 × gx_M) :=
  gx_b (fn_X5_readNote kd μ c) (fun r1 m2 =>
(if r1 = 0 then
some (1, m2)
else
(if 3600 < m2 c 3 then
some (2, m2)
else
(if m2 c 4 ≤ 6000 then
gx_b (fn_X2_hasNoteAt kd m2 c1 (m2 c 3)) (fun r6 m7 =>
(if r6 = 0 then
gx_b (fn_X2_isFull kd m7 c1) (fun r9 m10 =>
(if r9 = 0 then
some (0, m10)
else
some (4, m10)))
else
some (3, m7)))
else
some (2, m2)))))
set_option maxRecDepth 100000 in
set_option maxHeartbeats 4000000 in
theorem ct_X5_reasonAgainstNext (l : Launch) (Y : gx_Y) (μ : gx_M) (c : Nat) (c1 : Nat) (rr : Int32 × gx_M) (hc : gk_text Y c) (hc1 : gk_piece Y c1) (hf : fn_X5_reasonAgainstNext (gy_k Y) μ c c1 = some rr) : gx_Con l yX5_reasonAgainstNext cX5_reasonAgainstNext 2 (some .int) 3 65 Y [.ref (gy_a Y c), .ref (gy_a Y c1)] μ rr := by
  refine gx_Con_of (L0 := [(0, .ref (gy_a Y c)), (1, .ref (gy_a Y c1))]) (by decide) (Nat.le_of_ble_eq_true rfl) rfl (fun K hK => ?_)
  unfold fn_X5_reasonAgainstNext at hf
  refine gw_aload_n (pc := 0) hK 0 dX5_reasonAgainstNext_0 rfl rfl ?_
  refine gv_X5_56 (pc := 1) hK hc dX5_reasonAgainstNext_1 (by decide) (Nat.le_of_ble_eq_true rfl) hf (fun r1 m2 hf => ?_)
  refine gw_if_ne (tgt := 9) (pc := 4) hK dX5_reasonAgainstNext_4 (by decide) hf (fun cc3 hf => ?_) (fun cc3 hf => ?_)
  ·
    refine gw_aload_n (pc := 9) hK 0 dX5_reasonAgainstNext_9 rfl rfl ?_
    refine gf_X5_27 (pc := 10) hK hc.1 dX5_reasonAgainstNext_10 ?_
    refine gw_sipush (v := 3600) (pc := 13) hK dX5_reasonAgainstNext_13 (by decide) ?_
    refine gw_icmp_gt (tgt := 29) (pc := 16) hK dX5_reasonAgainstNext_16 (by decide) hf (fun cc4 hf => ?_) (fun cc4 hf => ?_)
    ·
      refine gw_iconst (v := 2) (pc := 29) hK dX5_reasonAgainstNext_29 (by decide) ?_
      exact gw_ret_i (pc := 30) hK dX5_reasonAgainstNext_30 (Option.some.inj hf)
    ·
      refine gw_aload_n (pc := 19) hK 0 dX5_reasonAgainstNext_19 rfl rfl ?_
      refine gf_X5_30 (pc := 20) hK hc.1 dX5_reasonAgainstNext_20 ?_
      refine gw_sipush (v := 6000) (pc := 23) hK dX5_reasonAgainstNext_23 (by decide) ?_
      refine gw_icmp_le (tgt := 31) (pc := 26) hK dX5_reasonAgainstNext_26 (by decide) hf (fun cc5 hf => ?_) (fun cc5 hf => ?_)
      ·
        refine gw_aload_n (pc := 31) hK 1 dX5_reasonAgainstNext_31 rfl rfl ?_
        refine gw_aload_n (pc := 32) hK 0 dX5_reasonAgainstNext_32 rfl rfl ?_
        refine gf_X5_27 (pc := 33) hK hc.1 dX5_reasonAgainstNext_33 ?_
        refine gv_X5_60 (pc := 36) hK hc1 dX5_reasonAgainstNext_36 (by decide) (Nat.le_of_ble_eq_true rfl) hf (fun r6 m7 hf => ?_)
        refine gw_if_eq (tgt := 44) (pc := 39) hK dX5_reasonAgainstNext_39 (by decide) hf (fun cc8 hf => ?_) (fun cc8 hf => ?_)
        ·
          refine gw_aload_n (pc := 44) hK 1 dX5_reasonAgainstNext_44 rfl rfl ?_
          refine gv_X5_64 (pc := 45) hK hc1 dX5_reasonAgainstNext_45 (by decide) (Nat.le_of_ble_eq_true rfl) hf (fun r9 m10 hf => ?_)
          refine gw_if_eq (tgt := 55) (pc := 48) hK dX5_reasonAgainstNext_48 (by decide) hf (fun cc11 hf => ?_) (fun cc11 hf => ?_)
          ·
            refine gw_iconst (v := 0) (pc := 55) hK dX5_reasonAgainstNext_55 (by decide) ?_
            exact gw_ret_i (pc := 56) hK dX5_reasonAgainstNext_56 (Option.some.inj hf)
          ·
            refine gw_iconst (v := 4) (pc := 51) hK dX5_reasonAgainstNext_51 (by decide) ?_
            refine gw_goto (tgt := 56) (pc := 52) hK dX5_reasonAgainstNext_52 (by decide) ?_
            exact gw_ret_i (pc := 56) hK dX5_reasonAgainstNext_56 (Option.some.inj hf)
        ·
          refine gw_iconst (v := 3) (pc := 42) hK dX5_reasonAgainstNext_42 (by decide) ?_
          exact gw_ret_i (pc := 43) hK dX5_reasonAgainstNext_43 (Option.some.inj hf)
      ·
        refine gw_iconst (v := 2) (pc := 29) hK dX5_reasonAgainstNext_29 (by decide) ?_
        exact gw_ret_i (pc := 30) hK dX5_reasonAgainstNext_30 (Option.some.inj hf)
  ·
    refine gw_iconst (v := 1) (pc := 7) hK dX5_reasonAgainstNext_7 (by decide) ?_
    exact gw_ret_i (pc := 8) hK dX5_reasonAgainstNext_8 (Option.some.inj hf)
theorem gv_X5_46 {l : Launch} {cc : ByteArray} {nL fr lo : Nat} {ret : Option FieldType} {Y : gx_Y} {Post : Value → gx_M → Prop} {K : gx_KT} {pc : Nat} {μ : gx_M} {L : List (Nat × Value)} {st : List Value} {α : Type} {rr : α} (h : gx_K l RX5 cc nL fr lo ret Y Post K) {c : Nat} {c1 : Nat} (hc : gk_text Y c) (hc1 : gk_piece Y c1) (d : decode cc pc = .ok (.invokevirtual 46, 3)) (hR : 3 + 1 ≤ fr ∧ 86 ≤ lo) (hst : (st.map fun v => v.category).sum ≤ 8) {k : Int32 → gx_M → Option α} (hf : gx_b (fn_X5_reasonAgainstNext (gy_k Y) μ c c1) k = some rr) (kk : ∀ (r : Int32) (m : gx_M), k r m = some rr → K m (pc + 3) L (.int r :: st)) : K μ pc L (.ref (gy_a Y c1) :: .ref (gy_a Y c) :: st) := by
  obtain ⟨r, m, e, hk⟩ := gx_b_some hf
  exact gw_callV (As := [.ref (gy_a Y c1)]) (q := (r, m)) h hc.1 (by decide) rfl (by refine ⟨rfl, by decide, by decide, (show (parseMethodDescriptor yX5_reasonAgainstNext.desc).map (fun d => d.parameters.length) = some 1 by decide +kernel)⟩) kw_ml_RX5_46 kw_im_X5_reasonAgainstNext kw_se_X5_reasonAgainstNext kw_in_RX5 kw_co_X5_reasonAgainstNext hR hst d (ct_X5_reasonAgainstNext l Y μ c c1 (r, m) hc hc1 e) (kk r m hk)
def lf_X5_readInto_22 (kd : Nat → Nat) (c0 : Nat) (c1 : Nat) (k : gx_M → Int32 → Option (Int32 × gx_M)) : Nat → gx_M → Int32 → Option (Int32 × gx_M)
  | 0, _, _ => none
  | n + 1, μ, x2 => (if 100 ≤ x2 then
k μ x2
else
(if μ c0 1 ≤ μ c0 2 then
k μ x2
else
(if μ c0 7 = 0 then
gx_b (fn_X5_reasonAgainstNext kd (gx_u μ c0 6 (μ c0 2)) c0 c1) (fun r4 m5 =>
(if (gx_u m5 c0 7 r4) c0 7 = 0 then
gx_b (fn_X2_insert kd (gx_u m5 c0 7 r4) c1 ((gx_u m5 c0 7 r4) c0 3) ((gx_u m5 c0 7 r4) c0 4)) (fun r7 m8 =>
lf_X5_readInto_22 kd c0 c1 k n (gx_u m8 c0 5 (m8 c0 5 + 1)) (x2 + 1))
else
lf_X5_readInto_22 kd c0 c1 k n (gx_u m5 c0 7 r4) (x2 + 1)))
else
k μ x2)))
def fn_X5_readInto (kd : Nat → Nat) (μ : gx_M) (c : Nat) (c1 : Nat) : Option (Int32 × gx_M) :=
  lf_X5_readInto_22 kd c c1 (fun m9 y10 =>
some (0, m9)) gx_F (gx_u (gx_u (gx_u μ c 2 0) c 5 0) c 7 0) 0
set_option maxRecDepth 100000 in
set_option maxHeartbeats 4000000 in
theorem lt_X5_readInto_22 {l : Launch} {Y : gx_Y} {rr : Int32 × gx_M} {K : gx_KT} (hK : gx_K l RX5 cX5_readInto 3 4 86 none Y (gx_P rr) K) (c0 : Nat) (c1 : Nat) (hc0 : gk_text Y c0) (hc1 : gk_piece Y c1) (k : gx_M → Int32 → Option (Int32 × gx_M)) (hx : ∀ (μ : gx_M) (x2 : Int32), k μ x2 = some rr → K μ 99 [(0, .ref (gy_a Y c0)), (1, .ref (gy_a Y c1)), (2, .int x2)] []) :
    ∀ (n : Nat) (μ : gx_M) (x2 : Int32), lf_X5_readInto_22 (gy_k Y) c0 c1 k n μ x2 = some rr → K μ 22 [(0, .ref (gy_a Y c0)), (1, .ref (gy_a Y c1)), (2, .int x2)] [] := by
  intro n
  induction n with
  | zero =>
    intro μ x2 hf
    exact absurd hf (by simp [lf_X5_readInto_22])
  | succ n ih =>
    intro μ x2 hf
    rw [lf_X5_readInto_22] at hf
    refine gw_iload_n (pc := 22) hK 2 dX5_readInto_22 rfl rfl ?_
    refine gw_bipush (v := 100) (pc := 23) hK dX5_readInto_23 (by decide) ?_
    refine gw_icmp_ge (tgt := 99) (pc := 25) hK dX5_readInto_25 (by decide) hf (fun cc1 hf => ?_) (fun cc1 hf => ?_)
    ·
      refine gw_sub (L' := [(0, .ref (gy_a Y c0)), (1, .ref (gy_a Y c1)), (2, .int x2)]) hK [0, 1, 2] rfl (hx _ _ hf)
    ·
      refine gw_aload_n (pc := 28) hK 0 dX5_readInto_28 rfl rfl ?_
      refine gf_X5_24 (pc := 29) hK hc0.1 dX5_readInto_29 ?_
      refine gw_aload_n (pc := 32) hK 0 dX5_readInto_32 rfl rfl ?_
      refine gf_X5_20 (pc := 33) hK hc0.1 dX5_readInto_33 ?_
      refine gw_icmp_ge (tgt := 99) (pc := 36) hK dX5_readInto_36 (by decide) hf (fun cc2 hf => ?_) (fun cc2 hf => ?_)
      ·
        refine gw_sub (L' := [(0, .ref (gy_a Y c0)), (1, .ref (gy_a Y c1)), (2, .int x2)]) hK [0, 1, 2] rfl (hx _ _ hf)
      ·
        refine gw_aload_n (pc := 39) hK 0 dX5_readInto_39 rfl rfl ?_
        refine gf_X5_39 (pc := 40) hK hc0.1 dX5_readInto_40 ?_
        refine gw_if_ne (tgt := 99) (pc := 43) hK dX5_readInto_43 (by decide) hf (fun cc3 hf => ?_) (fun cc3 hf => ?_)
        ·
          refine gw_sub (L' := [(0, .ref (gy_a Y c0)), (1, .ref (gy_a Y c1)), (2, .int x2)]) hK [0, 1, 2] rfl (hx _ _ hf)
        ·
          refine gw_aload_n (pc := 46) hK 0 dX5_readInto_46 rfl rfl ?_
          refine gw_aload_n (pc := 47) hK 0 dX5_readInto_47 rfl rfl ?_
          refine gf_X5_24 (pc := 48) hK hc0.1 dX5_readInto_48 ?_
          refine gp_X5_36 (pc := 51) hK hc0.1 dX5_readInto_51 ?_
          refine gw_aload_n (pc := 54) hK 0 dX5_readInto_54 rfl rfl ?_
          refine gw_aload_n (pc := 55) hK 0 dX5_readInto_55 rfl rfl ?_
          refine gw_aload_n (pc := 56) hK 1 dX5_readInto_56 rfl rfl ?_
          refine gv_X5_46 (pc := 57) hK hc0 hc1 dX5_readInto_57 (by decide) (Nat.le_of_ble_eq_true rfl) hf (fun r4 m5 hf => ?_)
          refine gp_X5_39 (pc := 60) hK hc0.1 dX5_readInto_60 ?_
          refine gw_aload_n (pc := 63) hK 0 dX5_readInto_63 rfl rfl ?_
          refine gf_X5_39 (pc := 64) hK hc0.1 dX5_readInto_64 ?_
          refine gw_if_ne (tgt := 93) (pc := 67) hK dX5_readInto_67 (by decide) hf (fun cc6 hf => ?_) (fun cc6 hf => ?_)
          ·
            refine gw_iinc (v := (x2 + 1)) (L' := [(2, .int (x2 + 1)), (0, .ref (gy_a Y c0)), (1, .ref (gy_a Y c1))]) (pc := 93) hK 2 dX5_readInto_93 rfl rfl (by decide) rfl ?_
            refine gw_goto (tgt := 22) (pc := 96) hK dX5_readInto_96 (by decide) ?_
            refine gw_sub (L' := [(0, .ref (gy_a Y c0)), (1, .ref (gy_a Y c1)), (2, .int (x2 + 1))]) hK [1, 2, 0] rfl (ih _ _ hf)
          ·
            refine gw_aload_n (pc := 70) hK 1 dX5_readInto_70 rfl rfl ?_
            refine gw_aload_n (pc := 71) hK 0 dX5_readInto_71 rfl rfl ?_
            refine gf_X5_27 (pc := 72) hK hc0.1 dX5_readInto_72 ?_
            refine gw_aload_n (pc := 75) hK 0 dX5_readInto_75 rfl rfl ?_
            refine gf_X5_30 (pc := 76) hK hc0.1 dX5_readInto_76 ?_
            refine gv_X5_50 (pc := 79) hK hc1 dX5_readInto_79 (by decide) (Nat.le_of_ble_eq_true rfl) hf (fun r7 m8 hf => ?_)
            refine gw_pop (pc := 82) hK dX5_readInto_82 rfl ?_
            refine gw_aload_n (pc := 83) hK 0 dX5_readInto_83 rfl rfl ?_
            refine gw_dup (pc := 84) hK dX5_readInto_84 rfl ?_
            refine gf_X5_33 (pc := 85) hK hc0.1 dX5_readInto_85 ?_
            refine gw_iconst (v := 1) (pc := 88) hK dX5_readInto_88 (by decide) ?_
            refine gw_iadd (pc := 89) hK dX5_readInto_89 ?_
            refine gp_X5_33 (pc := 90) hK hc0.1 dX5_readInto_90 ?_
            refine gw_iinc (v := (x2 + 1)) (L' := [(2, .int (x2 + 1)), (0, .ref (gy_a Y c0)), (1, .ref (gy_a Y c1))]) (pc := 93) hK 2 dX5_readInto_93 rfl rfl (by decide) rfl ?_
            refine gw_goto (tgt := 22) (pc := 96) hK dX5_readInto_96 (by decide) ?_
            refine gw_sub (L' := [(0, .ref (gy_a Y c0)), (1, .ref (gy_a Y c1)), (2, .int (x2 + 1))]) hK [1, 2, 0] rfl (ih _ _ hf)
set_option maxRecDepth 100000 in
set_option maxHeartbeats 4000000 in
theorem ct_X5_readInto (l : Launch) (Y : gx_Y) (μ : gx_M) (c : Nat) (c1 : Nat) (rr : Int32 × gx_M) (hc : gk_text Y c) (hc1 : gk_piece Y c1) (hf : fn_X5_readInto (gy_k Y) μ c c1 = some rr) : gx_Con l yX5_readInto cX5_readInto 3 none 4 86 Y [.ref (gy_a Y c), .ref (gy_a Y c1)] μ rr := by
  refine gx_Con_of (L0 := [(0, .ref (gy_a Y c)), (1, .ref (gy_a Y c1))]) (by decide) (Nat.le_of_ble_eq_true rfl) rfl (fun K hK => ?_)
  unfold fn_X5_readInto at hf
  refine gw_aload_n (pc := 0) hK 0 dX5_readInto_0 rfl rfl ?_
  refine gw_iconst (v := 0) (pc := 1) hK dX5_readInto_1 (by decide) ?_
  refine gp_X5_24 (pc := 2) hK hc.1 dX5_readInto_2 ?_
  refine gw_aload_n (pc := 5) hK 0 dX5_readInto_5 rfl rfl ?_
  refine gw_iconst (v := 0) (pc := 6) hK dX5_readInto_6 (by decide) ?_
  refine gp_X5_33 (pc := 7) hK hc.1 dX5_readInto_7 ?_
  refine gw_aload_n (pc := 10) hK 0 dX5_readInto_10 rfl rfl ?_
  refine gw_iconst (v := 0) (pc := 11) hK dX5_readInto_11 (by decide) ?_
  refine gp_X5_39 (pc := 12) hK hc.1 dX5_readInto_12 ?_
  refine gw_aload_n (pc := 15) hK 1 dX5_readInto_15 rfl rfl ?_
  refine gw_ifnonnull (tgt := 20) (pc := 16) hK dX5_readInto_16 (by decide) ?_
  refine gw_iconst (v := 0) (pc := 20) hK dX5_readInto_20 (by decide) ?_
  refine gw_istore_n (L' := [(2, .int 0), (0, .ref (gy_a Y c)), (1, .ref (gy_a Y c1))]) (pc := 21) hK dX5_readInto_21 rfl (by decide) rfl ?_
  refine gw_sub (L' := [(0, .ref (gy_a Y c)), (1, .ref (gy_a Y c1)), (2, .int 0)]) hK [1, 2, 0] rfl (lt_X5_readInto_22 hK c c1 hc hc1 _ (fun m9 y10 hf => ?_) gx_F _ _ hf)
  exact gw_ret_v (pc := 99) hK dX5_readInto_99 (Option.some.inj hf)
theorem gv_X6_204 {l : Launch} {cc : ByteArray} {nL fr lo : Nat} {ret : Option FieldType} {Y : gx_Y} {Post : Value → gx_M → Prop} {K : gx_KT} {pc : Nat} {μ : gx_M} {L : List (Nat × Value)} {st : List Value} {α : Type} {rr : α} (h : gx_K l RX6 cc nL fr lo ret Y Post K) {c : Nat} {c1 : Nat} (hc : gk_text Y c) (hc1 : gk_piece Y c1) (d : decode cc pc = .ok (.invokevirtual 204, 3)) (hR : 4 + 1 ≤ fr ∧ 108 ≤ lo) (hst : (st.map fun v => v.category).sum ≤ 8) {k : Int32 → gx_M → Option α} (hf : gx_b (fn_X5_readInto (gy_k Y) μ c c1) k = some rr) (kk : ∀ (r : Int32) (m : gx_M), k r m = some rr → K m (pc + 3) L (st)) : K μ pc L (.ref (gy_a Y c1) :: .ref (gy_a Y c) :: st) := by
  obtain ⟨r, m, e, hk⟩ := gx_b_some hf
  exact gw_callV (As := [.ref (gy_a Y c1)]) (q := (r, m)) h hc.1 (by decide) rfl (by refine ⟨rfl, by decide, by decide, (show (parseMethodDescriptor yX5_readInto.desc).map (fun d => d.parameters.length) = some 1 by decide +kernel)⟩) kw_ml_RX6_204 kw_im_X5_readInto kw_se_X5_readInto kw_in_RX5 kw_co_X5_readInto hR hst d (ct_X5_readInto l Y μ c c1 (r, m) hc hc1 e) (kk r m hk)
def fn_X5_notesRead (kd : Nat → Nat) (μ : gx_M) (c : Nat) : Option (Int32 × gx_M) :=
  some (μ c 5, μ)
set_option maxRecDepth 100000 in
set_option maxHeartbeats 4000000 in
theorem ct_X5_notesRead (l : Launch) (Y : gx_Y) (μ : gx_M) (c : Nat) (rr : Int32 × gx_M) (hc : gk_text Y c) (hf : fn_X5_notesRead (gy_k Y) μ c = some rr) : gx_Con l yX5_notesRead cX5_notesRead 1 (some .int) 0 0 Y [.ref (gy_a Y c)] μ rr := by
  refine gx_Con_of (L0 := [(0, .ref (gy_a Y c))]) (by decide) (Nat.le_of_ble_eq_true rfl) rfl (fun K hK => ?_)
  unfold fn_X5_notesRead at hf
  refine gw_aload_n (pc := 0) hK 0 dX5_notesRead_0 rfl rfl ?_
  refine gf_X5_33 (pc := 1) hK hc.1 dX5_notesRead_1 ?_
  exact gw_ret_i (pc := 4) hK dX5_notesRead_4 (Option.some.inj hf)
theorem gv_X6_201 {l : Launch} {cc : ByteArray} {nL fr lo : Nat} {ret : Option FieldType} {Y : gx_Y} {Post : Value → gx_M → Prop} {K : gx_KT} {pc : Nat} {μ : gx_M} {L : List (Nat × Value)} {st : List Value} {α : Type} {rr : α} (h : gx_K l RX6 cc nL fr lo ret Y Post K) {c : Nat} (hc : gk_text Y c) (d : decode cc pc = .ok (.invokevirtual 201, 3)) (hR : 0 + 1 ≤ fr ∧ 20 ≤ lo) (hst : (st.map fun v => v.category).sum ≤ 8) {k : Int32 → gx_M → Option α} (hf : gx_b (fn_X5_notesRead (gy_k Y) μ c) k = some rr) (kk : ∀ (r : Int32) (m : gx_M), k r m = some rr → K m (pc + 3) L (.int r :: st)) : K μ pc L (.ref (gy_a Y c) :: st) := by
  obtain ⟨r, m, e, hk⟩ := gx_b_some hf
  exact gw_callV (As := []) (q := (r, m)) h hc.1 (by decide) rfl (by refine ⟨rfl, by decide, by decide, (show (parseMethodDescriptor yX5_notesRead.desc).map (fun d => d.parameters.length) = some 0 by decide +kernel)⟩) kw_ml_RX6_201 kw_im_X5_notesRead kw_se_X5_notesRead kw_in_RX5 kw_co_X5_notesRead hR hst d (ct_X5_notesRead l Y μ c (r, m) hc e) (kk r m hk)
