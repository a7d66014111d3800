def fn_X0_copyFrom (kd : Nat → Nat) (μ : gx_M) (c : Nat) (c1 : Nat) : Option (Int32 × gx_M) :=
  gx_b (fn_X3_copyFrom kd μ (c + 1) (c1 + 1)) (fun _ m2 =>
gx_b (fn_X3_copyFrom kd m2 (c + 3) (c1 + 3)) (fun _ m4 =>
gx_b (fn_X3_copyFrom kd m4 (c + 5) (c1 + 5)) (fun _ m6 =>
gx_b (fn_X3_copyFrom kd m6 (c + 7) (c1 + 7)) (fun _ m8 =>
gx_b (fn_X3_copyFrom kd m8 (c + 9) (c1 + 9)) (fun _ m10 =>
some (0, (gx_u (gx_u (gx_u (gx_u (gx_u m10 c 5 (m10 c1 5)) c 6 ((gx_u m10 c 5 (m10 c1 5)) c1 6)) c 7 ((gx_u (gx_u m10 c 5 (m10 c1 5)) c 6 ((gx_u m10 c 5 (m10 c1 5)) c1 6)) c1 7)) c 8 ((gx_u (gx_u (gx_u m10 c 5 (m10 c1 5)) c 6 ((gx_u m10 c 5 (m10 c1 5)) c1 6)) c 7 ((gx_u (gx_u m10 c 5 (m10 c1 5)) c 6 ((gx_u m10 c 5 (m10 c1 5)) c1 6)) c1 7)) c1 8)) c 9 ((gx_u (gx_u (gx_u (gx_u m10 c 5 (m10 c1 5)) c 6 ((gx_u m10 c 5 (m10 c1 5)) c1 6)) c 7 ((gx_u (gx_u m10 c 5 (m10 c1 5)) c 6 ((gx_u m10 c 5 (m10 c1 5)) c1 6)) c1 7)) c 8 ((gx_u (gx_u (gx_u m10 c 5 (m10 c1 5)) c 6 ((gx_u m10 c 5 (m10 c1 5)) c1 6)) c 7 ((gx_u (gx_u m10 c 5 (m10 c1 5)) c 6 ((gx_u m10 c 5 (m10 c1 5)) c1 6)) c1 7)) c1 8)) c1 9))))))))
set_option maxRecDepth 100000 in
set_option maxHeartbeats 4000000 in
theorem ct_X0_copyFrom (l : Launch) (Y : gx_Y) (μ : gx_M) (c : Nat) (c1 : Nat) (rr : Int32 × gx_M) (hc : gk_bowls Y c) (hc1 : gk_bowls Y c1) (hf : fn_X0_copyFrom (gy_k Y) μ c c1 = some rr) : gx_Con l yX0_copyFrom cX0_copyFrom 2 none 2 61 Y [.ref (gy_a Y c), .ref (gy_a Y c1)] μ rr := by
  refine gx_Con_of (L0 := [(0, .ref (gy_a Y c)), (1, .ref (gy_a Y c1))]) (by decide) (Nat.le_of_ble_eq_true rfl) rfl (fun K hK => ?_)
  unfold fn_X0_copyFrom at hf
  refine gw_aload_n (pc := 0) hK 1 dX0_copyFrom_0 rfl rfl ?_
  refine gw_ifnonnull (tgt := 5) (pc := 1) hK dX0_copyFrom_1 (by decide) ?_
  refine gw_aload_n (pc := 5) hK 0 dX0_copyFrom_5 rfl rfl ?_
  refine gf_X0_14 (pc := 6) hK hc.1 dX0_copyFrom_6 ?_
  refine gw_aload_n (pc := 9) hK 1 dX0_copyFrom_9 rfl rfl ?_
  refine gf_X0_14 (pc := 10) hK hc1.1 dX0_copyFrom_10 ?_
  refine gv_X0_87 (pc := 13) hK hc.2.1 hc1.2.1 dX0_copyFrom_13 (by decide) (Nat.le_of_ble_eq_true rfl) hf (fun _ m2 hf => ?_)
  refine gw_aload_n (pc := 16) hK 0 dX0_copyFrom_16 rfl rfl ?_
  refine gf_X0_20 (pc := 17) hK hc.1 dX0_copyFrom_17 ?_
  refine gw_aload_n (pc := 20) hK 1 dX0_copyFrom_20 rfl rfl ?_
  refine gf_X0_20 (pc := 21) hK hc1.1 dX0_copyFrom_21 ?_
  refine gv_X0_87 (pc := 24) hK hc.2.2.1 hc1.2.2.1 dX0_copyFrom_24 (by decide) (Nat.le_of_ble_eq_true rfl) hf (fun _ m4 hf => ?_)
  refine gw_aload_n (pc := 27) hK 0 dX0_copyFrom_27 rfl rfl ?_
  refine gf_X0_23 (pc := 28) hK hc.1 dX0_copyFrom_28 ?_
  refine gw_aload_n (pc := 31) hK 1 dX0_copyFrom_31 rfl rfl ?_
  refine gf_X0_23 (pc := 32) hK hc1.1 dX0_copyFrom_32 ?_
  refine gv_X0_87 (pc := 35) hK hc.2.2.2.1 hc1.2.2.2.1 dX0_copyFrom_35 (by decide) (Nat.le_of_ble_eq_true rfl) hf (fun _ m6 hf => ?_)
  refine gw_aload_n (pc := 38) hK 0 dX0_copyFrom_38 rfl rfl ?_
  refine gf_X0_26 (pc := 39) hK hc.1 dX0_copyFrom_39 ?_
  refine gw_aload_n (pc := 42) hK 1 dX0_copyFrom_42 rfl rfl ?_
  refine gf_X0_26 (pc := 43) hK hc1.1 dX0_copyFrom_43 ?_
  refine gv_X0_87 (pc := 46) hK hc.2.2.2.2.1 hc1.2.2.2.2.1 dX0_copyFrom_46 (by decide) (Nat.le_of_ble_eq_true rfl) hf (fun _ m8 hf => ?_)
  refine gw_aload_n (pc := 49) hK 0 dX0_copyFrom_49 rfl rfl ?_
  refine gf_X0_29 (pc := 50) hK hc.1 dX0_copyFrom_50 ?_
  refine gw_aload_n (pc := 53) hK 1 dX0_copyFrom_53 rfl rfl ?_
  refine gf_X0_29 (pc := 54) hK hc1.1 dX0_copyFrom_54 ?_
  refine gv_X0_87 (pc := 57) hK hc.2.2.2.2.2 hc1.2.2.2.2.2 dX0_copyFrom_57 (by decide) (Nat.le_of_ble_eq_true rfl) hf (fun _ m10 hf => ?_)
  refine gw_aload_n (pc := 60) hK 0 dX0_copyFrom_60 rfl rfl ?_
  refine gw_aload_n (pc := 61) hK 1 dX0_copyFrom_61 rfl rfl ?_
  refine gf_X0_32 (pc := 62) hK hc1.1 dX0_copyFrom_62 ?_
  refine gp_X0_32 (pc := 65) hK hc.1 dX0_copyFrom_65 ?_
  refine gw_aload_n (pc := 68) hK 0 dX0_copyFrom_68 rfl rfl ?_
  refine gw_aload_n (pc := 69) hK 1 dX0_copyFrom_69 rfl rfl ?_
  refine gf_X0_36 (pc := 70) hK hc1.1 dX0_copyFrom_70 ?_
  refine gp_X0_36 (pc := 73) hK hc.1 dX0_copyFrom_73 ?_
  refine gw_aload_n (pc := 76) hK 0 dX0_copyFrom_76 rfl rfl ?_
  refine gw_aload_n (pc := 77) hK 1 dX0_copyFrom_77 rfl rfl ?_
  refine gf_X0_39 (pc := 78) hK hc1.1 dX0_copyFrom_78 ?_
  refine gp_X0_39 (pc := 81) hK hc.1 dX0_copyFrom_81 ?_
  refine gw_aload_n (pc := 84) hK 0 dX0_copyFrom_84 rfl rfl ?_
  refine gw_aload_n (pc := 85) hK 1 dX0_copyFrom_85 rfl rfl ?_
  refine gf_X0_42 (pc := 86) hK hc1.1 dX0_copyFrom_86 ?_
  refine gp_X0_42 (pc := 89) hK hc.1 dX0_copyFrom_89 ?_
  refine gw_aload_n (pc := 92) hK 0 dX0_copyFrom_92 rfl rfl ?_
  refine gw_aload_n (pc := 93) hK 1 dX0_copyFrom_93 rfl rfl ?_
  refine gf_X0_45 (pc := 94) hK hc1.1 dX0_copyFrom_94 ?_
  refine gp_X0_45 (pc := 97) hK hc.1 dX0_copyFrom_97 ?_
  exact gw_ret_v (pc := 100) hK dX0_copyFrom_100 (Option.some.inj hf)
theorem gv_X4_91 {l : Launch} {cc : ByteArray} {nL fr lo : Nat} {ret : Option FieldType} {Y : gx_Y} {Post : Value → gx_M → Prop} {K : gx_KT} {pc : Nat} {μ : gx_M} {L : List (Nat × Value)} {st : List Value} {α : Type} {rr : α} (h : gx_K l RX4 cc nL fr lo ret Y Post K) {c : Nat} {c1 : Nat} (hc : gk_bowls Y c) (hc1 : gk_bowls Y c1) (d : decode cc pc = .ok (.invokevirtual 91, 3)) (hR : 2 + 1 ≤ fr ∧ 82 ≤ lo) (hst : (st.map fun v => v.category).sum ≤ 8) {k : Int32 → gx_M → Option α} (hf : gx_b (fn_X0_copyFrom (gy_k Y) μ c c1) k = some rr) (kk : ∀ (r : Int32) (m : gx_M), k r m = some rr → K m (pc + 3) L (st)) : K μ pc L (.ref (gy_a Y c1) :: .ref (gy_a Y c) :: st) := by
  obtain ⟨r, m, e, hk⟩ := gx_b_some hf
  exact gw_callV (As := [.ref (gy_a Y c1)]) (q := (r, m)) h hc.1 (by decide) rfl (by refine ⟨rfl, by decide, by decide, (show (parseMethodDescriptor yX0_copyFrom.desc).map (fun d => d.parameters.length) = some 1 by decide +kernel)⟩) kw_ml_RX4_91 kw_im_X0_copyFrom kw_se_X0_copyFrom kw_in_RX0 kw_co_X0_copyFrom hR hst d (ct_X0_copyFrom l Y μ c c1 (r, m) hc hc1 e) (kk r m hk)
def fn_X0_append (kd : Nat → Nat) (μ : gx_M) (c : Nat) (p1 : Int32) (p2 : Int32) : Option (Int32 × gx_M) :=
  gx_b (fn_X3_put kd μ (c + 1) (μ c 5) p1) (fun _ m2 =>
gx_b (fn_X3_put kd m2 (c + 3) (m2 c 5) p2) (fun _ m4 =>
gx_b (fn_X3_put kd m4 (c + 5) (m4 c 5) 0) (fun _ m6 =>
gx_b (fn_X3_put kd m6 (c + 7) (m6 c 5) 0) (fun _ m8 =>
gx_b (fn_X3_put kd m8 (c + 9) (m8 c 5) 1000) (fun _ m10 =>
some (0, (gx_u m10 c 5 (m10 c 5 + 1))))))))
set_option maxRecDepth 100000 in
set_option maxHeartbeats 4000000 in
theorem ct_X0_append (l : Launch) (Y : gx_Y) (μ : gx_M) (c : Nat) (p1 : Int32) (p2 : Int32) (rr : Int32 × gx_M) (hc : gk_bowls Y c) (hf : fn_X0_append (gy_k Y) μ c p1 p2 = some rr) : gx_Con l yX0_append cX0_append 3 none 1 22 Y [.ref (gy_a Y c), .int p1, .int p2] μ rr := by
  refine gx_Con_of (L0 := [(0, .ref (gy_a Y c)), (1, .int p1), (2, .int p2)]) (by decide) (Nat.le_of_ble_eq_true rfl) rfl (fun K hK => ?_)
  unfold fn_X0_append at hf
  refine gw_aload_n (pc := 0) hK 0 dX0_append_0 rfl rfl ?_
  refine gf_X0_14 (pc := 1) hK hc.1 dX0_append_1 ?_
  refine gw_aload_n (pc := 4) hK 0 dX0_append_4 rfl rfl ?_
  refine gf_X0_32 (pc := 5) hK hc.1 dX0_append_5 ?_
  refine gw_iload_n (pc := 8) hK 1 dX0_append_8 rfl rfl ?_
  refine gv_X0_52 (pc := 9) hK hc.2.1 dX0_append_9 (by decide) (Nat.le_of_ble_eq_true rfl) hf (fun _ m2 hf => ?_)
  refine gw_aload_n (pc := 12) hK 0 dX0_append_12 rfl rfl ?_
  refine gf_X0_20 (pc := 13) hK hc.1 dX0_append_13 ?_
  refine gw_aload_n (pc := 16) hK 0 dX0_append_16 rfl rfl ?_
  refine gf_X0_32 (pc := 17) hK hc.1 dX0_append_17 ?_
  refine gw_iload_n (pc := 20) hK 2 dX0_append_20 rfl rfl ?_
  refine gv_X0_52 (pc := 21) hK hc.2.2.1 dX0_append_21 (by decide) (Nat.le_of_ble_eq_true rfl) hf (fun _ m4 hf => ?_)
  refine gw_aload_n (pc := 24) hK 0 dX0_append_24 rfl rfl ?_
  refine gf_X0_23 (pc := 25) hK hc.1 dX0_append_25 ?_
  refine gw_aload_n (pc := 28) hK 0 dX0_append_28 rfl rfl ?_
  refine gf_X0_32 (pc := 29) hK hc.1 dX0_append_29 ?_
  refine gw_iconst (v := 0) (pc := 32) hK dX0_append_32 (by decide) ?_
  refine gv_X0_52 (pc := 33) hK hc.2.2.2.1 dX0_append_33 (by decide) (Nat.le_of_ble_eq_true rfl) hf (fun _ m6 hf => ?_)
  refine gw_aload_n (pc := 36) hK 0 dX0_append_36 rfl rfl ?_
  refine gf_X0_26 (pc := 37) hK hc.1 dX0_append_37 ?_
  refine gw_aload_n (pc := 40) hK 0 dX0_append_40 rfl rfl ?_
  refine gf_X0_32 (pc := 41) hK hc.1 dX0_append_41 ?_
  refine gw_iconst (v := 0) (pc := 44) hK dX0_append_44 (by decide) ?_
  refine gv_X0_52 (pc := 45) hK hc.2.2.2.2.1 dX0_append_45 (by decide) (Nat.le_of_ble_eq_true rfl) hf (fun _ m8 hf => ?_)
  refine gw_aload_n (pc := 48) hK 0 dX0_append_48 rfl rfl ?_
  refine gf_X0_29 (pc := 49) hK hc.1 dX0_append_49 ?_
  refine gw_aload_n (pc := 52) hK 0 dX0_append_52 rfl rfl ?_
  refine gf_X0_32 (pc := 53) hK hc.1 dX0_append_53 ?_
  refine gw_sipush (v := 1000) (pc := 56) hK dX0_append_56 (by decide) ?_
  refine gv_X0_52 (pc := 59) hK hc.2.2.2.2.2 dX0_append_59 (by decide) (Nat.le_of_ble_eq_true rfl) hf (fun _ m10 hf => ?_)
  refine gw_aload_n (pc := 62) hK 0 dX0_append_62 rfl rfl ?_
  refine gw_dup (pc := 63) hK dX0_append_63 rfl ?_
  refine gf_X0_32 (pc := 64) hK hc.1 dX0_append_64 ?_
  refine gw_iconst (v := 1) (pc := 67) hK dX0_append_67 (by decide) ?_
  refine gw_iadd (pc := 68) hK dX0_append_68 ?_
  refine gp_X0_32 (pc := 69) hK hc.1 dX0_append_69 ?_
  exact gw_ret_v (pc := 72) hK dX0_append_72 (Option.some.inj hf)
theorem gv_X6_53 {l : Launch} {cc : ByteArray} {nL fr lo : Nat} {ret : Option FieldType} {Y : gx_Y} {Post : Value → gx_M → Prop} {K : gx_KT} {pc : Nat} {μ : gx_M} {L : List (Nat × Value)} {st : List Value} {α : Type} {rr : α} (h : gx_K l RX6 cc nL fr lo ret Y Post K) {c : Nat} {p1 : Int32} {p2 : Int32} (hc : gk_bowls Y c) (d : decode cc pc = .ok (.invokevirtual 53, 3)) (hR : 1 + 1 ≤ fr ∧ 44 ≤ lo) (hst : (st.map fun v => v.category).sum ≤ 8) {k : Int32 → gx_M → Option α} (hf : gx_b (fn_X0_append (gy_k Y) μ c p1 p2) k = some rr) (kk : ∀ (r : Int32) (m : gx_M), k r m = some rr → K m (pc + 3) L (st)) : K μ pc L (.int p2 :: .int p1 :: .ref (gy_a Y c) :: st) := by
  obtain ⟨r, m, e, hk⟩ := gx_b_some hf
  exact gw_callV (As := [.int p1, .int p2]) (q := (r, m)) h hc.1 (by decide) rfl (by refine ⟨rfl, by decide, by decide, (show (parseMethodDescriptor yX0_append.desc).map (fun d => d.parameters.length) = some 2 by decide +kernel)⟩) kw_ml_RX6_53 kw_im_X0_append kw_se_X0_append kw_in_RX0 kw_co_X0_append hR hst d (ct_X0_append l Y μ c p1 p2 (r, m) hc e) (kk r m hk)
def fn_X0_size (kd : Nat → Nat) (μ : gx_M) (c : Nat) : Option (Int32 × gx_M) :=
  some (μ c 5, μ)
set_option maxRecDepth 100000 in
set_option maxHeartbeats 4000000 in
theorem ct_X0_size (l : Launch) (Y : gx_Y) (μ : gx_M) (c : Nat) (rr : Int32 × gx_M) (hc : gk_bowls Y c) (hf : fn_X0_size (gy_k Y) μ c = some rr) : gx_Con l yX0_size cX0_size 1 (some .int) 0 0 Y [.ref (gy_a Y c)] μ rr := by
  refine gx_Con_of (L0 := [(0, .ref (gy_a Y c))]) (by decide) (Nat.le_of_ble_eq_true rfl) rfl (fun K hK => ?_)
  unfold fn_X0_size at hf
  refine gw_aload_n (pc := 0) hK 0 dX0_size_0 rfl rfl ?_
  refine gf_X0_32 (pc := 1) hK hc.1 dX0_size_1 ?_
  exact gw_ret_i (pc := 4) hK dX0_size_4 (Option.some.inj hf)
theorem gv_X6_42 {l : Launch} {cc : ByteArray} {nL fr lo : Nat} {ret : Option FieldType} {Y : gx_Y} {Post : Value → gx_M → Prop} {K : gx_KT} {pc : Nat} {μ : gx_M} {L : List (Nat × Value)} {st : List Value} {α : Type} {rr : α} (h : gx_K l RX6 cc nL fr lo ret Y Post K) {c : Nat} (hc : gk_bowls Y c) (d : decode cc pc = .ok (.invokevirtual 42, 3)) (hR : 0 + 1 ≤ fr ∧ 20 ≤ lo) (hst : (st.map fun v => v.category).sum ≤ 8) {k : Int32 → gx_M → Option α} (hf : gx_b (fn_X0_size (gy_k Y) μ c) k = some rr) (kk : ∀ (r : Int32) (m : gx_M), k r m = some rr → K m (pc + 3) L (.int r :: st)) : K μ pc L (.ref (gy_a Y c) :: st) := by
  obtain ⟨r, m, e, hk⟩ := gx_b_some hf
  exact gw_callV (As := []) (q := (r, m)) h hc.1 (by decide) rfl (by refine ⟨rfl, by decide, by decide, (show (parseMethodDescriptor yX0_size.desc).map (fun d => d.parameters.length) = some 0 by decide +kernel)⟩) kw_ml_RX6_42 kw_im_X0_size kw_se_X0_size kw_in_RX0 kw_co_X0_size hR hst d (ct_X0_size l Y μ c (r, m) hc e) (kk r m hk)
def fn_X0_has (kd : Nat → Nat) (μ : gx_M) (c : Nat) (p1 : Int32) : Option (Int32 × gx_M) :=
  (if p1 < 0 then
some (0, μ)
else
(if μ c 5 ≤ p1 then
some (0, μ)
else
some (1, μ)))
set_option maxRecDepth 100000 in
set_option maxHeartbeats 4000000 in
theorem ct_X0_has (l : Launch) (Y : gx_Y) (μ : gx_M) (c : Nat) (p1 : Int32) (rr : Int32 × gx_M) (hc : gk_bowls Y c) (hf : fn_X0_has (gy_k Y) μ c p1 = some rr) : gx_Con l yX0_has cX0_has 2 (some .boolean) 0 0 Y [.ref (gy_a Y c), .int p1] μ rr := by
  refine gx_Con_of (L0 := [(0, .ref (gy_a Y c)), (1, .int p1)]) (by decide) (Nat.le_of_ble_eq_true rfl) rfl (fun K hK => ?_)
  unfold fn_X0_has at hf
  refine gw_iload_n (pc := 0) hK 1 dX0_has_0 rfl rfl ?_
  refine gw_if_lt (tgt := 16) (pc := 1) hK dX0_has_1 (by decide) hf (fun cc1 hf => ?_) (fun cc1 hf => ?_)
  ·
    refine gw_iconst (v := 0) (pc := 16) hK dX0_has_16 (by decide) ?_
    exact gw_ret_z (pc := 17) hK dX0_has_17 rfl (Option.some.inj hf)
  ·
    refine gw_iload_n (pc := 4) hK 1 dX0_has_4 rfl rfl ?_
    refine gw_aload_n (pc := 5) hK 0 dX0_has_5 rfl rfl ?_
    refine gf_X0_32 (pc := 6) hK hc.1 dX0_has_6 ?_
    refine gw_icmp_ge (tgt := 16) (pc := 9) hK dX0_has_9 (by decide) hf (fun cc2 hf => ?_) (fun cc2 hf => ?_)
    ·
      refine gw_iconst (v := 0) (pc := 16) hK dX0_has_16 (by decide) ?_
      exact gw_ret_z (pc := 17) hK dX0_has_17 rfl (Option.some.inj hf)
    ·
      refine gw_iconst (v := 1) (pc := 12) hK dX0_has_12 (by decide) ?_
      refine gw_goto (tgt := 17) (pc := 13) hK dX0_has_13 (by decide) ?_
      exact gw_ret_z (pc := 17) hK dX0_has_17 rfl (Option.some.inj hf)
theorem gv_X6_57 {l : Launch} {cc : ByteArray} {nL fr lo : Nat} {ret : Option FieldType} {Y : gx_Y} {Post : Value → gx_M → Prop} {K : gx_KT} {pc : Nat} {μ : gx_M} {L : List (Nat × Value)} {st : List Value} {α : Type} {rr : α} (h : gx_K l RX6 cc nL fr lo ret Y Post K) {c : Nat} {p1 : Int32} (hc : gk_bowls Y c) (d : decode cc pc = .ok (.invokevirtual 57, 3)) (hR : 0 + 1 ≤ fr ∧ 21 ≤ lo) (hst : (st.map fun v => v.category).sum ≤ 8) {k : Int32 → gx_M → Option α} (hf : gx_b (fn_X0_has (gy_k Y) μ c p1) k = some rr) (kk : ∀ (r : Int32) (m : gx_M), k r m = some rr → K m (pc + 3) L (.int r :: st)) : K μ pc L (.int p1 :: .ref (gy_a Y c) :: st) := by
  obtain ⟨r, m, e, hk⟩ := gx_b_some hf
  exact gw_callV (As := [.int p1]) (q := (r, m)) h hc.1 (by decide) rfl (by refine ⟨rfl, by decide, by decide, (show (parseMethodDescriptor yX0_has.desc).map (fun d => d.parameters.length) = some 1 by decide +kernel)⟩) kw_ml_RX6_57 kw_im_X0_has kw_se_X0_has kw_in_RX0 kw_co_X0_has hR hst d (ct_X0_has l Y μ c p1 (r, m) hc e) (kk r m hk)
def fn_X0_pitchWith (kd : Nat → Nat) (μ : gx_M) (c : Nat) (p1 : Int32) (p2 : Int32) : Option (Int32 × gx_M) :=
  gx_b (fn_X3_get kd μ (c + 3) p1) (fun r1 m2 =>
gx_b (fn_X3_get kd m2 (c + 1) p1) (fun r3 m4 =>
some ((r3 - (((r1.toInt64 * p2.toInt64) * p2.toInt64) / 1000000).toInt32), m4)))
set_option maxRecDepth 100000 in
set_option maxHeartbeats 4000000 in
theorem ct_X0_pitchWith (l : Launch) (Y : gx_Y) (μ : gx_M) (c : Nat) (p1 : Int32) (p2 : Int32) (rr : Int32 × gx_M) (hc : gk_bowls Y c) (hf : fn_X0_pitchWith (gy_k Y) μ c p1 p2 = some rr) : gx_Con l yX0_pitchWith cX0_pitchWith 5 (some .int) 1 21 Y [.ref (gy_a Y c), .int p1, .int p2] μ rr := by
  refine gx_Con_of (L0 := [(0, .ref (gy_a Y c)), (1, .int p1), (2, .int p2)]) (by decide) (Nat.le_of_ble_eq_true rfl) rfl (fun K hK => ?_)
  unfold fn_X0_pitchWith at hf
  refine gw_aload_n (pc := 0) hK 0 dX0_pitchWith_0 rfl rfl ?_
  refine gf_X0_20 (pc := 1) hK hc.1 dX0_pitchWith_1 ?_
  refine gw_iload_n (pc := 4) hK 1 dX0_pitchWith_4 rfl rfl ?_
  refine gv_X0_48 (pc := 5) hK hc.2.2.1 dX0_pitchWith_5 (by decide) (Nat.le_of_ble_eq_true rfl) hf (fun r1 m2 hf => ?_)
  refine gw_i2l (pc := 8) hK dX0_pitchWith_8 ?_
  refine gw_iload_n (pc := 9) hK 2 dX0_pitchWith_9 rfl rfl ?_
  refine gw_i2l (pc := 10) hK dX0_pitchWith_10 ?_
  refine gw_lmul (pc := 11) hK dX0_pitchWith_11 ?_
  refine gw_iload_n (pc := 12) hK 2 dX0_pitchWith_12 rfl rfl ?_
  refine gw_i2l (pc := 13) hK dX0_pitchWith_13 ?_
  refine gw_lmul (pc := 14) hK dX0_pitchWith_14 ?_
  refine gw_ldc2 (pc := 15) hK dX0_pitchWith_15 kw_kl_RX0_78 ?_
  refine gw_ldiv (pc := 18) hK dX0_pitchWith_18 (by decide) ?_
  refine gw_lstore_n (L' := [(3, .long (((r1.toInt64 * p2.toInt64) * p2.toInt64) / 1000000)), (0, .ref (gy_a Y c)), (1, .int p1), (2, .int p2)]) (pc := 19) hK dX0_pitchWith_19 rfl (by decide) rfl ?_
  refine gw_aload_n (pc := 20) hK 1 dX0_pitchWith_20 rfl rfl ?_
  refine gf_X0_14 (pc := 21) hK hc.1 dX0_pitchWith_21 ?_
  refine gw_iload_n (pc := 24) hK 2 dX0_pitchWith_24 rfl rfl ?_
  refine gv_X0_48 (pc := 25) hK hc.2.1 dX0_pitchWith_25 (by decide) (Nat.le_of_ble_eq_true rfl) hf (fun r3 m4 hf => ?_)
  refine gw_lload_n (pc := 28) hK 0 dX0_pitchWith_28 rfl rfl ?_
  refine gw_l2i (pc := 29) hK dX0_pitchWith_29 ?_
  refine gw_isub (pc := 30) hK dX0_pitchWith_30 ?_
  exact gw_ret_i (pc := 31) hK dX0_pitchWith_31 (Option.some.inj hf)
theorem gv_X0_74 {l : Launch} {cc : ByteArray} {nL fr lo : Nat} {ret : Option FieldType} {Y : gx_Y} {Post : Value → gx_M → Prop} {K : gx_KT} {pc : Nat} {μ : gx_M} {L : List (Nat × Value)} {st : List Value} {α : Type} {rr : α} (h : gx_K l RX0 cc nL fr lo ret Y Post K) {c : Nat} {p1 : Int32} {p2 : Int32} (hc : gk_bowls Y c) (d : decode cc pc = .ok (.invokevirtual 74, 3)) (hR : 1 + 1 ≤ fr ∧ 45 ≤ lo) (hst : (st.map fun v => v.category).sum ≤ 8) {k : Int32 → gx_M → Option α} (hf : gx_b (fn_X0_pitchWith (gy_k Y) μ c p1 p2) k = some rr) (kk : ∀ (r : Int32) (m : gx_M), k r m = some rr → K m (pc + 3) L (.int r :: st)) : K μ pc L (.int p2 :: .int p1 :: .ref (gy_a Y c) :: st) := by
  obtain ⟨r, m, e, hk⟩ := gx_b_some hf
  exact gw_callV (As := [.int p1, .int p2]) (q := (r, m)) h hc.1 (by decide) rfl (by refine ⟨rfl, by decide, by decide, (show (parseMethodDescriptor yX0_pitchWith.desc).map (fun d => d.parameters.length) = some 2 by decide +kernel)⟩) kw_ml_RX0_74 kw_im_X0_pitchWith kw_se_X0_pitchWith kw_in_RX0 kw_co_X0_pitchWith hR hst d (ct_X0_pitchWith l Y μ c p1 p2 (r, m) hc e) (kk r m hk)
def fn_X0_pitchOf (kd : Nat → Nat) (μ : gx_M) (c : Nat) (p1 : Int32) : Option (Int32 × gx_M) :=
  gx_b (fn_X3_get kd μ (c + 5) p1) (fun r1 m2 =>
gx_b (fn_X0_pitchWith kd m2 c p1 r1) (fun r3 m4 =>
some (r3, m4)))
set_option maxRecDepth 100000 in
set_option maxHeartbeats 4000000 in
theorem ct_X0_pitchOf (l : Launch) (Y : gx_Y) (μ : gx_M) (c : Nat) (p1 : Int32) (rr : Int32 × gx_M) (hc : gk_bowls Y c) (hf : fn_X0_pitchOf (gy_k Y) μ c p1 = some rr) : gx_Con l yX0_pitchOf cX0_pitchOf 2 (some .int) 2 45 Y [.ref (gy_a Y c), .int p1] μ rr := by
  refine gx_Con_of (L0 := [(0, .ref (gy_a Y c)), (1, .int p1)]) (by decide) (Nat.le_of_ble_eq_true rfl) rfl (fun K hK => ?_)
  unfold fn_X0_pitchOf at hf
  refine gw_aload_n (pc := 0) hK 0 dX0_pitchOf_0 rfl rfl ?_
  refine gw_iload_n (pc := 1) hK 1 dX0_pitchOf_1 rfl rfl ?_
  refine gw_aload_n (pc := 2) hK 0 dX0_pitchOf_2 rfl rfl ?_
  refine gf_X0_23 (pc := 3) hK hc.1 dX0_pitchOf_3 ?_
  refine gw_iload_n (pc := 6) hK 1 dX0_pitchOf_6 rfl rfl ?_
  refine gv_X0_48 (pc := 7) hK hc.2.2.2.1 dX0_pitchOf_7 (by decide) (Nat.le_of_ble_eq_true rfl) hf (fun r1 m2 hf => ?_)
  refine gv_X0_74 (pc := 10) hK hc dX0_pitchOf_10 (by decide) (Nat.le_of_ble_eq_true rfl) hf (fun r3 m4 hf => ?_)
  exact gw_ret_i (pc := 13) hK dX0_pitchOf_13 (Option.some.inj hf)
theorem gv_X0_71 {l : Launch} {cc : ByteArray} {nL fr lo : Nat} {ret : Option FieldType} {Y : gx_Y} {Post : Value → gx_M → Prop} {K : gx_KT} {pc : Nat} {μ : gx_M} {L : List (Nat × Value)} {st : List Value} {α : Type} {rr : α} (h : gx_K l RX0 cc nL fr lo ret Y Post K) {c : Nat} {p1 : Int32} (hc : gk_bowls Y c) (d : decode cc pc = .ok (.invokevirtual 71, 3)) (hR : 2 + 1 ≤ fr ∧ 66 ≤ lo) (hst : (st.map fun v => v.category).sum ≤ 8) {k : Int32 → gx_M → Option α} (hf : gx_b (fn_X0_pitchOf (gy_k Y) μ c p1) k = some rr) (kk : ∀ (r : Int32) (m : gx_M), k r m = some rr → K m (pc + 3) L (.int r :: st)) : K μ pc L (.int p1 :: .ref (gy_a Y c) :: st) := by
  obtain ⟨r, m, e, hk⟩ := gx_b_some hf
  exact gw_callV (As := [.int p1]) (q := (r, m)) h hc.1 (by decide) rfl (by refine ⟨rfl, by decide, by decide, (show (parseMethodDescriptor yX0_pitchOf.desc).map (fun d => d.parameters.length) = some 1 by decide +kernel)⟩) kw_ml_RX0_71 kw_im_X0_pitchOf kw_se_X0_pitchOf kw_in_RX0 kw_co_X0_pitchOf hR hst d (ct_X0_pitchOf l Y μ c p1 (r, m) hc e) (kk r m hk)
theorem gv_X4_81 {l : Launch} {cc : ByteArray} {nL fr lo : Nat} {ret : Option FieldType} {Y : gx_Y} {Post : Value → gx_M → Prop} {K : gx_KT} {pc : Nat} {μ : gx_M} {L : List (Nat × Value)} {st : List Value} {α : Type} {rr : α} (h : gx_K l RX4 cc nL fr lo ret Y Post K) {c : Nat} {p1 : Int32} (hc : gk_bowls Y c) (d : decode cc pc = .ok (.invokevirtual 81, 3)) (hR : 2 + 1 ≤ fr ∧ 66 ≤ lo) (hst : (st.map fun v => v.category).sum ≤ 8) {k : Int32 → gx_M → Option α} (hf : gx_b (fn_X0_pitchOf (gy_k Y) μ c p1) k = some rr) (kk : ∀ (r : Int32) (m : gx_M), k r m = some rr → K m (pc + 3) L (.int r :: st)) : K μ pc L (.int p1 :: .ref (gy_a Y c) :: st) := by
  obtain ⟨r, m, e, hk⟩ := gx_b_some hf
  exact gw_callV (As := [.int p1]) (q := (r, m)) h hc.1 (by decide) rfl (by refine ⟨rfl, by decide, by decide, (show (parseMethodDescriptor yX0_pitchOf.desc).map (fun d => d.parameters.length) = some 1 by decide +kernel)⟩) kw_ml_RX4_81 kw_im_X0_pitchOf kw_se_X0_pitchOf kw_in_RX0 kw_co_X0_pitchOf hR hst d (ct_X0_pitchOf l Y μ c p1 (r, m) hc e) (kk r m hk)
theorem gv_X6_181 {l : Launch} {cc : ByteArray} {nL fr lo : Nat} {ret : Option FieldType} {Y : gx_Y} {Post : Value → gx_M → Prop} {K : gx_KT} {pc : Nat} {μ : gx_M} {L : List (Nat × Value)} {st : List Value} {α : Type} {rr : α} (h : gx_K l RX6 cc nL fr lo ret Y Post K) {c : Nat} {p1 : Int32} (hc : gk_bowls Y c) (d : decode cc pc = .ok (.invokevirtual 181, 3)) (hR : 2 + 1 ≤ fr ∧ 66 ≤ lo) (hst : (st.map fun v => v.category).sum ≤ 8) {k : Int32 → gx_M → Option α} (hf : gx_b (fn_X0_pitchOf (gy_k Y) μ c p1) k = some rr) (kk : ∀ (r : Int32) (m : gx_M), k r m = some rr → K m (pc + 3) L (.int r :: st)) : K μ pc L (.int p1 :: .ref (gy_a Y c) :: st) := by
  obtain ⟨r, m, e, hk⟩ := gx_b_some hf
  exact gw_callV (As := [.int p1]) (q := (r, m)) h hc.1 (by decide) rfl (by refine ⟨rfl, by decide, by decide, (show (parseMethodDescriptor yX0_pitchOf.desc).map (fun d => d.parameters.length) = some 1 by decide +kernel)⟩) kw_ml_RX6_181 kw_im_X0_pitchOf kw_se_X0_pitchOf kw_in_RX0 kw_co_X0_pitchOf hR hst d (ct_X0_pitchOf l Y μ c p1 (r, m) hc e) (kk r m hk)
def fn_X0_property (kd : Nat → Nat) (μ : gx_M) (c : Nat) (p1 : Int32) (p2 : Int32) : Option (Int32 × gx_M) :=
  (if p2 = 0 then
gx_b (fn_X3_get kd μ (c + 1) p1) (fun r2 m3 =>
some (r2, m3))
else
(if p2 = 1 then
gx_b (fn_X3_get kd μ (c + 3) p1) (fun r5 m6 =>
some (r5, m6))
else
(if p2 = 2 then
gx_b (fn_X3_get kd μ (c + 5) p1) (fun r8 m9 =>
some (r8, m9))
else
(if p2 = 3 then
gx_b (fn_X3_get kd μ (c + 7) p1) (fun r11 m12 =>
some (r11, m12))
else
(if p2 = 4 then
gx_b (fn_X3_get kd μ (c + 9) p1) (fun r14 m15 =>
some (r14, m15))
else
(if p2 = 5 then
gx_b (fn_X0_pitchOf kd μ c p1) (fun r17 m18 =>
some (r17, m18))
else
(if p2 = 6 then
gx_b (fn_X3_get kd μ (c + 7) p1) (fun r20 m21 =>
gx_b (fn_X3_get kd m21 (c + 9) p1) (fun r22 m23 =>
gx_b (fn_X0_pitchWith kd m23 c p1 (if r22 < r20 then r22 else r20)) (fun r24 m25 =>
some (r24, m25))))
else
some ((-100001), μ))))))))
set_option maxRecDepth 100000 in
set_option maxHeartbeats 4000000 in
theorem ct_X0_property (l : Launch) (Y : gx_Y) (μ : gx_M) (c : Nat) (p1 : Int32) (p2 : Int32) (rr : Int32 × gx_M) (hc : gk_bowls Y c) (hf : fn_X0_property (gy_k Y) μ c p1 p2 = some rr) : gx_Con l yX0_property cX0_property 3 (some .int) 3 66 Y [.ref (gy_a Y c), .int p1, .int p2] μ rr := by
  refine gx_Con_of (L0 := [(0, .ref (gy_a Y c)), (1, .int p1), (2, .int p2)]) (by decide) (Nat.le_of_ble_eq_true rfl) rfl (fun K hK => ?_)
  unfold fn_X0_property at hf
  refine gw_iload_n (pc := 0) hK 2 dX0_property_0 rfl rfl ?_
  by_cases cs1 : p2 = 0
  · replace hf := gx_pos cs1 hf
    refine gw_tblIn (tgt := 44) (pc := 1) hK dX0_property_1 (by rw [cs1]; decide) (by rw [cs1]; decide) (by rw [cs1]; rfl) (by decide) ?_
    refine gw_aload_n (pc := 44) hK 0 dX0_property_44 rfl rfl ?_
    refine gf_X0_14 (pc := 45) hK hc.1 dX0_property_45 ?_
    refine gw_iload_n (pc := 48) hK 1 dX0_property_48 rfl rfl ?_
    refine gv_X0_48 (pc := 49) hK hc.2.1 dX0_property_49 (by decide) (Nat.le_of_ble_eq_true rfl) hf (fun r2 m3 hf => ?_)
    exact gw_ret_i (pc := 52) hK dX0_property_52 (Option.some.inj hf)
  replace hf := gx_neg cs1 hf
  by_cases cs4 : p2 = 1
  · replace hf := gx_pos cs4 hf
    refine gw_tblIn (tgt := 53) (pc := 1) hK dX0_property_1 (by rw [cs4]; decide) (by rw [cs4]; decide) (by rw [cs4]; rfl) (by decide) ?_
    refine gw_aload_n (pc := 53) hK 0 dX0_property_53 rfl rfl ?_
    refine gf_X0_20 (pc := 54) hK hc.1 dX0_property_54 ?_
    refine gw_iload_n (pc := 57) hK 1 dX0_property_57 rfl rfl ?_
    refine gv_X0_48 (pc := 58) hK hc.2.2.1 dX0_property_58 (by decide) (Nat.le_of_ble_eq_true rfl) hf (fun r5 m6 hf => ?_)
    exact gw_ret_i (pc := 61) hK dX0_property_61 (Option.some.inj hf)
  replace hf := gx_neg cs4 hf
  by_cases cs7 : p2 = 2
  · replace hf := gx_pos cs7 hf
    refine gw_tblIn (tgt := 62) (pc := 1) hK dX0_property_1 (by rw [cs7]; decide) (by rw [cs7]; decide) (by rw [cs7]; rfl) (by decide) ?_
    refine gw_aload_n (pc := 62) hK 0 dX0_property_62 rfl rfl ?_
    refine gf_X0_23 (pc := 63) hK hc.1 dX0_property_63 ?_
    refine gw_iload_n (pc := 66) hK 1 dX0_property_66 rfl rfl ?_
    refine gv_X0_48 (pc := 67) hK hc.2.2.2.1 dX0_property_67 (by decide) (Nat.le_of_ble_eq_true rfl) hf (fun r8 m9 hf => ?_)
    exact gw_ret_i (pc := 70) hK dX0_property_70 (Option.some.inj hf)
  replace hf := gx_neg cs7 hf
  by_cases cs10 : p2 = 3
  · replace hf := gx_pos cs10 hf
    refine gw_tblIn (tgt := 71) (pc := 1) hK dX0_property_1 (by rw [cs10]; decide) (by rw [cs10]; decide) (by rw [cs10]; rfl) (by decide) ?_
    refine gw_aload_n (pc := 71) hK 0 dX0_property_71 rfl rfl ?_
    refine gf_X0_26 (pc := 72) hK hc.1 dX0_property_72 ?_
    refine gw_iload_n (pc := 75) hK 1 dX0_property_75 rfl rfl ?_
    refine gv_X0_48 (pc := 76) hK hc.2.2.2.2.1 dX0_property_76 (by decide) (Nat.le_of_ble_eq_true rfl) hf (fun r11 m12 hf => ?_)
    exact gw_ret_i (pc := 79) hK dX0_property_79 (Option.some.inj hf)
  replace hf := gx_neg cs10 hf
  by_cases cs13 : p2 = 4
  · replace hf := gx_pos cs13 hf
    refine gw_tblIn (tgt := 80) (pc := 1) hK dX0_property_1 (by rw [cs13]; decide) (by rw [cs13]; decide) (by rw [cs13]; rfl) (by decide) ?_
    refine gw_aload_n (pc := 80) hK 0 dX0_property_80 rfl rfl ?_
    refine gf_X0_29 (pc := 81) hK hc.1 dX0_property_81 ?_
    refine gw_iload_n (pc := 84) hK 1 dX0_property_84 rfl rfl ?_
    refine gv_X0_48 (pc := 85) hK hc.2.2.2.2.2 dX0_property_85 (by decide) (Nat.le_of_ble_eq_true rfl) hf (fun r14 m15 hf => ?_)
    exact gw_ret_i (pc := 88) hK dX0_property_88 (Option.some.inj hf)
  replace hf := gx_neg cs13 hf
  by_cases cs16 : p2 = 5
  · replace hf := gx_pos cs16 hf
    refine gw_tblIn (tgt := 89) (pc := 1) hK dX0_property_1 (by rw [cs16]; decide) (by rw [cs16]; decide) (by rw [cs16]; rfl) (by decide) ?_
    refine gw_aload_n (pc := 89) hK 0 dX0_property_89 rfl rfl ?_
    refine gw_iload_n (pc := 90) hK 1 dX0_property_90 rfl rfl ?_
    refine gv_X0_71 (pc := 91) hK hc dX0_property_91 (by decide) (Nat.le_of_ble_eq_true rfl) hf (fun r17 m18 hf => ?_)
    exact gw_ret_i (pc := 94) hK dX0_property_94 (Option.some.inj hf)
  replace hf := gx_neg cs16 hf
  by_cases cs19 : p2 = 6
  · replace hf := gx_pos cs19 hf
    refine gw_tblIn (tgt := 95) (pc := 1) hK dX0_property_1 (by rw [cs19]; decide) (by rw [cs19]; decide) (by rw [cs19]; rfl) (by decide) ?_
    refine gw_aload_n (pc := 95) hK 0 dX0_property_95 rfl rfl ?_
    refine gw_iload_n (pc := 96) hK 1 dX0_property_96 rfl rfl ?_
    refine gw_aload_n (pc := 97) hK 0 dX0_property_97 rfl rfl ?_
    refine gf_X0_26 (pc := 98) hK hc.1 dX0_property_98 ?_
    refine gw_iload_n (pc := 101) hK 1 dX0_property_101 rfl rfl ?_
    refine gv_X0_48 (pc := 102) hK hc.2.2.2.2.1 dX0_property_102 (by decide) (Nat.le_of_ble_eq_true rfl) hf (fun r20 m21 hf => ?_)
    refine gw_aload_n (pc := 105) hK 0 dX0_property_105 rfl rfl ?_
    refine gf_X0_29 (pc := 106) hK hc.1 dX0_property_106 ?_
    refine gw_iload_n (pc := 109) hK 1 dX0_property_109 rfl rfl ?_
    refine gv_X0_48 (pc := 110) hK hc.2.2.2.2.2 dX0_property_110 (by decide) (Nat.le_of_ble_eq_true rfl) hf (fun r22 m23 hf => ?_)
    refine gw_mmin (pc := 113) hK kw_ml_RX0_65 dX0_property_113 (Nat.le_of_ble_eq_true rfl) (Nat.le_of_ble_eq_true rfl) ?_
    refine gv_X0_74 (pc := 116) hK hc dX0_property_116 (by decide) (Nat.le_of_ble_eq_true rfl) hf (fun r24 m25 hf => ?_)
    exact gw_ret_i (pc := 119) hK dX0_property_119 (Option.some.inj hf)
  replace hf := gx_neg cs19 hf
  have ncs1 := lv_neT cs1 (a := 0) (by decide)
  have ncs4 := lv_neT cs4 (a := 1) (by decide)
  have ncs7 := lv_neT cs7 (a := 2) (by decide)
  have ncs10 := lv_neT cs10 (a := 3) (by decide)
  have ncs13 := lv_neT cs13 (a := 4) (by decide)
  have ncs16 := lv_neT cs16 (a := 5) (by decide)
  have ncs19 := lv_neT cs19 (a := 6) (by decide)
  refine gw_tblOut (tgt := 120) (pc := 1) hK dX0_property_1 (by omega) (by decide) ?_
  refine gw_ldc (pc := 120) hK dX0_property_120 kw_k_RX0_77 ?_
  exact gw_ret_i (pc := 122) hK dX0_property_122 (Option.some.inj hf)
theorem gv_X6_83 {l : Launch} {cc : ByteArray} {nL fr lo : Nat} {ret : Option FieldType} {Y : gx_Y} {Post : Value → gx_M → Prop} {K : gx_KT} {pc : Nat} {μ : gx_M} {L : List (Nat × Value)} {st : List Value} {α : Type} {rr : α} (h : gx_K l RX6 cc nL fr lo ret Y Post K) {c : Nat} {p1 : Int32} {p2 : Int32} (hc : gk_bowls Y c) (d : decode cc pc = .ok (.invokevirtual 83, 3)) (hR : 3 + 1 ≤ fr ∧ 88 ≤ lo) (hst : (st.map fun v => v.category).sum ≤ 8) {k : Int32 → gx_M → Option α} (hf : gx_b (fn_X0_property (gy_k Y) μ c p1 p2) k = some rr) (kk : ∀ (r : Int32) (m : gx_M), k r m = some rr → K m (pc + 3) L (.int r :: st)) : K μ pc L (.int p2 :: .int p1 :: .ref (gy_a Y c) :: st) := by
  obtain ⟨r, m, e, hk⟩ := gx_b_some hf
  exact gw_callV (As := [.int p1, .int p2]) (q := (r, m)) h hc.1 (by decide) rfl (by refine ⟨rfl, by decide, by decide, (show (parseMethodDescriptor yX0_property.desc).map (fun d => d.parameters.length) = some 2 by decide +kernel)⟩) kw_ml_RX6_83 kw_im_X0_property kw_se_X0_property kw_in_RX0 kw_co_X0_property hR hst d (ct_X0_property l Y μ c p1 p2 (r, m) hc e) (kk r m hk)
def lf_X0_inBowls_4 (kd : Nat → Nat) (c0 : Nat) (k : gx_M → Int32 → Int32 → Option (Int32 × gx_M)) : Nat → gx_M → Int32 → Int32 → Option (Int32 × gx_M)
  | 0, _, _, _ => none
  | n + 1, μ, x1, x2 => (if μ c0 5 ≤ x2 then
k μ x1 x2
else
gx_b (fn_X3_get kd μ (c0 + 5) x2) (fun r2 m3 =>
lf_X0_inBowls_4 kd c0 k n m3 (x1 + r2) (x2 + 1)))
def fn_X0_inBowls (kd : Nat → Nat) (μ : gx_M) (c : Nat) : Option (Int32 × gx_M) :=
  lf_X0_inBowls_4 kd c (fun m4 y5 y6 =>
some (y5, m4)) gx_F μ 0 0
set_option maxRecDepth 100000 in
set_option maxHeartbeats 4000000 in
theorem lt_X0_inBowls_4 {l : Launch} {Y : gx_Y} {rr : Int32 × gx_M} {K : gx_KT} (hK : gx_K l RX0 cX0_inBowls 3 1 21 (some .int) Y (gx_P rr) K) (c0 : Nat) (hc0 : gk_bowls Y c0) (k : gx_M → Int32 → Int32 → Option (Int32 × gx_M)) (hx : ∀ (μ : gx_M) (x1 : Int32) (x2 : Int32), k μ x1 x2 = some rr → K μ 29 [(0, .ref (gy_a Y c0)), (1, .int x1), (2, .int x2)] []) :
    ∀ (n : Nat) (μ : gx_M) (x1 : Int32) (x2 : Int32), lf_X0_inBowls_4 (gy_k Y) c0 k n μ x1 x2 = some rr → K μ 4 [(0, .ref (gy_a Y c0)), (1, .int x1), (2, .int x2)] [] := by
  intro n
  induction n with
  | zero =>
    intro μ x1 x2 hf
    exact absurd hf (by simp [lf_X0_inBowls_4])
  | succ n ih =>
    intro μ x1 x2 hf
    rw [lf_X0_inBowls_4] at hf
    refine gw_iload_n (pc := 4) hK 2 dX0_inBowls_4 rfl rfl ?_
    refine gw_aload_n (pc := 5) hK 0 dX0_inBowls_5 rfl rfl ?_
    refine gf_X0_32 (pc := 6) hK hc0.1 dX0_inBowls_6 ?_
    refine gw_icmp_ge (tgt := 29) (pc := 9) hK dX0_inBowls_9 (by decide) hf (fun cc1 hf => ?_) (fun cc1 hf => ?_)
    ·
      refine gw_sub (L' := [(0, .ref (gy_a Y c0)), (1, .int x1), (2, .int x2)]) hK [0, 1, 2] rfl (hx _ _ _ hf)
    ·
      refine gw_iload_n (pc := 12) hK 1 dX0_inBowls_12 rfl rfl ?_
      refine gw_aload_n (pc := 13) hK 0 dX0_inBowls_13 rfl rfl ?_
      refine gf_X0_23 (pc := 14) hK hc0.1 dX0_inBowls_14 ?_
      refine gw_iload_n (pc := 17) hK 2 dX0_inBowls_17 rfl rfl ?_
      refine gv_X0_48 (pc := 18) hK hc0.2.2.2.1 dX0_inBowls_18 (by decide) (Nat.le_of_ble_eq_true rfl) hf (fun r2 m3 hf => ?_)
      refine gw_iadd (pc := 21) hK dX0_inBowls_21 ?_
      refine gw_istore_n (L' := [(1, .int (x1 + r2)), (0, .ref (gy_a Y c0)), (2, .int x2)]) (pc := 22) hK dX0_inBowls_22 rfl (by decide) rfl ?_
      refine gw_iinc (v := (x2 + 1)) (L' := [(2, .int (x2 + 1)), (1, .int (x1 + r2)), (0, .ref (gy_a Y c0))]) (pc := 23) hK 2 dX0_inBowls_23 rfl rfl (by decide) rfl ?_
      refine gw_goto (tgt := 4) (pc := 26) hK dX0_inBowls_26 (by decide) ?_
      refine gw_sub (L' := [(0, .ref (gy_a Y c0)), (1, .int (x1 + r2)), (2, .int (x2 + 1))]) hK [2, 1, 0] rfl (ih _ _ _ hf)
set_option maxRecDepth 100000 in
set_option maxHeartbeats 4000000 in
theorem ct_X0_inBowls (l : Launch) (Y : gx_Y) (μ : gx_M) (c : Nat) (rr : Int32 × gx_M) (hc : gk_bowls Y c) (hf : fn_X0_inBowls (gy_k Y) μ c = some rr) : gx_Con l yX0_inBowls cX0_inBowls 3 (some .int) 1 21 Y [.ref (gy_a Y c)] μ rr := by
  refine gx_Con_of (L0 := [(0, .ref (gy_a Y c))]) (by decide) (Nat.le_of_ble_eq_true rfl) rfl (fun K hK => ?_)
  unfold fn_X0_inBowls at hf
  refine gw_iconst (v := 0) (pc := 0) hK dX0_inBowls_0 (by decide) ?_
  refine gw_istore_n (L' := [(1, .int 0), (0, .ref (gy_a Y c))]) (pc := 1) hK dX0_inBowls_1 rfl (by decide) rfl ?_
  refine gw_iconst (v := 0) (pc := 2) hK dX0_inBowls_2 (by decide) ?_
  refine gw_istore_n (L' := [(2, .int 0), (1, .int 0), (0, .ref (gy_a Y c))]) (pc := 3) hK dX0_inBowls_3 rfl (by decide) rfl ?_
  refine gw_sub (L' := [(0, .ref (gy_a Y c)), (1, .int 0), (2, .int 0)]) hK [2, 1, 0] rfl (lt_X0_inBowls_4 hK c hc _ (fun m4 y5 y6 hf => ?_) gx_F _ _ _ hf)
  refine gw_iload_n (pc := 29) hK 1 dX0_inBowls_29 rfl rfl ?_
  exact gw_ret_i (pc := 30) hK dX0_inBowls_30 (Option.some.inj hf)
theorem gv_X0_83 {l : Launch} {cc : ByteArray} {nL fr lo : Nat} {ret : Option FieldType} {Y : gx_Y} {Post : Value → gx_M → Prop} {K : gx_KT} {pc : Nat} {μ : gx_M} {L : List (Nat × Value)} {st : List Value} {α : Type} {rr : α} (h : gx_K l RX0 cc nL fr lo ret Y Post K) {c : Nat} (hc : gk_bowls Y c) (d : decode cc pc = .ok (.invokevirtual 83, 3)) (hR : 1 + 1 ≤ fr ∧ 43 ≤ lo) (hst : (st.map fun v => v.category).sum ≤ 8) {k : Int32 → gx_M → Option α} (hf : gx_b (fn_X0_inBowls (gy_k Y) μ c) k = some rr) (kk : ∀ (r : Int32) (m : gx_M), k r m = some rr → K m (pc + 3) L (.int r :: st)) : K μ pc L (.ref (gy_a Y c) :: st) := by
  obtain ⟨r, m, e, hk⟩ := gx_b_some hf
  exact gw_callV (As := []) (q := (r, m)) h hc.1 (by decide) rfl (by refine ⟨rfl, by decide, by decide, (show (parseMethodDescriptor yX0_inBowls.desc).map (fun d => d.parameters.length) = some 0 by decide +kernel)⟩) kw_ml_RX0_83 kw_im_X0_inBowls kw_se_X0_inBowls kw_in_RX0 kw_co_X0_inBowls hR hst d (ct_X0_inBowls l Y μ c (r, m) hc e) (kk r m hk)
def fn_X0_account (kd : Nat → Nat) (μ : gx_M) (c : Nat) (p1 : Int32) : Option (Int32 × gx_M) :=
  (if p1 = 0 then
some (μ c 6, μ)
else
(if p1 = 1 then
gx_b (fn_X0_inBowls kd μ c) (fun r3 m4 =>
some (r3, m4))
else
(if p1 = 2 then
some (μ c 7, μ)
else
(if p1 = 3 then
some (μ c 8, μ)
else
(if p1 = 4 then
some (μ c 9, μ)
else
some ((-100001), μ))))))
set_option maxRecDepth 100000 in
set_option maxHeartbeats 4000000 in
theorem ct_X0_account (l : Launch) (Y : gx_Y) (μ : gx_M) (c : Nat) (p1 : Int32) (rr : Int32 × gx_M) (hc : gk_bowls Y c) (hf : fn_X0_account (gy_k Y) μ c p1 = some rr) : gx_Con l yX0_account cX0_account 2 (some .int) 2 43 Y [.ref (gy_a Y c), .int p1] μ rr := by
  refine gx_Con_of (L0 := [(0, .ref (gy_a Y c)), (1, .int p1)]) (by decide) (Nat.le_of_ble_eq_true rfl) rfl (fun K hK => ?_)
  unfold fn_X0_account at hf
  refine gw_iload_n (pc := 0) hK 1 dX0_account_0 rfl rfl ?_
  by_cases cs1 : p1 = 0
  · replace hf := gx_pos cs1 hf
    refine gw_tblIn (tgt := 36) (pc := 1) hK dX0_account_1 (by rw [cs1]; decide) (by rw [cs1]; decide) (by rw [cs1]; rfl) (by decide) ?_
    refine gw_aload_n (pc := 36) hK 0 dX0_account_36 rfl rfl ?_
    refine gf_X0_36 (pc := 37) hK hc.1 dX0_account_37 ?_
    exact gw_ret_i (pc := 40) hK dX0_account_40 (Option.some.inj hf)
  replace hf := gx_neg cs1 hf
  by_cases cs2 : p1 = 1
  · replace hf := gx_pos cs2 hf
    refine gw_tblIn (tgt := 41) (pc := 1) hK dX0_account_1 (by rw [cs2]; decide) (by rw [cs2]; decide) (by rw [cs2]; rfl) (by decide) ?_
    refine gw_aload_n (pc := 41) hK 0 dX0_account_41 rfl rfl ?_
    refine gv_X0_83 (pc := 42) hK hc dX0_account_42 (by decide) (Nat.le_of_ble_eq_true rfl) hf (fun r3 m4 hf => ?_)
    exact gw_ret_i (pc := 45) hK dX0_account_45 (Option.some.inj hf)
  replace hf := gx_neg cs2 hf
  by_cases cs5 : p1 = 2
  · replace hf := gx_pos cs5 hf
    refine gw_tblIn (tgt := 46) (pc := 1) hK dX0_account_1 (by rw [cs5]; decide) (by rw [cs5]; decide) (by rw [cs5]; rfl) (by decide) ?_
    refine gw_aload_n (pc := 46) hK 0 dX0_account_46 rfl rfl ?_
    refine gf_X0_39 (pc := 47) hK hc.1 dX0_account_47 ?_
    exact gw_ret_i (pc := 50) hK dX0_account_50 (Option.some.inj hf)
  replace hf := gx_neg cs5 hf
  by_cases cs6 : p1 = 3
  · replace hf := gx_pos cs6 hf
    refine gw_tblIn (tgt := 51) (pc := 1) hK dX0_account_1 (by rw [cs6]; decide) (by rw [cs6]; decide) (by rw [cs6]; rfl) (by decide) ?_
    refine gw_aload_n (pc := 51) hK 0 dX0_account_51 rfl rfl ?_
    refine gf_X0_42 (pc := 52) hK hc.1 dX0_account_52 ?_
    exact gw_ret_i (pc := 55) hK dX0_account_55 (Option.some.inj hf)
  replace hf := gx_neg cs6 hf
  by_cases cs7 : p1 = 4
  · replace hf := gx_pos cs7 hf
    refine gw_tblIn (tgt := 56) (pc := 1) hK dX0_account_1 (by rw [cs7]; decide) (by rw [cs7]; decide) (by rw [cs7]; rfl) (by decide) ?_
    refine gw_aload_n (pc := 56) hK 0 dX0_account_56 rfl rfl ?_
    refine gf_X0_45 (pc := 57) hK hc.1 dX0_account_57 ?_
    exact gw_ret_i (pc := 60) hK dX0_account_60 (Option.some.inj hf)
  replace hf := gx_neg cs7 hf
  have ncs1 := lv_neT cs1 (a := 0) (by decide)
  have ncs2 := lv_neT cs2 (a := 1) (by decide)
  have ncs5 := lv_neT cs5 (a := 2) (by decide)
  have ncs6 := lv_neT cs6 (a := 3) (by decide)
  have ncs7 := lv_neT cs7 (a := 4) (by decide)
  refine gw_tblOut (tgt := 61) (pc := 1) hK dX0_account_1 (by omega) (by decide) ?_
  refine gw_ldc (pc := 61) hK dX0_account_61 kw_k_RX0_77 ?_
  exact gw_ret_i (pc := 63) hK dX0_account_63 (Option.some.inj hf)
theorem gv_X6_105 {l : Launch} {cc : ByteArray} {nL fr lo : Nat} {ret : Option FieldType} {Y : gx_Y} {Post : Value → gx_M → Prop} {K : gx_KT} {pc : Nat} {μ : gx_M} {L : List (Nat × Value)} {st : List Value} {α : Type} {rr : α} (h : gx_K l RX6 cc nL fr lo ret Y Post K) {c : Nat} {p1 : Int32} (hc : gk_bowls Y c) (d : decode cc pc = .ok (.invokevirtual 105, 3)) (hR : 2 + 1 ≤ fr ∧ 64 ≤ lo) (hst : (st.map fun v => v.category).sum ≤ 8) {k : Int32 → gx_M → Option α} (hf : gx_b (fn_X0_account (gy_k Y) μ c p1) k = some rr) (kk : ∀ (r : Int32) (m : gx_M), k r m = some rr → K m (pc + 3) L (.int r :: st)) : K μ pc L (.int p1 :: .ref (gy_a Y c) :: st) := by
  obtain ⟨r, m, e, hk⟩ := gx_b_some hf
  exact gw_callV (As := [.int p1]) (q := (r, m)) h hc.1 (by decide) rfl (by refine ⟨rfl, by decide, by decide, (show (parseMethodDescriptor yX0_account.desc).map (fun d => d.parameters.length) = some 1 by decide +kernel)⟩) kw_ml_RX6_105 kw_im_X0_account kw_se_X0_account kw_in_RX0 kw_co_X0_account hR hst d (ct_X0_account l Y μ c p1 (r, m) hc e) (kk r m hk)
def fn_X0_levelIn (kd : Nat → Nat) (μ : gx_M) (c : Nat) (p1 : Int32) : Option (Int32 × gx_M) :=
  gx_b (fn_X3_get kd μ (c + 5) p1) (fun r1 m2 =>
some (r1, m2))
set_option maxRecDepth 100000 in
set_option maxHeartbeats 4000000 in
theorem ct_X0_levelIn (l : Launch) (Y : gx_Y) (μ : gx_M) (c : Nat) (p1 : Int32) (rr : Int32 × gx_M) (hc : gk_bowls Y c) (hf : fn_X0_levelIn (gy_k Y) μ c p1 = some rr) : gx_Con l yX0_levelIn cX0_levelIn 2 (some .int) 1 21 Y [.ref (gy_a Y c), .int p1] μ rr := by
  refine gx_Con_of (L0 := [(0, .ref (gy_a Y c)), (1, .int p1)]) (by decide) (Nat.le_of_ble_eq_true rfl) rfl (fun K hK => ?_)
  unfold fn_X0_levelIn at hf
  refine gw_aload_n (pc := 0) hK 0 dX0_levelIn_0 rfl rfl ?_
  refine gf_X0_23 (pc := 1) hK hc.1 dX0_levelIn_1 ?_
  refine gw_iload_n (pc := 4) hK 1 dX0_levelIn_4 rfl rfl ?_
  refine gv_X0_48 (pc := 5) hK hc.2.2.2.1 dX0_levelIn_5 (by decide) (Nat.le_of_ble_eq_true rfl) hf (fun r1 m2 hf => ?_)
  exact gw_ret_i (pc := 8) hK dX0_levelIn_8 (Option.some.inj hf)
theorem gv_X6_65 {l : Launch} {cc : ByteArray} {nL fr lo : Nat} {ret : Option FieldType} {Y : gx_Y} {Post : Value → gx_M → Prop} {K : gx_KT} {pc : Nat} {μ : gx_M} {L : List (Nat × Value)} {st : List Value} {α : Type} {rr : α} (h : gx_K l RX6 cc nL fr lo ret Y Post K) {c : Nat} {p1 : Int32} (hc : gk_bowls Y c) (d : decode cc pc = .ok (.invokevirtual 65, 3)) (hR : 1 + 1 ≤ fr ∧ 42 ≤ lo) (hst : (st.map fun v => v.category).sum ≤ 8) {k : Int32 → gx_M → Option α} (hf : gx_b (fn_X0_levelIn (gy_k Y) μ c p1) k = some rr) (kk : ∀ (r : Int32) (m : gx_M), k r m = some rr → K m (pc + 3) L (.int r :: st)) : K μ pc L (.int p1 :: .ref (gy_a Y c) :: st) := by
  obtain ⟨r, m, e, hk⟩ := gx_b_some hf
  exact gw_callV (As := [.int p1]) (q := (r, m)) h hc.1 (by decide) rfl (by refine ⟨rfl, by decide, by decide, (show (parseMethodDescriptor yX0_levelIn.desc).map (fun d => d.parameters.length) = some 1 by decide +kernel)⟩) kw_ml_RX6_65 kw_im_X0_levelIn kw_se_X0_levelIn kw_in_RX0 kw_co_X0_levelIn hR hst d (ct_X0_levelIn l Y μ c p1 (r, m) hc e) (kk r m hk)
def fn_X0_hold (kd : Nat → Nat) (μ : gx_M) (c : Nat) (p1 : Int32) (p2 : Int32) : Option (Int32 × gx_M) :=
  gx_b (fn_X3_get kd μ (c + 9) p1) (fun r1 m2 =>
gx_b (fn_X3_put kd (gx_u m2 c 8 (m2 c 8 + (p2 - (if r1 < p2 then r1 else p2)))) (c + 5) p1 (if r1 < p2 then r1 else p2)) (fun _ m4 =>
some (0, m4)))
set_option maxRecDepth 100000 in
set_option maxHeartbeats 4000000 in
theorem ct_X0_hold (l : Launch) (Y : gx_Y) (μ : gx_M) (c : Nat) (p1 : Int32) (p2 : Int32) (rr : Int32 × gx_M) (hc : gk_bowls Y c) (hf : fn_X0_hold (gy_k Y) μ c p1 p2 = some rr) : gx_Con l yX0_hold cX0_hold 4 none 1 22 Y [.ref (gy_a Y c), .int p1, .int p2] μ rr := by
  refine gx_Con_of (L0 := [(0, .ref (gy_a Y c)), (1, .int p1), (2, .int p2)]) (by decide) (Nat.le_of_ble_eq_true rfl) rfl (fun K hK => ?_)
  unfold fn_X0_hold at hf
  refine gw_iload_n (pc := 0) hK 2 dX0_hold_0 rfl rfl ?_
  refine gw_aload_n (pc := 1) hK 0 dX0_hold_1 rfl rfl ?_
  refine gf_X0_29 (pc := 2) hK hc.1 dX0_hold_2 ?_
  refine gw_iload_n (pc := 5) hK 1 dX0_hold_5 rfl rfl ?_
  refine gv_X0_48 (pc := 6) hK hc.2.2.2.2.2 dX0_hold_6 (by decide) (Nat.le_of_ble_eq_true rfl) hf (fun r1 m2 hf => ?_)
  refine gw_mmin (pc := 9) hK kw_ml_RX0_65 dX0_hold_9 (Nat.le_of_ble_eq_true rfl) (Nat.le_of_ble_eq_true rfl) ?_
  refine gw_istore_n (L' := [(3, .int (if r1 < p2 then r1 else p2)), (0, .ref (gy_a Y c)), (1, .int p1), (2, .int p2)]) (pc := 12) hK dX0_hold_12 rfl (by decide) rfl ?_
  refine gw_aload_n (pc := 13) hK 1 dX0_hold_13 rfl rfl ?_
  refine gw_dup (pc := 14) hK dX0_hold_14 rfl ?_
  refine gf_X0_42 (pc := 15) hK hc.1 dX0_hold_15 ?_
  refine gw_iload_n (pc := 18) hK 3 dX0_hold_18 rfl rfl ?_
  refine gw_iload_n (pc := 19) hK 0 dX0_hold_19 rfl rfl ?_
  refine gw_isub (pc := 20) hK dX0_hold_20 ?_
  refine gw_iadd (pc := 21) hK dX0_hold_21 ?_
  refine gp_X0_42 (pc := 22) hK hc.1 dX0_hold_22 ?_
  refine gw_aload_n (pc := 25) hK 1 dX0_hold_25 rfl rfl ?_
  refine gf_X0_23 (pc := 26) hK hc.1 dX0_hold_26 ?_
  refine gw_iload_n (pc := 29) hK 2 dX0_hold_29 rfl rfl ?_
  refine gw_iload_n (pc := 30) hK 0 dX0_hold_30 rfl rfl ?_
  refine gv_X0_52 (pc := 31) hK hc.2.2.2.1 dX0_hold_31 (by decide) (Nat.le_of_ble_eq_true rfl) hf (fun _ m4 hf => ?_)
  exact gw_ret_v (pc := 34) hK dX0_hold_34 (Option.some.inj hf)
theorem gv_X0_59 {l : Launch} {cc : ByteArray} {nL fr lo : Nat} {ret : Option FieldType} {Y : gx_Y} {Post : Value → gx_M → Prop} {K : gx_KT} {pc : Nat} {μ : gx_M} {L : List (Nat × Value)} {st : List Value} {α : Type} {rr : α} (h : gx_K l RX0 cc nL fr lo ret Y Post K) {c : Nat} {p1 : Int32} {p2 : Int32} (hc : gk_bowls Y c) (d : decode cc pc = .ok (.invokevirtual 59, 3)) (hR : 1 + 1 ≤ fr ∧ 45 ≤ lo) (hst : (st.map fun v => v.category).sum ≤ 8) {k : Int32 → gx_M → Option α} (hf : gx_b (fn_X0_hold (gy_k Y) μ c p1 p2) k = some rr) (kk : ∀ (r : Int32) (m : gx_M), k r m = some rr → K m (pc + 3) L (st)) : K μ pc L (.int p2 :: .int p1 :: .ref (gy_a Y c) :: st) := by
  obtain ⟨r, m, e, hk⟩ := gx_b_some hf
  exact gw_callV (As := [.int p1, .int p2]) (q := (r, m)) h hc.1 (by decide) rfl (by refine ⟨rfl, by decide, by decide, (show (parseMethodDescriptor yX0_hold.desc).map (fun d => d.parameters.length) = some 2 by decide +kernel)⟩) kw_ml_RX0_59 kw_im_X0_hold kw_se_X0_hold kw_in_RX0 kw_co_X0_hold hR hst d (ct_X0_hold l Y μ c p1 p2 (r, m) hc e) (kk r m hk)
def fn_X0_moveCrack (kd : Nat → Nat) (μ : gx_M) (c : Nat) (p1 : Int32) (p2 : Int32) : Option (Int32 × gx_M) :=
  gx_b (fn_X3_put kd μ (c + 9) p1 p2) (fun _ m2 =>
gx_b (fn_X3_get kd m2 (c + 5) p1) (fun r3 m4 =>
gx_b (fn_X0_hold kd m4 c p1 r3) (fun _ m6 =>
some (0, m6))))
set_option maxRecDepth 100000 in
set_option maxHeartbeats 4000000 in
theorem ct_X0_moveCrack (l : Launch) (Y : gx_Y) (μ : gx_M) (c : Nat) (p1 : Int32) (p2 : Int32) (rr : Int32 × gx_M) (hc : gk_bowls Y c) (hf : fn_X0_moveCrack (gy_k Y) μ c p1 p2 = some rr) : gx_Con l yX0_moveCrack cX0_moveCrack 3 none 2 45 Y [.ref (gy_a Y c), .int p1, .int p2] μ rr := by
  refine gx_Con_of (L0 := [(0, .ref (gy_a Y c)), (1, .int p1), (2, .int p2)]) (by decide) (Nat.le_of_ble_eq_true rfl) rfl (fun K hK => ?_)
  unfold fn_X0_moveCrack at hf
  refine gw_aload_n (pc := 0) hK 0 dX0_moveCrack_0 rfl rfl ?_
  refine gf_X0_29 (pc := 1) hK hc.1 dX0_moveCrack_1 ?_
  refine gw_iload_n (pc := 4) hK 1 dX0_moveCrack_4 rfl rfl ?_
  refine gw_iload_n (pc := 5) hK 2 dX0_moveCrack_5 rfl rfl ?_
  refine gv_X0_52 (pc := 6) hK hc.2.2.2.2.2 dX0_moveCrack_6 (by decide) (Nat.le_of_ble_eq_true rfl) hf (fun _ m2 hf => ?_)
  refine gw_aload_n (pc := 9) hK 0 dX0_moveCrack_9 rfl rfl ?_
  refine gw_iload_n (pc := 10) hK 1 dX0_moveCrack_10 rfl rfl ?_
  refine gw_aload_n (pc := 11) hK 0 dX0_moveCrack_11 rfl rfl ?_
  refine gf_X0_23 (pc := 12) hK hc.1 dX0_moveCrack_12 ?_
  refine gw_iload_n (pc := 15) hK 1 dX0_moveCrack_15 rfl rfl ?_
  refine gv_X0_48 (pc := 16) hK hc.2.2.2.1 dX0_moveCrack_16 (by decide) (Nat.le_of_ble_eq_true rfl) hf (fun r3 m4 hf => ?_)
  refine gv_X0_59 (pc := 19) hK hc dX0_moveCrack_19 (by decide) (Nat.le_of_ble_eq_true rfl) hf (fun _ m6 hf => ?_)
  exact gw_ret_v (pc := 22) hK dX0_moveCrack_22 (Option.some.inj hf)
theorem gv_X6_76 {l : Launch} {cc : ByteArray} {nL fr lo : Nat} {ret : Option FieldType} {Y : gx_Y} {Post : Value → gx_M → Prop} {K : gx_KT} {pc : Nat} {μ : gx_M} {L : List (Nat × Value)} {st : List Value} {α : Type} {rr : α} (h : gx_K l RX6 cc nL fr lo ret Y Post K) {c : Nat} {p1 : Int32} {p2 : Int32} (hc : gk_bowls Y c) (d : decode cc pc = .ok (.invokevirtual 76, 3)) (hR : 2 + 1 ≤ fr ∧ 67 ≤ lo) (hst : (st.map fun v => v.category).sum ≤ 8) {k : Int32 → gx_M → Option α} (hf : gx_b (fn_X0_moveCrack (gy_k Y) μ c p1 p2) k = some rr) (kk : ∀ (r : Int32) (m : gx_M), k r m = some rr → K m (pc + 3) L (st)) : K μ pc L (.int p2 :: .int p1 :: .ref (gy_a Y c) :: st) := by
  obtain ⟨r, m, e, hk⟩ := gx_b_some hf
  exact gw_callV (As := [.int p1, .int p2]) (q := (r, m)) h hc.1 (by decide) rfl (by refine ⟨rfl, by decide, by decide, (show (parseMethodDescriptor yX0_moveCrack.desc).map (fun d => d.parameters.length) = some 2 by decide +kernel)⟩) kw_ml_RX6_76 kw_im_X0_moveCrack kw_se_X0_moveCrack kw_in_RX0 kw_co_X0_moveCrack hR hst d (ct_X0_moveCrack l Y μ c p1 p2 (r, m) hc e) (kk r m hk)
def lf_X0_dry_2 (kd : Nat → Nat) (c0 : Nat) (q1 : Int32) (k : gx_M → Int32 → Option (Int32 × gx_M)) : Nat → gx_M → Int32 → Option (Int32 × gx_M)
  | 0, _, _ => none
  | n + 1, μ, x2 => (if μ c0 5 ≤ x2 then
k μ x2
else
gx_b (fn_X3_get kd μ (c0 + 5) x2) (fun r2 m3 =>
gx_b (fn_X3_add kd (gx_u m3 c0 7 (m3 c0 7 + (if q1 < r2 then q1 else r2))) (c0 + 5) x2 (-(if q1 < r2 then q1 else r2))) (fun _ m5 =>
lf_X0_dry_2 kd c0 q1 k n m5 (x2 + 1))))
def fn_X0_dry (kd : Nat → Nat) (μ : gx_M) (c : Nat) (p1 : Int32) : Option (Int32 × gx_M) :=
  lf_X0_dry_2 kd c p1 (fun m6 y7 =>
some (0, m6)) gx_F μ 0
set_option maxRecDepth 100000 in
set_option maxHeartbeats 4000000 in
theorem lt_X0_dry_2 {l : Launch} {Y : gx_Y} {rr : Int32 × gx_M} {K : gx_KT} (hK : gx_K l RX0 cX0_dry 4 2 44 none Y (gx_P rr) K) (c0 : Nat) (q1 : Int32) (hc0 : gk_bowls Y c0) (k : gx_M → Int32 → Option (Int32 × gx_M)) (hx : ∀ (μ : gx_M) (x2 : Int32), k μ x2 = some rr → K μ 49 [(0, .ref (gy_a Y c0)), (1, .int q1), (2, .int x2)] []) :
    ∀ (n : Nat) (μ : gx_M) (x2 : Int32), lf_X0_dry_2 (gy_k Y) c0 q1 k n μ x2 = some rr → K μ 2 [(0, .ref (gy_a Y c0)), (1, .int q1), (2, .int x2)] [] := by
  intro n
  induction n with
  | zero =>
    intro μ x2 hf
    exact absurd hf (by simp [lf_X0_dry_2])
  | succ n ih =>
    intro μ x2 hf
    rw [lf_X0_dry_2] at hf
    refine gw_iload_n (pc := 2) hK 2 dX0_dry_2 rfl rfl ?_
    refine gw_aload_n (pc := 3) hK 0 dX0_dry_3 rfl rfl ?_
    refine gf_X0_32 (pc := 4) hK hc0.1 dX0_dry_4 ?_
    refine gw_icmp_ge (tgt := 49) (pc := 7) hK dX0_dry_7 (by decide) hf (fun cc1 hf => ?_) (fun cc1 hf => ?_)
    ·
      refine gw_sub (L' := [(0, .ref (gy_a Y c0)), (1, .int q1), (2, .int x2)]) hK [0, 1, 2] rfl (hx _ _ hf)
    ·
      refine gw_aload_n (pc := 10) hK 0 dX0_dry_10 rfl rfl ?_
      refine gf_X0_23 (pc := 11) hK hc0.1 dX0_dry_11 ?_
      refine gw_iload_n (pc := 14) hK 2 dX0_dry_14 rfl rfl ?_
      refine gv_X0_48 (pc := 15) hK hc0.2.2.2.1 dX0_dry_15 (by decide) (Nat.le_of_ble_eq_true rfl) hf (fun r2 m3 hf => ?_)
      refine gw_iload_n (pc := 18) hK 1 dX0_dry_18 rfl rfl ?_
      refine gw_mmin (pc := 19) hK kw_ml_RX0_65 dX0_dry_19 (Nat.le_of_ble_eq_true rfl) (Nat.le_of_ble_eq_true rfl) ?_
      refine gw_istore_n (L' := [(3, .int (if q1 < r2 then q1 else r2)), (0, .ref (gy_a Y c0)), (1, .int q1), (2, .int x2)]) (pc := 22) hK dX0_dry_22 rfl (by decide) rfl ?_
      refine gw_aload_n (pc := 23) hK 1 dX0_dry_23 rfl rfl ?_
      refine gw_dup (pc := 24) hK dX0_dry_24 rfl ?_
      refine gf_X0_39 (pc := 25) hK hc0.1 dX0_dry_25 ?_
      refine gw_iload_n (pc := 28) hK 0 dX0_dry_28 rfl rfl ?_
      refine gw_iadd (pc := 29) hK dX0_dry_29 ?_
      refine gp_X0_39 (pc := 30) hK hc0.1 dX0_dry_30 ?_
      refine gw_aload_n (pc := 33) hK 1 dX0_dry_33 rfl rfl ?_
      refine gf_X0_23 (pc := 34) hK hc0.1 dX0_dry_34 ?_
      refine gw_iload_n (pc := 37) hK 3 dX0_dry_37 rfl rfl ?_
      refine gw_iload_n (pc := 38) hK 0 dX0_dry_38 rfl rfl ?_
      refine gw_ineg (pc := 39) hK dX0_dry_39 ?_
      refine gv_X0_62 (pc := 40) hK hc0.2.2.2.1 dX0_dry_40 (by decide) (Nat.le_of_ble_eq_true rfl) hf (fun _ m5 hf => ?_)
      refine gw_iinc (v := (x2 + 1)) (L' := [(2, .int (x2 + 1)), (3, .int (if q1 < r2 then q1 else r2)), (0, .ref (gy_a Y c0)), (1, .int q1)]) (pc := 43) hK 3 dX0_dry_43 rfl rfl (by decide) rfl ?_
      refine gw_goto (tgt := 2) (pc := 46) hK dX0_dry_46 (by decide) ?_
      refine gw_sub (L' := [(0, .ref (gy_a Y c0)), (1, .int q1), (2, .int (x2 + 1))]) hK [2, 3, 0] rfl (ih _ _ hf)
set_option maxRecDepth 100000 in
set_option maxHeartbeats 4000000 in
theorem ct_X0_dry (l : Launch) (Y : gx_Y) (μ : gx_M) (c : Nat) (p1 : Int32) (rr : Int32 × gx_M) (hc : gk_bowls Y c) (hf : fn_X0_dry (gy_k Y) μ c p1 = some rr) : gx_Con l yX0_dry cX0_dry 4 none 2 44 Y [.ref (gy_a Y c), .int p1] μ rr := by
  refine gx_Con_of (L0 := [(0, .ref (gy_a Y c)), (1, .int p1)]) (by decide) (Nat.le_of_ble_eq_true rfl) rfl (fun K hK => ?_)
  unfold fn_X0_dry at hf
  refine gw_iconst (v := 0) (pc := 0) hK dX0_dry_0 (by decide) ?_
  refine gw_istore_n (L' := [(2, .int 0), (0, .ref (gy_a Y c)), (1, .int p1)]) (pc := 1) hK dX0_dry_1 rfl (by decide) rfl ?_
  refine gw_sub (L' := [(0, .ref (gy_a Y c)), (1, .int p1), (2, .int 0)]) hK [1, 2, 0] rfl (lt_X0_dry_2 hK c p1 hc _ (fun m6 y7 hf => ?_) gx_F _ _ hf)
  exact gw_ret_v (pc := 49) hK dX0_dry_49 (Option.some.inj hf)
theorem gv_X4_62 {l : Launch} {cc : ByteArray} {nL fr lo : Nat} {ret : Option FieldType} {Y : gx_Y} {Post : Value → gx_M → Prop} {K : gx_KT} {pc : Nat} {μ : gx_M} {L : List (Nat × Value)} {st : List Value} {α : Type} {rr : α} (h : gx_K l RX4 cc nL fr lo ret Y Post K) {c : Nat} {p1 : Int32} (hc : gk_bowls Y c) (d : decode cc pc = .ok (.invokevirtual 62, 3)) (hR : 2 + 1 ≤ fr ∧ 67 ≤ lo) (hst : (st.map fun v => v.category).sum ≤ 8) {k : Int32 → gx_M → Option α} (hf : gx_b (fn_X0_dry (gy_k Y) μ c p1) k = some rr) (kk : ∀ (r : Int32) (m : gx_M), k r m = some rr → K m (pc + 3) L (st)) : K μ pc L (.int p1 :: .ref (gy_a Y c) :: st) := by
  obtain ⟨r, m, e, hk⟩ := gx_b_some hf
  exact gw_callV (As := [.int p1]) (q := (r, m)) h hc.1 (by decide) rfl (by refine ⟨rfl, by decide, by decide, (show (parseMethodDescriptor yX0_dry.desc).map (fun d => d.parameters.length) = some 1 by decide +kernel)⟩) kw_ml_RX4_62 kw_im_X0_dry kw_se_X0_dry kw_in_RX0 kw_co_X0_dry hR hst d (ct_X0_dry l Y μ c p1 (r, m) hc e) (kk r m hk)
def lf_X0_fillToMarks_2 (kd : Nat → Nat) (c0 : Nat) (k : gx_M → Int32 → Option (Int32 × gx_M)) : Nat → gx_M → Int32 → Option (Int32 × gx_M)
  | 0, _, _ => none
  | n + 1, μ, x1 => (if μ c0 5 ≤ x1 then
k μ x1
else
gx_b (fn_X3_get kd μ (c0 + 7) x1) (fun r2 m3 =>
gx_b (fn_X3_get kd m3 (c0 + 5) x1) (fun r4 m5 =>
(if (r2 - r4) ≤ 0 then
lf_X0_fillToMarks_2 kd c0 k n m5 (x1 + 1)
else
gx_b (fn_X3_get kd (gx_u m5 c0 6 (m5 c0 6 + (r2 - r4))) (c0 + 7) x1) (fun r7 m8 =>
gx_b (fn_X0_hold kd m8 c0 x1 r7) (fun _ m10 =>
lf_X0_fillToMarks_2 kd c0 k n m10 (x1 + 1)))))))
def fn_X0_fillToMarks (kd : Nat → Nat) (μ : gx_M) (c : Nat) : Option (Int32 × gx_M) :=
  lf_X0_fillToMarks_2 kd c (fun m11 y12 =>
some (0, m11)) gx_F μ 0
set_option maxRecDepth 100000 in
set_option maxHeartbeats 4000000 in
theorem lt_X0_fillToMarks_2 {l : Launch} {Y : gx_Y} {rr : Int32 × gx_M} {K : gx_KT} (hK : gx_K l RX0 cX0_fillToMarks 3 2 45 none Y (gx_P rr) K) (c0 : Nat) (hc0 : gk_bowls Y c0) (k : gx_M → Int32 → Option (Int32 × gx_M)) (hx : ∀ (μ : gx_M) (x1 : Int32), k μ x1 = some rr → K μ 61 [(0, .ref (gy_a Y c0)), (1, .int x1)] []) :
    ∀ (n : Nat) (μ : gx_M) (x1 : Int32), lf_X0_fillToMarks_2 (gy_k Y) c0 k n μ x1 = some rr → K μ 2 [(0, .ref (gy_a Y c0)), (1, .int x1)] [] := by
  intro n
  induction n with
  | zero =>
    intro μ x1 hf
    exact absurd hf (by simp [lf_X0_fillToMarks_2])
  | succ n ih =>
    intro μ x1 hf
    rw [lf_X0_fillToMarks_2] at hf
    refine gw_iload_n (pc := 2) hK 1 dX0_fillToMarks_2 rfl rfl ?_
    refine gw_aload_n (pc := 3) hK 0 dX0_fillToMarks_3 rfl rfl ?_
    refine gf_X0_32 (pc := 4) hK hc0.1 dX0_fillToMarks_4 ?_
    refine gw_icmp_ge (tgt := 61) (pc := 7) hK dX0_fillToMarks_7 (by decide) hf (fun cc1 hf => ?_) (fun cc1 hf => ?_)
    ·
      refine gw_sub (L' := [(0, .ref (gy_a Y c0)), (1, .int x1)]) hK [0, 1] rfl (hx _ _ hf)
    ·
      refine gw_aload_n (pc := 10) hK 0 dX0_fillToMarks_10 rfl rfl ?_
      refine gf_X0_26 (pc := 11) hK hc0.1 dX0_fillToMarks_11 ?_
      refine gw_iload_n (pc := 14) hK 1 dX0_fillToMarks_14 rfl rfl ?_
      refine gv_X0_48 (pc := 15) hK hc0.2.2.2.2.1 dX0_fillToMarks_15 (by decide) (Nat.le_of_ble_eq_true rfl) hf (fun r2 m3 hf => ?_)
      refine gw_aload_n (pc := 18) hK 0 dX0_fillToMarks_18 rfl rfl ?_
      refine gf_X0_23 (pc := 19) hK hc0.1 dX0_fillToMarks_19 ?_
      refine gw_iload_n (pc := 22) hK 1 dX0_fillToMarks_22 rfl rfl ?_
      refine gv_X0_48 (pc := 23) hK hc0.2.2.2.1 dX0_fillToMarks_23 (by decide) (Nat.le_of_ble_eq_true rfl) hf (fun r4 m5 hf => ?_)
      refine gw_isub (pc := 26) hK dX0_fillToMarks_26 ?_
      refine gw_istore_n (L' := [(2, .int (r2 - r4)), (0, .ref (gy_a Y c0)), (1, .int x1)]) (pc := 27) hK dX0_fillToMarks_27 rfl (by decide) rfl ?_
      refine gw_iload_n (pc := 28) hK 0 dX0_fillToMarks_28 rfl rfl ?_
      refine gw_if_le (tgt := 55) (pc := 29) hK dX0_fillToMarks_29 (by decide) hf (fun cc6 hf => ?_) (fun cc6 hf => ?_)
      ·
        refine gw_iinc (v := (x1 + 1)) (L' := [(1, .int (x1 + 1)), (2, .int (r2 - r4)), (0, .ref (gy_a Y c0))]) (pc := 55) hK 2 dX0_fillToMarks_55 rfl rfl (by decide) rfl ?_
        refine gw_goto (tgt := 2) (pc := 58) hK dX0_fillToMarks_58 (by decide) ?_
        refine gw_sub (L' := [(0, .ref (gy_a Y c0)), (1, .int (x1 + 1))]) hK [2, 0] rfl (ih _ _ hf)
      ·
        refine gw_aload_n (pc := 32) hK 1 dX0_fillToMarks_32 rfl rfl ?_
        refine gw_dup (pc := 33) hK dX0_fillToMarks_33 rfl ?_
        refine gf_X0_36 (pc := 34) hK hc0.1 dX0_fillToMarks_34 ?_
        refine gw_iload_n (pc := 37) hK 0 dX0_fillToMarks_37 rfl rfl ?_
        refine gw_iadd (pc := 38) hK dX0_fillToMarks_38 ?_
        refine gp_X0_36 (pc := 39) hK hc0.1 dX0_fillToMarks_39 ?_
        refine gw_aload_n (pc := 42) hK 1 dX0_fillToMarks_42 rfl rfl ?_
        refine gw_iload_n (pc := 43) hK 2 dX0_fillToMarks_43 rfl rfl ?_
        refine gw_aload_n (pc := 44) hK 1 dX0_fillToMarks_44 rfl rfl ?_
        refine gf_X0_26 (pc := 45) hK hc0.1 dX0_fillToMarks_45 ?_
        refine gw_iload_n (pc := 48) hK 2 dX0_fillToMarks_48 rfl rfl ?_
        refine gv_X0_48 (pc := 49) hK hc0.2.2.2.2.1 dX0_fillToMarks_49 (by decide) (Nat.le_of_ble_eq_true rfl) hf (fun r7 m8 hf => ?_)
        refine gv_X0_59 (pc := 52) hK hc0 dX0_fillToMarks_52 (by decide) (Nat.le_of_ble_eq_true rfl) hf (fun _ m10 hf => ?_)
        refine gw_iinc (v := (x1 + 1)) (L' := [(1, .int (x1 + 1)), (2, .int (r2 - r4)), (0, .ref (gy_a Y c0))]) (pc := 55) hK 2 dX0_fillToMarks_55 rfl rfl (by decide) rfl ?_
        refine gw_goto (tgt := 2) (pc := 58) hK dX0_fillToMarks_58 (by decide) ?_
        refine gw_sub (L' := [(0, .ref (gy_a Y c0)), (1, .int (x1 + 1))]) hK [2, 0] rfl (ih _ _ hf)
set_option maxRecDepth 100000 in
set_option maxHeartbeats 4000000 in
theorem ct_X0_fillToMarks (l : Launch) (Y : gx_Y) (μ : gx_M) (c : Nat) (rr : Int32 × gx_M) (hc : gk_bowls Y c) (hf : fn_X0_fillToMarks (gy_k Y) μ c = some rr) : gx_Con l yX0_fillToMarks cX0_fillToMarks 3 none 2 45 Y [.ref (gy_a Y c)] μ rr := by
  refine gx_Con_of (L0 := [(0, .ref (gy_a Y c))]) (by decide) (Nat.le_of_ble_eq_true rfl) rfl (fun K hK => ?_)
  unfold fn_X0_fillToMarks at hf
  refine gw_iconst (v := 0) (pc := 0) hK dX0_fillToMarks_0 (by decide) ?_
  refine gw_istore_n (L' := [(1, .int 0), (0, .ref (gy_a Y c))]) (pc := 1) hK dX0_fillToMarks_1 rfl (by decide) rfl ?_
  refine gw_sub (L' := [(0, .ref (gy_a Y c)), (1, .int 0)]) hK [1, 0] rfl (lt_X0_fillToMarks_2 hK c hc _ (fun m11 y12 hf => ?_) gx_F _ _ hf)
  exact gw_ret_v (pc := 61) hK dX0_fillToMarks_61 (Option.some.inj hf)
theorem gv_X4_69 {l : Launch} {cc : ByteArray} {nL fr lo : Nat} {ret : Option FieldType} {Y : gx_Y} {Post : Value → gx_M → Prop} {K : gx_KT} {pc : Nat} {μ : gx_M} {L : List (Nat × Value)} {st : List Value} {α : Type} {rr : α} (h : gx_K l RX4 cc nL fr lo ret Y Post K) {c : Nat} (hc : gk_bowls Y c) (d : decode cc pc = .ok (.invokevirtual 69, 3)) (hR : 2 + 1 ≤ fr ∧ 67 ≤ lo) (hst : (st.map fun v => v.category).sum ≤ 8) {k : Int32 → gx_M → Option α} (hf : gx_b (fn_X0_fillToMarks (gy_k Y) μ c) k = some rr) (kk : ∀ (r : Int32) (m : gx_M), k r m = some rr → K m (pc + 3) L (st)) : K μ pc L (.ref (gy_a Y c) :: st) := by
  obtain ⟨r, m, e, hk⟩ := gx_b_some hf
  exact gw_callV (As := []) (q := (r, m)) h hc.1 (by decide) rfl (by refine ⟨rfl, by decide, by decide, (show (parseMethodDescriptor yX0_fillToMarks.desc).map (fun d => d.parameters.length) = some 0 by decide +kernel)⟩) kw_ml_RX4_69 kw_im_X0_fillToMarks kw_se_X0_fillToMarks kw_in_RX0 kw_co_X0_fillToMarks hR hst d (ct_X0_fillToMarks l Y μ c (r, m) hc e) (kk r m hk)
def lf_X0_nearestBowl_7 (kd : Nat → Nat) (c0 : Nat) (q1 : Int32) (k : gx_M → Int32 → Int32 → Int32 → Option (Int32 × gx_M)) : Nat → gx_M → Int32 → Int32 → Int32 → Option (Int32 × gx_M)
  | 0, _, _, _, _ => none
  | n + 1, μ, x2, x3, x4 => (if μ c0 5 ≤ x4 then
k μ x2 x3 x4
else
gx_b (fn_X3_get kd μ (c0 + 5) x4) (fun r2 m3 =>
gx_b (fn_X0_pitchWith kd m3 c0 x4 r2) (fun r4 m5 =>
(if x2 = (-1) then
lf_X0_nearestBowl_7 kd c0 q1 k n m5 x4 (if 0 ≤ (r4 - q1) then (r4 - q1) else 0 - (r4 - q1)) (x4 + 1)
else
(if x3 ≤ (if 0 ≤ (r4 - q1) then (r4 - q1) else 0 - (r4 - q1)) then
lf_X0_nearestBowl_7 kd c0 q1 k n m5 x2 x3 (x4 + 1)
else
lf_X0_nearestBowl_7 kd c0 q1 k n m5 x4 (if 0 ≤ (r4 - q1) then (r4 - q1) else 0 - (r4 - q1)) (x4 + 1))))))
def fn_X0_nearestBowl (kd : Nat → Nat) (μ : gx_M) (c : Nat) (p1 : Int32) : Option (Int32 × gx_M) :=
  lf_X0_nearestBowl_7 kd c p1 (fun m8 y9 y10 y11 =>
some (y9, m8)) gx_F μ (-1) 0 0
set_option maxRecDepth 100000 in
set_option maxHeartbeats 4000000 in
theorem lt_X0_nearestBowl_7 {l : Launch} {Y : gx_Y} {rr : Int32 × gx_M} {K : gx_KT} (hK : gx_K l RX0 cX0_nearestBowl 6 2 45 (some .int) Y (gx_P rr) K) (c0 : Nat) (q1 : Int32) (hc0 : gk_bowls Y c0) (k : gx_M → Int32 → Int32 → Int32 → Option (Int32 × gx_M)) (hx : ∀ (μ : gx_M) (x2 : Int32) (x3 : Int32) (x4 : Int32), k μ x2 x3 x4 = some rr → K μ 61 [(0, .ref (gy_a Y c0)), (1, .int q1), (2, .int x2), (3, .int x3), (4, .int x4)] []) :
    ∀ (n : Nat) (μ : gx_M) (x2 : Int32) (x3 : Int32) (x4 : Int32), lf_X0_nearestBowl_7 (gy_k Y) c0 q1 k n μ x2 x3 x4 = some rr → K μ 7 [(0, .ref (gy_a Y c0)), (1, .int q1), (2, .int x2), (3, .int x3), (4, .int x4)] [] := by
  intro n
  induction n with
  | zero =>
    intro μ x2 x3 x4 hf
    exact absurd hf (by simp [lf_X0_nearestBowl_7])
  | succ n ih =>
    intro μ x2 x3 x4 hf
    rw [lf_X0_nearestBowl_7] at hf
    refine gw_iload (pc := 7) hK 4 dX0_nearestBowl_7 rfl ?_
    refine gw_aload_n (pc := 9) hK 0 dX0_nearestBowl_9 rfl rfl ?_
    refine gf_X0_32 (pc := 10) hK hc0.1 dX0_nearestBowl_10 ?_
    refine gw_icmp_ge (tgt := 61) (pc := 13) hK dX0_nearestBowl_13 (by decide) hf (fun cc1 hf => ?_) (fun cc1 hf => ?_)
    ·
      refine gw_sub (L' := [(0, .ref (gy_a Y c0)), (1, .int q1), (2, .int x2), (3, .int x3), (4, .int x4)]) hK [0, 1, 2, 3, 4] rfl (hx _ _ _ _ hf)
    ·
      refine gw_aload_n (pc := 16) hK 0 dX0_nearestBowl_16 rfl rfl ?_
      refine gw_iload (pc := 17) hK 4 dX0_nearestBowl_17 rfl ?_
      refine gw_aload_n (pc := 19) hK 0 dX0_nearestBowl_19 rfl rfl ?_
      refine gf_X0_23 (pc := 20) hK hc0.1 dX0_nearestBowl_20 ?_
      refine gw_iload (pc := 23) hK 4 dX0_nearestBowl_23 rfl ?_
      refine gv_X0_48 (pc := 25) hK hc0.2.2.2.1 dX0_nearestBowl_25 (by decide) (Nat.le_of_ble_eq_true rfl) hf (fun r2 m3 hf => ?_)
      refine gv_X0_74 (pc := 28) hK hc0 dX0_nearestBowl_28 (by decide) (Nat.le_of_ble_eq_true rfl) hf (fun r4 m5 hf => ?_)
      refine gw_iload_n (pc := 31) hK 1 dX0_nearestBowl_31 rfl rfl ?_
      refine gw_isub (pc := 32) hK dX0_nearestBowl_32 ?_
      refine gw_mabs (pc := 33) hK kw_ml_RX0_80 dX0_nearestBowl_33 (Nat.le_of_ble_eq_true rfl) (Nat.le_of_ble_eq_true rfl) ?_
      refine gw_istore (L' := [(5, .int (if 0 ≤ (r4 - q1) then (r4 - q1) else 0 - (r4 - q1))), (0, .ref (gy_a Y c0)), (1, .int q1), (2, .int x2), (3, .int x3), (4, .int x4)]) (pc := 36) hK dX0_nearestBowl_36 (by decide) rfl ?_
      refine gw_iload_n (pc := 38) hK 3 dX0_nearestBowl_38 rfl rfl ?_
      refine gw_iconst (v := (-1)) (pc := 39) hK dX0_nearestBowl_39 (by decide) ?_
      refine gw_icmp_eq (tgt := 49) (pc := 40) hK dX0_nearestBowl_40 (by decide) hf (fun cc6 hf => ?_) (fun cc6 hf => ?_)
      ·
        refine gw_iload (pc := 49) hK 5 dX0_nearestBowl_49 rfl ?_
        refine gw_istore_n (L' := [(2, .int x4), (5, .int (if 0 ≤ (r4 - q1) then (r4 - q1) else 0 - (r4 - q1))), (0, .ref (gy_a Y c0)), (1, .int q1), (3, .int x3), (4, .int x4)]) (pc := 51) hK dX0_nearestBowl_51 rfl (by decide) rfl ?_
        refine gw_iload (pc := 52) hK 1 dX0_nearestBowl_52 rfl ?_
        refine gw_istore_n (L' := [(3, .int (if 0 ≤ (r4 - q1) then (r4 - q1) else 0 - (r4 - q1))), (2, .int x4), (5, .int (if 0 ≤ (r4 - q1) then (r4 - q1) else 0 - (r4 - q1))), (0, .ref (gy_a Y c0)), (1, .int q1), (4, .int x4)]) (pc := 54) hK dX0_nearestBowl_54 rfl (by decide) rfl ?_
        refine gw_iinc (v := (x4 + 1)) (L' := [(4, .int (x4 + 1)), (3, .int (if 0 ≤ (r4 - q1) then (r4 - q1) else 0 - (r4 - q1))), (2, .int x4), (5, .int (if 0 ≤ (r4 - q1) then (r4 - q1) else 0 - (r4 - q1))), (0, .ref (gy_a Y c0)), (1, .int q1)]) (pc := 55) hK 5 dX0_nearestBowl_55 rfl rfl (by decide) rfl ?_
        refine gw_goto (tgt := 7) (pc := 58) hK dX0_nearestBowl_58 (by decide) ?_
        refine gw_sub (L' := [(0, .ref (gy_a Y c0)), (1, .int q1), (2, .int x4), (3, .int (if 0 ≤ (r4 - q1) then (r4 - q1) else 0 - (r4 - q1))), (4, .int (x4 + 1))]) hK [4, 5, 2, 1, 0] rfl (ih _ _ _ _ hf)
      ·
        refine gw_iload (pc := 43) hK 0 dX0_nearestBowl_43 rfl ?_
        refine gw_iload_n (pc := 45) hK 4 dX0_nearestBowl_45 rfl rfl ?_
        refine gw_icmp_ge (tgt := 55) (pc := 46) hK dX0_nearestBowl_46 (by decide) hf (fun cc7 hf => ?_) (fun cc7 hf => ?_)
        ·
          refine gw_iinc (v := (x4 + 1)) (L' := [(4, .int (x4 + 1)), (5, .int (if 0 ≤ (r4 - q1) then (r4 - q1) else 0 - (r4 - q1))), (0, .ref (gy_a Y c0)), (1, .int q1), (2, .int x2), (3, .int x3)]) (pc := 55) hK 5 dX0_nearestBowl_55 rfl rfl (by decide) rfl ?_
          refine gw_goto (tgt := 7) (pc := 58) hK dX0_nearestBowl_58 (by decide) ?_
          refine gw_sub (L' := [(0, .ref (gy_a Y c0)), (1, .int q1), (2, .int x2), (3, .int x3), (4, .int (x4 + 1))]) hK [2, 3, 4, 5, 0] rfl (ih _ _ _ _ hf)
        ·
          refine gw_iload (pc := 49) hK 5 dX0_nearestBowl_49 rfl ?_
          refine gw_istore_n (L' := [(2, .int x4), (5, .int (if 0 ≤ (r4 - q1) then (r4 - q1) else 0 - (r4 - q1))), (0, .ref (gy_a Y c0)), (1, .int q1), (3, .int x3), (4, .int x4)]) (pc := 51) hK dX0_nearestBowl_51 rfl (by decide) rfl ?_
          refine gw_iload (pc := 52) hK 1 dX0_nearestBowl_52 rfl ?_
          refine gw_istore_n (L' := [(3, .int (if 0 ≤ (r4 - q1) then (r4 - q1) else 0 - (r4 - q1))), (2, .int x4), (5, .int (if 0 ≤ (r4 - q1) then (r4 - q1) else 0 - (r4 - q1))), (0, .ref (gy_a Y c0)), (1, .int q1), (4, .int x4)]) (pc := 54) hK dX0_nearestBowl_54 rfl (by decide) rfl ?_
          refine gw_iinc (v := (x4 + 1)) (L' := [(4, .int (x4 + 1)), (3, .int (if 0 ≤ (r4 - q1) then (r4 - q1) else 0 - (r4 - q1))), (2, .int x4), (5, .int (if 0 ≤ (r4 - q1) then (r4 - q1) else 0 - (r4 - q1))), (0, .ref (gy_a Y c0)), (1, .int q1)]) (pc := 55) hK 5 dX0_nearestBowl_55 rfl rfl (by decide) rfl ?_
          refine gw_goto (tgt := 7) (pc := 58) hK dX0_nearestBowl_58 (by decide) ?_
          refine gw_sub (L' := [(0, .ref (gy_a Y c0)), (1, .int q1), (2, .int x4), (3, .int (if 0 ≤ (r4 - q1) then (r4 - q1) else 0 - (r4 - q1))), (4, .int (x4 + 1))]) hK [4, 5, 2, 1, 0] rfl (ih _ _ _ _ hf)
set_option maxRecDepth 100000 in
set_option maxHeartbeats 4000000 in
theorem ct_X0_nearestBowl (l : Launch) (Y : gx_Y) (μ : gx_M) (c : Nat) (p1 : Int32) (rr : Int32 × gx_M) (hc : gk_bowls Y c) (hf : fn_X0_nearestBowl (gy_k Y) μ c p1 = some rr) : gx_Con l yX0_nearestBowl cX0_nearestBowl 6 (some .int) 2 45 Y [.ref (gy_a Y c), .int p1] μ rr := by
  refine gx_Con_of (L0 := [(0, .ref (gy_a Y c)), (1, .int p1)]) (by decide) (Nat.le_of_ble_eq_true rfl) rfl (fun K hK => ?_)
  unfold fn_X0_nearestBowl at hf
  refine gw_iconst (v := (-1)) (pc := 0) hK dX0_nearestBowl_0 (by decide) ?_
  refine gw_istore_n (L' := [(2, .int (-1)), (0, .ref (gy_a Y c)), (1, .int p1)]) (pc := 1) hK dX0_nearestBowl_1 rfl (by decide) rfl ?_
  refine gw_iconst (v := 0) (pc := 2) hK dX0_nearestBowl_2 (by decide) ?_
  refine gw_istore_n (L' := [(3, .int 0), (2, .int (-1)), (0, .ref (gy_a Y c)), (1, .int p1)]) (pc := 3) hK dX0_nearestBowl_3 rfl (by decide) rfl ?_
  refine gw_iconst (v := 0) (pc := 4) hK dX0_nearestBowl_4 (by decide) ?_
  refine gw_istore (L' := [(4, .int 0), (3, .int 0), (2, .int (-1)), (0, .ref (gy_a Y c)), (1, .int p1)]) (pc := 5) hK dX0_nearestBowl_5 (by decide) rfl ?_
  refine gw_sub (L' := [(0, .ref (gy_a Y c)), (1, .int p1), (2, .int (-1)), (3, .int 0), (4, .int 0)]) hK [3, 4, 2, 1, 0] rfl (lt_X0_nearestBowl_7 hK c p1 hc _ (fun m8 y9 y10 y11 hf => ?_) gx_F _ _ _ _ hf)
  refine gw_iload_n (pc := 61) hK 2 dX0_nearestBowl_61 rfl rfl ?_
  exact gw_ret_i (pc := 62) hK dX0_nearestBowl_62 (Option.some.inj hf)
theorem gv_X4_75 {l : Launch} {cc : ByteArray} {nL fr lo : Nat} {ret : Option FieldType} {Y : gx_Y} {Post : Value → gx_M → Prop} {K : gx_KT} {pc : Nat} {μ : gx_M} {L : List (Nat × Value)} {st : List Value} {α : Type} {rr : α} (h : gx_K l RX4 cc nL fr lo ret Y Post K) {c : Nat} {p1 : Int32} (hc : gk_bowls Y c) (d : decode cc pc = .ok (.invokevirtual 75, 3)) (hR : 2 + 1 ≤ fr ∧ 70 ≤ lo) (hst : (st.map fun v => v.category).sum ≤ 8) {k : Int32 → gx_M → Option α} (hf : gx_b (fn_X0_nearestBowl (gy_k Y) μ c p1) k = some rr) (kk : ∀ (r : Int32) (m : gx_M), k r m = some rr → K m (pc + 3) L (.int r :: st)) : K μ pc L (.int p1 :: .ref (gy_a Y c) :: st) := by
  obtain ⟨r, m, e, hk⟩ := gx_b_some hf
  exact gw_callV (As := [.int p1]) (q := (r, m)) h hc.1 (by decide) rfl (by refine ⟨rfl, by decide, by decide, (show (parseMethodDescriptor yX0_nearestBowl.desc).map (fun d => d.parameters.length) = some 1 by decide +kernel)⟩) kw_ml_RX4_75 kw_im_X0_nearestBowl kw_se_X0_nearestBowl kw_in_RX0 kw_co_X0_nearestBowl hR hst d (ct_X0_nearestBowl l Y μ c p1 (r, m) hc e) (kk r m hk)
theorem gv_X6_89 {l : Launch} {cc : ByteArray} {nL fr lo : Nat} {ret : Option FieldType} {Y : gx_Y} {Post : Value → gx_M → Prop} {K : gx_KT} {pc : Nat} {μ : gx_M} {L : List (Nat × Value)} {st : List Value} {α : Type} {rr : α} (h : gx_K l RX6 cc nL fr lo ret Y Post K) {c : Nat} {p1 : Int32} (hc : gk_bowls Y c) (d : decode cc pc = .ok (.invokevirtual 89, 3)) (hR : 2 + 1 ≤ fr ∧ 70 ≤ lo) (hst : (st.map fun v => v.category).sum ≤ 8) {k : Int32 → gx_M → Option α} (hf : gx_b (fn_X0_nearestBowl (gy_k Y) μ c p1) k = some rr) (kk : ∀ (r : Int32) (m : gx_M), k r m = some rr → K m (pc + 3) L (.int r :: st)) : K μ pc L (.int p1 :: .ref (gy_a Y c) :: st) := by
  obtain ⟨r, m, e, hk⟩ := gx_b_some hf
  exact gw_callV (As := [.int p1]) (q := (r, m)) h hc.1 (by decide) rfl (by refine ⟨rfl, by decide, by decide, (show (parseMethodDescriptor yX0_nearestBowl.desc).map (fun d => d.parameters.length) = some 1 by decide +kernel)⟩) kw_ml_RX6_89 kw_im_X0_nearestBowl kw_se_X0_nearestBowl kw_in_RX0 kw_co_X0_nearestBowl hR hst d (ct_X0_nearestBowl l Y μ c p1 (r, m) hc e) (kk r m hk)
def lf_X0_nearestLevel_28 (kd : Nat → Nat) (c0 : Nat) (q1 : Int32) (q2 : Int32) (q5 : Int32) (k : gx_M → Int32 → Int32 → Int32 → Option (Int32 × gx_M)) : Nat → gx_M → Int32 → Int32 → Int32 → Option (Int32 × gx_M)
  | 0, _, _, _, _ => none
  | n + 1, μ, x3, x4, x6 => (if q5 < x6 then
k μ x3 x4 x6
else
gx_b (fn_X0_pitchWith kd μ c0 q1 x6) (fun r6 m7 =>
(if x4 ≤ (if 0 ≤ (r6 - q2) then (r6 - q2) else 0 - (r6 - q2)) then
lf_X0_nearestLevel_28 kd c0 q1 q2 q5 k n m7 x3 x4 (x6 + 1)
else
lf_X0_nearestLevel_28 kd c0 q1 q2 q5 k n m7 x6 (if 0 ≤ (r6 - q2) then (r6 - q2) else 0 - (r6 - q2)) (x6 + 1))))
def fn_X0_nearestLevel (kd : Nat → Nat) (μ : gx_M) (c : Nat) (p1 : Int32) (p2 : Int32) : Option (Int32 × gx_M) :=
  gx_b (fn_X0_pitchWith kd μ c p1 0) (fun r1 m2 =>
gx_b (fn_X3_get kd m2 (c + 9) p1) (fun r3 m4 =>
lf_X0_nearestLevel_28 kd c p1 p2 r3 (fun m9 y10 y11 y12 =>
some (y10, m9)) gx_F m4 0 (if 0 ≤ (r1 - p2) then (r1 - p2) else 0 - (r1 - p2)) 1))
set_option maxRecDepth 100000 in
set_option maxHeartbeats 4000000 in
theorem lt_X0_nearestLevel_28 {l : Launch} {Y : gx_Y} {rr : Int32 × gx_M} {K : gx_KT} (hK : gx_K l RX0 cX0_nearestLevel 8 2 45 (some .int) Y (gx_P rr) K) (c0 : Nat) (q1 : Int32) (q2 : Int32) (q5 : Int32) (hc0 : gk_bowls Y c0) (k : gx_M → Int32 → Int32 → Int32 → Option (Int32 × gx_M)) (hx : ∀ (μ : gx_M) (x3 : Int32) (x4 : Int32) (x6 : Int32), k μ x3 x4 x6 = some rr → K μ 69 [(0, .ref (gy_a Y c0)), (1, .int q1), (2, .int q2), (3, .int x3), (4, .int x4), (5, .int q5), (6, .int x6)] []) :
    ∀ (n : Nat) (μ : gx_M) (x3 : Int32) (x4 : Int32) (x6 : Int32), lf_X0_nearestLevel_28 (gy_k Y) c0 q1 q2 q5 k n μ x3 x4 x6 = some rr → K μ 28 [(0, .ref (gy_a Y c0)), (1, .int q1), (2, .int q2), (3, .int x3), (4, .int x4), (5, .int q5), (6, .int x6)] [] := by
  intro n
  induction n with
  | zero =>
    intro μ x3 x4 x6 hf
    exact absurd hf (by simp [lf_X0_nearestLevel_28])
  | succ n ih =>
    intro μ x3 x4 x6 hf
    rw [lf_X0_nearestLevel_28] at hf
    refine gw_iload (pc := 28) hK 6 dX0_nearestLevel_28 rfl ?_
    refine gw_iload (pc := 30) hK 5 dX0_nearestLevel_30 rfl ?_
    refine gw_icmp_gt (tgt := 69) (pc := 32) hK dX0_nearestLevel_32 (by decide) hf (fun cc5 hf => ?_) (fun cc5 hf => ?_)
    ·
      refine gw_sub (L' := [(0, .ref (gy_a Y c0)), (1, .int q1), (2, .int q2), (3, .int x3), (4, .int x4), (5, .int q5), (6, .int x6)]) hK [0, 1, 2, 3, 4, 5, 6] rfl (hx _ _ _ _ hf)
    ·
      refine gw_aload_n (pc := 35) hK 0 dX0_nearestLevel_35 rfl rfl ?_
      refine gw_iload_n (pc := 36) hK 1 dX0_nearestLevel_36 rfl rfl ?_
      refine gw_iload (pc := 37) hK 6 dX0_nearestLevel_37 rfl ?_
      refine gv_X0_74 (pc := 39) hK hc0 dX0_nearestLevel_39 (by decide) (Nat.le_of_ble_eq_true rfl) hf (fun r6 m7 hf => ?_)
      refine gw_iload_n (pc := 42) hK 2 dX0_nearestLevel_42 rfl rfl ?_
      refine gw_isub (pc := 43) hK dX0_nearestLevel_43 ?_
      refine gw_mabs (pc := 44) hK kw_ml_RX0_80 dX0_nearestLevel_44 (Nat.le_of_ble_eq_true rfl) (Nat.le_of_ble_eq_true rfl) ?_
      refine gw_istore (L' := [(7, .int (if 0 ≤ (r6 - q2) then (r6 - q2) else 0 - (r6 - q2))), (0, .ref (gy_a Y c0)), (1, .int q1), (2, .int q2), (3, .int x3), (4, .int x4), (5, .int q5), (6, .int x6)]) (pc := 47) hK dX0_nearestLevel_47 (by decide) rfl ?_
      refine gw_iload (pc := 49) hK 0 dX0_nearestLevel_49 rfl ?_
      refine gw_iload (pc := 51) hK 5 dX0_nearestLevel_51 rfl ?_
      refine gw_icmp_ge (tgt := 63) (pc := 53) hK dX0_nearestLevel_53 (by decide) hf (fun cc8 hf => ?_) (fun cc8 hf => ?_)
      ·
        refine gw_iinc (v := (x6 + 1)) (L' := [(6, .int (x6 + 1)), (7, .int (if 0 ≤ (r6 - q2) then (r6 - q2) else 0 - (r6 - q2))), (0, .ref (gy_a Y c0)), (1, .int q1), (2, .int q2), (3, .int x3), (4, .int x4), (5, .int q5)]) (pc := 63) hK 7 dX0_nearestLevel_63 rfl rfl (by decide) rfl ?_
        refine gw_goto (tgt := 28) (pc := 66) hK dX0_nearestLevel_66 (by decide) ?_
        refine gw_sub (L' := [(0, .ref (gy_a Y c0)), (1, .int q1), (2, .int q2), (3, .int x3), (4, .int x4), (5, .int q5), (6, .int (x6 + 1))]) hK [2, 3, 4, 5, 6, 7, 0] rfl (ih _ _ _ _ hf)
      ·
        refine gw_iload (pc := 56) hK 7 dX0_nearestLevel_56 rfl ?_
        refine gw_istore_n (L' := [(3, .int x6), (7, .int (if 0 ≤ (r6 - q2) then (r6 - q2) else 0 - (r6 - q2))), (0, .ref (gy_a Y c0)), (1, .int q1), (2, .int q2), (4, .int x4), (5, .int q5), (6, .int x6)]) (pc := 58) hK dX0_nearestLevel_58 rfl (by decide) rfl ?_
        refine gw_iload (pc := 59) hK 1 dX0_nearestLevel_59 rfl ?_
        refine gw_istore (L' := [(4, .int (if 0 ≤ (r6 - q2) then (r6 - q2) else 0 - (r6 - q2))), (3, .int x6), (7, .int (if 0 ≤ (r6 - q2) then (r6 - q2) else 0 - (r6 - q2))), (0, .ref (gy_a Y c0)), (1, .int q1), (2, .int q2), (5, .int q5), (6, .int x6)]) (pc := 61) hK dX0_nearestLevel_61 (by decide) rfl ?_
        refine gw_iinc (v := (x6 + 1)) (L' := [(6, .int (x6 + 1)), (4, .int (if 0 ≤ (r6 - q2) then (r6 - q2) else 0 - (r6 - q2))), (3, .int x6), (7, .int (if 0 ≤ (r6 - q2) then (r6 - q2) else 0 - (r6 - q2))), (0, .ref (gy_a Y c0)), (1, .int q1), (2, .int q2), (5, .int q5)]) (pc := 63) hK 7 dX0_nearestLevel_63 rfl rfl (by decide) rfl ?_
        refine gw_goto (tgt := 28) (pc := 66) hK dX0_nearestLevel_66 (by decide) ?_
        refine gw_sub (L' := [(0, .ref (gy_a Y c0)), (1, .int q1), (2, .int q2), (3, .int x6), (4, .int (if 0 ≤ (r6 - q2) then (r6 - q2) else 0 - (r6 - q2))), (5, .int q5), (6, .int (x6 + 1))]) hK [4, 5, 6, 2, 1, 7, 0] rfl (ih _ _ _ _ hf)
set_option maxRecDepth 100000 in
set_option maxHeartbeats 4000000 in
theorem ct_X0_nearestLevel (l : Launch) (Y : gx_Y) (μ : gx_M) (c : Nat) (p1 : Int32) (p2 : Int32) (rr : Int32 × gx_M) (hc : gk_bowls Y c) (hf : fn_X0_nearestLevel (gy_k Y) μ c p1 p2 = some rr) : gx_Con l yX0_nearestLevel cX0_nearestLevel 8 (some .int) 2 45 Y [.ref (gy_a Y c), .int p1, .int p2] μ rr := by
  refine gx_Con_of (L0 := [(0, .ref (gy_a Y c)), (1, .int p1), (2, .int p2)]) (by decide) (Nat.le_of_ble_eq_true rfl) rfl (fun K hK => ?_)
  unfold fn_X0_nearestLevel at hf
  refine gw_iconst (v := 0) (pc := 0) hK dX0_nearestLevel_0 (by decide) ?_
  refine gw_istore_n (L' := [(3, .int 0), (0, .ref (gy_a Y c)), (1, .int p1), (2, .int p2)]) (pc := 1) hK dX0_nearestLevel_1 rfl (by decide) rfl ?_
  refine gw_aload_n (pc := 2) hK 1 dX0_nearestLevel_2 rfl rfl ?_
  refine gw_iload_n (pc := 3) hK 2 dX0_nearestLevel_3 rfl rfl ?_
  refine gw_iload_n (pc := 4) hK 0 dX0_nearestLevel_4 rfl rfl ?_
  refine gv_X0_74 (pc := 5) hK hc dX0_nearestLevel_5 (by decide) (Nat.le_of_ble_eq_true rfl) hf (fun r1 m2 hf => ?_)
  refine gw_iload_n (pc := 8) hK 3 dX0_nearestLevel_8 rfl rfl ?_
  refine gw_isub (pc := 9) hK dX0_nearestLevel_9 ?_
  refine gw_mabs (pc := 10) hK kw_ml_RX0_80 dX0_nearestLevel_10 (Nat.le_of_ble_eq_true rfl) (Nat.le_of_ble_eq_true rfl) ?_
  refine gw_istore (L' := [(4, .int (if 0 ≤ (r1 - p2) then (r1 - p2) else 0 - (r1 - p2))), (3, .int 0), (0, .ref (gy_a Y c)), (1, .int p1), (2, .int p2)]) (pc := 13) hK dX0_nearestLevel_13 (by decide) rfl ?_
  refine gw_aload_n (pc := 15) hK 2 dX0_nearestLevel_15 rfl rfl ?_
  refine gf_X0_29 (pc := 16) hK hc.1 dX0_nearestLevel_16 ?_
  refine gw_iload_n (pc := 19) hK 3 dX0_nearestLevel_19 rfl rfl ?_
  refine gv_X0_48 (pc := 20) hK hc.2.2.2.2.2 dX0_nearestLevel_20 (by decide) (Nat.le_of_ble_eq_true rfl) hf (fun r3 m4 hf => ?_)
  refine gw_istore (L' := [(5, .int r3), (4, .int (if 0 ≤ (r1 - p2) then (r1 - p2) else 0 - (r1 - p2))), (3, .int 0), (0, .ref (gy_a Y c)), (1, .int p1), (2, .int p2)]) (pc := 23) hK dX0_nearestLevel_23 (by decide) rfl ?_
  refine gw_iconst (v := 1) (pc := 25) hK dX0_nearestLevel_25 (by decide) ?_
  refine gw_istore (L' := [(6, .int 1), (5, .int r3), (4, .int (if 0 ≤ (r1 - p2) then (r1 - p2) else 0 - (r1 - p2))), (3, .int 0), (0, .ref (gy_a Y c)), (1, .int p1), (2, .int p2)]) (pc := 26) hK dX0_nearestLevel_26 (by decide) rfl ?_
  refine gw_sub (L' := [(0, .ref (gy_a Y c)), (1, .int p1), (2, .int p2), (3, .int 0), (4, .int (if 0 ≤ (r1 - p2) then (r1 - p2) else 0 - (r1 - p2))), (5, .int r3), (6, .int 1)]) hK [4, 5, 6, 3, 2, 1, 0] rfl (lt_X0_nearestLevel_28 hK c p1 p2 r3 hc _ (fun m9 y10 y11 y12 hf => ?_) gx_F _ _ _ _ hf)
  refine gw_iload_n (pc := 69) hK 3 dX0_nearestLevel_69 rfl rfl ?_
  exact gw_ret_i (pc := 70) hK dX0_nearestLevel_70 (Option.some.inj hf)
theorem gv_X6_86 {l : Launch} {cc : ByteArray} {nL fr lo : Nat} {ret : Option FieldType} {Y : gx_Y} {Post : Value → gx_M → Prop} {K : gx_KT} {pc : Nat} {μ : gx_M} {L : List (Nat × Value)} {st : List Value} {α : Type} {rr : α} (h : gx_K l RX6 cc nL fr lo ret Y Post K) {c : Nat} {p1 : Int32} {p2 : Int32} (hc : gk_bowls Y c) (d : decode cc pc = .ok (.invokevirtual 86, 3)) (hR : 2 + 1 ≤ fr ∧ 72 ≤ lo) (hst : (st.map fun v => v.category).sum ≤ 8) {k : Int32 → gx_M → Option α} (hf : gx_b (fn_X0_nearestLevel (gy_k Y) μ c p1 p2) k = some rr) (kk : ∀ (r : Int32) (m : gx_M), k r m = some rr → K m (pc + 3) L (.int r :: st)) : K μ pc L (.int p2 :: .int p1 :: .ref (gy_a Y c) :: st) := by
  obtain ⟨r, m, e, hk⟩ := gx_b_some hf
  exact gw_callV (As := [.int p1, .int p2]) (q := (r, m)) h hc.1 (by decide) rfl (by refine ⟨rfl, by decide, by decide, (show (parseMethodDescriptor yX0_nearestLevel.desc).map (fun d => d.parameters.length) = some 2 by decide +kernel)⟩) kw_ml_RX6_86 kw_im_X0_nearestLevel kw_se_X0_nearestLevel kw_in_RX0 kw_co_X0_nearestLevel hR hst d (ct_X0_nearestLevel l Y μ c p1 p2 (r, m) hc e) (kk r m hk)
def fn_X0_moveMark (kd : Nat → Nat) (μ : gx_M) (c : Nat) (p1 : Int32) (p2 : Int32) : Option (Int32 × gx_M) :=
  gx_b (fn_X3_get kd μ (c + 7) p1) (fun r1 m2 =>
gx_b (fn_X3_put kd m2 (c + 7) p1 p2) (fun _ m4 =>
some (r1, m4)))
set_option maxRecDepth 100000 in
set_option maxHeartbeats 4000000 in
theorem ct_X0_moveMark (l : Launch) (Y : gx_Y) (μ : gx_M) (c : Nat) (p1 : Int32) (p2 : Int32) (rr : Int32 × gx_M) (hc : gk_bowls Y c) (hf : fn_X0_moveMark (gy_k Y) μ c p1 p2 = some rr) : gx_Con l yX0_moveMark cX0_moveMark 4 (some .int) 1 22 Y [.ref (gy_a Y c), .int p1, .int p2] μ rr := by
  refine gx_Con_of (L0 := [(0, .ref (gy_a Y c)), (1, .int p1), (2, .int p2)]) (by decide) (Nat.le_of_ble_eq_true rfl) rfl (fun K hK => ?_)
  unfold fn_X0_moveMark at hf
  refine gw_aload_n (pc := 0) hK 0 dX0_moveMark_0 rfl rfl ?_
  refine gf_X0_26 (pc := 1) hK hc.1 dX0_moveMark_1 ?_
  refine gw_iload_n (pc := 4) hK 1 dX0_moveMark_4 rfl rfl ?_
  refine gv_X0_48 (pc := 5) hK hc.2.2.2.2.1 dX0_moveMark_5 (by decide) (Nat.le_of_ble_eq_true rfl) hf (fun r1 m2 hf => ?_)
  refine gw_istore_n (L' := [(3, .int r1), (0, .ref (gy_a Y c)), (1, .int p1), (2, .int p2)]) (pc := 8) hK dX0_moveMark_8 rfl (by decide) rfl ?_
  refine gw_aload_n (pc := 9) hK 1 dX0_moveMark_9 rfl rfl ?_
  refine gf_X0_26 (pc := 10) hK hc.1 dX0_moveMark_10 ?_
  refine gw_iload_n (pc := 13) hK 2 dX0_moveMark_13 rfl rfl ?_
  refine gw_iload_n (pc := 14) hK 3 dX0_moveMark_14 rfl rfl ?_
  refine gv_X0_52 (pc := 15) hK hc.2.2.2.2.1 dX0_moveMark_15 (by decide) (Nat.le_of_ble_eq_true rfl) hf (fun _ m4 hf => ?_)
  refine gw_iload_n (pc := 18) hK 0 dX0_moveMark_18 rfl rfl ?_
  exact gw_ret_i (pc := 19) hK dX0_moveMark_19 (Option.some.inj hf)
theorem gv_X6_79 {l : Launch} {cc : ByteArray} {nL fr lo : Nat} {ret : Option FieldType} {Y : gx_Y} {Post : Value → gx_M → Prop} {K : gx_KT} {pc : Nat} {μ : gx_M} {L : List (Nat × Value)} {st : List Value} {α : Type} {rr : α} (h : gx_K l RX6 cc nL fr lo ret Y Post K) {c : Nat} {p1 : Int32} {p2 : Int32} (hc : gk_bowls Y c) (d : decode cc pc = .ok (.invokevirtual 79, 3)) (hR : 1 + 1 ≤ fr ∧ 45 ≤ lo) (hst : (st.map fun v => v.category).sum ≤ 8) {k : Int32 → gx_M → Option α} (hf : gx_b (fn_X0_moveMark (gy_k Y) μ c p1 p2) k = some rr) (kk : ∀ (r : Int32) (m : gx_M), k r m = some rr → K m (pc + 3) L (.int r :: st)) : K μ pc L (.int p2 :: .int p1 :: .ref (gy_a Y c) :: st) := by
  obtain ⟨r, m, e, hk⟩ := gx_b_some hf
  exact gw_callV (As := [.int p1, .int p2]) (q := (r, m)) h hc.1 (by decide) rfl (by refine ⟨rfl, by decide, by decide, (show (parseMethodDescriptor yX0_moveMark.desc).map (fun d => d.parameters.length) = some 2 by decide +kernel)⟩) kw_ml_RX6_79 kw_im_X0_moveMark kw_se_X0_moveMark kw_in_RX0 kw_co_X0_moveMark hR hst d (ct_X0_moveMark l Y μ c p1 p2 (r, m) hc e) (kk r m hk)
def fn_X0_addWater (kd : Nat → Nat) (μ : gx_M) (c : Nat) (p1 : Int32) (p2 : Int32) : Option (Int32 × gx_M) :=
  gx_b (fn_X3_get kd (gx_u μ c 6 (μ c 6 + p2)) (c + 5) p1) (fun r1 m2 =>
gx_b (fn_X0_hold kd m2 c p1 (r1 + p2)) (fun _ m4 =>
some (0, m4)))
set_option maxRecDepth 100000 in
set_option maxHeartbeats 4000000 in
theorem ct_X0_addWater (l : Launch) (Y : gx_Y) (μ : gx_M) (c : Nat) (p1 : Int32) (p2 : Int32) (rr : Int32 × gx_M) (hc : gk_bowls Y c) (hf : fn_X0_addWater (gy_k Y) μ c p1 p2 = some rr) : gx_Con l yX0_addWater cX0_addWater 3 none 2 45 Y [.ref (gy_a Y c), .int p1, .int p2] μ rr := by
  refine gx_Con_of (L0 := [(0, .ref (gy_a Y c)), (1, .int p1), (2, .int p2)]) (by decide) (Nat.le_of_ble_eq_true rfl) rfl (fun K hK => ?_)
  unfold fn_X0_addWater at hf
  refine gw_aload_n (pc := 0) hK 0 dX0_addWater_0 rfl rfl ?_
  refine gw_dup (pc := 1) hK dX0_addWater_1 rfl ?_
  refine gf_X0_36 (pc := 2) hK hc.1 dX0_addWater_2 ?_
  refine gw_iload_n (pc := 5) hK 2 dX0_addWater_5 rfl rfl ?_
  refine gw_iadd (pc := 6) hK dX0_addWater_6 ?_
  refine gp_X0_36 (pc := 7) hK hc.1 dX0_addWater_7 ?_
  refine gw_aload_n (pc := 10) hK 0 dX0_addWater_10 rfl rfl ?_
  refine gw_iload_n (pc := 11) hK 1 dX0_addWater_11 rfl rfl ?_
  refine gw_aload_n (pc := 12) hK 0 dX0_addWater_12 rfl rfl ?_
  refine gf_X0_23 (pc := 13) hK hc.1 dX0_addWater_13 ?_
  refine gw_iload_n (pc := 16) hK 1 dX0_addWater_16 rfl rfl ?_
  refine gv_X0_48 (pc := 17) hK hc.2.2.2.1 dX0_addWater_17 (by decide) (Nat.le_of_ble_eq_true rfl) hf (fun r1 m2 hf => ?_)
  refine gw_iload_n (pc := 20) hK 2 dX0_addWater_20 rfl rfl ?_
  refine gw_iadd (pc := 21) hK dX0_addWater_21 ?_
  refine gv_X0_59 (pc := 22) hK hc dX0_addWater_22 (by decide) (Nat.le_of_ble_eq_true rfl) hf (fun _ m4 hf => ?_)
  exact gw_ret_v (pc := 25) hK dX0_addWater_25 (Option.some.inj hf)
theorem gv_X6_69 {l : Launch} {cc : ByteArray} {nL fr lo : Nat} {ret : Option FieldType} {Y : gx_Y} {Post : Value → gx_M → Prop} {K : gx_KT} {pc : Nat} {μ : gx_M} {L : List (Nat × Value)} {st : List Value} {α : Type} {rr : α} (h : gx_K l RX6 cc nL fr lo ret Y Post K) {c : Nat} {p1 : Int32} {p2 : Int32} (hc : gk_bowls Y c) (d : decode cc pc = .ok (.invokevirtual 69, 3)) (hR : 2 + 1 ≤ fr ∧ 67 ≤ lo) (hst : (st.map fun v => v.category).sum ≤ 8) {k : Int32 → gx_M → Option α} (hf : gx_b (fn_X0_addWater (gy_k Y) μ c p1 p2) k = some rr) (kk : ∀ (r : Int32) (m : gx_M), k r m = some rr → K m (pc + 3) L (st)) : K μ pc L (.int p2 :: .int p1 :: .ref (gy_a Y c) :: st) := by
  obtain ⟨r, m, e, hk⟩ := gx_b_some hf
  exact gw_callV (As := [.int p1, .int p2]) (q := (r, m)) h hc.1 (by decide) rfl (by refine ⟨rfl, by decide, by decide, (show (parseMethodDescriptor yX0_addWater.desc).map (fun d => d.parameters.length) = some 2 by decide +kernel)⟩) kw_ml_RX6_69 kw_im_X0_addWater kw_se_X0_addWater kw_in_RX0 kw_co_X0_addWater hR hst d (ct_X0_addWater l Y μ c p1 p2 (r, m) hc e) (kk r m hk)
def fn_X0_takeAway (kd : Nat → Nat) (μ : gx_M) (c : Nat) (p1 : Int32) : Option (Int32 × gx_M) :=
  gx_b (fn_X3_get kd μ (c + 5) p1) (fun r1 m2 =>
gx_b (fn_X3_delete kd (gx_u m2 c 9 (μ c 9 + r1)) (c + 1) p1 ((gx_u m2 c 9 (μ c 9 + r1)) c 5)) (fun _ m4 =>
gx_b (fn_X3_delete kd m4 (c + 3) p1 (m4 c 5)) (fun _ m6 =>
gx_b (fn_X3_delete kd m6 (c + 5) p1 (m6 c 5)) (fun _ m8 =>
gx_b (fn_X3_delete kd m8 (c + 7) p1 (m8 c 5)) (fun _ m10 =>
gx_b (fn_X3_delete kd m10 (c + 9) p1 (m10 c 5)) (fun _ m12 =>
some (0, (gx_u m12 c 5 (m12 c 5 - 1)))))))))
set_option maxRecDepth 100000 in
set_option maxHeartbeats 4000000 in
theorem ct_X0_takeAway (l : Launch) (Y : gx_Y) (μ : gx_M) (c : Nat) (p1 : Int32) (rr : Int32 × gx_M) (hc : gk_bowls Y c) (hf : fn_X0_takeAway (gy_k Y) μ c p1 = some rr) : gx_Con l yX0_takeAway cX0_takeAway 2 none 2 45 Y [.ref (gy_a Y c), .int p1] μ rr := by
  refine gx_Con_of (L0 := [(0, .ref (gy_a Y c)), (1, .int p1)]) (by decide) (Nat.le_of_ble_eq_true rfl) rfl (fun K hK => ?_)
  unfold fn_X0_takeAway at hf
  refine gw_aload_n (pc := 0) hK 0 dX0_takeAway_0 rfl rfl ?_
  refine gw_dup (pc := 1) hK dX0_takeAway_1 rfl ?_
  refine gf_X0_45 (pc := 2) hK hc.1 dX0_takeAway_2 ?_
  refine gw_aload_n (pc := 5) hK 0 dX0_takeAway_5 rfl rfl ?_
  refine gf_X0_23 (pc := 6) hK hc.1 dX0_takeAway_6 ?_
  refine gw_iload_n (pc := 9) hK 1 dX0_takeAway_9 rfl rfl ?_
  refine gv_X0_48 (pc := 10) hK hc.2.2.2.1 dX0_takeAway_10 (by decide) (Nat.le_of_ble_eq_true rfl) hf (fun r1 m2 hf => ?_)
  refine gw_iadd (pc := 13) hK dX0_takeAway_13 ?_
  refine gp_X0_45 (pc := 14) hK hc.1 dX0_takeAway_14 ?_
  refine gw_aload_n (pc := 17) hK 0 dX0_takeAway_17 rfl rfl ?_
  refine gf_X0_14 (pc := 18) hK hc.1 dX0_takeAway_18 ?_
  refine gw_iload_n (pc := 21) hK 1 dX0_takeAway_21 rfl rfl ?_
  refine gw_aload_n (pc := 22) hK 0 dX0_takeAway_22 rfl rfl ?_
  refine gf_X0_32 (pc := 23) hK hc.1 dX0_takeAway_23 ?_
  refine gv_X0_56 (pc := 26) hK hc.2.1 dX0_takeAway_26 (by decide) (Nat.le_of_ble_eq_true rfl) hf (fun _ m4 hf => ?_)
  refine gw_aload_n (pc := 29) hK 0 dX0_takeAway_29 rfl rfl ?_
  refine gf_X0_20 (pc := 30) hK hc.1 dX0_takeAway_30 ?_
  refine gw_iload_n (pc := 33) hK 1 dX0_takeAway_33 rfl rfl ?_
  refine gw_aload_n (pc := 34) hK 0 dX0_takeAway_34 rfl rfl ?_
  refine gf_X0_32 (pc := 35) hK hc.1 dX0_takeAway_35 ?_
  refine gv_X0_56 (pc := 38) hK hc.2.2.1 dX0_takeAway_38 (by decide) (Nat.le_of_ble_eq_true rfl) hf (fun _ m6 hf => ?_)
  refine gw_aload_n (pc := 41) hK 0 dX0_takeAway_41 rfl rfl ?_
  refine gf_X0_23 (pc := 42) hK hc.1 dX0_takeAway_42 ?_
  refine gw_iload_n (pc := 45) hK 1 dX0_takeAway_45 rfl rfl ?_
  refine gw_aload_n (pc := 46) hK 0 dX0_takeAway_46 rfl rfl ?_
  refine gf_X0_32 (pc := 47) hK hc.1 dX0_takeAway_47 ?_
  refine gv_X0_56 (pc := 50) hK hc.2.2.2.1 dX0_takeAway_50 (by decide) (Nat.le_of_ble_eq_true rfl) hf (fun _ m8 hf => ?_)
  refine gw_aload_n (pc := 53) hK 0 dX0_takeAway_53 rfl rfl ?_
  refine gf_X0_26 (pc := 54) hK hc.1 dX0_takeAway_54 ?_
  refine gw_iload_n (pc := 57) hK 1 dX0_takeAway_57 rfl rfl ?_
  refine gw_aload_n (pc := 58) hK 0 dX0_takeAway_58 rfl rfl ?_
  refine gf_X0_32 (pc := 59) hK hc.1 dX0_takeAway_59 ?_
  refine gv_X0_56 (pc := 62) hK hc.2.2.2.2.1 dX0_takeAway_62 (by decide) (Nat.le_of_ble_eq_true rfl) hf (fun _ m10 hf => ?_)
  refine gw_aload_n (pc := 65) hK 0 dX0_takeAway_65 rfl rfl ?_
  refine gf_X0_29 (pc := 66) hK hc.1 dX0_takeAway_66 ?_
  refine gw_iload_n (pc := 69) hK 1 dX0_takeAway_69 rfl rfl ?_
  refine gw_aload_n (pc := 70) hK 0 dX0_takeAway_70 rfl rfl ?_
  refine gf_X0_32 (pc := 71) hK hc.1 dX0_takeAway_71 ?_
  refine gv_X0_56 (pc := 74) hK hc.2.2.2.2.2 dX0_takeAway_74 (by decide) (Nat.le_of_ble_eq_true rfl) hf (fun _ m12 hf => ?_)
  refine gw_aload_n (pc := 77) hK 0 dX0_takeAway_77 rfl rfl ?_
  refine gw_dup (pc := 78) hK dX0_takeAway_78 rfl ?_
  refine gf_X0_32 (pc := 79) hK hc.1 dX0_takeAway_79 ?_
  refine gw_iconst (v := 1) (pc := 82) hK dX0_takeAway_82 (by decide) ?_
  refine gw_isub (pc := 83) hK dX0_takeAway_83 ?_
  refine gp_X0_32 (pc := 84) hK hc.1 dX0_takeAway_84 ?_
  exact gw_ret_v (pc := 87) hK dX0_takeAway_87 (Option.some.inj hf)
theorem gv_X6_61 {l : Launch} {cc : ByteArray} {nL fr lo : Nat} {ret : Option FieldType} {Y : gx_Y} {Post : Value → gx_M → Prop} {K : gx_KT} {pc : Nat} {μ : gx_M} {L : List (Nat × Value)} {st : List Value} {α : Type} {rr : α} (h : gx_K l RX6 cc nL fr lo ret Y Post K) {c : Nat} {p1 : Int32} (hc : gk_bowls Y c) (d : decode cc pc = .ok (.invokevirtual 61, 3)) (hR : 2 + 1 ≤ fr ∧ 66 ≤ lo) (hst : (st.map fun v => v.category).sum ≤ 8) {k : Int32 → gx_M → Option α} (hf : gx_b (fn_X0_takeAway (gy_k Y) μ c p1) k = some rr) (kk : ∀ (r : Int32) (m : gx_M), k r m = some rr → K m (pc + 3) L (st)) : K μ pc L (.int p1 :: .ref (gy_a Y c) :: st) := by
  obtain ⟨r, m, e, hk⟩ := gx_b_some hf
  exact gw_callV (As := [.int p1]) (q := (r, m)) h hc.1 (by decide) rfl (by refine ⟨rfl, by decide, by decide, (show (parseMethodDescriptor yX0_takeAway.desc).map (fun d => d.parameters.length) = some 1 by decide +kernel)⟩) kw_ml_RX6_61 kw_im_X0_takeAway kw_se_X0_takeAway kw_in_RX0 kw_co_X0_takeAway hR hst d (ct_X0_takeAway l Y μ c p1 (r, m) hc e) (kk r m hk)
def fn_X0_takeWater (kd : Nat → Nat) (μ : gx_M) (c : Nat) (p1 : Int32) (p2 : Int32) : Option (Int32 × gx_M) :=
  gx_b (fn_X3_add kd (gx_u μ c 9 (μ c 9 + p2)) (c + 5) p1 (-p2)) (fun _ m2 =>
some (0, m2))
set_option maxRecDepth 100000 in
set_option maxHeartbeats 4000000 in
theorem ct_X0_takeWater (l : Launch) (Y : gx_Y) (μ : gx_M) (c : Nat) (p1 : Int32) (p2 : Int32) (rr : Int32 × gx_M) (hc : gk_bowls Y c) (hf : fn_X0_takeWater (gy_k Y) μ c p1 p2 = some rr) : gx_Con l yX0_takeWater cX0_takeWater 3 none 2 44 Y [.ref (gy_a Y c), .int p1, .int p2] μ rr := by
  refine gx_Con_of (L0 := [(0, .ref (gy_a Y c)), (1, .int p1), (2, .int p2)]) (by decide) (Nat.le_of_ble_eq_true rfl) rfl (fun K hK => ?_)
  unfold fn_X0_takeWater at hf
  refine gw_aload_n (pc := 0) hK 0 dX0_takeWater_0 rfl rfl ?_
  refine gw_dup (pc := 1) hK dX0_takeWater_1 rfl ?_
  refine gf_X0_45 (pc := 2) hK hc.1 dX0_takeWater_2 ?_
  refine gw_iload_n (pc := 5) hK 2 dX0_takeWater_5 rfl rfl ?_
  refine gw_iadd (pc := 6) hK dX0_takeWater_6 ?_
  refine gp_X0_45 (pc := 7) hK hc.1 dX0_takeWater_7 ?_
  refine gw_aload_n (pc := 10) hK 0 dX0_takeWater_10 rfl rfl ?_
  refine gf_X0_23 (pc := 11) hK hc.1 dX0_takeWater_11 ?_
  refine gw_iload_n (pc := 14) hK 1 dX0_takeWater_14 rfl rfl ?_
  refine gw_iload_n (pc := 15) hK 2 dX0_takeWater_15 rfl rfl ?_
  refine gw_ineg (pc := 16) hK dX0_takeWater_16 ?_
  refine gv_X0_62 (pc := 17) hK hc.2.2.2.1 dX0_takeWater_17 (by decide) (Nat.le_of_ble_eq_true rfl) hf (fun _ m2 hf => ?_)
  exact gw_ret_v (pc := 20) hK dX0_takeWater_20 (Option.some.inj hf)
theorem gv_X6_73 {l : Launch} {cc : ByteArray} {nL fr lo : Nat} {ret : Option FieldType} {Y : gx_Y} {Post : Value → gx_M → Prop} {K : gx_KT} {pc : Nat} {μ : gx_M} {L : List (Nat × Value)} {st : List Value} {α : Type} {rr : α} (h : gx_K l RX6 cc nL fr lo ret Y Post K) {c : Nat} {p1 : Int32} {p2 : Int32} (hc : gk_bowls Y c) (d : decode cc pc = .ok (.invokevirtual 73, 3)) (hR : 2 + 1 ≤ fr ∧ 66 ≤ lo) (hst : (st.map fun v => v.category).sum ≤ 8) {k : Int32 → gx_M → Option α} (hf : gx_b (fn_X0_takeWater (gy_k Y) μ c p1 p2) k = some rr) (kk : ∀ (r : Int32) (m : gx_M), k r m = some rr → K m (pc + 3) L (st)) : K μ pc L (.int p2 :: .int p1 :: .ref (gy_a Y c) :: st) := by
  obtain ⟨r, m, e, hk⟩ := gx_b_some hf
  exact gw_callV (As := [.int p1, .int p2]) (q := (r, m)) h hc.1 (by decide) rfl (by refine ⟨rfl, by decide, by decide, (show (parseMethodDescriptor yX0_takeWater.desc).map (fun d => d.parameters.length) = some 2 by decide +kernel)⟩) kw_ml_RX6_73 kw_im_X0_takeWater kw_se_X0_takeWater kw_in_RX0 kw_co_X0_takeWater hR hst d (ct_X0_takeWater l Y μ c p1 p2 (r, m) hc e) (kk r m hk)
