def fn_X6_isWithin (kd : Nat → Nat) (μ : gx_M) (p0 : Int32) (p1 : Int32) (p2 : Int32) : Option (Int32 × gx_M) :=
  (if p0 < p1 then
some (0, μ)
else
(if p2 < p0 then
some (0, μ)
else
some (1, μ)))
set_option maxRecDepth 100000 in
set_option maxHeartbeats 4000000 in
theorem ct_X6_isWithin (l : Launch) (Y : gx_Y) (μ : gx_M) (p0 : Int32) (p1 : Int32) (p2 : Int32) (rr : Int32 × gx_M) (hf : fn_X6_isWithin (gy_k Y) μ p0 p1 p2 = some rr) : gx_Con l yX6_isWithin cX6_isWithin 3 (some .boolean) 0 0 Y [.int p0, .int p1, .int p2] μ rr := by
  refine gx_Con_of (L0 := [(0, .int p0), (1, .int p1), (2, .int p2)]) (by decide) (Nat.le_of_ble_eq_true rfl) rfl (fun K hK => ?_)
  unfold fn_X6_isWithin at hf
  refine gw_iload_n (pc := 0) hK 0 dX6_isWithin_0 rfl rfl ?_
  refine gw_iload_n (pc := 1) hK 1 dX6_isWithin_1 rfl rfl ?_
  refine gw_icmp_lt (tgt := 14) (pc := 2) hK dX6_isWithin_2 (by decide) hf (fun cc1 hf => ?_) (fun cc1 hf => ?_)
  ·
    refine gw_iconst (v := 0) (pc := 14) hK dX6_isWithin_14 (by decide) ?_
    exact gw_ret_z (pc := 15) hK dX6_isWithin_15 rfl (Option.some.inj hf)
  ·
    refine gw_iload_n (pc := 5) hK 0 dX6_isWithin_5 rfl rfl ?_
    refine gw_iload_n (pc := 6) hK 2 dX6_isWithin_6 rfl rfl ?_
    refine gw_icmp_gt (tgt := 14) (pc := 7) hK dX6_isWithin_7 (by decide) hf (fun cc2 hf => ?_) (fun cc2 hf => ?_)
    ·
      refine gw_iconst (v := 0) (pc := 14) hK dX6_isWithin_14 (by decide) ?_
      exact gw_ret_z (pc := 15) hK dX6_isWithin_15 rfl (Option.some.inj hf)
    ·
      refine gw_iconst (v := 1) (pc := 10) hK dX6_isWithin_10 (by decide) ?_
      refine gw_goto (tgt := 15) (pc := 11) hK dX6_isWithin_11 (by decide) ?_
      exact gw_ret_z (pc := 15) hK dX6_isWithin_15 rfl (Option.some.inj hf)
theorem gv_X2_51 {l : Launch} {cc : ByteArray} {nL fr lo : Nat} {ret : Option FieldType} {Y : gx_Y} {Post : Value → gx_M → Prop} {K : gx_KT} {pc : Nat} {μ : gx_M} {L : List (Nat × Value)} {st : List Value} {α : Type} {rr : α} (h : gx_K l RX2 cc nL fr lo ret Y Post K) {p0 : Int32} {p1 : Int32} {p2 : Int32} (d : decode cc pc = .ok (.invokestatic 51, 3)) (hR : 0 + 1 ≤ fr ∧ 22 ≤ lo) (hst : (st.map fun v => v.category).sum ≤ 8) {k : Int32 → gx_M → Option α} (hf : gx_b (fn_X6_isWithin (gy_k Y) μ p0 p1 p2) k = some rr) (kk : ∀ (r : Int32) (m : gx_M), k r m = some rr → K m (pc + 3) L (.int r :: st)) : K μ pc L (.int p2 :: .int p1 :: .int p0 :: st) := by
  obtain ⟨r, m, e, hk⟩ := gx_b_some hf
  exact gw_callSN (host := RX6) (As := [.int p0, .int p1, .int p2]) (q := (r, m)) h (by refine ⟨by decide, by decide, (show (parseMethodDescriptor yX6_isWithin.desc).map (fun d => d.parameters.length) = some 3 by decide +kernel)⟩) (List.mem_of_getElem? (i := 0) rfl) kw_st_X6_isWithin kw_in_RX6 kw_co_X6_isWithin hR hst d (ct_X6_isWithin l Y μ p0 p1 p2 (r, m)  e) (kk r m hk)
theorem gv_X5_78 {l : Launch} {cc : ByteArray} {nL fr lo : Nat} {ret : Option FieldType} {Y : gx_Y} {Post : Value → gx_M → Prop} {K : gx_KT} {pc : Nat} {μ : gx_M} {L : List (Nat × Value)} {st : List Value} {α : Type} {rr : α} (h : gx_K l RX5 cc nL fr lo ret Y Post K) {p0 : Int32} {p1 : Int32} {p2 : Int32} (d : decode cc pc = .ok (.invokestatic 78, 3)) (hR : 0 + 1 ≤ fr ∧ 22 ≤ lo) (hst : (st.map fun v => v.category).sum ≤ 8) {k : Int32 → gx_M → Option α} (hf : gx_b (fn_X6_isWithin (gy_k Y) μ p0 p1 p2) k = some rr) (kk : ∀ (r : Int32) (m : gx_M), k r m = some rr → K m (pc + 3) L (.int r :: st)) : K μ pc L (.int p2 :: .int p1 :: .int p0 :: st) := by
  obtain ⟨r, m, e, hk⟩ := gx_b_some hf
  exact gw_callSN (host := RX6) (As := [.int p0, .int p1, .int p2]) (q := (r, m)) h (by refine ⟨by decide, by decide, (show (parseMethodDescriptor yX6_isWithin.desc).map (fun d => d.parameters.length) = some 3 by decide +kernel)⟩) (List.mem_of_getElem? (i := 2) rfl) kw_st_X6_isWithin kw_in_RX6 kw_co_X6_isWithin hR hst d (ct_X6_isWithin l Y μ p0 p1 p2 (r, m)  e) (kk r m hk)
theorem gv_X6_33 {l : Launch} {cc : ByteArray} {nL fr lo : Nat} {ret : Option FieldType} {Y : gx_Y} {Post : Value → gx_M → Prop} {K : gx_KT} {pc : Nat} {μ : gx_M} {L : List (Nat × Value)} {st : List Value} {α : Type} {rr : α} (h : gx_K l RX6 cc nL fr lo ret Y Post K) {p0 : Int32} {p1 : Int32} {p2 : Int32} (d : decode cc pc = .ok (.invokestatic 33, 3)) (hR : 0 + 1 ≤ fr ∧ 22 ≤ lo) (hst : (st.map fun v => v.category).sum ≤ 8) {k : Int32 → gx_M → Option α} (hf : gx_b (fn_X6_isWithin (gy_k Y) μ p0 p1 p2) k = some rr) (kk : ∀ (r : Int32) (m : gx_M), k r m = some rr → K m (pc + 3) L (.int r :: st)) : K μ pc L (.int p2 :: .int p1 :: .int p0 :: st) := by
  obtain ⟨r, m, e, hk⟩ := gx_b_some hf
  exact gw_callS (As := [.int p0, .int p1, .int p2]) (q := (r, m)) h (by refine ⟨rfl, by decide, by decide, (show (parseMethodDescriptor yX6_isWithin.desc).map (fun d => d.parameters.length) = some 3 by decide +kernel)⟩) kw_ml_RX6_33 kw_st_X6_isWithin kw_in_RX6 kw_co_X6_isWithin hR hst d (ct_X6_isWithin l Y μ p0 p1 p2 (r, m)  e) (kk r m hk)
def fn_X2_copyFrom (kd : Nat → Nat) (μ : gx_M) (c : Nat) (c1 : Nat) : Option (Int32 × gx_M) :=
  gx_b (fn_X3_copyFrom kd μ (c + 1) (c1 + 1)) (fun _ m2 =>
gx_b (fn_X3_copyFrom kd m2 (c + 3) (c1 + 3)) (fun _ m4 =>
gx_b (fn_X3_copyFrom kd m4 (c + 5) (c1 + 5)) (fun _ m6 =>
gx_b (fn_X3_copyFrom kd m6 (c + 7) (c1 + 7)) (fun _ m8 =>
gx_b (fn_X3_copyFrom kd m8 (c + 9) (c1 + 9)) (fun _ m10 =>
some (0, (gx_u m10 c 5 (m10 c1 5))))))))
set_option maxRecDepth 100000 in
set_option maxHeartbeats 4000000 in
theorem ct_X2_copyFrom (l : Launch) (Y : gx_Y) (μ : gx_M) (c : Nat) (c1 : Nat) (rr : Int32 × gx_M) (hc : gk_piece Y c) (hc1 : gk_piece Y c1) (hf : fn_X2_copyFrom (gy_k Y) μ c c1 = some rr) : gx_Con l yX2_copyFrom cX2_copyFrom 2 none 2 61 Y [.ref (gy_a Y c), .ref (gy_a Y c1)] μ rr := by
  refine gx_Con_of (L0 := [(0, .ref (gy_a Y c)), (1, .ref (gy_a Y c1))]) (by decide) (Nat.le_of_ble_eq_true rfl) rfl (fun K hK => ?_)
  unfold fn_X2_copyFrom at hf
  refine gw_aload_n (pc := 0) hK 1 dX2_copyFrom_0 rfl rfl ?_
  refine gw_ifnonnull (tgt := 5) (pc := 1) hK dX2_copyFrom_1 (by decide) ?_
  refine gw_aload_n (pc := 5) hK 0 dX2_copyFrom_5 rfl rfl ?_
  refine gf_X2_14 (pc := 6) hK hc.1 dX2_copyFrom_6 ?_
  refine gw_aload_n (pc := 9) hK 1 dX2_copyFrom_9 rfl rfl ?_
  refine gf_X2_14 (pc := 10) hK hc1.1 dX2_copyFrom_10 ?_
  refine gv_X2_96 (pc := 13) hK hc.2.1 hc1.2.1 dX2_copyFrom_13 (by decide) (Nat.le_of_ble_eq_true rfl) hf (fun _ m2 hf => ?_)
  refine gw_aload_n (pc := 16) hK 0 dX2_copyFrom_16 rfl rfl ?_
  refine gf_X2_20 (pc := 17) hK hc.1 dX2_copyFrom_17 ?_
  refine gw_aload_n (pc := 20) hK 1 dX2_copyFrom_20 rfl rfl ?_
  refine gf_X2_20 (pc := 21) hK hc1.1 dX2_copyFrom_21 ?_
  refine gv_X2_96 (pc := 24) hK hc.2.2.1 hc1.2.2.1 dX2_copyFrom_24 (by decide) (Nat.le_of_ble_eq_true rfl) hf (fun _ m4 hf => ?_)
  refine gw_aload_n (pc := 27) hK 0 dX2_copyFrom_27 rfl rfl ?_
  refine gf_X2_23 (pc := 28) hK hc.1 dX2_copyFrom_28 ?_
  refine gw_aload_n (pc := 31) hK 1 dX2_copyFrom_31 rfl rfl ?_
  refine gf_X2_23 (pc := 32) hK hc1.1 dX2_copyFrom_32 ?_
  refine gv_X2_96 (pc := 35) hK hc.2.2.2.1 hc1.2.2.2.1 dX2_copyFrom_35 (by decide) (Nat.le_of_ble_eq_true rfl) hf (fun _ m6 hf => ?_)
  refine gw_aload_n (pc := 38) hK 0 dX2_copyFrom_38 rfl rfl ?_
  refine gf_X2_26 (pc := 39) hK hc.1 dX2_copyFrom_39 ?_
  refine gw_aload_n (pc := 42) hK 1 dX2_copyFrom_42 rfl rfl ?_
  refine gf_X2_26 (pc := 43) hK hc1.1 dX2_copyFrom_43 ?_
  refine gv_X2_96 (pc := 46) hK hc.2.2.2.2.1 hc1.2.2.2.2.1 dX2_copyFrom_46 (by decide) (Nat.le_of_ble_eq_true rfl) hf (fun _ m8 hf => ?_)
  refine gw_aload_n (pc := 49) hK 0 dX2_copyFrom_49 rfl rfl ?_
  refine gf_X2_29 (pc := 50) hK hc.1 dX2_copyFrom_50 ?_
  refine gw_aload_n (pc := 53) hK 1 dX2_copyFrom_53 rfl rfl ?_
  refine gf_X2_29 (pc := 54) hK hc1.1 dX2_copyFrom_54 ?_
  refine gv_X2_96 (pc := 57) hK hc.2.2.2.2.2 hc1.2.2.2.2.2 dX2_copyFrom_57 (by decide) (Nat.le_of_ble_eq_true rfl) hf (fun _ m10 hf => ?_)
  refine gw_aload_n (pc := 60) hK 0 dX2_copyFrom_60 rfl rfl ?_
  refine gw_aload_n (pc := 61) hK 1 dX2_copyFrom_61 rfl rfl ?_
  refine gf_X2_32 (pc := 62) hK hc1.1 dX2_copyFrom_62 ?_
  refine gp_X2_32 (pc := 65) hK hc.1 dX2_copyFrom_65 ?_
  exact gw_ret_v (pc := 68) hK dX2_copyFrom_68 (Option.some.inj hf)
theorem gv_X4_95 {l : Launch} {cc : ByteArray} {nL fr lo : Nat} {ret : Option FieldType} {Y : gx_Y} {Post : Value → gx_M → Prop} {K : gx_KT} {pc : Nat} {μ : gx_M} {L : List (Nat × Value)} {st : List Value} {α : Type} {rr : α} (h : gx_K l RX4 cc nL fr lo ret Y Post K) {c : Nat} {c1 : Nat} (hc : gk_piece Y c) (hc1 : gk_piece Y c1) (d : decode cc pc = .ok (.invokevirtual 95, 3)) (hR : 2 + 1 ≤ fr ∧ 82 ≤ lo) (hst : (st.map fun v => v.category).sum ≤ 8) {k : Int32 → gx_M → Option α} (hf : gx_b (fn_X2_copyFrom (gy_k Y) μ c c1) k = some rr) (kk : ∀ (r : Int32) (m : gx_M), k r m = some rr → K m (pc + 3) L (st)) : K μ pc L (.ref (gy_a Y c1) :: .ref (gy_a Y c) :: st) := by
  obtain ⟨r, m, e, hk⟩ := gx_b_some hf
  exact gw_callV (As := [.ref (gy_a Y c1)]) (q := (r, m)) h hc.1 (by decide) rfl (by refine ⟨rfl, by decide, by decide, (show (parseMethodDescriptor yX2_copyFrom.desc).map (fun d => d.parameters.length) = some 1 by decide +kernel)⟩) kw_ml_RX4_95 kw_im_X2_copyFrom kw_se_X2_copyFrom kw_in_RX2 kw_co_X2_copyFrom hR hst d (ct_X2_copyFrom l Y μ c c1 (r, m) hc hc1 e) (kk r m hk)
def lf_X2_placeFor_2 (kd : Nat → Nat) (c0 : Nat) (q1 : Int32) (k : gx_M → Int32 → Option (Int32 × gx_M)) : Nat → gx_M → Int32 → Option (Int32 × gx_M)
  | 0, _, _ => none
  | n + 1, μ, x2 => (if μ c0 5 ≤ x2 then
k μ x2
else
gx_b (fn_X3_get kd μ (c0 + 1) x2) (fun r2 m3 =>
(if q1 ≤ r2 then
k m3 x2
else
lf_X2_placeFor_2 kd c0 q1 k n m3 (x2 + 1))))
def fn_X2_placeFor (kd : Nat → Nat) (μ : gx_M) (c : Nat) (p1 : Int32) : Option (Int32 × gx_M) :=
  lf_X2_placeFor_2 kd c p1 (fun m5 y6 =>
some (y6, m5)) gx_F μ 0
set_option maxRecDepth 100000 in
set_option maxHeartbeats 4000000 in
theorem lt_X2_placeFor_2 {l : Launch} {Y : gx_Y} {rr : Int32 × gx_M} {K : gx_KT} (hK : gx_K l RX2 cX2_placeFor 3 1 21 (some .int) Y (gx_P rr) K) (c0 : Nat) (q1 : Int32) (hc0 : gk_piece Y c0) (k : gx_M → Int32 → Option (Int32 × gx_M)) (hx : ∀ (μ : gx_M) (x2 : Int32), k μ x2 = some rr → K μ 28 [(0, .ref (gy_a Y c0)), (1, .int q1), (2, .int x2)] []) :
    ∀ (n : Nat) (μ : gx_M) (x2 : Int32), lf_X2_placeFor_2 (gy_k Y) c0 q1 k n μ x2 = some rr → K μ 2 [(0, .ref (gy_a Y c0)), (1, .int q1), (2, .int x2)] [] := by
  intro n
  induction n with
  | zero =>
    intro μ x2 hf
    exact absurd hf (by simp [lf_X2_placeFor_2])
  | succ n ih =>
    intro μ x2 hf
    rw [lf_X2_placeFor_2] at hf
    refine gw_iload_n (pc := 2) hK 2 dX2_placeFor_2 rfl rfl ?_
    refine gw_aload_n (pc := 3) hK 0 dX2_placeFor_3 rfl rfl ?_
    refine gf_X2_32 (pc := 4) hK hc0.1 dX2_placeFor_4 ?_
    refine gw_icmp_ge (tgt := 28) (pc := 7) hK dX2_placeFor_7 (by decide) hf (fun cc1 hf => ?_) (fun cc1 hf => ?_)
    ·
      refine gw_sub (L' := [(0, .ref (gy_a Y c0)), (1, .int q1), (2, .int x2)]) hK [0, 1, 2] rfl (hx _ _ hf)
    ·
      refine gw_aload_n (pc := 10) hK 0 dX2_placeFor_10 rfl rfl ?_
      refine gf_X2_14 (pc := 11) hK hc0.1 dX2_placeFor_11 ?_
      refine gw_iload_n (pc := 14) hK 2 dX2_placeFor_14 rfl rfl ?_
      refine gv_X2_36 (pc := 15) hK hc0.2.1 dX2_placeFor_15 (by decide) (Nat.le_of_ble_eq_true rfl) hf (fun r2 m3 hf => ?_)
      refine gw_iload_n (pc := 18) hK 1 dX2_placeFor_18 rfl rfl ?_
      refine gw_icmp_ge (tgt := 28) (pc := 19) hK dX2_placeFor_19 (by decide) hf (fun cc4 hf => ?_) (fun cc4 hf => ?_)
      ·
        refine gw_sub (L' := [(0, .ref (gy_a Y c0)), (1, .int q1), (2, .int x2)]) hK [0, 1, 2] rfl (hx _ _ hf)
      ·
        refine gw_iinc (v := (x2 + 1)) (L' := [(2, .int (x2 + 1)), (0, .ref (gy_a Y c0)), (1, .int q1)]) (pc := 22) hK 2 dX2_placeFor_22 rfl rfl (by decide) rfl ?_
        refine gw_goto (tgt := 2) (pc := 25) hK dX2_placeFor_25 (by decide) ?_
        refine gw_sub (L' := [(0, .ref (gy_a Y c0)), (1, .int q1), (2, .int (x2 + 1))]) hK [1, 2, 0] rfl (ih _ _ hf)
set_option maxRecDepth 100000 in
set_option maxHeartbeats 4000000 in
theorem ct_X2_placeFor (l : Launch) (Y : gx_Y) (μ : gx_M) (c : Nat) (p1 : Int32) (rr : Int32 × gx_M) (hc : gk_piece Y c) (hf : fn_X2_placeFor (gy_k Y) μ c p1 = some rr) : gx_Con l yX2_placeFor cX2_placeFor 3 (some .int) 1 21 Y [.ref (gy_a Y c), .int p1] μ rr := by
  refine gx_Con_of (L0 := [(0, .ref (gy_a Y c)), (1, .int p1)]) (by decide) (Nat.le_of_ble_eq_true rfl) rfl (fun K hK => ?_)
  unfold fn_X2_placeFor at hf
  refine gw_iconst (v := 0) (pc := 0) hK dX2_placeFor_0 (by decide) ?_
  refine gw_istore_n (L' := [(2, .int 0), (0, .ref (gy_a Y c)), (1, .int p1)]) (pc := 1) hK dX2_placeFor_1 rfl (by decide) rfl ?_
  refine gw_sub (L' := [(0, .ref (gy_a Y c)), (1, .int p1), (2, .int 0)]) hK [1, 2, 0] rfl (lt_X2_placeFor_2 hK c p1 hc _ (fun m5 y6 hf => ?_) gx_F _ _ hf)
  refine gw_iload_n (pc := 28) hK 2 dX2_placeFor_28 rfl rfl ?_
  exact gw_ret_i (pc := 29) hK dX2_placeFor_29 (Option.some.inj hf)
theorem gv_X2_40 {l : Launch} {cc : ByteArray} {nL fr lo : Nat} {ret : Option FieldType} {Y : gx_Y} {Post : Value → gx_M → Prop} {K : gx_KT} {pc : Nat} {μ : gx_M} {L : List (Nat × Value)} {st : List Value} {α : Type} {rr : α} (h : gx_K l RX2 cc nL fr lo ret Y Post K) {c : Nat} {p1 : Int32} (hc : gk_piece Y c) (d : decode cc pc = .ok (.invokevirtual 40, 3)) (hR : 1 + 1 ≤ fr ∧ 43 ≤ lo) (hst : (st.map fun v => v.category).sum ≤ 8) {k : Int32 → gx_M → Option α} (hf : gx_b (fn_X2_placeFor (gy_k Y) μ c p1) k = some rr) (kk : ∀ (r : Int32) (m : gx_M), k r m = some rr → K m (pc + 3) L (.int r :: st)) : K μ pc L (.int p1 :: .ref (gy_a Y c) :: st) := by
  obtain ⟨r, m, e, hk⟩ := gx_b_some hf
  exact gw_callV (As := [.int p1]) (q := (r, m)) h hc.1 (by decide) rfl (by refine ⟨rfl, by decide, by decide, (show (parseMethodDescriptor yX2_placeFor.desc).map (fun d => d.parameters.length) = some 1 by decide +kernel)⟩) kw_ml_RX2_40 kw_im_X2_placeFor kw_se_X2_placeFor kw_in_RX2 kw_co_X2_placeFor hR hst d (ct_X2_placeFor l Y μ c p1 (r, m) hc e) (kk r m hk)
def fn_X2_insert (kd : Nat → Nat) (μ : gx_M) (c : Nat) (p1 : Int32) (p2 : Int32) : Option (Int32 × gx_M) :=
  gx_b (fn_X2_placeFor kd μ c p1) (fun r1 m2 =>
gx_b (fn_X3_insert kd m2 (c + 1) r1 p1 (m2 c 5)) (fun _ m4 =>
gx_b (fn_X3_insert kd m4 (c + 3) r1 p2 (m4 c 5)) (fun _ m6 =>
gx_b (fn_X3_insert kd m6 (c + 5) r1 0 (m6 c 5)) (fun _ m8 =>
gx_b (fn_X3_insert kd m8 (c + 7) r1 0 (m8 c 5)) (fun _ m10 =>
gx_b (fn_X3_insert kd m10 (c + 9) r1 0 (m10 c 5)) (fun _ m12 =>
some (r1, (gx_u m12 c 5 (m12 c 5 + 1)))))))))
set_option maxRecDepth 100000 in
set_option maxHeartbeats 4000000 in
theorem ct_X2_insert (l : Launch) (Y : gx_Y) (μ : gx_M) (c : Nat) (p1 : Int32) (p2 : Int32) (rr : Int32 × gx_M) (hc : gk_piece Y c) (hf : fn_X2_insert (gy_k Y) μ c p1 p2 = some rr) : gx_Con l yX2_insert cX2_insert 4 (some .int) 2 46 Y [.ref (gy_a Y c), .int p1, .int p2] μ rr := by
  refine gx_Con_of (L0 := [(0, .ref (gy_a Y c)), (1, .int p1), (2, .int p2)]) (by decide) (Nat.le_of_ble_eq_true rfl) rfl (fun K hK => ?_)
  unfold fn_X2_insert at hf
  refine gw_aload_n (pc := 0) hK 0 dX2_insert_0 rfl rfl ?_
  refine gw_iload_n (pc := 1) hK 1 dX2_insert_1 rfl rfl ?_
  refine gv_X2_40 (pc := 2) hK hc dX2_insert_2 (by decide) (Nat.le_of_ble_eq_true rfl) hf (fun r1 m2 hf => ?_)
  refine gw_istore_n (L' := [(3, .int r1), (0, .ref (gy_a Y c)), (1, .int p1), (2, .int p2)]) (pc := 5) hK dX2_insert_5 rfl (by decide) rfl ?_
  refine gw_aload_n (pc := 6) hK 1 dX2_insert_6 rfl rfl ?_
  refine gf_X2_14 (pc := 7) hK hc.1 dX2_insert_7 ?_
  refine gw_iload_n (pc := 10) hK 0 dX2_insert_10 rfl rfl ?_
  refine gw_iload_n (pc := 11) hK 2 dX2_insert_11 rfl rfl ?_
  refine gw_aload_n (pc := 12) hK 1 dX2_insert_12 rfl rfl ?_
  refine gf_X2_32 (pc := 13) hK hc.1 dX2_insert_13 ?_
  refine gv_X2_43 (pc := 16) hK hc.2.1 dX2_insert_16 (by decide) (Nat.le_of_ble_eq_true rfl) hf (fun _ m4 hf => ?_)
  refine gw_aload_n (pc := 19) hK 1 dX2_insert_19 rfl rfl ?_
  refine gf_X2_20 (pc := 20) hK hc.1 dX2_insert_20 ?_
  refine gw_iload_n (pc := 23) hK 0 dX2_insert_23 rfl rfl ?_
  refine gw_iload_n (pc := 24) hK 3 dX2_insert_24 rfl rfl ?_
  refine gw_aload_n (pc := 25) hK 1 dX2_insert_25 rfl rfl ?_
  refine gf_X2_32 (pc := 26) hK hc.1 dX2_insert_26 ?_
  refine gv_X2_43 (pc := 29) hK hc.2.2.1 dX2_insert_29 (by decide) (Nat.le_of_ble_eq_true rfl) hf (fun _ m6 hf => ?_)
  refine gw_aload_n (pc := 32) hK 1 dX2_insert_32 rfl rfl ?_
  refine gf_X2_23 (pc := 33) hK hc.1 dX2_insert_33 ?_
  refine gw_iload_n (pc := 36) hK 0 dX2_insert_36 rfl rfl ?_
  refine gw_iconst (v := 0) (pc := 37) hK dX2_insert_37 (by decide) ?_
  refine gw_aload_n (pc := 38) hK 1 dX2_insert_38 rfl rfl ?_
  refine gf_X2_32 (pc := 39) hK hc.1 dX2_insert_39 ?_
  refine gv_X2_43 (pc := 42) hK hc.2.2.2.1 dX2_insert_42 (by decide) (Nat.le_of_ble_eq_true rfl) hf (fun _ m8 hf => ?_)
  refine gw_aload_n (pc := 45) hK 1 dX2_insert_45 rfl rfl ?_
  refine gf_X2_26 (pc := 46) hK hc.1 dX2_insert_46 ?_
  refine gw_iload_n (pc := 49) hK 0 dX2_insert_49 rfl rfl ?_
  refine gw_iconst (v := 0) (pc := 50) hK dX2_insert_50 (by decide) ?_
  refine gw_aload_n (pc := 51) hK 1 dX2_insert_51 rfl rfl ?_
  refine gf_X2_32 (pc := 52) hK hc.1 dX2_insert_52 ?_
  refine gv_X2_43 (pc := 55) hK hc.2.2.2.2.1 dX2_insert_55 (by decide) (Nat.le_of_ble_eq_true rfl) hf (fun _ m10 hf => ?_)
  refine gw_aload_n (pc := 58) hK 1 dX2_insert_58 rfl rfl ?_
  refine gf_X2_29 (pc := 59) hK hc.1 dX2_insert_59 ?_
  refine gw_iload_n (pc := 62) hK 0 dX2_insert_62 rfl rfl ?_
  refine gw_iconst (v := 0) (pc := 63) hK dX2_insert_63 (by decide) ?_
  refine gw_aload_n (pc := 64) hK 1 dX2_insert_64 rfl rfl ?_
  refine gf_X2_32 (pc := 65) hK hc.1 dX2_insert_65 ?_
  refine gv_X2_43 (pc := 68) hK hc.2.2.2.2.2 dX2_insert_68 (by decide) (Nat.le_of_ble_eq_true rfl) hf (fun _ m12 hf => ?_)
  refine gw_aload_n (pc := 71) hK 1 dX2_insert_71 rfl rfl ?_
  refine gw_dup (pc := 72) hK dX2_insert_72 rfl ?_
  refine gf_X2_32 (pc := 73) hK hc.1 dX2_insert_73 ?_
  refine gw_iconst (v := 1) (pc := 76) hK dX2_insert_76 (by decide) ?_
  refine gw_iadd (pc := 77) hK dX2_insert_77 ?_
  refine gp_X2_32 (pc := 78) hK hc.1 dX2_insert_78 ?_
  refine gw_iload_n (pc := 81) hK 0 dX2_insert_81 rfl rfl ?_
  exact gw_ret_i (pc := 82) hK dX2_insert_82 (Option.some.inj hf)
theorem gv_X5_50 {l : Launch} {cc : ByteArray} {nL fr lo : Nat} {ret : Option FieldType} {Y : gx_Y} {Post : Value → gx_M → Prop} {K : gx_KT} {pc : Nat} {μ : gx_M} {L : List (Nat × Value)} {st : List Value} {α : Type} {rr : α} (h : gx_K l RX5 cc nL fr lo ret Y Post K) {c : Nat} {p1 : Int32} {p2 : Int32} (hc : gk_piece Y c) (d : decode cc pc = .ok (.invokevirtual 50, 3)) (hR : 2 + 1 ≤ fr ∧ 69 ≤ lo) (hst : (st.map fun v => v.category).sum ≤ 8) {k : Int32 → gx_M → Option α} (hf : gx_b (fn_X2_insert (gy_k Y) μ c p1 p2) k = some rr) (kk : ∀ (r : Int32) (m : gx_M), k r m = some rr → K m (pc + 3) L (.int r :: st)) : K μ pc L (.int p2 :: .int p1 :: .ref (gy_a Y c) :: st) := by
  obtain ⟨r, m, e, hk⟩ := gx_b_some hf
  exact gw_callV (As := [.int p1, .int p2]) (q := (r, m)) h hc.1 (by decide) rfl (by refine ⟨rfl, by decide, by decide, (show (parseMethodDescriptor yX2_insert.desc).map (fun d => d.parameters.length) = some 2 by decide +kernel)⟩) kw_ml_RX5_50 kw_im_X2_insert kw_se_X2_insert kw_in_RX2 kw_co_X2_insert hR hst d (ct_X2_insert l Y μ c p1 p2 (r, m) hc e) (kk r m hk)
theorem gv_X6_141 {l : Launch} {cc : ByteArray} {nL fr lo : Nat} {ret : Option FieldType} {Y : gx_Y} {Post : Value → gx_M → Prop} {K : gx_KT} {pc : Nat} {μ : gx_M} {L : List (Nat × Value)} {st : List Value} {α : Type} {rr : α} (h : gx_K l RX6 cc nL fr lo ret Y Post K) {c : Nat} {p1 : Int32} {p2 : Int32} (hc : gk_piece Y c) (d : decode cc pc = .ok (.invokevirtual 141, 3)) (hR : 2 + 1 ≤ fr ∧ 69 ≤ lo) (hst : (st.map fun v => v.category).sum ≤ 8) {k : Int32 → gx_M → Option α} (hf : gx_b (fn_X2_insert (gy_k Y) μ c p1 p2) k = some rr) (kk : ∀ (r : Int32) (m : gx_M), k r m = some rr → K m (pc + 3) L (.int r :: st)) : K μ pc L (.int p2 :: .int p1 :: .ref (gy_a Y c) :: st) := by
  obtain ⟨r, m, e, hk⟩ := gx_b_some hf
  exact gw_callV (As := [.int p1, .int p2]) (q := (r, m)) h hc.1 (by decide) rfl (by refine ⟨rfl, by decide, by decide, (show (parseMethodDescriptor yX2_insert.desc).map (fun d => d.parameters.length) = some 2 by decide +kernel)⟩) kw_ml_RX6_141 kw_im_X2_insert kw_se_X2_insert kw_in_RX2 kw_co_X2_insert hR hst d (ct_X2_insert l Y μ c p1 p2 (r, m) hc e) (kk r m hk)
def fn_X2_hasNoteAt (kd : Nat → Nat) (μ : gx_M) (c : Nat) (p1 : Int32) : Option (Int32 × gx_M) :=
  gx_b (fn_X2_placeFor kd μ c p1) (fun r1 m2 =>
(if m2 c 5 ≤ r1 then
some (0, m2)
else
gx_b (fn_X3_get kd m2 (c + 1) r1) (fun r4 m5 =>
(if r4 = p1 then
some (1, m5)
else
some (0, m5)))))
set_option maxRecDepth 100000 in
set_option maxHeartbeats 4000000 in
theorem ct_X2_hasNoteAt (l : Launch) (Y : gx_Y) (μ : gx_M) (c : Nat) (p1 : Int32) (rr : Int32 × gx_M) (hc : gk_piece Y c) (hf : fn_X2_hasNoteAt (gy_k Y) μ c p1 = some rr) : gx_Con l yX2_hasNoteAt cX2_hasNoteAt 3 (some .boolean) 2 43 Y [.ref (gy_a Y c), .int p1] μ rr := by
  refine gx_Con_of (L0 := [(0, .ref (gy_a Y c)), (1, .int p1)]) (by decide) (Nat.le_of_ble_eq_true rfl) rfl (fun K hK => ?_)
  unfold fn_X2_hasNoteAt at hf
  refine gw_aload_n (pc := 0) hK 0 dX2_hasNoteAt_0 rfl rfl ?_
  refine gw_iload_n (pc := 1) hK 1 dX2_hasNoteAt_1 rfl rfl ?_
  refine gv_X2_40 (pc := 2) hK hc dX2_hasNoteAt_2 (by decide) (Nat.le_of_ble_eq_true rfl) hf (fun r1 m2 hf => ?_)
  refine gw_istore_n (L' := [(2, .int r1), (0, .ref (gy_a Y c)), (1, .int p1)]) (pc := 5) hK dX2_hasNoteAt_5 rfl (by decide) rfl ?_
  refine gw_iload_n (pc := 6) hK 0 dX2_hasNoteAt_6 rfl rfl ?_
  refine gw_aload_n (pc := 7) hK 1 dX2_hasNoteAt_7 rfl rfl ?_
  refine gf_X2_32 (pc := 8) hK hc.1 dX2_hasNoteAt_8 ?_
  refine gw_icmp_ge (tgt := 30) (pc := 11) hK dX2_hasNoteAt_11 (by decide) hf (fun cc3 hf => ?_) (fun cc3 hf => ?_)
  ·
    refine gw_iconst (v := 0) (pc := 30) hK dX2_hasNoteAt_30 (by decide) ?_
    exact gw_ret_z (pc := 31) hK dX2_hasNoteAt_31 rfl (Option.some.inj hf)
  ·
    refine gw_aload_n (pc := 14) hK 1 dX2_hasNoteAt_14 rfl rfl ?_
    refine gf_X2_14 (pc := 15) hK hc.1 dX2_hasNoteAt_15 ?_
    refine gw_iload_n (pc := 18) hK 0 dX2_hasNoteAt_18 rfl rfl ?_
    refine gv_X2_36 (pc := 19) hK hc.2.1 dX2_hasNoteAt_19 (by decide) (Nat.le_of_ble_eq_true rfl) hf (fun r4 m5 hf => ?_)
    refine gw_iload_n (pc := 22) hK 2 dX2_hasNoteAt_22 rfl rfl ?_
    refine gw_icmp_ne (tgt := 30) (pc := 23) hK dX2_hasNoteAt_23 (by decide) hf (fun cc6 hf => ?_) (fun cc6 hf => ?_)
    ·
      refine gw_iconst (v := 0) (pc := 30) hK dX2_hasNoteAt_30 (by decide) ?_
      exact gw_ret_z (pc := 31) hK dX2_hasNoteAt_31 rfl (Option.some.inj hf)
    ·
      refine gw_iconst (v := 1) (pc := 26) hK dX2_hasNoteAt_26 (by decide) ?_
      refine gw_goto (tgt := 31) (pc := 27) hK dX2_hasNoteAt_27 (by decide) ?_
      exact gw_ret_z (pc := 31) hK dX2_hasNoteAt_31 rfl (Option.some.inj hf)
theorem gv_X5_60 {l : Launch} {cc : ByteArray} {nL fr lo : Nat} {ret : Option FieldType} {Y : gx_Y} {Post : Value → gx_M → Prop} {K : gx_KT} {pc : Nat} {μ : gx_M} {L : List (Nat × Value)} {st : List Value} {α : Type} {rr : α} (h : gx_K l RX5 cc nL fr lo ret Y Post K) {c : Nat} {p1 : Int32} (hc : gk_piece Y c) (d : decode cc pc = .ok (.invokevirtual 60, 3)) (hR : 2 + 1 ≤ fr ∧ 65 ≤ lo) (hst : (st.map fun v => v.category).sum ≤ 8) {k : Int32 → gx_M → Option α} (hf : gx_b (fn_X2_hasNoteAt (gy_k Y) μ c p1) k = some rr) (kk : ∀ (r : Int32) (m : gx_M), k r m = some rr → K m (pc + 3) L (.int r :: st)) : K μ pc L (.int p1 :: .ref (gy_a Y c) :: st) := by
  obtain ⟨r, m, e, hk⟩ := gx_b_some hf
  exact gw_callV (As := [.int p1]) (q := (r, m)) h hc.1 (by decide) rfl (by refine ⟨rfl, by decide, by decide, (show (parseMethodDescriptor yX2_hasNoteAt.desc).map (fun d => d.parameters.length) = some 1 by decide +kernel)⟩) kw_ml_RX5_60 kw_im_X2_hasNoteAt kw_se_X2_hasNoteAt kw_in_RX2 kw_co_X2_hasNoteAt hR hst d (ct_X2_hasNoteAt l Y μ c p1 (r, m) hc e) (kk r m hk)
theorem gv_X6_134 {l : Launch} {cc : ByteArray} {nL fr lo : Nat} {ret : Option FieldType} {Y : gx_Y} {Post : Value → gx_M → Prop} {K : gx_KT} {pc : Nat} {μ : gx_M} {L : List (Nat × Value)} {st : List Value} {α : Type} {rr : α} (h : gx_K l RX6 cc nL fr lo ret Y Post K) {c : Nat} {p1 : Int32} (hc : gk_piece Y c) (d : decode cc pc = .ok (.invokevirtual 134, 3)) (hR : 2 + 1 ≤ fr ∧ 65 ≤ lo) (hst : (st.map fun v => v.category).sum ≤ 8) {k : Int32 → gx_M → Option α} (hf : gx_b (fn_X2_hasNoteAt (gy_k Y) μ c p1) k = some rr) (kk : ∀ (r : Int32) (m : gx_M), k r m = some rr → K m (pc + 3) L (.int r :: st)) : K μ pc L (.int p1 :: .ref (gy_a Y c) :: st) := by
  obtain ⟨r, m, e, hk⟩ := gx_b_some hf
  exact gw_callV (As := [.int p1]) (q := (r, m)) h hc.1 (by decide) rfl (by refine ⟨rfl, by decide, by decide, (show (parseMethodDescriptor yX2_hasNoteAt.desc).map (fun d => d.parameters.length) = some 1 by decide +kernel)⟩) kw_ml_RX6_134 kw_im_X2_hasNoteAt kw_se_X2_hasNoteAt kw_in_RX2 kw_co_X2_hasNoteAt hR hst d (ct_X2_hasNoteAt l Y μ c p1 (r, m) hc e) (kk r m hk)
def fn_X2_isFull (kd : Nat → Nat) (μ : gx_M) (c : Nat) : Option (Int32 × gx_M) :=
  (if μ c 5 < 40 then
some (0, μ)
else
some (1, μ))
set_option maxRecDepth 100000 in
set_option maxHeartbeats 4000000 in
theorem ct_X2_isFull (l : Launch) (Y : gx_Y) (μ : gx_M) (c : Nat) (rr : Int32 × gx_M) (hc : gk_piece Y c) (hf : fn_X2_isFull (gy_k Y) μ c = some rr) : gx_Con l yX2_isFull cX2_isFull 1 (some .boolean) 0 0 Y [.ref (gy_a Y c)] μ rr := by
  refine gx_Con_of (L0 := [(0, .ref (gy_a Y c))]) (by decide) (Nat.le_of_ble_eq_true rfl) rfl (fun K hK => ?_)
  unfold fn_X2_isFull at hf
  refine gw_aload_n (pc := 0) hK 0 dX2_isFull_0 rfl rfl ?_
  refine gf_X2_32 (pc := 1) hK hc.1 dX2_isFull_1 ?_
  refine gw_bipush (v := 40) (pc := 4) hK dX2_isFull_4 (by decide) ?_
  refine gw_icmp_lt (tgt := 13) (pc := 6) hK dX2_isFull_6 (by decide) hf (fun cc1 hf => ?_) (fun cc1 hf => ?_)
  ·
    refine gw_iconst (v := 0) (pc := 13) hK dX2_isFull_13 (by decide) ?_
    exact gw_ret_z (pc := 14) hK dX2_isFull_14 rfl (Option.some.inj hf)
  ·
    refine gw_iconst (v := 1) (pc := 9) hK dX2_isFull_9 (by decide) ?_
    refine gw_goto (tgt := 14) (pc := 10) hK dX2_isFull_10 (by decide) ?_
    exact gw_ret_z (pc := 14) hK dX2_isFull_14 rfl (Option.some.inj hf)
theorem gv_X5_64 {l : Launch} {cc : ByteArray} {nL fr lo : Nat} {ret : Option FieldType} {Y : gx_Y} {Post : Value → gx_M → Prop} {K : gx_KT} {pc : Nat} {μ : gx_M} {L : List (Nat × Value)} {st : List Value} {α : Type} {rr : α} (h : gx_K l RX5 cc nL fr lo ret Y Post K) {c : Nat} (hc : gk_piece Y c) (d : decode cc pc = .ok (.invokevirtual 64, 3)) (hR : 0 + 1 ≤ fr ∧ 20 ≤ lo) (hst : (st.map fun v => v.category).sum ≤ 8) {k : Int32 → gx_M → Option α} (hf : gx_b (fn_X2_isFull (gy_k Y) μ c) k = some rr) (kk : ∀ (r : Int32) (m : gx_M), k r m = some rr → K m (pc + 3) L (.int r :: st)) : K μ pc L (.ref (gy_a Y c) :: st) := by
  obtain ⟨r, m, e, hk⟩ := gx_b_some hf
  exact gw_callV (As := []) (q := (r, m)) h hc.1 (by decide) rfl (by refine ⟨rfl, by decide, by decide, (show (parseMethodDescriptor yX2_isFull.desc).map (fun d => d.parameters.length) = some 0 by decide +kernel)⟩) kw_ml_RX5_64 kw_im_X2_isFull kw_se_X2_isFull kw_in_RX2 kw_co_X2_isFull hR hst d (ct_X2_isFull l Y μ c (r, m) hc e) (kk r m hk)
theorem gv_X6_137 {l : Launch} {cc : ByteArray} {nL fr lo : Nat} {ret : Option FieldType} {Y : gx_Y} {Post : Value → gx_M → Prop} {K : gx_KT} {pc : Nat} {μ : gx_M} {L : List (Nat × Value)} {st : List Value} {α : Type} {rr : α} (h : gx_K l RX6 cc nL fr lo ret Y Post K) {c : Nat} (hc : gk_piece Y c) (d : decode cc pc = .ok (.invokevirtual 137, 3)) (hR : 0 + 1 ≤ fr ∧ 20 ≤ lo) (hst : (st.map fun v => v.category).sum ≤ 8) {k : Int32 → gx_M → Option α} (hf : gx_b (fn_X2_isFull (gy_k Y) μ c) k = some rr) (kk : ∀ (r : Int32) (m : gx_M), k r m = some rr → K m (pc + 3) L (.int r :: st)) : K μ pc L (.ref (gy_a Y c) :: st) := by
  obtain ⟨r, m, e, hk⟩ := gx_b_some hf
  exact gw_callV (As := []) (q := (r, m)) h hc.1 (by decide) rfl (by refine ⟨rfl, by decide, by decide, (show (parseMethodDescriptor yX2_isFull.desc).map (fun d => d.parameters.length) = some 0 by decide +kernel)⟩) kw_ml_RX6_137 kw_im_X2_isFull kw_se_X2_isFull kw_in_RX2 kw_co_X2_isFull hR hst d (ct_X2_isFull l Y μ c (r, m) hc e) (kk r m hk)
def lf_X2_notesWith_4 (kd : Nat → Nat) (c0 : Nat) (q1 : Int32) (k : gx_M → Int32 → Int32 → Option (Int32 × gx_M)) : Nat → gx_M → Int32 → Int32 → Option (Int32 × gx_M)
  | 0, _, _, _ => none
  | n + 1, μ, x2, x3 => (if μ c0 5 ≤ x3 then
k μ x2 x3
else
gx_b (fn_X3_get kd μ (c0 + 5) x3) (fun r2 m3 =>
(if r2 = q1 then
lf_X2_notesWith_4 kd c0 q1 k n m3 (x2 + 1) (x3 + 1)
else
lf_X2_notesWith_4 kd c0 q1 k n m3 x2 (x3 + 1))))
def fn_X2_notesWith (kd : Nat → Nat) (μ : gx_M) (c : Nat) (p1 : Int32) : Option (Int32 × gx_M) :=
  lf_X2_notesWith_4 kd c p1 (fun m5 y6 y7 =>
some (y6, m5)) gx_F μ 0 0
set_option maxRecDepth 100000 in
set_option maxHeartbeats 4000000 in
theorem lt_X2_notesWith_4 {l : Launch} {Y : gx_Y} {rr : Int32 × gx_M} {K : gx_KT} (hK : gx_K l RX2 cX2_notesWith 4 1 21 (some .int) Y (gx_P rr) K) (c0 : Nat) (q1 : Int32) (hc0 : gk_piece Y c0) (k : gx_M → Int32 → Int32 → Option (Int32 × gx_M)) (hx : ∀ (μ : gx_M) (x2 : Int32) (x3 : Int32), k μ x2 x3 = some rr → K μ 33 [(0, .ref (gy_a Y c0)), (1, .int q1), (2, .int x2), (3, .int x3)] []) :
    ∀ (n : Nat) (μ : gx_M) (x2 : Int32) (x3 : Int32), lf_X2_notesWith_4 (gy_k Y) c0 q1 k n μ x2 x3 = some rr → K μ 4 [(0, .ref (gy_a Y c0)), (1, .int q1), (2, .int x2), (3, .int x3)] [] := by
  intro n
  induction n with
  | zero =>
    intro μ x2 x3 hf
    exact absurd hf (by simp [lf_X2_notesWith_4])
  | succ n ih =>
    intro μ x2 x3 hf
    rw [lf_X2_notesWith_4] at hf
    refine gw_iload_n (pc := 4) hK 3 dX2_notesWith_4 rfl rfl ?_
    refine gw_aload_n (pc := 5) hK 0 dX2_notesWith_5 rfl rfl ?_
    refine gf_X2_32 (pc := 6) hK hc0.1 dX2_notesWith_6 ?_
    refine gw_icmp_ge (tgt := 33) (pc := 9) hK dX2_notesWith_9 (by decide) hf (fun cc1 hf => ?_) (fun cc1 hf => ?_)
    ·
      refine gw_sub (L' := [(0, .ref (gy_a Y c0)), (1, .int q1), (2, .int x2), (3, .int x3)]) hK [0, 1, 2, 3] rfl (hx _ _ _ hf)
    ·
      refine gw_aload_n (pc := 12) hK 0 dX2_notesWith_12 rfl rfl ?_
      refine gf_X2_23 (pc := 13) hK hc0.1 dX2_notesWith_13 ?_
      refine gw_iload_n (pc := 16) hK 3 dX2_notesWith_16 rfl rfl ?_
      refine gv_X2_36 (pc := 17) hK hc0.2.2.2.1 dX2_notesWith_17 (by decide) (Nat.le_of_ble_eq_true rfl) hf (fun r2 m3 hf => ?_)
      refine gw_iload_n (pc := 20) hK 1 dX2_notesWith_20 rfl rfl ?_
      refine gw_icmp_ne (tgt := 27) (pc := 21) hK dX2_notesWith_21 (by decide) hf (fun cc4 hf => ?_) (fun cc4 hf => ?_)
      ·
        refine gw_iinc (v := (x3 + 1)) (L' := [(3, .int (x3 + 1)), (0, .ref (gy_a Y c0)), (1, .int q1), (2, .int x2)]) (pc := 27) hK 3 dX2_notesWith_27 rfl rfl (by decide) rfl ?_
        refine gw_goto (tgt := 4) (pc := 30) hK dX2_notesWith_30 (by decide) ?_
        refine gw_sub (L' := [(0, .ref (gy_a Y c0)), (1, .int q1), (2, .int x2), (3, .int (x3 + 1))]) hK [1, 2, 3, 0] rfl (ih _ _ _ hf)
      ·
        refine gw_iinc (v := (x2 + 1)) (L' := [(2, .int (x2 + 1)), (0, .ref (gy_a Y c0)), (1, .int q1), (3, .int x3)]) (pc := 24) hK 2 dX2_notesWith_24 rfl rfl (by decide) rfl ?_
        refine gw_iinc (v := (x3 + 1)) (L' := [(3, .int (x3 + 1)), (2, .int (x2 + 1)), (0, .ref (gy_a Y c0)), (1, .int q1)]) (pc := 27) hK 3 dX2_notesWith_27 rfl rfl (by decide) rfl ?_
        refine gw_goto (tgt := 4) (pc := 30) hK dX2_notesWith_30 (by decide) ?_
        refine gw_sub (L' := [(0, .ref (gy_a Y c0)), (1, .int q1), (2, .int (x2 + 1)), (3, .int (x3 + 1))]) hK [2, 3, 1, 0] rfl (ih _ _ _ hf)
set_option maxRecDepth 100000 in
set_option maxHeartbeats 4000000 in
theorem ct_X2_notesWith (l : Launch) (Y : gx_Y) (μ : gx_M) (c : Nat) (p1 : Int32) (rr : Int32 × gx_M) (hc : gk_piece Y c) (hf : fn_X2_notesWith (gy_k Y) μ c p1 = some rr) : gx_Con l yX2_notesWith cX2_notesWith 4 (some .int) 1 21 Y [.ref (gy_a Y c), .int p1] μ rr := by
  refine gx_Con_of (L0 := [(0, .ref (gy_a Y c)), (1, .int p1)]) (by decide) (Nat.le_of_ble_eq_true rfl) rfl (fun K hK => ?_)
  unfold fn_X2_notesWith at hf
  refine gw_iconst (v := 0) (pc := 0) hK dX2_notesWith_0 (by decide) ?_
  refine gw_istore_n (L' := [(2, .int 0), (0, .ref (gy_a Y c)), (1, .int p1)]) (pc := 1) hK dX2_notesWith_1 rfl (by decide) rfl ?_
  refine gw_iconst (v := 0) (pc := 2) hK dX2_notesWith_2 (by decide) ?_
  refine gw_istore_n (L' := [(3, .int 0), (2, .int 0), (0, .ref (gy_a Y c)), (1, .int p1)]) (pc := 3) hK dX2_notesWith_3 rfl (by decide) rfl ?_
  refine gw_sub (L' := [(0, .ref (gy_a Y c)), (1, .int p1), (2, .int 0), (3, .int 0)]) hK [2, 3, 1, 0] rfl (lt_X2_notesWith_4 hK c p1 hc _ (fun m5 y6 y7 hf => ?_) gx_F _ _ _ hf)
  refine gw_iload_n (pc := 33) hK 2 dX2_notesWith_33 rfl rfl ?_
  exact gw_ret_i (pc := 34) hK dX2_notesWith_34 (Option.some.inj hf)
theorem gv_X2_69 {l : Launch} {cc : ByteArray} {nL fr lo : Nat} {ret : Option FieldType} {Y : gx_Y} {Post : Value → gx_M → Prop} {K : gx_KT} {pc : Nat} {μ : gx_M} {L : List (Nat × Value)} {st : List Value} {α : Type} {rr : α} (h : gx_K l RX2 cc nL fr lo ret Y Post K) {c : Nat} {p1 : Int32} (hc : gk_piece Y c) (d : decode cc pc = .ok (.invokevirtual 69, 3)) (hR : 1 + 1 ≤ fr ∧ 44 ≤ lo) (hst : (st.map fun v => v.category).sum ≤ 8) {k : Int32 → gx_M → Option α} (hf : gx_b (fn_X2_notesWith (gy_k Y) μ c p1) k = some rr) (kk : ∀ (r : Int32) (m : gx_M), k r m = some rr → K m (pc + 3) L (.int r :: st)) : K μ pc L (.int p1 :: .ref (gy_a Y c) :: st) := by
  obtain ⟨r, m, e, hk⟩ := gx_b_some hf
  exact gw_callV (As := [.int p1]) (q := (r, m)) h hc.1 (by decide) rfl (by refine ⟨rfl, by decide, by decide, (show (parseMethodDescriptor yX2_notesWith.desc).map (fun d => d.parameters.length) = some 1 by decide +kernel)⟩) kw_ml_RX2_69 kw_im_X2_notesWith kw_se_X2_notesWith kw_in_RX2 kw_co_X2_notesWith hR hst d (ct_X2_notesWith l Y μ c p1 (r, m) hc e) (kk r m hk)
theorem gv_X6_124 {l : Launch} {cc : ByteArray} {nL fr lo : Nat} {ret : Option FieldType} {Y : gx_Y} {Post : Value → gx_M → Prop} {K : gx_KT} {pc : Nat} {μ : gx_M} {L : List (Nat × Value)} {st : List Value} {α : Type} {rr : α} (h : gx_K l RX6 cc nL fr lo ret Y Post K) {c : Nat} {p1 : Int32} (hc : gk_piece Y c) (d : decode cc pc = .ok (.invokevirtual 124, 3)) (hR : 1 + 1 ≤ fr ∧ 44 ≤ lo) (hst : (st.map fun v => v.category).sum ≤ 8) {k : Int32 → gx_M → Option α} (hf : gx_b (fn_X2_notesWith (gy_k Y) μ c p1) k = some rr) (kk : ∀ (r : Int32) (m : gx_M), k r m = some rr → K m (pc + 3) L (.int r :: st)) : K μ pc L (.int p1 :: .ref (gy_a Y c) :: st) := by
  obtain ⟨r, m, e, hk⟩ := gx_b_some hf
  exact gw_callV (As := [.int p1]) (q := (r, m)) h hc.1 (by decide) rfl (by refine ⟨rfl, by decide, by decide, (show (parseMethodDescriptor yX2_notesWith.desc).map (fun d => d.parameters.length) = some 1 by decide +kernel)⟩) kw_ml_RX6_124 kw_im_X2_notesWith kw_se_X2_notesWith kw_in_RX2 kw_co_X2_notesWith hR hst d (ct_X2_notesWith l Y μ c p1 (r, m) hc e) (kk r m hk)
def fn_X2_beginsPhrase (kd : Nat → Nat) (μ : gx_M) (c : Nat) (p1 : Int32) (p2 : Int32) : Option (Int32 × gx_M) :=
  (if p1 = 0 then
some (1, μ)
else
gx_b (fn_X3_get kd μ (c + 1) p1) (fun r2 m3 =>
gx_b (fn_X3_get kd m3 (c + 1) (p1 - 1)) (fun r4 m5 =>
(if (r2 - r4) < p2 then
some (0, m5)
else
some (1, m5)))))
set_option maxRecDepth 100000 in
set_option maxHeartbeats 4000000 in
theorem ct_X2_beginsPhrase (l : Launch) (Y : gx_Y) (μ : gx_M) (c : Nat) (p1 : Int32) (p2 : Int32) (rr : Int32 × gx_M) (hc : gk_piece Y c) (hf : fn_X2_beginsPhrase (gy_k Y) μ c p1 p2 = some rr) : gx_Con l yX2_beginsPhrase cX2_beginsPhrase 3 (some .boolean) 1 21 Y [.ref (gy_a Y c), .int p1, .int p2] μ rr := by
  refine gx_Con_of (L0 := [(0, .ref (gy_a Y c)), (1, .int p1), (2, .int p2)]) (by decide) (Nat.le_of_ble_eq_true rfl) rfl (fun K hK => ?_)
  unfold fn_X2_beginsPhrase at hf
  refine gw_iload_n (pc := 0) hK 1 dX2_beginsPhrase_0 rfl rfl ?_
  refine gw_if_eq (tgt := 27) (pc := 1) hK dX2_beginsPhrase_1 (by decide) hf (fun cc1 hf => ?_) (fun cc1 hf => ?_)
  ·
    refine gw_iconst (v := 1) (pc := 27) hK dX2_beginsPhrase_27 (by decide) ?_
    refine gw_goto (tgt := 32) (pc := 28) hK dX2_beginsPhrase_28 (by decide) ?_
    exact gw_ret_z (pc := 32) hK dX2_beginsPhrase_32 rfl (Option.some.inj hf)
  ·
    refine gw_aload_n (pc := 4) hK 0 dX2_beginsPhrase_4 rfl rfl ?_
    refine gf_X2_14 (pc := 5) hK hc.1 dX2_beginsPhrase_5 ?_
    refine gw_iload_n (pc := 8) hK 1 dX2_beginsPhrase_8 rfl rfl ?_
    refine gv_X2_36 (pc := 9) hK hc.2.1 dX2_beginsPhrase_9 (by decide) (Nat.le_of_ble_eq_true rfl) hf (fun r2 m3 hf => ?_)
    refine gw_aload_n (pc := 12) hK 0 dX2_beginsPhrase_12 rfl rfl ?_
    refine gf_X2_14 (pc := 13) hK hc.1 dX2_beginsPhrase_13 ?_
    refine gw_iload_n (pc := 16) hK 1 dX2_beginsPhrase_16 rfl rfl ?_
    refine gw_iconst (v := 1) (pc := 17) hK dX2_beginsPhrase_17 (by decide) ?_
    refine gw_isub (pc := 18) hK dX2_beginsPhrase_18 ?_
    refine gv_X2_36 (pc := 19) hK hc.2.1 dX2_beginsPhrase_19 (by decide) (Nat.le_of_ble_eq_true rfl) hf (fun r4 m5 hf => ?_)
    refine gw_isub (pc := 22) hK dX2_beginsPhrase_22 ?_
    refine gw_iload_n (pc := 23) hK 2 dX2_beginsPhrase_23 rfl rfl ?_
    refine gw_icmp_lt (tgt := 31) (pc := 24) hK dX2_beginsPhrase_24 (by decide) hf (fun cc6 hf => ?_) (fun cc6 hf => ?_)
    ·
      refine gw_iconst (v := 0) (pc := 31) hK dX2_beginsPhrase_31 (by decide) ?_
      exact gw_ret_z (pc := 32) hK dX2_beginsPhrase_32 rfl (Option.some.inj hf)
    ·
      refine gw_iconst (v := 1) (pc := 27) hK dX2_beginsPhrase_27 (by decide) ?_
      refine gw_goto (tgt := 32) (pc := 28) hK dX2_beginsPhrase_28 (by decide) ?_
      exact gw_ret_z (pc := 32) hK dX2_beginsPhrase_32 rfl (Option.some.inj hf)
theorem gv_X2_58 {l : Launch} {cc : ByteArray} {nL fr lo : Nat} {ret : Option FieldType} {Y : gx_Y} {Post : Value → gx_M → Prop} {K : gx_KT} {pc : Nat} {μ : gx_M} {L : List (Nat × Value)} {st : List Value} {α : Type} {rr : α} (h : gx_K l RX2 cc nL fr lo ret Y Post K) {c : Nat} {p1 : Int32} {p2 : Int32} (hc : gk_piece Y c) (d : decode cc pc = .ok (.invokevirtual 58, 3)) (hR : 1 + 1 ≤ fr ∧ 43 ≤ lo) (hst : (st.map fun v => v.category).sum ≤ 8) {k : Int32 → gx_M → Option α} (hf : gx_b (fn_X2_beginsPhrase (gy_k Y) μ c p1 p2) k = some rr) (kk : ∀ (r : Int32) (m : gx_M), k r m = some rr → K m (pc + 3) L (.int r :: st)) : K μ pc L (.int p2 :: .int p1 :: .ref (gy_a Y c) :: st) := by
  obtain ⟨r, m, e, hk⟩ := gx_b_some hf
  exact gw_callV (As := [.int p1, .int p2]) (q := (r, m)) h hc.1 (by decide) rfl (by refine ⟨rfl, by decide, by decide, (show (parseMethodDescriptor yX2_beginsPhrase.desc).map (fun d => d.parameters.length) = some 2 by decide +kernel)⟩) kw_ml_RX2_58 kw_im_X2_beginsPhrase kw_se_X2_beginsPhrase kw_in_RX2 kw_co_X2_beginsPhrase hR hst d (ct_X2_beginsPhrase l Y μ c p1 p2 (r, m) hc e) (kk r m hk)
theorem gv_X4_65 {l : Launch} {cc : ByteArray} {nL fr lo : Nat} {ret : Option FieldType} {Y : gx_Y} {Post : Value → gx_M → Prop} {K : gx_KT} {pc : Nat} {μ : gx_M} {L : List (Nat × Value)} {st : List Value} {α : Type} {rr : α} (h : gx_K l RX4 cc nL fr lo ret Y Post K) {c : Nat} {p1 : Int32} {p2 : Int32} (hc : gk_piece Y c) (d : decode cc pc = .ok (.invokevirtual 65, 3)) (hR : 1 + 1 ≤ fr ∧ 43 ≤ lo) (hst : (st.map fun v => v.category).sum ≤ 8) {k : Int32 → gx_M → Option α} (hf : gx_b (fn_X2_beginsPhrase (gy_k Y) μ c p1 p2) k = some rr) (kk : ∀ (r : Int32) (m : gx_M), k r m = some rr → K m (pc + 3) L (.int r :: st)) : K μ pc L (.int p2 :: .int p1 :: .ref (gy_a Y c) :: st) := by
  obtain ⟨r, m, e, hk⟩ := gx_b_some hf
  exact gw_callV (As := [.int p1, .int p2]) (q := (r, m)) h hc.1 (by decide) rfl (by refine ⟨rfl, by decide, by decide, (show (parseMethodDescriptor yX2_beginsPhrase.desc).map (fun d => d.parameters.length) = some 2 by decide +kernel)⟩) kw_ml_RX4_65 kw_im_X2_beginsPhrase kw_se_X2_beginsPhrase kw_in_RX2 kw_co_X2_beginsPhrase hR hst d (ct_X2_beginsPhrase l Y μ c p1 p2 (r, m) hc e) (kk r m hk)
def lf_X2_phraseOf_5 (kd : Nat → Nat) (c0 : Nat) (q1 : Int32) (q2 : Int32) (k : gx_M → Int32 → Int32 → Option (Int32 × gx_M)) : Nat → gx_M → Int32 → Int32 → Option (Int32 × gx_M)
  | 0, _, _, _ => none
  | n + 1, μ, x3, x4 => (if q1 < x4 then
k μ x3 x4
else
gx_b (fn_X2_beginsPhrase kd μ c0 x4 q2) (fun r2 m3 =>
(if r2 = 0 then
lf_X2_phraseOf_5 kd c0 q1 q2 k n m3 x3 (x4 + 1)
else
lf_X2_phraseOf_5 kd c0 q1 q2 k n m3 (x3 + 1) (x4 + 1))))
def fn_X2_phraseOf (kd : Nat → Nat) (μ : gx_M) (c : Nat) (p1 : Int32) (p2 : Int32) : Option (Int32 × gx_M) :=
  lf_X2_phraseOf_5 kd c p1 p2 (fun m5 y6 y7 =>
some (y6, m5)) gx_F μ (-1) 0
set_option maxRecDepth 100000 in
set_option maxHeartbeats 4000000 in
theorem lt_X2_phraseOf_5 {l : Launch} {Y : gx_Y} {rr : Int32 × gx_M} {K : gx_KT} (hK : gx_K l RX2 cX2_phraseOf 5 2 43 (some .int) Y (gx_P rr) K) (c0 : Nat) (q1 : Int32) (q2 : Int32) (hc0 : gk_piece Y c0) (k : gx_M → Int32 → Int32 → Option (Int32 × gx_M)) (hx : ∀ (μ : gx_M) (x3 : Int32) (x4 : Int32), k μ x3 x4 = some rr → K μ 30 [(0, .ref (gy_a Y c0)), (1, .int q1), (2, .int q2), (3, .int x3), (4, .int x4)] []) :
    ∀ (n : Nat) (μ : gx_M) (x3 : Int32) (x4 : Int32), lf_X2_phraseOf_5 (gy_k Y) c0 q1 q2 k n μ x3 x4 = some rr → K μ 5 [(0, .ref (gy_a Y c0)), (1, .int q1), (2, .int q2), (3, .int x3), (4, .int x4)] [] := by
  intro n
  induction n with
  | zero =>
    intro μ x3 x4 hf
    exact absurd hf (by simp [lf_X2_phraseOf_5])
  | succ n ih =>
    intro μ x3 x4 hf
    rw [lf_X2_phraseOf_5] at hf
    refine gw_iload (pc := 5) hK 4 dX2_phraseOf_5 rfl ?_
    refine gw_iload_n (pc := 7) hK 1 dX2_phraseOf_7 rfl rfl ?_
    refine gw_icmp_gt (tgt := 30) (pc := 8) hK dX2_phraseOf_8 (by decide) hf (fun cc1 hf => ?_) (fun cc1 hf => ?_)
    ·
      refine gw_sub (L' := [(0, .ref (gy_a Y c0)), (1, .int q1), (2, .int q2), (3, .int x3), (4, .int x4)]) hK [0, 1, 2, 3, 4] rfl (hx _ _ _ hf)
    ·
      refine gw_aload_n (pc := 11) hK 0 dX2_phraseOf_11 rfl rfl ?_
      refine gw_iload (pc := 12) hK 4 dX2_phraseOf_12 rfl ?_
      refine gw_iload_n (pc := 14) hK 2 dX2_phraseOf_14 rfl rfl ?_
      refine gv_X2_58 (pc := 15) hK hc0 dX2_phraseOf_15 (by decide) (Nat.le_of_ble_eq_true rfl) hf (fun r2 m3 hf => ?_)
      refine gw_if_eq (tgt := 24) (pc := 18) hK dX2_phraseOf_18 (by decide) hf (fun cc4 hf => ?_) (fun cc4 hf => ?_)
      ·
        refine gw_iinc (v := (x4 + 1)) (L' := [(4, .int (x4 + 1)), (0, .ref (gy_a Y c0)), (1, .int q1), (2, .int q2), (3, .int x3)]) (pc := 24) hK 4 dX2_phraseOf_24 rfl rfl (by decide) rfl ?_
        refine gw_goto (tgt := 5) (pc := 27) hK dX2_phraseOf_27 (by decide) ?_
        refine gw_sub (L' := [(0, .ref (gy_a Y c0)), (1, .int q1), (2, .int q2), (3, .int x3), (4, .int (x4 + 1))]) hK [1, 2, 3, 4, 0] rfl (ih _ _ _ hf)
      ·
        refine gw_iinc (v := (x3 + 1)) (L' := [(3, .int (x3 + 1)), (0, .ref (gy_a Y c0)), (1, .int q1), (2, .int q2), (4, .int x4)]) (pc := 21) hK 3 dX2_phraseOf_21 rfl rfl (by decide) rfl ?_
        refine gw_iinc (v := (x4 + 1)) (L' := [(4, .int (x4 + 1)), (3, .int (x3 + 1)), (0, .ref (gy_a Y c0)), (1, .int q1), (2, .int q2)]) (pc := 24) hK 4 dX2_phraseOf_24 rfl rfl (by decide) rfl ?_
        refine gw_goto (tgt := 5) (pc := 27) hK dX2_phraseOf_27 (by decide) ?_
        refine gw_sub (L' := [(0, .ref (gy_a Y c0)), (1, .int q1), (2, .int q2), (3, .int (x3 + 1)), (4, .int (x4 + 1))]) hK [2, 3, 4, 1, 0] rfl (ih _ _ _ hf)
set_option maxRecDepth 100000 in
set_option maxHeartbeats 4000000 in
theorem ct_X2_phraseOf (l : Launch) (Y : gx_Y) (μ : gx_M) (c : Nat) (p1 : Int32) (p2 : Int32) (rr : Int32 × gx_M) (hc : gk_piece Y c) (hf : fn_X2_phraseOf (gy_k Y) μ c p1 p2 = some rr) : gx_Con l yX2_phraseOf cX2_phraseOf 5 (some .int) 2 43 Y [.ref (gy_a Y c), .int p1, .int p2] μ rr := by
  refine gx_Con_of (L0 := [(0, .ref (gy_a Y c)), (1, .int p1), (2, .int p2)]) (by decide) (Nat.le_of_ble_eq_true rfl) rfl (fun K hK => ?_)
  unfold fn_X2_phraseOf at hf
  refine gw_iconst (v := (-1)) (pc := 0) hK dX2_phraseOf_0 (by decide) ?_
  refine gw_istore_n (L' := [(3, .int (-1)), (0, .ref (gy_a Y c)), (1, .int p1), (2, .int p2)]) (pc := 1) hK dX2_phraseOf_1 rfl (by decide) rfl ?_
  refine gw_iconst (v := 0) (pc := 2) hK dX2_phraseOf_2 (by decide) ?_
  refine gw_istore (L' := [(4, .int 0), (3, .int (-1)), (0, .ref (gy_a Y c)), (1, .int p1), (2, .int p2)]) (pc := 3) hK dX2_phraseOf_3 (by decide) rfl ?_
  refine gw_sub (L' := [(0, .ref (gy_a Y c)), (1, .int p1), (2, .int p2), (3, .int (-1)), (4, .int 0)]) hK [2, 3, 4, 1, 0] rfl (lt_X2_phraseOf_5 hK c p1 p2 hc _ (fun m5 y6 y7 hf => ?_) gx_F _ _ _ hf)
  refine gw_iload_n (pc := 30) hK 3 dX2_phraseOf_30 rfl rfl ?_
  exact gw_ret_i (pc := 31) hK dX2_phraseOf_31 (Option.some.inj hf)
theorem gv_X2_62 {l : Launch} {cc : ByteArray} {nL fr lo : Nat} {ret : Option FieldType} {Y : gx_Y} {Post : Value → gx_M → Prop} {K : gx_KT} {pc : Nat} {μ : gx_M} {L : List (Nat × Value)} {st : List Value} {α : Type} {rr : α} (h : gx_K l RX2 cc nL fr lo ret Y Post K) {c : Nat} {p1 : Int32} {p2 : Int32} (hc : gk_piece Y c) (d : decode cc pc = .ok (.invokevirtual 62, 3)) (hR : 2 + 1 ≤ fr ∧ 67 ≤ lo) (hst : (st.map fun v => v.category).sum ≤ 8) {k : Int32 → gx_M → Option α} (hf : gx_b (fn_X2_phraseOf (gy_k Y) μ c p1 p2) k = some rr) (kk : ∀ (r : Int32) (m : gx_M), k r m = some rr → K m (pc + 3) L (.int r :: st)) : K μ pc L (.int p2 :: .int p1 :: .ref (gy_a Y c) :: st) := by
  obtain ⟨r, m, e, hk⟩ := gx_b_some hf
  exact gw_callV (As := [.int p1, .int p2]) (q := (r, m)) h hc.1 (by decide) rfl (by refine ⟨rfl, by decide, by decide, (show (parseMethodDescriptor yX2_phraseOf.desc).map (fun d => d.parameters.length) = some 2 by decide +kernel)⟩) kw_ml_RX2_62 kw_im_X2_phraseOf kw_se_X2_phraseOf kw_in_RX2 kw_co_X2_phraseOf hR hst d (ct_X2_phraseOf l Y μ c p1 p2 (r, m) hc e) (kk r m hk)
def fn_X2_phrases (kd : Nat → Nat) (μ : gx_M) (c : Nat) (p1 : Int32) : Option (Int32 × gx_M) :=
  gx_b (fn_X2_phraseOf kd μ c (μ c 5 - 1) p1) (fun r1 m2 =>
some ((r1 + 1), m2))
set_option maxRecDepth 100000 in
set_option maxHeartbeats 4000000 in
theorem ct_X2_phrases (l : Launch) (Y : gx_Y) (μ : gx_M) (c : Nat) (p1 : Int32) (rr : Int32 × gx_M) (hc : gk_piece Y c) (hf : fn_X2_phrases (gy_k Y) μ c p1 = some rr) : gx_Con l yX2_phrases cX2_phrases 2 (some .int) 3 67 Y [.ref (gy_a Y c), .int p1] μ rr := by
  refine gx_Con_of (L0 := [(0, .ref (gy_a Y c)), (1, .int p1)]) (by decide) (Nat.le_of_ble_eq_true rfl) rfl (fun K hK => ?_)
  unfold fn_X2_phrases at hf
  refine gw_aload_n (pc := 0) hK 0 dX2_phrases_0 rfl rfl ?_
  refine gw_aload_n (pc := 1) hK 0 dX2_phrases_1 rfl rfl ?_
  refine gf_X2_32 (pc := 2) hK hc.1 dX2_phrases_2 ?_
  refine gw_iconst (v := 1) (pc := 5) hK dX2_phrases_5 (by decide) ?_
  refine gw_isub (pc := 6) hK dX2_phrases_6 ?_
  refine gw_iload_n (pc := 7) hK 1 dX2_phrases_7 rfl rfl ?_
  refine gv_X2_62 (pc := 8) hK hc dX2_phrases_8 (by decide) (Nat.le_of_ble_eq_true rfl) hf (fun r1 m2 hf => ?_)
  refine gw_iconst (v := 1) (pc := 11) hK dX2_phrases_11 (by decide) ?_
  refine gw_iadd (pc := 12) hK dX2_phrases_12 ?_
  exact gw_ret_i (pc := 13) hK dX2_phrases_13 (Option.some.inj hf)
theorem gv_X6_118 {l : Launch} {cc : ByteArray} {nL fr lo : Nat} {ret : Option FieldType} {Y : gx_Y} {Post : Value → gx_M → Prop} {K : gx_KT} {pc : Nat} {μ : gx_M} {L : List (Nat × Value)} {st : List Value} {α : Type} {rr : α} (h : gx_K l RX6 cc nL fr lo ret Y Post K) {c : Nat} {p1 : Int32} (hc : gk_piece Y c) (d : decode cc pc = .ok (.invokevirtual 118, 3)) (hR : 3 + 1 ≤ fr ∧ 88 ≤ lo) (hst : (st.map fun v => v.category).sum ≤ 8) {k : Int32 → gx_M → Option α} (hf : gx_b (fn_X2_phrases (gy_k Y) μ c p1) k = some rr) (kk : ∀ (r : Int32) (m : gx_M), k r m = some rr → K m (pc + 3) L (.int r :: st)) : K μ pc L (.int p1 :: .ref (gy_a Y c) :: st) := by
  obtain ⟨r, m, e, hk⟩ := gx_b_some hf
  exact gw_callV (As := [.int p1]) (q := (r, m)) h hc.1 (by decide) rfl (by refine ⟨rfl, by decide, by decide, (show (parseMethodDescriptor yX2_phrases.desc).map (fun d => d.parameters.length) = some 1 by decide +kernel)⟩) kw_ml_RX6_118 kw_im_X2_phrases kw_se_X2_phrases kw_in_RX2 kw_co_X2_phrases hR hst d (ct_X2_phrases l Y μ c p1 (r, m) hc e) (kk r m hk)
def fn_X2_playedNotes (kd : Nat → Nat) (μ : gx_M) (c : Nat) : Option (Int32 × gx_M) :=
  gx_b (fn_X2_notesWith kd μ c 0) (fun r1 m2 =>
some ((μ c 5 - r1), m2))
set_option maxRecDepth 100000 in
set_option maxHeartbeats 4000000 in
theorem ct_X2_playedNotes (l : Launch) (Y : gx_Y) (μ : gx_M) (c : Nat) (rr : Int32 × gx_M) (hc : gk_piece Y c) (hf : fn_X2_playedNotes (gy_k Y) μ c = some rr) : gx_Con l yX2_playedNotes cX2_playedNotes 1 (some .int) 2 44 Y [.ref (gy_a Y c)] μ rr := by
  refine gx_Con_of (L0 := [(0, .ref (gy_a Y c))]) (by decide) (Nat.le_of_ble_eq_true rfl) rfl (fun K hK => ?_)
  unfold fn_X2_playedNotes at hf
  refine gw_aload_n (pc := 0) hK 0 dX2_playedNotes_0 rfl rfl ?_
  refine gf_X2_32 (pc := 1) hK hc.1 dX2_playedNotes_1 ?_
  refine gw_aload_n (pc := 4) hK 0 dX2_playedNotes_4 rfl rfl ?_
  refine gw_iconst (v := 0) (pc := 5) hK dX2_playedNotes_5 (by decide) ?_
  refine gv_X2_69 (pc := 6) hK hc dX2_playedNotes_6 (by decide) (Nat.le_of_ble_eq_true rfl) hf (fun r1 m2 hf => ?_)
  refine gw_isub (pc := 9) hK dX2_playedNotes_9 ?_
  exact gw_ret_i (pc := 10) hK dX2_playedNotes_10 (Option.some.inj hf)
theorem gv_X6_121 {l : Launch} {cc : ByteArray} {nL fr lo : Nat} {ret : Option FieldType} {Y : gx_Y} {Post : Value → gx_M → Prop} {K : gx_KT} {pc : Nat} {μ : gx_M} {L : List (Nat × Value)} {st : List Value} {α : Type} {rr : α} (h : gx_K l RX6 cc nL fr lo ret Y Post K) {c : Nat} (hc : gk_piece Y c) (d : decode cc pc = .ok (.invokevirtual 121, 3)) (hR : 2 + 1 ≤ fr ∧ 64 ≤ lo) (hst : (st.map fun v => v.category).sum ≤ 8) {k : Int32 → gx_M → Option α} (hf : gx_b (fn_X2_playedNotes (gy_k Y) μ c) k = some rr) (kk : ∀ (r : Int32) (m : gx_M), k r m = some rr → K m (pc + 3) L (.int r :: st)) : K μ pc L (.ref (gy_a Y c) :: st) := by
  obtain ⟨r, m, e, hk⟩ := gx_b_some hf
  exact gw_callV (As := []) (q := (r, m)) h hc.1 (by decide) rfl (by refine ⟨rfl, by decide, by decide, (show (parseMethodDescriptor yX2_playedNotes.desc).map (fun d => d.parameters.length) = some 0 by decide +kernel)⟩) kw_ml_RX6_121 kw_im_X2_playedNotes kw_se_X2_playedNotes kw_in_RX2 kw_co_X2_playedNotes hR hst d (ct_X2_playedNotes l Y μ c (r, m) hc e) (kk r m hk)
def fn_X2_size (kd : Nat → Nat) (μ : gx_M) (c : Nat) : Option (Int32 × gx_M) :=
  some (μ c 5, μ)
set_option maxRecDepth 100000 in
set_option maxHeartbeats 4000000 in
theorem ct_X2_size (l : Launch) (Y : gx_Y) (μ : gx_M) (c : Nat) (rr : Int32 × gx_M) (hc : gk_piece Y c) (hf : fn_X2_size (gy_k Y) μ c = some rr) : gx_Con l yX2_size cX2_size 1 (some .int) 0 0 Y [.ref (gy_a Y c)] μ rr := by
  refine gx_Con_of (L0 := [(0, .ref (gy_a Y c))]) (by decide) (Nat.le_of_ble_eq_true rfl) rfl (fun K hK => ?_)
  unfold fn_X2_size at hf
  refine gw_aload_n (pc := 0) hK 0 dX2_size_0 rfl rfl ?_
  refine gf_X2_32 (pc := 1) hK hc.1 dX2_size_1 ?_
  exact gw_ret_i (pc := 4) hK dX2_size_4 (Option.some.inj hf)
theorem gv_X4_49 {l : Launch} {cc : ByteArray} {nL fr lo : Nat} {ret : Option FieldType} {Y : gx_Y} {Post : Value → gx_M → Prop} {K : gx_KT} {pc : Nat} {μ : gx_M} {L : List (Nat × Value)} {st : List Value} {α : Type} {rr : α} (h : gx_K l RX4 cc nL fr lo ret Y Post K) {c : Nat} (hc : gk_piece Y c) (d : decode cc pc = .ok (.invokevirtual 49, 3)) (hR : 0 + 1 ≤ fr ∧ 20 ≤ lo) (hst : (st.map fun v => v.category).sum ≤ 8) {k : Int32 → gx_M → Option α} (hf : gx_b (fn_X2_size (gy_k Y) μ c) k = some rr) (kk : ∀ (r : Int32) (m : gx_M), k r m = some rr → K m (pc + 3) L (.int r :: st)) : K μ pc L (.ref (gy_a Y c) :: st) := by
  obtain ⟨r, m, e, hk⟩ := gx_b_some hf
  exact gw_callV (As := []) (q := (r, m)) h hc.1 (by decide) rfl (by refine ⟨rfl, by decide, by decide, (show (parseMethodDescriptor yX2_size.desc).map (fun d => d.parameters.length) = some 0 by decide +kernel)⟩) kw_ml_RX4_49 kw_im_X2_size kw_se_X2_size kw_in_RX2 kw_co_X2_size hR hst d (ct_X2_size l Y μ c (r, m) hc e) (kk r m hk)
theorem gv_X6_115 {l : Launch} {cc : ByteArray} {nL fr lo : Nat} {ret : Option FieldType} {Y : gx_Y} {Post : Value → gx_M → Prop} {K : gx_KT} {pc : Nat} {μ : gx_M} {L : List (Nat × Value)} {st : List Value} {α : Type} {rr : α} (h : gx_K l RX6 cc nL fr lo ret Y Post K) {c : Nat} (hc : gk_piece Y c) (d : decode cc pc = .ok (.invokevirtual 115, 3)) (hR : 0 + 1 ≤ fr ∧ 20 ≤ lo) (hst : (st.map fun v => v.category).sum ≤ 8) {k : Int32 → gx_M → Option α} (hf : gx_b (fn_X2_size (gy_k Y) μ c) k = some rr) (kk : ∀ (r : Int32) (m : gx_M), k r m = some rr → K m (pc + 3) L (.int r :: st)) : K μ pc L (.ref (gy_a Y c) :: st) := by
  obtain ⟨r, m, e, hk⟩ := gx_b_some hf
  exact gw_callV (As := []) (q := (r, m)) h hc.1 (by decide) rfl (by refine ⟨rfl, by decide, by decide, (show (parseMethodDescriptor yX2_size.desc).map (fun d => d.parameters.length) = some 0 by decide +kernel)⟩) kw_ml_RX6_115 kw_im_X2_size kw_se_X2_size kw_in_RX2 kw_co_X2_size hR hst d (ct_X2_size l Y μ c (r, m) hc e) (kk r m hk)
def lf_X2_firstFalseAfter_2 (kd : Nat → Nat) (c0 : Nat) (q1 : Int32) (k : gx_M → Int32 → Option (Int32 × gx_M)) : Nat → gx_M → Int32 → Option (Int32 × gx_M)
  | 0, _, _ => none
  | n + 1, μ, x2 => (if μ c0 5 ≤ x2 then
k μ x2
else
gx_b (fn_X3_get kd μ (c0 + 1) x2) (fun r2 m3 =>
(if r2 ≤ q1 then
lf_X2_firstFalseAfter_2 kd c0 q1 k n m3 (x2 + 1)
else
gx_b (fn_X3_get kd m3 (c0 + 5) x2) (fun r5 m6 =>
(if r5 = 2 then
some (x2, m6)
else
lf_X2_firstFalseAfter_2 kd c0 q1 k n m6 (x2 + 1))))))
def fn_X2_firstFalseAfter (kd : Nat → Nat) (μ : gx_M) (c : Nat) (p1 : Int32) : Option (Int32 × gx_M) :=
  lf_X2_firstFalseAfter_2 kd c p1 (fun m8 y9 =>
some ((-1), m8)) gx_F μ 0
set_option maxRecDepth 100000 in
set_option maxHeartbeats 4000000 in
theorem lt_X2_firstFalseAfter_2 {l : Launch} {Y : gx_Y} {rr : Int32 × gx_M} {K : gx_KT} (hK : gx_K l RX2 cX2_firstFalseAfter 3 1 21 (some .int) Y (gx_P rr) K) (c0 : Nat) (q1 : Int32) (hc0 : gk_piece Y c0) (k : gx_M → Int32 → Option (Int32 × gx_M)) (hx : ∀ (μ : gx_M) (x2 : Int32), k μ x2 = some rr → K μ 42 [(0, .ref (gy_a Y c0)), (1, .int q1), (2, .int x2)] []) :
    ∀ (n : Nat) (μ : gx_M) (x2 : Int32), lf_X2_firstFalseAfter_2 (gy_k Y) c0 q1 k n μ x2 = some rr → K μ 2 [(0, .ref (gy_a Y c0)), (1, .int q1), (2, .int x2)] [] := by
  intro n
  induction n with
  | zero =>
    intro μ x2 hf
    exact absurd hf (by simp [lf_X2_firstFalseAfter_2])
  | succ n ih =>
    intro μ x2 hf
    rw [lf_X2_firstFalseAfter_2] at hf
    refine gw_iload_n (pc := 2) hK 2 dX2_firstFalseAfter_2 rfl rfl ?_
    refine gw_aload_n (pc := 3) hK 0 dX2_firstFalseAfter_3 rfl rfl ?_
    refine gf_X2_32 (pc := 4) hK hc0.1 dX2_firstFalseAfter_4 ?_
    refine gw_icmp_ge (tgt := 42) (pc := 7) hK dX2_firstFalseAfter_7 (by decide) hf (fun cc1 hf => ?_) (fun cc1 hf => ?_)
    ·
      refine gw_sub (L' := [(0, .ref (gy_a Y c0)), (1, .int q1), (2, .int x2)]) hK [0, 1, 2] rfl (hx _ _ hf)
    ·
      refine gw_aload_n (pc := 10) hK 0 dX2_firstFalseAfter_10 rfl rfl ?_
      refine gf_X2_14 (pc := 11) hK hc0.1 dX2_firstFalseAfter_11 ?_
      refine gw_iload_n (pc := 14) hK 2 dX2_firstFalseAfter_14 rfl rfl ?_
      refine gv_X2_36 (pc := 15) hK hc0.2.1 dX2_firstFalseAfter_15 (by decide) (Nat.le_of_ble_eq_true rfl) hf (fun r2 m3 hf => ?_)
      refine gw_iload_n (pc := 18) hK 1 dX2_firstFalseAfter_18 rfl rfl ?_
      refine gw_icmp_le (tgt := 36) (pc := 19) hK dX2_firstFalseAfter_19 (by decide) hf (fun cc4 hf => ?_) (fun cc4 hf => ?_)
      ·
        refine gw_iinc (v := (x2 + 1)) (L' := [(2, .int (x2 + 1)), (0, .ref (gy_a Y c0)), (1, .int q1)]) (pc := 36) hK 2 dX2_firstFalseAfter_36 rfl rfl (by decide) rfl ?_
        refine gw_goto (tgt := 2) (pc := 39) hK dX2_firstFalseAfter_39 (by decide) ?_
        refine gw_sub (L' := [(0, .ref (gy_a Y c0)), (1, .int q1), (2, .int (x2 + 1))]) hK [1, 2, 0] rfl (ih _ _ hf)
      ·
        refine gw_aload_n (pc := 22) hK 0 dX2_firstFalseAfter_22 rfl rfl ?_
        refine gf_X2_23 (pc := 23) hK hc0.1 dX2_firstFalseAfter_23 ?_
        refine gw_iload_n (pc := 26) hK 2 dX2_firstFalseAfter_26 rfl rfl ?_
        refine gv_X2_36 (pc := 27) hK hc0.2.2.2.1 dX2_firstFalseAfter_27 (by decide) (Nat.le_of_ble_eq_true rfl) hf (fun r5 m6 hf => ?_)
        refine gw_iconst (v := 2) (pc := 30) hK dX2_firstFalseAfter_30 (by decide) ?_
        refine gw_icmp_ne (tgt := 36) (pc := 31) hK dX2_firstFalseAfter_31 (by decide) hf (fun cc7 hf => ?_) (fun cc7 hf => ?_)
        ·
          refine gw_iinc (v := (x2 + 1)) (L' := [(2, .int (x2 + 1)), (0, .ref (gy_a Y c0)), (1, .int q1)]) (pc := 36) hK 2 dX2_firstFalseAfter_36 rfl rfl (by decide) rfl ?_
          refine gw_goto (tgt := 2) (pc := 39) hK dX2_firstFalseAfter_39 (by decide) ?_
          refine gw_sub (L' := [(0, .ref (gy_a Y c0)), (1, .int q1), (2, .int (x2 + 1))]) hK [1, 2, 0] rfl (ih _ _ hf)
        ·
          refine gw_iload_n (pc := 34) hK 2 dX2_firstFalseAfter_34 rfl rfl ?_
          exact gw_ret_i (pc := 35) hK dX2_firstFalseAfter_35 (Option.some.inj hf)
set_option maxRecDepth 100000 in
set_option maxHeartbeats 4000000 in
theorem ct_X2_firstFalseAfter (l : Launch) (Y : gx_Y) (μ : gx_M) (c : Nat) (p1 : Int32) (rr : Int32 × gx_M) (hc : gk_piece Y c) (hf : fn_X2_firstFalseAfter (gy_k Y) μ c p1 = some rr) : gx_Con l yX2_firstFalseAfter cX2_firstFalseAfter 3 (some .int) 1 21 Y [.ref (gy_a Y c), .int p1] μ rr := by
  refine gx_Con_of (L0 := [(0, .ref (gy_a Y c)), (1, .int p1)]) (by decide) (Nat.le_of_ble_eq_true rfl) rfl (fun K hK => ?_)
  unfold fn_X2_firstFalseAfter at hf
  refine gw_iconst (v := 0) (pc := 0) hK dX2_firstFalseAfter_0 (by decide) ?_
  refine gw_istore_n (L' := [(2, .int 0), (0, .ref (gy_a Y c)), (1, .int p1)]) (pc := 1) hK dX2_firstFalseAfter_1 rfl (by decide) rfl ?_
  refine gw_sub (L' := [(0, .ref (gy_a Y c)), (1, .int p1), (2, .int 0)]) hK [1, 2, 0] rfl (lt_X2_firstFalseAfter_2 hK c p1 hc _ (fun m8 y9 hf => ?_) gx_F _ _ hf)
  refine gw_iconst (v := (-1)) (pc := 42) hK dX2_firstFalseAfter_42 (by decide) ?_
  exact gw_ret_i (pc := 43) hK dX2_firstFalseAfter_43 (Option.some.inj hf)
theorem gv_X6_175 {l : Launch} {cc : ByteArray} {nL fr lo : Nat} {ret : Option FieldType} {Y : gx_Y} {Post : Value → gx_M → Prop} {K : gx_KT} {pc : Nat} {μ : gx_M} {L : List (Nat × Value)} {st : List Value} {α : Type} {rr : α} (h : gx_K l RX6 cc nL fr lo ret Y Post K) {c : Nat} {p1 : Int32} (hc : gk_piece Y c) (d : decode cc pc = .ok (.invokevirtual 175, 3)) (hR : 1 + 1 ≤ fr ∧ 43 ≤ lo) (hst : (st.map fun v => v.category).sum ≤ 8) {k : Int32 → gx_M → Option α} (hf : gx_b (fn_X2_firstFalseAfter (gy_k Y) μ c p1) k = some rr) (kk : ∀ (r : Int32) (m : gx_M), k r m = some rr → K m (pc + 3) L (.int r :: st)) : K μ pc L (.int p1 :: .ref (gy_a Y c) :: st) := by
  obtain ⟨r, m, e, hk⟩ := gx_b_some hf
  exact gw_callV (As := [.int p1]) (q := (r, m)) h hc.1 (by decide) rfl (by refine ⟨rfl, by decide, by decide, (show (parseMethodDescriptor yX2_firstFalseAfter.desc).map (fun d => d.parameters.length) = some 1 by decide +kernel)⟩) kw_ml_RX6_175 kw_im_X2_firstFalseAfter kw_se_X2_firstFalseAfter kw_in_RX2 kw_co_X2_firstFalseAfter hR hst d (ct_X2_firstFalseAfter l Y μ c p1 (r, m) hc e) (kk r m hk)
def fn_X6_orNotFound (kd : Nat → Nat) (μ : gx_M) (p0 : Int32) : Option (Int32 × gx_M) :=
  (if p0 = (-1) then
some ((-100004), μ)
else
some (p0, μ))
set_option maxRecDepth 100000 in
set_option maxHeartbeats 4000000 in
theorem ct_X6_orNotFound (l : Launch) (Y : gx_Y) (μ : gx_M) (p0 : Int32) (rr : Int32 × gx_M) (hf : fn_X6_orNotFound (gy_k Y) μ p0 = some rr) : gx_Con l yX6_orNotFound cX6_orNotFound 1 (some .int) 0 0 Y [.int p0] μ rr := by
  refine gx_Con_of (L0 := [(0, .int p0)]) (by decide) (Nat.le_of_ble_eq_true rfl) rfl (fun K hK => ?_)
  unfold fn_X6_orNotFound at hf
  refine gw_iload_n (pc := 0) hK 0 dX6_orNotFound_0 rfl rfl ?_
  refine gw_iconst (v := (-1)) (pc := 1) hK dX6_orNotFound_1 (by decide) ?_
  refine gw_icmp_ne (tgt := 10) (pc := 2) hK dX6_orNotFound_2 (by decide) hf (fun cc1 hf => ?_) (fun cc1 hf => ?_)
  ·
    refine gw_iload_n (pc := 10) hK 0 dX6_orNotFound_10 rfl rfl ?_
    exact gw_ret_i (pc := 11) hK dX6_orNotFound_11 (Option.some.inj hf)
  ·
    refine gw_ldc (pc := 5) hK dX6_orNotFound_5 kw_k_RX6_168 ?_
    refine gw_goto (tgt := 11) (pc := 7) hK dX6_orNotFound_7 (by decide) ?_
    exact gw_ret_i (pc := 11) hK dX6_orNotFound_11 (Option.some.inj hf)
theorem gv_X6_92 {l : Launch} {cc : ByteArray} {nL fr lo : Nat} {ret : Option FieldType} {Y : gx_Y} {Post : Value → gx_M → Prop} {K : gx_KT} {pc : Nat} {μ : gx_M} {L : List (Nat × Value)} {st : List Value} {α : Type} {rr : α} (h : gx_K l RX6 cc nL fr lo ret Y Post K) {p0 : Int32} (d : decode cc pc = .ok (.invokestatic 92, 3)) (hR : 0 + 1 ≤ fr ∧ 20 ≤ lo) (hst : (st.map fun v => v.category).sum ≤ 8) {k : Int32 → gx_M → Option α} (hf : gx_b (fn_X6_orNotFound (gy_k Y) μ p0) k = some rr) (kk : ∀ (r : Int32) (m : gx_M), k r m = some rr → K m (pc + 3) L (.int r :: st)) : K μ pc L (.int p0 :: st) := by
  obtain ⟨r, m, e, hk⟩ := gx_b_some hf
  exact gw_callS (As := [.int p0]) (q := (r, m)) h (by refine ⟨rfl, by decide, by decide, (show (parseMethodDescriptor yX6_orNotFound.desc).map (fun d => d.parameters.length) = some 1 by decide +kernel)⟩) kw_ml_RX6_92 kw_st_X6_orNotFound kw_in_RX6 kw_co_X6_orNotFound hR hst d (ct_X6_orNotFound l Y μ p0 (r, m)  e) (kk r m hk)
def fn_X2_timeOf (kd : Nat → Nat) (μ : gx_M) (c : Nat) (p1 : Int32) : Option (Int32 × gx_M) :=
  gx_b (fn_X3_get kd μ (c + 1) p1) (fun r1 m2 =>
some (r1, m2))
set_option maxRecDepth 100000 in
set_option maxHeartbeats 4000000 in
theorem ct_X2_timeOf (l : Launch) (Y : gx_Y) (μ : gx_M) (c : Nat) (p1 : Int32) (rr : Int32 × gx_M) (hc : gk_piece Y c) (hf : fn_X2_timeOf (gy_k Y) μ c p1 = some rr) : gx_Con l yX2_timeOf cX2_timeOf 2 (some .int) 1 21 Y [.ref (gy_a Y c), .int p1] μ rr := by
  refine gx_Con_of (L0 := [(0, .ref (gy_a Y c)), (1, .int p1)]) (by decide) (Nat.le_of_ble_eq_true rfl) rfl (fun K hK => ?_)
  unfold fn_X2_timeOf at hf
  refine gw_aload_n (pc := 0) hK 0 dX2_timeOf_0 rfl rfl ?_
  refine gf_X2_14 (pc := 1) hK hc.1 dX2_timeOf_1 ?_
  refine gw_iload_n (pc := 4) hK 1 dX2_timeOf_4 rfl rfl ?_
  refine gv_X2_36 (pc := 5) hK hc.2.1 dX2_timeOf_5 (by decide) (Nat.le_of_ble_eq_true rfl) hf (fun r1 m2 hf => ?_)
  exact gw_ret_i (pc := 8) hK dX2_timeOf_8 (Option.some.inj hf)
theorem gv_X4_53 {l : Launch} {cc : ByteArray} {nL fr lo : Nat} {ret : Option FieldType} {Y : gx_Y} {Post : Value → gx_M → Prop} {K : gx_KT} {pc : Nat} {μ : gx_M} {L : List (Nat × Value)} {st : List Value} {α : Type} {rr : α} (h : gx_K l RX4 cc nL fr lo ret Y Post K) {c : Nat} {p1 : Int32} (hc : gk_piece Y c) (d : decode cc pc = .ok (.invokevirtual 53, 3)) (hR : 1 + 1 ≤ fr ∧ 42 ≤ lo) (hst : (st.map fun v => v.category).sum ≤ 8) {k : Int32 → gx_M → Option α} (hf : gx_b (fn_X2_timeOf (gy_k Y) μ c p1) k = some rr) (kk : ∀ (r : Int32) (m : gx_M), k r m = some rr → K m (pc + 3) L (.int r :: st)) : K μ pc L (.int p1 :: .ref (gy_a Y c) :: st) := by
  obtain ⟨r, m, e, hk⟩ := gx_b_some hf
  exact gw_callV (As := [.int p1]) (q := (r, m)) h hc.1 (by decide) rfl (by refine ⟨rfl, by decide, by decide, (show (parseMethodDescriptor yX2_timeOf.desc).map (fun d => d.parameters.length) = some 1 by decide +kernel)⟩) kw_ml_RX4_53 kw_im_X2_timeOf kw_se_X2_timeOf kw_in_RX2 kw_co_X2_timeOf hR hst d (ct_X2_timeOf l Y μ c p1 (r, m) hc e) (kk r m hk)
theorem gv_X6_165 {l : Launch} {cc : ByteArray} {nL fr lo : Nat} {ret : Option FieldType} {Y : gx_Y} {Post : Value → gx_M → Prop} {K : gx_KT} {pc : Nat} {μ : gx_M} {L : List (Nat × Value)} {st : List Value} {α : Type} {rr : α} (h : gx_K l RX6 cc nL fr lo ret Y Post K) {c : Nat} {p1 : Int32} (hc : gk_piece Y c) (d : decode cc pc = .ok (.invokevirtual 165, 3)) (hR : 1 + 1 ≤ fr ∧ 42 ≤ lo) (hst : (st.map fun v => v.category).sum ≤ 8) {k : Int32 → gx_M → Option α} (hf : gx_b (fn_X2_timeOf (gy_k Y) μ c p1) k = some rr) (kk : ∀ (r : Int32) (m : gx_M), k r m = some rr → K m (pc + 3) L (.int r :: st)) : K μ pc L (.int p1 :: .ref (gy_a Y c) :: st) := by
  obtain ⟨r, m, e, hk⟩ := gx_b_some hf
  exact gw_callV (As := [.int p1]) (q := (r, m)) h hc.1 (by decide) rfl (by refine ⟨rfl, by decide, by decide, (show (parseMethodDescriptor yX2_timeOf.desc).map (fun d => d.parameters.length) = some 1 by decide +kernel)⟩) kw_ml_RX6_165 kw_im_X2_timeOf kw_se_X2_timeOf kw_in_RX2 kw_co_X2_timeOf hR hst d (ct_X2_timeOf l Y μ c p1 (r, m) hc e) (kk r m hk)
def fn_X2_keepSilence (kd : Nat → Nat) (μ : gx_M) (c : Nat) (p1 : Int32) : Option (Int32 × gx_M) :=
  gx_b (fn_X3_put kd μ (c + 5) p1 1) (fun _ m2 =>
some (0, m2))
set_option maxRecDepth 100000 in
set_option maxHeartbeats 4000000 in
theorem ct_X2_keepSilence (l : Launch) (Y : gx_Y) (μ : gx_M) (c : Nat) (p1 : Int32) (rr : Int32 × gx_M) (hc : gk_piece Y c) (hf : fn_X2_keepSilence (gy_k Y) μ c p1 = some rr) : gx_Con l yX2_keepSilence cX2_keepSilence 2 none 1 22 Y [.ref (gy_a Y c), .int p1] μ rr := by
  refine gx_Con_of (L0 := [(0, .ref (gy_a Y c)), (1, .int p1)]) (by decide) (Nat.le_of_ble_eq_true rfl) rfl (fun K hK => ?_)
  unfold fn_X2_keepSilence at hf
  refine gw_aload_n (pc := 0) hK 0 dX2_keepSilence_0 rfl rfl ?_
  refine gf_X2_23 (pc := 1) hK hc.1 dX2_keepSilence_1 ?_
  refine gw_iload_n (pc := 4) hK 1 dX2_keepSilence_4 rfl rfl ?_
  refine gw_iconst (v := 1) (pc := 5) hK dX2_keepSilence_5 (by decide) ?_
  refine gv_X2_66 (pc := 6) hK hc.2.2.2.1 dX2_keepSilence_6 (by decide) (Nat.le_of_ble_eq_true rfl) hf (fun _ m2 hf => ?_)
  exact gw_ret_v (pc := 9) hK dX2_keepSilence_9 (Option.some.inj hf)
theorem gv_X4_78 {l : Launch} {cc : ByteArray} {nL fr lo : Nat} {ret : Option FieldType} {Y : gx_Y} {Post : Value → gx_M → Prop} {K : gx_KT} {pc : Nat} {μ : gx_M} {L : List (Nat × Value)} {st : List Value} {α : Type} {rr : α} (h : gx_K l RX4 cc nL fr lo ret Y Post K) {c : Nat} {p1 : Int32} (hc : gk_piece Y c) (d : decode cc pc = .ok (.invokevirtual 78, 3)) (hR : 1 + 1 ≤ fr ∧ 43 ≤ lo) (hst : (st.map fun v => v.category).sum ≤ 8) {k : Int32 → gx_M → Option α} (hf : gx_b (fn_X2_keepSilence (gy_k Y) μ c p1) k = some rr) (kk : ∀ (r : Int32) (m : gx_M), k r m = some rr → K m (pc + 3) L (st)) : K μ pc L (.int p1 :: .ref (gy_a Y c) :: st) := by
  obtain ⟨r, m, e, hk⟩ := gx_b_some hf
  exact gw_callV (As := [.int p1]) (q := (r, m)) h hc.1 (by decide) rfl (by refine ⟨rfl, by decide, by decide, (show (parseMethodDescriptor yX2_keepSilence.desc).map (fun d => d.parameters.length) = some 1 by decide +kernel)⟩) kw_ml_RX4_78 kw_im_X2_keepSilence kw_se_X2_keepSilence kw_in_RX2 kw_co_X2_keepSilence hR hst d (ct_X2_keepSilence l Y μ c p1 (r, m) hc e) (kk r m hk)
def fn_X2_keepSound (kd : Nat → Nat) (μ : gx_M) (c : Nat) (p1 : Int32) (p2 : Int32) (p3 : Int32) (p4 : Int32) : Option (Int32 × gx_M) :=
  (if p4 = 0 then
gx_b (fn_X3_put kd μ (c + 5) p1 2) (fun _ m3 =>
gx_b (fn_X3_put kd m3 (c + 7) p1 p2) (fun _ m5 =>
gx_b (fn_X3_put kd m5 (c + 9) p1 p3) (fun _ m7 =>
some (0, m7))))
else
gx_b (fn_X3_put kd μ (c + 5) p1 3) (fun _ m9 =>
gx_b (fn_X3_put kd m9 (c + 7) p1 p2) (fun _ m11 =>
gx_b (fn_X3_put kd m11 (c + 9) p1 p3) (fun _ m13 =>
some (0, m13)))))
set_option maxRecDepth 100000 in
set_option maxHeartbeats 4000000 in
theorem ct_X2_keepSound (l : Launch) (Y : gx_Y) (μ : gx_M) (c : Nat) (p1 : Int32) (p2 : Int32) (p3 : Int32) (p4 : Int32) (rr : Int32 × gx_M) (hc : gk_piece Y c) (hf : fn_X2_keepSound (gy_k Y) μ c p1 p2 p3 p4 = some rr) : gx_Con l yX2_keepSound cX2_keepSound 5 none 1 22 Y [.ref (gy_a Y c), .int p1, .int p2, .int p3, .int p4] μ rr := by
  refine gx_Con_of (L0 := [(0, .ref (gy_a Y c)), (1, .int p1), (2, .int p2), (3, .int p3), (4, .int p4)]) (by decide) (Nat.le_of_ble_eq_true rfl) rfl (fun K hK => ?_)
  unfold fn_X2_keepSound at hf
  refine gw_aload_n (pc := 0) hK 0 dX2_keepSound_0 rfl rfl ?_
  refine gf_X2_23 (pc := 1) hK hc.1 dX2_keepSound_1 ?_
  refine gw_iload_n (pc := 4) hK 1 dX2_keepSound_4 rfl rfl ?_
  refine gw_iload (pc := 5) hK 4 dX2_keepSound_5 rfl ?_
  refine gw_if_eq (tgt := 14) (pc := 7) hK dX2_keepSound_7 (by decide) hf (fun cc1 hf => ?_) (fun cc1 hf => ?_)
  ·
    refine gw_iconst (v := 2) (pc := 14) hK dX2_keepSound_14 (by decide) ?_
    refine gv_X2_66 (pc := 15) hK hc.2.2.2.1 dX2_keepSound_15 (by decide) (Nat.le_of_ble_eq_true rfl) hf (fun _ m3 hf => ?_)
    refine gw_aload_n (pc := 18) hK 0 dX2_keepSound_18 rfl rfl ?_
    refine gf_X2_26 (pc := 19) hK hc.1 dX2_keepSound_19 ?_
    refine gw_iload_n (pc := 22) hK 1 dX2_keepSound_22 rfl rfl ?_
    refine gw_iload_n (pc := 23) hK 2 dX2_keepSound_23 rfl rfl ?_
    refine gv_X2_66 (pc := 24) hK hc.2.2.2.2.1 dX2_keepSound_24 (by decide) (Nat.le_of_ble_eq_true rfl) hf (fun _ m5 hf => ?_)
    refine gw_aload_n (pc := 27) hK 0 dX2_keepSound_27 rfl rfl ?_
    refine gf_X2_29 (pc := 28) hK hc.1 dX2_keepSound_28 ?_
    refine gw_iload_n (pc := 31) hK 1 dX2_keepSound_31 rfl rfl ?_
    refine gw_iload_n (pc := 32) hK 3 dX2_keepSound_32 rfl rfl ?_
    refine gv_X2_66 (pc := 33) hK hc.2.2.2.2.2 dX2_keepSound_33 (by decide) (Nat.le_of_ble_eq_true rfl) hf (fun _ m7 hf => ?_)
    exact gw_ret_v (pc := 36) hK dX2_keepSound_36 (Option.some.inj hf)
  ·
    refine gw_iconst (v := 3) (pc := 10) hK dX2_keepSound_10 (by decide) ?_
    refine gw_goto (tgt := 15) (pc := 11) hK dX2_keepSound_11 (by decide) ?_
    refine gv_X2_66 (pc := 15) hK hc.2.2.2.1 dX2_keepSound_15 (by decide) (Nat.le_of_ble_eq_true rfl) hf (fun _ m9 hf => ?_)
    refine gw_aload_n (pc := 18) hK 0 dX2_keepSound_18 rfl rfl ?_
    refine gf_X2_26 (pc := 19) hK hc.1 dX2_keepSound_19 ?_
    refine gw_iload_n (pc := 22) hK 1 dX2_keepSound_22 rfl rfl ?_
    refine gw_iload_n (pc := 23) hK 2 dX2_keepSound_23 rfl rfl ?_
    refine gv_X2_66 (pc := 24) hK hc.2.2.2.2.1 dX2_keepSound_24 (by decide) (Nat.le_of_ble_eq_true rfl) hf (fun _ m11 hf => ?_)
    refine gw_aload_n (pc := 27) hK 0 dX2_keepSound_27 rfl rfl ?_
    refine gf_X2_29 (pc := 28) hK hc.1 dX2_keepSound_28 ?_
    refine gw_iload_n (pc := 31) hK 1 dX2_keepSound_31 rfl rfl ?_
    refine gw_iload_n (pc := 32) hK 3 dX2_keepSound_32 rfl rfl ?_
    refine gv_X2_66 (pc := 33) hK hc.2.2.2.2.2 dX2_keepSound_33 (by decide) (Nat.le_of_ble_eq_true rfl) hf (fun _ m13 hf => ?_)
    exact gw_ret_v (pc := 36) hK dX2_keepSound_36 (Option.some.inj hf)
theorem gv_X4_87 {l : Launch} {cc : ByteArray} {nL fr lo : Nat} {ret : Option FieldType} {Y : gx_Y} {Post : Value → gx_M → Prop} {K : gx_KT} {pc : Nat} {μ : gx_M} {L : List (Nat × Value)} {st : List Value} {α : Type} {rr : α} (h : gx_K l RX4 cc nL fr lo ret Y Post K) {c : Nat} {p1 : Int32} {p2 : Int32} {p3 : Int32} {p4 : Int32} (hc : gk_piece Y c) (d : decode cc pc = .ok (.invokevirtual 87, 3)) (hR : 1 + 1 ≤ fr ∧ 46 ≤ lo) (hst : (st.map fun v => v.category).sum ≤ 8) {k : Int32 → gx_M → Option α} (hf : gx_b (fn_X2_keepSound (gy_k Y) μ c p1 p2 p3 p4) k = some rr) (kk : ∀ (r : Int32) (m : gx_M), k r m = some rr → K m (pc + 3) L (st)) : K μ pc L (.int p4 :: .int p3 :: .int p2 :: .int p1 :: .ref (gy_a Y c) :: st) := by
  obtain ⟨r, m, e, hk⟩ := gx_b_some hf
  exact gw_callV (As := [.int p1, .int p2, .int p3, .int p4]) (q := (r, m)) h hc.1 (by decide) rfl (by refine ⟨rfl, by decide, by decide, (show (parseMethodDescriptor yX2_keepSound.desc).map (fun d => d.parameters.length) = some 4 by decide +kernel)⟩) kw_ml_RX4_87 kw_im_X2_keepSound kw_se_X2_keepSound kw_in_RX2 kw_co_X2_keepSound hR hst d (ct_X2_keepSound l Y μ c p1 p2 p3 p4 (r, m) hc e) (kk r m hk)
def fn_X2_pitchOf (kd : Nat → Nat) (μ : gx_M) (c : Nat) (p1 : Int32) : Option (Int32 × gx_M) :=
  gx_b (fn_X3_get kd μ (c + 3) p1) (fun r1 m2 =>
some (r1, m2))
set_option maxRecDepth 100000 in
set_option maxHeartbeats 4000000 in
theorem ct_X2_pitchOf (l : Launch) (Y : gx_Y) (μ : gx_M) (c : Nat) (p1 : Int32) (rr : Int32 × gx_M) (hc : gk_piece Y c) (hf : fn_X2_pitchOf (gy_k Y) μ c p1 = some rr) : gx_Con l yX2_pitchOf cX2_pitchOf 2 (some .int) 1 21 Y [.ref (gy_a Y c), .int p1] μ rr := by
  refine gx_Con_of (L0 := [(0, .ref (gy_a Y c)), (1, .int p1)]) (by decide) (Nat.le_of_ble_eq_true rfl) rfl (fun K hK => ?_)
  unfold fn_X2_pitchOf at hf
  refine gw_aload_n (pc := 0) hK 0 dX2_pitchOf_0 rfl rfl ?_
  refine gf_X2_20 (pc := 1) hK hc.1 dX2_pitchOf_1 ?_
  refine gw_iload_n (pc := 4) hK 1 dX2_pitchOf_4 rfl rfl ?_
  refine gv_X2_36 (pc := 5) hK hc.2.2.1 dX2_pitchOf_5 (by decide) (Nat.le_of_ble_eq_true rfl) hf (fun r1 m2 hf => ?_)
  exact gw_ret_i (pc := 8) hK dX2_pitchOf_8 (Option.some.inj hf)
theorem gv_X4_72 {l : Launch} {cc : ByteArray} {nL fr lo : Nat} {ret : Option FieldType} {Y : gx_Y} {Post : Value → gx_M → Prop} {K : gx_KT} {pc : Nat} {μ : gx_M} {L : List (Nat × Value)} {st : List Value} {α : Type} {rr : α} (h : gx_K l RX4 cc nL fr lo ret Y Post K) {c : Nat} {p1 : Int32} (hc : gk_piece Y c) (d : decode cc pc = .ok (.invokevirtual 72, 3)) (hR : 1 + 1 ≤ fr ∧ 42 ≤ lo) (hst : (st.map fun v => v.category).sum ≤ 8) {k : Int32 → gx_M → Option α} (hf : gx_b (fn_X2_pitchOf (gy_k Y) μ c p1) k = some rr) (kk : ∀ (r : Int32) (m : gx_M), k r m = some rr → K m (pc + 3) L (.int r :: st)) : K μ pc L (.int p1 :: .ref (gy_a Y c) :: st) := by
  obtain ⟨r, m, e, hk⟩ := gx_b_some hf
  exact gw_callV (As := [.int p1]) (q := (r, m)) h hc.1 (by decide) rfl (by refine ⟨rfl, by decide, by decide, (show (parseMethodDescriptor yX2_pitchOf.desc).map (fun d => d.parameters.length) = some 1 by decide +kernel)⟩) kw_ml_RX4_72 kw_im_X2_pitchOf kw_se_X2_pitchOf kw_in_RX2 kw_co_X2_pitchOf hR hst d (ct_X2_pitchOf l Y μ c p1 (r, m) hc e) (kk r m hk)
def fn_X2_errorSize (kd : Nat → Nat) (μ : gx_M) (c : Nat) (p1 : Int32) : Option (Int32 × gx_M) :=
  gx_b (fn_X3_get kd μ (c + 9) p1) (fun r1 m2 =>
some ((if 0 ≤ r1 then r1 else 0 - r1), m2))
set_option maxRecDepth 100000 in
set_option maxHeartbeats 4000000 in
theorem ct_X2_errorSize (l : Launch) (Y : gx_Y) (μ : gx_M) (c : Nat) (p1 : Int32) (rr : Int32 × gx_M) (hc : gk_piece Y c) (hf : fn_X2_errorSize (gy_k Y) μ c p1 = some rr) : gx_Con l yX2_errorSize cX2_errorSize 2 (some .int) 1 21 Y [.ref (gy_a Y c), .int p1] μ rr := by
  refine gx_Con_of (L0 := [(0, .ref (gy_a Y c)), (1, .int p1)]) (by decide) (Nat.le_of_ble_eq_true rfl) rfl (fun K hK => ?_)
  unfold fn_X2_errorSize at hf
  refine gw_aload_n (pc := 0) hK 0 dX2_errorSize_0 rfl rfl ?_
  refine gf_X2_29 (pc := 1) hK hc.1 dX2_errorSize_1 ?_
  refine gw_iload_n (pc := 4) hK 1 dX2_errorSize_4 rfl rfl ?_
  refine gv_X2_36 (pc := 5) hK hc.2.2.2.2.2 dX2_errorSize_5 (by decide) (Nat.le_of_ble_eq_true rfl) hf (fun r1 m2 hf => ?_)
  refine gw_mabs (pc := 8) hK kw_ml_RX2_82 dX2_errorSize_8 (Nat.le_of_ble_eq_true rfl) (Nat.le_of_ble_eq_true rfl) ?_
  exact gw_ret_i (pc := 11) hK dX2_errorSize_11 (Option.some.inj hf)
theorem gv_X2_90 {l : Launch} {cc : ByteArray} {nL fr lo : Nat} {ret : Option FieldType} {Y : gx_Y} {Post : Value → gx_M → Prop} {K : gx_KT} {pc : Nat} {μ : gx_M} {L : List (Nat × Value)} {st : List Value} {α : Type} {rr : α} (h : gx_K l RX2 cc nL fr lo ret Y Post K) {c : Nat} {p1 : Int32} (hc : gk_piece Y c) (d : decode cc pc = .ok (.invokevirtual 90, 3)) (hR : 1 + 1 ≤ fr ∧ 42 ≤ lo) (hst : (st.map fun v => v.category).sum ≤ 8) {k : Int32 → gx_M → Option α} (hf : gx_b (fn_X2_errorSize (gy_k Y) μ c p1) k = some rr) (kk : ∀ (r : Int32) (m : gx_M), k r m = some rr → K m (pc + 3) L (.int r :: st)) : K μ pc L (.int p1 :: .ref (gy_a Y c) :: st) := by
  obtain ⟨r, m, e, hk⟩ := gx_b_some hf
  exact gw_callV (As := [.int p1]) (q := (r, m)) h hc.1 (by decide) rfl (by refine ⟨rfl, by decide, by decide, (show (parseMethodDescriptor yX2_errorSize.desc).map (fun d => d.parameters.length) = some 1 by decide +kernel)⟩) kw_ml_RX2_90 kw_im_X2_errorSize kw_se_X2_errorSize kw_in_RX2 kw_co_X2_errorSize hR hst d (ct_X2_errorSize l Y μ c p1 (r, m) hc e) (kk r m hk)
def fn_X2_sounded (kd : Nat → Nat) (μ : gx_M) (c : Nat) (p1 : Int32) : Option (Int32 × gx_M) :=
  gx_b (fn_X3_get kd μ (c + 5) p1) (fun r1 m2 =>
(if r1 = 2 then
some (1, m2)
else
gx_b (fn_X3_get kd m2 (c + 5) p1) (fun r4 m5 =>
(if r4 = 3 then
some (1, m5)
else
some (0, m5)))))
set_option maxRecDepth 100000 in
set_option maxHeartbeats 4000000 in
theorem ct_X2_sounded (l : Launch) (Y : gx_Y) (μ : gx_M) (c : Nat) (p1 : Int32) (rr : Int32 × gx_M) (hc : gk_piece Y c) (hf : fn_X2_sounded (gy_k Y) μ c p1 = some rr) : gx_Con l yX2_sounded cX2_sounded 2 (some .boolean) 1 21 Y [.ref (gy_a Y c), .int p1] μ rr := by
  refine gx_Con_of (L0 := [(0, .ref (gy_a Y c)), (1, .int p1)]) (by decide) (Nat.le_of_ble_eq_true rfl) rfl (fun K hK => ?_)
  unfold fn_X2_sounded at hf
  refine gw_aload_n (pc := 0) hK 0 dX2_sounded_0 rfl rfl ?_
  refine gf_X2_23 (pc := 1) hK hc.1 dX2_sounded_1 ?_
  refine gw_iload_n (pc := 4) hK 1 dX2_sounded_4 rfl rfl ?_
  refine gv_X2_36 (pc := 5) hK hc.2.2.2.1 dX2_sounded_5 (by decide) (Nat.le_of_ble_eq_true rfl) hf (fun r1 m2 hf => ?_)
  refine gw_iconst (v := 2) (pc := 8) hK dX2_sounded_8 (by decide) ?_
  refine gw_icmp_eq (tgt := 24) (pc := 9) hK dX2_sounded_9 (by decide) hf (fun cc3 hf => ?_) (fun cc3 hf => ?_)
  ·
    refine gw_iconst (v := 1) (pc := 24) hK dX2_sounded_24 (by decide) ?_
    refine gw_goto (tgt := 29) (pc := 25) hK dX2_sounded_25 (by decide) ?_
    exact gw_ret_z (pc := 29) hK dX2_sounded_29 rfl (Option.some.inj hf)
  ·
    refine gw_aload_n (pc := 12) hK 0 dX2_sounded_12 rfl rfl ?_
    refine gf_X2_23 (pc := 13) hK hc.1 dX2_sounded_13 ?_
    refine gw_iload_n (pc := 16) hK 1 dX2_sounded_16 rfl rfl ?_
    refine gv_X2_36 (pc := 17) hK hc.2.2.2.1 dX2_sounded_17 (by decide) (Nat.le_of_ble_eq_true rfl) hf (fun r4 m5 hf => ?_)
    refine gw_iconst (v := 3) (pc := 20) hK dX2_sounded_20 (by decide) ?_
    refine gw_icmp_ne (tgt := 28) (pc := 21) hK dX2_sounded_21 (by decide) hf (fun cc6 hf => ?_) (fun cc6 hf => ?_)
    ·
      refine gw_iconst (v := 0) (pc := 28) hK dX2_sounded_28 (by decide) ?_
      exact gw_ret_z (pc := 29) hK dX2_sounded_29 rfl (Option.some.inj hf)
    ·
      refine gw_iconst (v := 1) (pc := 24) hK dX2_sounded_24 (by decide) ?_
      refine gw_goto (tgt := 29) (pc := 25) hK dX2_sounded_25 (by decide) ?_
      exact gw_ret_z (pc := 29) hK dX2_sounded_29 rfl (Option.some.inj hf)
theorem gv_X2_76 {l : Launch} {cc : ByteArray} {nL fr lo : Nat} {ret : Option FieldType} {Y : gx_Y} {Post : Value → gx_M → Prop} {K : gx_KT} {pc : Nat} {μ : gx_M} {L : List (Nat × Value)} {st : List Value} {α : Type} {rr : α} (h : gx_K l RX2 cc nL fr lo ret Y Post K) {c : Nat} {p1 : Int32} (hc : gk_piece Y c) (d : decode cc pc = .ok (.invokevirtual 76, 3)) (hR : 1 + 1 ≤ fr ∧ 42 ≤ lo) (hst : (st.map fun v => v.category).sum ≤ 8) {k : Int32 → gx_M → Option α} (hf : gx_b (fn_X2_sounded (gy_k Y) μ c p1) k = some rr) (kk : ∀ (r : Int32) (m : gx_M), k r m = some rr → K m (pc + 3) L (.int r :: st)) : K μ pc L (.int p1 :: .ref (gy_a Y c) :: st) := by
  obtain ⟨r, m, e, hk⟩ := gx_b_some hf
  exact gw_callV (As := [.int p1]) (q := (r, m)) h hc.1 (by decide) rfl (by refine ⟨rfl, by decide, by decide, (show (parseMethodDescriptor yX2_sounded.desc).map (fun d => d.parameters.length) = some 1 by decide +kernel)⟩) kw_ml_RX2_76 kw_im_X2_sounded kw_se_X2_sounded kw_in_RX2 kw_co_X2_sounded hR hst d (ct_X2_sounded l Y μ c p1 (r, m) hc e) (kk r m hk)
def lf_X2_greatestErrorAfter_4 (kd : Nat → Nat) (c0 : Nat) (q1 : Int32) (k : gx_M → Int32 → Int32 → Option (Int32 × gx_M)) : Nat → gx_M → Int32 → Int32 → Option (Int32 × gx_M)
  | 0, _, _, _ => none
  | n + 1, μ, x2, x3 => (if μ c0 5 ≤ x3 then
k μ x2 x3
else
gx_b (fn_X3_get kd μ (c0 + 1) x3) (fun r2 m3 =>
(if r2 ≤ q1 then
lf_X2_greatestErrorAfter_4 kd c0 q1 k n m3 x2 (x3 + 1)
else
gx_b (fn_X2_sounded kd m3 c0 x3) (fun r5 m6 =>
(if r5 = 0 then
lf_X2_greatestErrorAfter_4 kd c0 q1 k n m6 x2 (x3 + 1)
else
gx_b (fn_X2_errorSize kd m6 c0 x3) (fun r8 m9 =>
lf_X2_greatestErrorAfter_4 kd c0 q1 k n m9 (if x2 < r8 then r8 else x2) (x3 + 1)))))))
def fn_X2_greatestErrorAfter (kd : Nat → Nat) (μ : gx_M) (c : Nat) (p1 : Int32) : Option (Int32 × gx_M) :=
  lf_X2_greatestErrorAfter_4 kd c p1 (fun m10 y11 y12 =>
some (y11, m10)) gx_F μ (-1) 0
set_option maxRecDepth 100000 in
set_option maxHeartbeats 4000000 in
theorem lt_X2_greatestErrorAfter_4 {l : Launch} {Y : gx_Y} {rr : Int32 × gx_M} {K : gx_KT} (hK : gx_K l RX2 cX2_greatestErrorAfter 4 2 42 (some .int) Y (gx_P rr) K) (c0 : Nat) (q1 : Int32) (hc0 : gk_piece Y c0) (k : gx_M → Int32 → Int32 → Option (Int32 × gx_M)) (hx : ∀ (μ : gx_M) (x2 : Int32) (x3 : Int32), k μ x2 x3 = some rr → K μ 48 [(0, .ref (gy_a Y c0)), (1, .int q1), (2, .int x2), (3, .int x3)] []) :
    ∀ (n : Nat) (μ : gx_M) (x2 : Int32) (x3 : Int32), lf_X2_greatestErrorAfter_4 (gy_k Y) c0 q1 k n μ x2 x3 = some rr → K μ 4 [(0, .ref (gy_a Y c0)), (1, .int q1), (2, .int x2), (3, .int x3)] [] := by
  intro n
  induction n with
  | zero =>
    intro μ x2 x3 hf
    exact absurd hf (by simp [lf_X2_greatestErrorAfter_4])
  | succ n ih =>
    intro μ x2 x3 hf
    rw [lf_X2_greatestErrorAfter_4] at hf
    refine gw_iload_n (pc := 4) hK 3 dX2_greatestErrorAfter_4 rfl rfl ?_
    refine gw_aload_n (pc := 5) hK 0 dX2_greatestErrorAfter_5 rfl rfl ?_
    refine gf_X2_32 (pc := 6) hK hc0.1 dX2_greatestErrorAfter_6 ?_
    refine gw_icmp_ge (tgt := 48) (pc := 9) hK dX2_greatestErrorAfter_9 (by decide) hf (fun cc1 hf => ?_) (fun cc1 hf => ?_)
    ·
      refine gw_sub (L' := [(0, .ref (gy_a Y c0)), (1, .int q1), (2, .int x2), (3, .int x3)]) hK [0, 1, 2, 3] rfl (hx _ _ _ hf)
    ·
      refine gw_aload_n (pc := 12) hK 0 dX2_greatestErrorAfter_12 rfl rfl ?_
      refine gf_X2_14 (pc := 13) hK hc0.1 dX2_greatestErrorAfter_13 ?_
      refine gw_iload_n (pc := 16) hK 3 dX2_greatestErrorAfter_16 rfl rfl ?_
      refine gv_X2_36 (pc := 17) hK hc0.2.1 dX2_greatestErrorAfter_17 (by decide) (Nat.le_of_ble_eq_true rfl) hf (fun r2 m3 hf => ?_)
      refine gw_iload_n (pc := 20) hK 1 dX2_greatestErrorAfter_20 rfl rfl ?_
      refine gw_icmp_le (tgt := 42) (pc := 21) hK dX2_greatestErrorAfter_21 (by decide) hf (fun cc4 hf => ?_) (fun cc4 hf => ?_)
      ·
        refine gw_iinc (v := (x3 + 1)) (L' := [(3, .int (x3 + 1)), (0, .ref (gy_a Y c0)), (1, .int q1), (2, .int x2)]) (pc := 42) hK 3 dX2_greatestErrorAfter_42 rfl rfl (by decide) rfl ?_
        refine gw_goto (tgt := 4) (pc := 45) hK dX2_greatestErrorAfter_45 (by decide) ?_
        refine gw_sub (L' := [(0, .ref (gy_a Y c0)), (1, .int q1), (2, .int x2), (3, .int (x3 + 1))]) hK [1, 2, 3, 0] rfl (ih _ _ _ hf)
      ·
        refine gw_aload_n (pc := 24) hK 0 dX2_greatestErrorAfter_24 rfl rfl ?_
        refine gw_iload_n (pc := 25) hK 3 dX2_greatestErrorAfter_25 rfl rfl ?_
        refine gv_X2_76 (pc := 26) hK hc0 dX2_greatestErrorAfter_26 (by decide) (Nat.le_of_ble_eq_true rfl) hf (fun r5 m6 hf => ?_)
        refine gw_if_eq (tgt := 42) (pc := 29) hK dX2_greatestErrorAfter_29 (by decide) hf (fun cc7 hf => ?_) (fun cc7 hf => ?_)
        ·
          refine gw_iinc (v := (x3 + 1)) (L' := [(3, .int (x3 + 1)), (0, .ref (gy_a Y c0)), (1, .int q1), (2, .int x2)]) (pc := 42) hK 3 dX2_greatestErrorAfter_42 rfl rfl (by decide) rfl ?_
          refine gw_goto (tgt := 4) (pc := 45) hK dX2_greatestErrorAfter_45 (by decide) ?_
          refine gw_sub (L' := [(0, .ref (gy_a Y c0)), (1, .int q1), (2, .int x2), (3, .int (x3 + 1))]) hK [1, 2, 3, 0] rfl (ih _ _ _ hf)
        ·
          refine gw_iload_n (pc := 32) hK 2 dX2_greatestErrorAfter_32 rfl rfl ?_
          refine gw_aload_n (pc := 33) hK 0 dX2_greatestErrorAfter_33 rfl rfl ?_
          refine gw_iload_n (pc := 34) hK 3 dX2_greatestErrorAfter_34 rfl rfl ?_
          refine gv_X2_90 (pc := 35) hK hc0 dX2_greatestErrorAfter_35 (by decide) (Nat.le_of_ble_eq_true rfl) hf (fun r8 m9 hf => ?_)
          refine gw_mmax (pc := 38) hK kw_ml_RX2_93 dX2_greatestErrorAfter_38 (Nat.le_of_ble_eq_true rfl) (Nat.le_of_ble_eq_true rfl) ?_
          refine gw_istore_n (L' := [(2, .int (if x2 < r8 then r8 else x2)), (0, .ref (gy_a Y c0)), (1, .int q1), (3, .int x3)]) (pc := 41) hK dX2_greatestErrorAfter_41 rfl (by decide) rfl ?_
          refine gw_iinc (v := (x3 + 1)) (L' := [(3, .int (x3 + 1)), (2, .int (if x2 < r8 then r8 else x2)), (0, .ref (gy_a Y c0)), (1, .int q1)]) (pc := 42) hK 3 dX2_greatestErrorAfter_42 rfl rfl (by decide) rfl ?_
          refine gw_goto (tgt := 4) (pc := 45) hK dX2_greatestErrorAfter_45 (by decide) ?_
          refine gw_sub (L' := [(0, .ref (gy_a Y c0)), (1, .int q1), (2, .int (if x2 < r8 then r8 else x2)), (3, .int (x3 + 1))]) hK [2, 3, 1, 0] rfl (ih _ _ _ hf)
set_option maxRecDepth 100000 in
set_option maxHeartbeats 4000000 in
theorem ct_X2_greatestErrorAfter (l : Launch) (Y : gx_Y) (μ : gx_M) (c : Nat) (p1 : Int32) (rr : Int32 × gx_M) (hc : gk_piece Y c) (hf : fn_X2_greatestErrorAfter (gy_k Y) μ c p1 = some rr) : gx_Con l yX2_greatestErrorAfter cX2_greatestErrorAfter 4 (some .int) 2 42 Y [.ref (gy_a Y c), .int p1] μ rr := by
  refine gx_Con_of (L0 := [(0, .ref (gy_a Y c)), (1, .int p1)]) (by decide) (Nat.le_of_ble_eq_true rfl) rfl (fun K hK => ?_)
  unfold fn_X2_greatestErrorAfter at hf
  refine gw_iconst (v := (-1)) (pc := 0) hK dX2_greatestErrorAfter_0 (by decide) ?_
  refine gw_istore_n (L' := [(2, .int (-1)), (0, .ref (gy_a Y c)), (1, .int p1)]) (pc := 1) hK dX2_greatestErrorAfter_1 rfl (by decide) rfl ?_
  refine gw_iconst (v := 0) (pc := 2) hK dX2_greatestErrorAfter_2 (by decide) ?_
  refine gw_istore_n (L' := [(3, .int 0), (2, .int (-1)), (0, .ref (gy_a Y c)), (1, .int p1)]) (pc := 3) hK dX2_greatestErrorAfter_3 rfl (by decide) rfl ?_
  refine gw_sub (L' := [(0, .ref (gy_a Y c)), (1, .int p1), (2, .int (-1)), (3, .int 0)]) hK [2, 3, 1, 0] rfl (lt_X2_greatestErrorAfter_4 hK c p1 hc _ (fun m10 y11 y12 hf => ?_) gx_F _ _ _ hf)
  refine gw_iload_n (pc := 48) hK 2 dX2_greatestErrorAfter_48 rfl rfl ?_
  exact gw_ret_i (pc := 49) hK dX2_greatestErrorAfter_49 (Option.some.inj hf)
theorem gv_X6_178 {l : Launch} {cc : ByteArray} {nL fr lo : Nat} {ret : Option FieldType} {Y : gx_Y} {Post : Value → gx_M → Prop} {K : gx_KT} {pc : Nat} {μ : gx_M} {L : List (Nat × Value)} {st : List Value} {α : Type} {rr : α} (h : gx_K l RX6 cc nL fr lo ret Y Post K) {c : Nat} {p1 : Int32} (hc : gk_piece Y c) (d : decode cc pc = .ok (.invokevirtual 178, 3)) (hR : 2 + 1 ≤ fr ∧ 65 ≤ lo) (hst : (st.map fun v => v.category).sum ≤ 8) {k : Int32 → gx_M → Option α} (hf : gx_b (fn_X2_greatestErrorAfter (gy_k Y) μ c p1) k = some rr) (kk : ∀ (r : Int32) (m : gx_M), k r m = some rr → K m (pc + 3) L (.int r :: st)) : K μ pc L (.int p1 :: .ref (gy_a Y c) :: st) := by
  obtain ⟨r, m, e, hk⟩ := gx_b_some hf
  exact gw_callV (As := [.int p1]) (q := (r, m)) h hc.1 (by decide) rfl (by refine ⟨rfl, by decide, by decide, (show (parseMethodDescriptor yX2_greatestErrorAfter.desc).map (fun d => d.parameters.length) = some 1 by decide +kernel)⟩) kw_ml_RX6_178 kw_im_X2_greatestErrorAfter kw_se_X2_greatestErrorAfter kw_in_RX2 kw_co_X2_greatestErrorAfter hR hst d (ct_X2_greatestErrorAfter l Y μ c p1 (r, m) hc e) (kk r m hk)
def fn_X2_has (kd : Nat → Nat) (μ : gx_M) (c : Nat) (p1 : Int32) : Option (Int32 × gx_M) :=
  (if p1 < 0 then
some (0, μ)
else
(if μ c 5 ≤ p1 then
some (0, μ)
else
some (1, μ)))
set_option maxRecDepth 100000 in
set_option maxHeartbeats 4000000 in
theorem ct_X2_has (l : Launch) (Y : gx_Y) (μ : gx_M) (c : Nat) (p1 : Int32) (rr : Int32 × gx_M) (hc : gk_piece Y c) (hf : fn_X2_has (gy_k Y) μ c p1 = some rr) : gx_Con l yX2_has cX2_has 2 (some .boolean) 0 0 Y [.ref (gy_a Y c), .int p1] μ rr := by
  refine gx_Con_of (L0 := [(0, .ref (gy_a Y c)), (1, .int p1)]) (by decide) (Nat.le_of_ble_eq_true rfl) rfl (fun K hK => ?_)
  unfold fn_X2_has at hf
  refine gw_iload_n (pc := 0) hK 1 dX2_has_0 rfl rfl ?_
  refine gw_if_lt (tgt := 16) (pc := 1) hK dX2_has_1 (by decide) hf (fun cc1 hf => ?_) (fun cc1 hf => ?_)
  ·
    refine gw_iconst (v := 0) (pc := 16) hK dX2_has_16 (by decide) ?_
    exact gw_ret_z (pc := 17) hK dX2_has_17 rfl (Option.some.inj hf)
  ·
    refine gw_iload_n (pc := 4) hK 1 dX2_has_4 rfl rfl ?_
    refine gw_aload_n (pc := 5) hK 0 dX2_has_5 rfl rfl ?_
    refine gf_X2_32 (pc := 6) hK hc.1 dX2_has_6 ?_
    refine gw_icmp_ge (tgt := 16) (pc := 9) hK dX2_has_9 (by decide) hf (fun cc2 hf => ?_) (fun cc2 hf => ?_)
    ·
      refine gw_iconst (v := 0) (pc := 16) hK dX2_has_16 (by decide) ?_
      exact gw_ret_z (pc := 17) hK dX2_has_17 rfl (Option.some.inj hf)
    ·
      refine gw_iconst (v := 1) (pc := 12) hK dX2_has_12 (by decide) ?_
      refine gw_goto (tgt := 17) (pc := 13) hK dX2_has_13 (by decide) ?_
      exact gw_ret_z (pc := 17) hK dX2_has_17 rfl (Option.some.inj hf)
theorem gv_X6_144 {l : Launch} {cc : ByteArray} {nL fr lo : Nat} {ret : Option FieldType} {Y : gx_Y} {Post : Value → gx_M → Prop} {K : gx_KT} {pc : Nat} {μ : gx_M} {L : List (Nat × Value)} {st : List Value} {α : Type} {rr : α} (h : gx_K l RX6 cc nL fr lo ret Y Post K) {c : Nat} {p1 : Int32} (hc : gk_piece Y c) (d : decode cc pc = .ok (.invokevirtual 144, 3)) (hR : 0 + 1 ≤ fr ∧ 21 ≤ lo) (hst : (st.map fun v => v.category).sum ≤ 8) {k : Int32 → gx_M → Option α} (hf : gx_b (fn_X2_has (gy_k Y) μ c p1) k = some rr) (kk : ∀ (r : Int32) (m : gx_M), k r m = some rr → K m (pc + 3) L (.int r :: st)) : K μ pc L (.int p1 :: .ref (gy_a Y c) :: st) := by
  obtain ⟨r, m, e, hk⟩ := gx_b_some hf
  exact gw_callV (As := [.int p1]) (q := (r, m)) h hc.1 (by decide) rfl (by refine ⟨rfl, by decide, by decide, (show (parseMethodDescriptor yX2_has.desc).map (fun d => d.parameters.length) = some 1 by decide +kernel)⟩) kw_ml_RX6_144 kw_im_X2_has kw_se_X2_has kw_in_RX2 kw_co_X2_has hR hst d (ct_X2_has l Y μ c p1 (r, m) hc e) (kk r m hk)
def fn_X2_takeAway (kd : Nat → Nat) (μ : gx_M) (c : Nat) (p1 : Int32) : Option (Int32 × gx_M) :=
  gx_b (fn_X3_delete kd μ (c + 1) p1 (μ c 5)) (fun _ m2 =>
gx_b (fn_X3_delete kd m2 (c + 3) p1 (m2 c 5)) (fun _ m4 =>
gx_b (fn_X3_delete kd m4 (c + 5) p1 (m4 c 5)) (fun _ m6 =>
gx_b (fn_X3_delete kd m6 (c + 7) p1 (m6 c 5)) (fun _ m8 =>
gx_b (fn_X3_delete kd m8 (c + 9) p1 (m8 c 5)) (fun _ m10 =>
some (0, (gx_u m10 c 5 (m10 c 5 - 1))))))))
set_option maxRecDepth 100000 in
set_option maxHeartbeats 4000000 in
theorem ct_X2_takeAway (l : Launch) (Y : gx_Y) (μ : gx_M) (c : Nat) (p1 : Int32) (rr : Int32 × gx_M) (hc : gk_piece Y c) (hf : fn_X2_takeAway (gy_k Y) μ c p1 = some rr) : gx_Con l yX2_takeAway cX2_takeAway 2 none 2 45 Y [.ref (gy_a Y c), .int p1] μ rr := by
  refine gx_Con_of (L0 := [(0, .ref (gy_a Y c)), (1, .int p1)]) (by decide) (Nat.le_of_ble_eq_true rfl) rfl (fun K hK => ?_)
  unfold fn_X2_takeAway at hf
  refine gw_aload_n (pc := 0) hK 0 dX2_takeAway_0 rfl rfl ?_
  refine gf_X2_14 (pc := 1) hK hc.1 dX2_takeAway_1 ?_
  refine gw_iload_n (pc := 4) hK 1 dX2_takeAway_4 rfl rfl ?_
  refine gw_aload_n (pc := 5) hK 0 dX2_takeAway_5 rfl rfl ?_
  refine gf_X2_32 (pc := 6) hK hc.1 dX2_takeAway_6 ?_
  refine gv_X2_47 (pc := 9) hK hc.2.1 dX2_takeAway_9 (by decide) (Nat.le_of_ble_eq_true rfl) hf (fun _ m2 hf => ?_)
  refine gw_aload_n (pc := 12) hK 0 dX2_takeAway_12 rfl rfl ?_
  refine gf_X2_20 (pc := 13) hK hc.1 dX2_takeAway_13 ?_
  refine gw_iload_n (pc := 16) hK 1 dX2_takeAway_16 rfl rfl ?_
  refine gw_aload_n (pc := 17) hK 0 dX2_takeAway_17 rfl rfl ?_
  refine gf_X2_32 (pc := 18) hK hc.1 dX2_takeAway_18 ?_
  refine gv_X2_47 (pc := 21) hK hc.2.2.1 dX2_takeAway_21 (by decide) (Nat.le_of_ble_eq_true rfl) hf (fun _ m4 hf => ?_)
  refine gw_aload_n (pc := 24) hK 0 dX2_takeAway_24 rfl rfl ?_
  refine gf_X2_23 (pc := 25) hK hc.1 dX2_takeAway_25 ?_
  refine gw_iload_n (pc := 28) hK 1 dX2_takeAway_28 rfl rfl ?_
  refine gw_aload_n (pc := 29) hK 0 dX2_takeAway_29 rfl rfl ?_
  refine gf_X2_32 (pc := 30) hK hc.1 dX2_takeAway_30 ?_
  refine gv_X2_47 (pc := 33) hK hc.2.2.2.1 dX2_takeAway_33 (by decide) (Nat.le_of_ble_eq_true rfl) hf (fun _ m6 hf => ?_)
  refine gw_aload_n (pc := 36) hK 0 dX2_takeAway_36 rfl rfl ?_
  refine gf_X2_26 (pc := 37) hK hc.1 dX2_takeAway_37 ?_
  refine gw_iload_n (pc := 40) hK 1 dX2_takeAway_40 rfl rfl ?_
  refine gw_aload_n (pc := 41) hK 0 dX2_takeAway_41 rfl rfl ?_
  refine gf_X2_32 (pc := 42) hK hc.1 dX2_takeAway_42 ?_
  refine gv_X2_47 (pc := 45) hK hc.2.2.2.2.1 dX2_takeAway_45 (by decide) (Nat.le_of_ble_eq_true rfl) hf (fun _ m8 hf => ?_)
  refine gw_aload_n (pc := 48) hK 0 dX2_takeAway_48 rfl rfl ?_
  refine gf_X2_29 (pc := 49) hK hc.1 dX2_takeAway_49 ?_
  refine gw_iload_n (pc := 52) hK 1 dX2_takeAway_52 rfl rfl ?_
  refine gw_aload_n (pc := 53) hK 0 dX2_takeAway_53 rfl rfl ?_
  refine gf_X2_32 (pc := 54) hK hc.1 dX2_takeAway_54 ?_
  refine gv_X2_47 (pc := 57) hK hc.2.2.2.2.2 dX2_takeAway_57 (by decide) (Nat.le_of_ble_eq_true rfl) hf (fun _ m10 hf => ?_)
  refine gw_aload_n (pc := 60) hK 0 dX2_takeAway_60 rfl rfl ?_
  refine gw_dup (pc := 61) hK dX2_takeAway_61 rfl ?_
  refine gf_X2_32 (pc := 62) hK hc.1 dX2_takeAway_62 ?_
  refine gw_iconst (v := 1) (pc := 65) hK dX2_takeAway_65 (by decide) ?_
  refine gw_isub (pc := 66) hK dX2_takeAway_66 ?_
  refine gp_X2_32 (pc := 67) hK hc.1 dX2_takeAway_67 ?_
  exact gw_ret_v (pc := 70) hK dX2_takeAway_70 (Option.some.inj hf)
theorem gv_X6_145 {l : Launch} {cc : ByteArray} {nL fr lo : Nat} {ret : Option FieldType} {Y : gx_Y} {Post : Value → gx_M → Prop} {K : gx_KT} {pc : Nat} {μ : gx_M} {L : List (Nat × Value)} {st : List Value} {α : Type} {rr : α} (h : gx_K l RX6 cc nL fr lo ret Y Post K) {c : Nat} {p1 : Int32} (hc : gk_piece Y c) (d : decode cc pc = .ok (.invokevirtual 145, 3)) (hR : 2 + 1 ≤ fr ∧ 66 ≤ lo) (hst : (st.map fun v => v.category).sum ≤ 8) {k : Int32 → gx_M → Option α} (hf : gx_b (fn_X2_takeAway (gy_k Y) μ c p1) k = some rr) (kk : ∀ (r : Int32) (m : gx_M), k r m = some rr → K m (pc + 3) L (st)) : K μ pc L (.int p1 :: .ref (gy_a Y c) :: st) := by
  obtain ⟨r, m, e, hk⟩ := gx_b_some hf
  exact gw_callV (As := [.int p1]) (q := (r, m)) h hc.1 (by decide) rfl (by refine ⟨rfl, by decide, by decide, (show (parseMethodDescriptor yX2_takeAway.desc).map (fun d => d.parameters.length) = some 1 by decide +kernel)⟩) kw_ml_RX6_145 kw_im_X2_takeAway kw_se_X2_takeAway kw_in_RX2 kw_co_X2_takeAway hR hst d (ct_X2_takeAway l Y μ c p1 (r, m) hc e) (kk r m hk)
def fn_X6_oneIf (kd : Nat → Nat) (μ : gx_M) (p0 : Int32) : Option (Int32 × gx_M) :=
  (if p0 = 0 then
some (0, μ)
else
some (1, μ))
set_option maxRecDepth 100000 in
set_option maxHeartbeats 4000000 in
theorem ct_X6_oneIf (l : Launch) (Y : gx_Y) (μ : gx_M) (p0 : Int32) (rr : Int32 × gx_M) (hf : fn_X6_oneIf (gy_k Y) μ p0 = some rr) : gx_Con l yX6_oneIf cX6_oneIf 1 (some .int) 0 0 Y [.int p0] μ rr := by
  refine gx_Con_of (L0 := [(0, .int p0)]) (by decide) (Nat.le_of_ble_eq_true rfl) rfl (fun K hK => ?_)
  unfold fn_X6_oneIf at hf
  refine gw_iload_n (pc := 0) hK 0 dX6_oneIf_0 rfl rfl ?_
  refine gw_if_eq (tgt := 8) (pc := 1) hK dX6_oneIf_1 (by decide) hf (fun cc1 hf => ?_) (fun cc1 hf => ?_)
  ·
    refine gw_iconst (v := 0) (pc := 8) hK dX6_oneIf_8 (by decide) ?_
    exact gw_ret_i (pc := 9) hK dX6_oneIf_9 (Option.some.inj hf)
  ·
    refine gw_iconst (v := 1) (pc := 4) hK dX6_oneIf_4 (by decide) ?_
    refine gw_goto (tgt := 9) (pc := 5) hK dX6_oneIf_5 (by decide) ?_
    exact gw_ret_i (pc := 9) hK dX6_oneIf_9 (Option.some.inj hf)
theorem gv_X2_72 {l : Launch} {cc : ByteArray} {nL fr lo : Nat} {ret : Option FieldType} {Y : gx_Y} {Post : Value → gx_M → Prop} {K : gx_KT} {pc : Nat} {μ : gx_M} {L : List (Nat × Value)} {st : List Value} {α : Type} {rr : α} (h : gx_K l RX2 cc nL fr lo ret Y Post K) {p0 : Int32} (d : decode cc pc = .ok (.invokestatic 72, 3)) (hR : 0 + 1 ≤ fr ∧ 20 ≤ lo) (hst : (st.map fun v => v.category).sum ≤ 8) {k : Int32 → gx_M → Option α} (hf : gx_b (fn_X6_oneIf (gy_k Y) μ p0) k = some rr) (kk : ∀ (r : Int32) (m : gx_M), k r m = some rr → K m (pc + 3) L (.int r :: st)) : K μ pc L (.int p0 :: st) := by
  obtain ⟨r, m, e, hk⟩ := gx_b_some hf
  exact gw_callSN (host := RX6) (As := [.int p0]) (q := (r, m)) h (by refine ⟨by decide, by decide, (show (parseMethodDescriptor yX6_oneIf.desc).map (fun d => d.parameters.length) = some 1 by decide +kernel)⟩) (List.mem_of_getElem? (i := 1) rfl) kw_st_X6_oneIf kw_in_RX6 kw_co_X6_oneIf hR hst d (ct_X6_oneIf l Y μ p0 (r, m)  e) (kk r m hk)
def fn_X2_property (kd : Nat → Nat) (μ : gx_M) (c : Nat) (p1 : Int32) (p2 : Int32) (p3 : Int32) : Option (Int32 × gx_M) :=
  (if p2 = 0 then
gx_b (fn_X3_get kd μ (c + 1) p1) (fun r2 m3 =>
some (r2, m3))
else
(if p2 = 1 then
gx_b (fn_X3_get kd μ (c + 3) p1) (fun r5 m6 =>
some (r5, m6))
else
(if p2 = 2 then
gx_b (fn_X2_phraseOf kd μ c p1 p3) (fun r8 m9 =>
some (r8, m9))
else
(if p2 = 3 then
gx_b (fn_X3_get kd μ (c + 5) p1) (fun r11 m12 =>
(if r11 = 0 then
gx_b (fn_X6_oneIf kd m12 0) (fun r14 m15 =>
some (r14, m15))
else
gx_b (fn_X6_oneIf kd m12 1) (fun r16 m17 =>
some (r16, m17))))
else
(if p2 = 4 then
gx_b (fn_X2_sounded kd μ c p1) (fun r19 m20 =>
(if r19 = 0 then
some ((-100004), m20)
else
gx_b (fn_X3_get kd m20 (c + 7) p1) (fun r22 m23 =>
some (r22, m23))))
else
(if p2 = 5 then
gx_b (fn_X2_sounded kd μ c p1) (fun r25 m26 =>
(if r25 = 0 then
some ((-100004), m26)
else
gx_b (fn_X3_get kd m26 (c + 9) p1) (fun r28 m29 =>
some (r28, m29))))
else
(if p2 = 6 then
gx_b (fn_X2_sounded kd μ c p1) (fun r31 m32 =>
(if r31 = 0 then
some ((-100004), m32)
else
gx_b (fn_X3_get kd m32 (c + 5) p1) (fun r34 m35 =>
(if r34 = 3 then
gx_b (fn_X6_oneIf kd m35 1) (fun r39 m40 =>
some (r39, m40))
else
gx_b (fn_X6_oneIf kd m35 0) (fun r37 m38 =>
some (r37, m38))))))
else
some ((-100001), μ))))))))
set_option maxRecDepth 100000 in
set_option maxHeartbeats 4000000 in
theorem ct_X2_property (l : Launch) (Y : gx_Y) (μ : gx_M) (c : Nat) (p1 : Int32) (p2 : Int32) (p3 : Int32) (rr : Int32 × gx_M) (hc : gk_piece Y c) (hf : fn_X2_property (gy_k Y) μ c p1 p2 p3 = some rr) : gx_Con l yX2_property cX2_property 4 (some .int) 3 67 Y [.ref (gy_a Y c), .int p1, .int p2, .int p3] μ rr := by
  refine gx_Con_of (L0 := [(0, .ref (gy_a Y c)), (1, .int p1), (2, .int p2), (3, .int p3)]) (by decide) (Nat.le_of_ble_eq_true rfl) rfl (fun K hK => ?_)
  unfold fn_X2_property at hf
  refine gw_iload_n (pc := 0) hK 2 dX2_property_0 rfl rfl ?_
  by_cases cs1 : p2 = 0
  · replace hf := gx_pos cs1 hf
    refine gw_tblIn (tgt := 44) (pc := 1) hK dX2_property_1 (by rw [cs1]; decide) (by rw [cs1]; decide) (by rw [cs1]; rfl) (by decide) ?_
    refine gw_aload_n (pc := 44) hK 0 dX2_property_44 rfl rfl ?_
    refine gf_X2_14 (pc := 45) hK hc.1 dX2_property_45 ?_
    refine gw_iload_n (pc := 48) hK 1 dX2_property_48 rfl rfl ?_
    refine gv_X2_36 (pc := 49) hK hc.2.1 dX2_property_49 (by decide) (Nat.le_of_ble_eq_true rfl) hf (fun r2 m3 hf => ?_)
    exact gw_ret_i (pc := 52) hK dX2_property_52 (Option.some.inj hf)
  replace hf := gx_neg cs1 hf
  by_cases cs4 : p2 = 1
  · replace hf := gx_pos cs4 hf
    refine gw_tblIn (tgt := 53) (pc := 1) hK dX2_property_1 (by rw [cs4]; decide) (by rw [cs4]; decide) (by rw [cs4]; rfl) (by decide) ?_
    refine gw_aload_n (pc := 53) hK 0 dX2_property_53 rfl rfl ?_
    refine gf_X2_20 (pc := 54) hK hc.1 dX2_property_54 ?_
    refine gw_iload_n (pc := 57) hK 1 dX2_property_57 rfl rfl ?_
    refine gv_X2_36 (pc := 58) hK hc.2.2.1 dX2_property_58 (by decide) (Nat.le_of_ble_eq_true rfl) hf (fun r5 m6 hf => ?_)
    exact gw_ret_i (pc := 61) hK dX2_property_61 (Option.some.inj hf)
  replace hf := gx_neg cs4 hf
  by_cases cs7 : p2 = 2
  · replace hf := gx_pos cs7 hf
    refine gw_tblIn (tgt := 62) (pc := 1) hK dX2_property_1 (by rw [cs7]; decide) (by rw [cs7]; decide) (by rw [cs7]; rfl) (by decide) ?_
    refine gw_aload_n (pc := 62) hK 0 dX2_property_62 rfl rfl ?_
    refine gw_iload_n (pc := 63) hK 1 dX2_property_63 rfl rfl ?_
    refine gw_iload_n (pc := 64) hK 3 dX2_property_64 rfl rfl ?_
    refine gv_X2_62 (pc := 65) hK hc dX2_property_65 (by decide) (Nat.le_of_ble_eq_true rfl) hf (fun r8 m9 hf => ?_)
    exact gw_ret_i (pc := 68) hK dX2_property_68 (Option.some.inj hf)
  replace hf := gx_neg cs7 hf
  by_cases cs10 : p2 = 3
  · replace hf := gx_pos cs10 hf
    refine gw_tblIn (tgt := 69) (pc := 1) hK dX2_property_1 (by rw [cs10]; decide) (by rw [cs10]; decide) (by rw [cs10]; rfl) (by decide) ?_
    refine gw_aload_n (pc := 69) hK 0 dX2_property_69 rfl rfl ?_
    refine gf_X2_23 (pc := 70) hK hc.1 dX2_property_70 ?_
    refine gw_iload_n (pc := 73) hK 1 dX2_property_73 rfl rfl ?_
    refine gv_X2_36 (pc := 74) hK hc.2.2.2.1 dX2_property_74 (by decide) (Nat.le_of_ble_eq_true rfl) hf (fun r11 m12 hf => ?_)
    refine gw_if_eq (tgt := 84) (pc := 77) hK dX2_property_77 (by decide) hf (fun cc13 hf => ?_) (fun cc13 hf => ?_)
    ·
      refine gw_iconst (v := 0) (pc := 84) hK dX2_property_84 (by decide) ?_
      refine gv_X2_72 (pc := 85) hK dX2_property_85 (by decide) (Nat.le_of_ble_eq_true rfl) hf (fun r14 m15 hf => ?_)
      exact gw_ret_i (pc := 88) hK dX2_property_88 (Option.some.inj hf)
    ·
      refine gw_iconst (v := 1) (pc := 80) hK dX2_property_80 (by decide) ?_
      refine gw_goto (tgt := 85) (pc := 81) hK dX2_property_81 (by decide) ?_
      refine gv_X2_72 (pc := 85) hK dX2_property_85 (by decide) (Nat.le_of_ble_eq_true rfl) hf (fun r16 m17 hf => ?_)
      exact gw_ret_i (pc := 88) hK dX2_property_88 (Option.some.inj hf)
  replace hf := gx_neg cs10 hf
  by_cases cs18 : p2 = 4
  · replace hf := gx_pos cs18 hf
    refine gw_tblIn (tgt := 89) (pc := 1) hK dX2_property_1 (by rw [cs18]; decide) (by rw [cs18]; decide) (by rw [cs18]; rfl) (by decide) ?_
    refine gw_aload_n (pc := 89) hK 0 dX2_property_89 rfl rfl ?_
    refine gw_iload_n (pc := 90) hK 1 dX2_property_90 rfl rfl ?_
    refine gv_X2_76 (pc := 91) hK hc dX2_property_91 (by decide) (Nat.le_of_ble_eq_true rfl) hf (fun r19 m20 hf => ?_)
    refine gw_if_eq (tgt := 108) (pc := 94) hK dX2_property_94 (by decide) hf (fun cc21 hf => ?_) (fun cc21 hf => ?_)
    ·
      refine gw_ldc (pc := 108) hK dX2_property_108 kw_k_RX2_80 ?_
      exact gw_ret_i (pc := 110) hK dX2_property_110 (Option.some.inj hf)
    ·
      refine gw_aload_n (pc := 97) hK 0 dX2_property_97 rfl rfl ?_
      refine gf_X2_26 (pc := 98) hK hc.1 dX2_property_98 ?_
      refine gw_iload_n (pc := 101) hK 1 dX2_property_101 rfl rfl ?_
      refine gv_X2_36 (pc := 102) hK hc.2.2.2.2.1 dX2_property_102 (by decide) (Nat.le_of_ble_eq_true rfl) hf (fun r22 m23 hf => ?_)
      refine gw_goto (tgt := 110) (pc := 105) hK dX2_property_105 (by decide) ?_
      exact gw_ret_i (pc := 110) hK dX2_property_110 (Option.some.inj hf)
  replace hf := gx_neg cs18 hf
  by_cases cs24 : p2 = 5
  · replace hf := gx_pos cs24 hf
    refine gw_tblIn (tgt := 111) (pc := 1) hK dX2_property_1 (by rw [cs24]; decide) (by rw [cs24]; decide) (by rw [cs24]; rfl) (by decide) ?_
    refine gw_aload_n (pc := 111) hK 0 dX2_property_111 rfl rfl ?_
    refine gw_iload_n (pc := 112) hK 1 dX2_property_112 rfl rfl ?_
    refine gv_X2_76 (pc := 113) hK hc dX2_property_113 (by decide) (Nat.le_of_ble_eq_true rfl) hf (fun r25 m26 hf => ?_)
    refine gw_if_eq (tgt := 130) (pc := 116) hK dX2_property_116 (by decide) hf (fun cc27 hf => ?_) (fun cc27 hf => ?_)
    ·
      refine gw_ldc (pc := 130) hK dX2_property_130 kw_k_RX2_80 ?_
      exact gw_ret_i (pc := 132) hK dX2_property_132 (Option.some.inj hf)
    ·
      refine gw_aload_n (pc := 119) hK 0 dX2_property_119 rfl rfl ?_
      refine gf_X2_29 (pc := 120) hK hc.1 dX2_property_120 ?_
      refine gw_iload_n (pc := 123) hK 1 dX2_property_123 rfl rfl ?_
      refine gv_X2_36 (pc := 124) hK hc.2.2.2.2.2 dX2_property_124 (by decide) (Nat.le_of_ble_eq_true rfl) hf (fun r28 m29 hf => ?_)
      refine gw_goto (tgt := 132) (pc := 127) hK dX2_property_127 (by decide) ?_
      exact gw_ret_i (pc := 132) hK dX2_property_132 (Option.some.inj hf)
  replace hf := gx_neg cs24 hf
  by_cases cs30 : p2 = 6
  · replace hf := gx_pos cs30 hf
    refine gw_tblIn (tgt := 133) (pc := 1) hK dX2_property_1 (by rw [cs30]; decide) (by rw [cs30]; decide) (by rw [cs30]; rfl) (by decide) ?_
    refine gw_aload_n (pc := 133) hK 0 dX2_property_133 rfl rfl ?_
    refine gw_iload_n (pc := 134) hK 1 dX2_property_134 rfl rfl ?_
    refine gv_X2_76 (pc := 135) hK hc dX2_property_135 (by decide) (Nat.le_of_ble_eq_true rfl) hf (fun r31 m32 hf => ?_)
    refine gw_if_eq (tgt := 164) (pc := 138) hK dX2_property_138 (by decide) hf (fun cc33 hf => ?_) (fun cc33 hf => ?_)
    ·
      refine gw_ldc (pc := 164) hK dX2_property_164 kw_k_RX2_80 ?_
      exact gw_ret_i (pc := 166) hK dX2_property_166 (Option.some.inj hf)
    ·
      refine gw_aload_n (pc := 141) hK 0 dX2_property_141 rfl rfl ?_
      refine gf_X2_23 (pc := 142) hK hc.1 dX2_property_142 ?_
      refine gw_iload_n (pc := 145) hK 1 dX2_property_145 rfl rfl ?_
      refine gv_X2_36 (pc := 146) hK hc.2.2.2.1 dX2_property_146 (by decide) (Nat.le_of_ble_eq_true rfl) hf (fun r34 m35 hf => ?_)
      refine gw_iconst (v := 3) (pc := 149) hK dX2_property_149 (by decide) ?_
      refine gw_icmp_ne (tgt := 157) (pc := 150) hK dX2_property_150 (by decide) hf (fun cc36 hf => ?_) (fun cc36 hf => ?_)
      ·
        refine gw_iconst (v := 0) (pc := 157) hK dX2_property_157 (by decide) ?_
        refine gv_X2_72 (pc := 158) hK dX2_property_158 (by decide) (Nat.le_of_ble_eq_true rfl) hf (fun r37 m38 hf => ?_)
        refine gw_goto (tgt := 166) (pc := 161) hK dX2_property_161 (by decide) ?_
        exact gw_ret_i (pc := 166) hK dX2_property_166 (Option.some.inj hf)
      ·
        refine gw_iconst (v := 1) (pc := 153) hK dX2_property_153 (by decide) ?_
        refine gw_goto (tgt := 158) (pc := 154) hK dX2_property_154 (by decide) ?_
        refine gv_X2_72 (pc := 158) hK dX2_property_158 (by decide) (Nat.le_of_ble_eq_true rfl) hf (fun r39 m40 hf => ?_)
        refine gw_goto (tgt := 166) (pc := 161) hK dX2_property_161 (by decide) ?_
        exact gw_ret_i (pc := 166) hK dX2_property_166 (Option.some.inj hf)
  replace hf := gx_neg cs30 hf
  have ncs1 := lv_neT cs1 (a := 0) (by decide)
  have ncs4 := lv_neT cs4 (a := 1) (by decide)
  have ncs7 := lv_neT cs7 (a := 2) (by decide)
  have ncs10 := lv_neT cs10 (a := 3) (by decide)
  have ncs18 := lv_neT cs18 (a := 4) (by decide)
  have ncs24 := lv_neT cs24 (a := 5) (by decide)
  have ncs30 := lv_neT cs30 (a := 6) (by decide)
  refine gw_tblOut (tgt := 167) (pc := 1) hK dX2_property_1 (by omega) (by decide) ?_
  refine gw_ldc (pc := 167) hK dX2_property_167 kw_k_RX2_81 ?_
  exact gw_ret_i (pc := 169) hK dX2_property_169 (Option.some.inj hf)
theorem gv_X6_153 {l : Launch} {cc : ByteArray} {nL fr lo : Nat} {ret : Option FieldType} {Y : gx_Y} {Post : Value → gx_M → Prop} {K : gx_KT} {pc : Nat} {μ : gx_M} {L : List (Nat × Value)} {st : List Value} {α : Type} {rr : α} (h : gx_K l RX6 cc nL fr lo ret Y Post K) {c : Nat} {p1 : Int32} {p2 : Int32} {p3 : Int32} (hc : gk_piece Y c) (d : decode cc pc = .ok (.invokevirtual 153, 3)) (hR : 3 + 1 ≤ fr ∧ 90 ≤ lo) (hst : (st.map fun v => v.category).sum ≤ 8) {k : Int32 → gx_M → Option α} (hf : gx_b (fn_X2_property (gy_k Y) μ c p1 p2 p3) k = some rr) (kk : ∀ (r : Int32) (m : gx_M), k r m = some rr → K m (pc + 3) L (.int r :: st)) : K μ pc L (.int p3 :: .int p2 :: .int p1 :: .ref (gy_a Y c) :: st) := by
  obtain ⟨r, m, e, hk⟩ := gx_b_some hf
  exact gw_callV (As := [.int p1, .int p2, .int p3]) (q := (r, m)) h hc.1 (by decide) rfl (by refine ⟨rfl, by decide, by decide, (show (parseMethodDescriptor yX2_property.desc).map (fun d => d.parameters.length) = some 3 by decide +kernel)⟩) kw_ml_RX6_153 kw_im_X2_property kw_se_X2_property kw_in_RX2 kw_co_X2_property hR hst d (ct_X2_property l Y μ c p1 p2 p3 (r, m) hc e) (kk r m hk)
def lf_X2_canShift_3 (kd : Nat → Nat) (c0 : Nat) (q1 : Int32) (q2 : Int32) (q3 : Int32) (k : gx_M → Int32 → Option (Int32 × gx_M)) : Nat → gx_M → Int32 → Option (Int32 × gx_M)
  | 0, _, _ => none
  | n + 1, μ, x4 => (if q2 < x4 then
k μ x4
else
gx_b (fn_X3_get kd μ (c0 + 3) x4) (fun r2 m3 =>
gx_b (fn_X6_isWithin kd m3 (r2 + q3) 0 6000) (fun r4 m5 =>
(if r4 = 0 then
some (0, m5)
else
lf_X2_canShift_3 kd c0 q1 q2 q3 k n m5 (x4 + 1)))))
def fn_X2_canShift (kd : Nat → Nat) (μ : gx_M) (c : Nat) (p1 : Int32) (p2 : Int32) (p3 : Int32) : Option (Int32 × gx_M) :=
  lf_X2_canShift_3 kd c p1 p2 p3 (fun m7 y8 =>
some (1, m7)) gx_F μ p1
set_option maxRecDepth 100000 in
set_option maxHeartbeats 4000000 in
theorem lt_X2_canShift_3 {l : Launch} {Y : gx_Y} {rr : Int32 × gx_M} {K : gx_KT} (hK : gx_K l RX2 cX2_canShift 5 1 22 (some .boolean) Y (gx_P rr) K) (c0 : Nat) (q1 : Int32) (q2 : Int32) (q3 : Int32) (hc0 : gk_piece Y c0) (k : gx_M → Int32 → Option (Int32 × gx_M)) (hx : ∀ (μ : gx_M) (x4 : Int32), k μ x4 = some rr → K μ 38 [(0, .ref (gy_a Y c0)), (1, .int q1), (2, .int q2), (3, .int q3), (4, .int x4)] []) :
    ∀ (n : Nat) (μ : gx_M) (x4 : Int32), lf_X2_canShift_3 (gy_k Y) c0 q1 q2 q3 k n μ x4 = some rr → K μ 3 [(0, .ref (gy_a Y c0)), (1, .int q1), (2, .int q2), (3, .int q3), (4, .int x4)] [] := by
  intro n
  induction n with
  | zero =>
    intro μ x4 hf
    exact absurd hf (by simp [lf_X2_canShift_3])
  | succ n ih =>
    intro μ x4 hf
    rw [lf_X2_canShift_3] at hf
    refine gw_iload (pc := 3) hK 4 dX2_canShift_3 rfl ?_
    refine gw_iload_n (pc := 5) hK 2 dX2_canShift_5 rfl rfl ?_
    refine gw_icmp_gt (tgt := 38) (pc := 6) hK dX2_canShift_6 (by decide) hf (fun cc1 hf => ?_) (fun cc1 hf => ?_)
    ·
      refine gw_sub (L' := [(0, .ref (gy_a Y c0)), (1, .int q1), (2, .int q2), (3, .int q3), (4, .int x4)]) hK [0, 1, 2, 3, 4] rfl (hx _ _ hf)
    ·
      refine gw_aload_n (pc := 9) hK 0 dX2_canShift_9 rfl rfl ?_
      refine gf_X2_20 (pc := 10) hK hc0.1 dX2_canShift_10 ?_
      refine gw_iload (pc := 13) hK 4 dX2_canShift_13 rfl ?_
      refine gv_X2_36 (pc := 15) hK hc0.2.2.1 dX2_canShift_15 (by decide) (Nat.le_of_ble_eq_true rfl) hf (fun r2 m3 hf => ?_)
      refine gw_iload_n (pc := 18) hK 3 dX2_canShift_18 rfl rfl ?_
      refine gw_iadd (pc := 19) hK dX2_canShift_19 ?_
      refine gw_iconst (v := 0) (pc := 20) hK dX2_canShift_20 (by decide) ?_
      refine gw_sipush (v := 6000) (pc := 21) hK dX2_canShift_21 (by decide) ?_
      refine gv_X2_51 (pc := 24) hK dX2_canShift_24 (by decide) (Nat.le_of_ble_eq_true rfl) hf (fun r4 m5 hf => ?_)
      refine gw_if_ne (tgt := 32) (pc := 27) hK dX2_canShift_27 (by decide) hf (fun cc6 hf => ?_) (fun cc6 hf => ?_)
      ·
        refine gw_iinc (v := (x4 + 1)) (L' := [(4, .int (x4 + 1)), (0, .ref (gy_a Y c0)), (1, .int q1), (2, .int q2), (3, .int q3)]) (pc := 32) hK 4 dX2_canShift_32 rfl rfl (by decide) rfl ?_
        refine gw_goto (tgt := 3) (pc := 35) hK dX2_canShift_35 (by decide) ?_
        refine gw_sub (L' := [(0, .ref (gy_a Y c0)), (1, .int q1), (2, .int q2), (3, .int q3), (4, .int (x4 + 1))]) hK [1, 2, 3, 4, 0] rfl (ih _ _ hf)
      ·
        refine gw_iconst (v := 0) (pc := 30) hK dX2_canShift_30 (by decide) ?_
        exact gw_ret_z (pc := 31) hK dX2_canShift_31 rfl (Option.some.inj hf)
set_option maxRecDepth 100000 in
set_option maxHeartbeats 4000000 in
theorem ct_X2_canShift (l : Launch) (Y : gx_Y) (μ : gx_M) (c : Nat) (p1 : Int32) (p2 : Int32) (p3 : Int32) (rr : Int32 × gx_M) (hc : gk_piece Y c) (hf : fn_X2_canShift (gy_k Y) μ c p1 p2 p3 = some rr) : gx_Con l yX2_canShift cX2_canShift 5 (some .boolean) 1 22 Y [.ref (gy_a Y c), .int p1, .int p2, .int p3] μ rr := by
  refine gx_Con_of (L0 := [(0, .ref (gy_a Y c)), (1, .int p1), (2, .int p2), (3, .int p3)]) (by decide) (Nat.le_of_ble_eq_true rfl) rfl (fun K hK => ?_)
  unfold fn_X2_canShift at hf
  refine gw_iload_n (pc := 0) hK 1 dX2_canShift_0 rfl rfl ?_
  refine gw_istore (L' := [(4, .int p1), (0, .ref (gy_a Y c)), (1, .int p1), (2, .int p2), (3, .int p3)]) (pc := 1) hK dX2_canShift_1 (by decide) rfl ?_
  refine gw_sub (L' := [(0, .ref (gy_a Y c)), (1, .int p1), (2, .int p2), (3, .int p3), (4, .int p1)]) hK [1, 2, 3, 4, 0] rfl (lt_X2_canShift_3 hK c p1 p2 p3 hc _ (fun m7 y8 hf => ?_) gx_F _ _ hf)
  refine gw_iconst (v := 1) (pc := 38) hK dX2_canShift_38 (by decide) ?_
  exact gw_ret_z (pc := 39) hK dX2_canShift_39 rfl (Option.some.inj hf)
theorem gv_X6_146 {l : Launch} {cc : ByteArray} {nL fr lo : Nat} {ret : Option FieldType} {Y : gx_Y} {Post : Value → gx_M → Prop} {K : gx_KT} {pc : Nat} {μ : gx_M} {L : List (Nat × Value)} {st : List Value} {α : Type} {rr : α} (h : gx_K l RX6 cc nL fr lo ret Y Post K) {c : Nat} {p1 : Int32} {p2 : Int32} {p3 : Int32} (hc : gk_piece Y c) (d : decode cc pc = .ok (.invokevirtual 146, 3)) (hR : 1 + 1 ≤ fr ∧ 46 ≤ lo) (hst : (st.map fun v => v.category).sum ≤ 8) {k : Int32 → gx_M → Option α} (hf : gx_b (fn_X2_canShift (gy_k Y) μ c p1 p2 p3) k = some rr) (kk : ∀ (r : Int32) (m : gx_M), k r m = some rr → K m (pc + 3) L (.int r :: st)) : K μ pc L (.int p3 :: .int p2 :: .int p1 :: .ref (gy_a Y c) :: st) := by
  obtain ⟨r, m, e, hk⟩ := gx_b_some hf
  exact gw_callV (As := [.int p1, .int p2, .int p3]) (q := (r, m)) h hc.1 (by decide) rfl (by refine ⟨rfl, by decide, by decide, (show (parseMethodDescriptor yX2_canShift.desc).map (fun d => d.parameters.length) = some 3 by decide +kernel)⟩) kw_ml_RX6_146 kw_im_X2_canShift kw_se_X2_canShift kw_in_RX2 kw_co_X2_canShift hR hst d (ct_X2_canShift l Y μ c p1 p2 p3 (r, m) hc e) (kk r m hk)
def lf_X2_shift_3 (kd : Nat → Nat) (c0 : Nat) (q1 : Int32) (q2 : Int32) (q3 : Int32) (k : gx_M → Int32 → Option (Int32 × gx_M)) : Nat → gx_M → Int32 → Option (Int32 × gx_M)
  | 0, _, _ => none
  | n + 1, μ, x4 => (if q2 < x4 then
k μ x4
else
gx_b (fn_X3_add kd μ (c0 + 3) x4 q3) (fun _ m3 =>
lf_X2_shift_3 kd c0 q1 q2 q3 k n m3 (x4 + 1)))
def fn_X2_shift (kd : Nat → Nat) (μ : gx_M) (c : Nat) (p1 : Int32) (p2 : Int32) (p3 : Int32) : Option (Int32 × gx_M) :=
  lf_X2_shift_3 kd c p1 p2 p3 (fun m4 y5 =>
some (0, m4)) gx_F μ p1
set_option maxRecDepth 100000 in
set_option maxHeartbeats 4000000 in
theorem lt_X2_shift_3 {l : Launch} {Y : gx_Y} {rr : Int32 × gx_M} {K : gx_KT} (hK : gx_K l RX2 cX2_shift 5 2 44 none Y (gx_P rr) K) (c0 : Nat) (q1 : Int32) (q2 : Int32) (q3 : Int32) (hc0 : gk_piece Y c0) (k : gx_M → Int32 → Option (Int32 × gx_M)) (hx : ∀ (μ : gx_M) (x4 : Int32), k μ x4 = some rr → K μ 25 [(0, .ref (gy_a Y c0)), (1, .int q1), (2, .int q2), (3, .int q3), (4, .int x4)] []) :
    ∀ (n : Nat) (μ : gx_M) (x4 : Int32), lf_X2_shift_3 (gy_k Y) c0 q1 q2 q3 k n μ x4 = some rr → K μ 3 [(0, .ref (gy_a Y c0)), (1, .int q1), (2, .int q2), (3, .int q3), (4, .int x4)] [] := by
  intro n
  induction n with
  | zero =>
    intro μ x4 hf
    exact absurd hf (by simp [lf_X2_shift_3])
  | succ n ih =>
    intro μ x4 hf
    rw [lf_X2_shift_3] at hf
    refine gw_iload (pc := 3) hK 4 dX2_shift_3 rfl ?_
    refine gw_iload_n (pc := 5) hK 2 dX2_shift_5 rfl rfl ?_
    refine gw_icmp_gt (tgt := 25) (pc := 6) hK dX2_shift_6 (by decide) hf (fun cc1 hf => ?_) (fun cc1 hf => ?_)
    ·
      refine gw_sub (L' := [(0, .ref (gy_a Y c0)), (1, .int q1), (2, .int q2), (3, .int q3), (4, .int x4)]) hK [0, 1, 2, 3, 4] rfl (hx _ _ hf)
    ·
      refine gw_aload_n (pc := 9) hK 0 dX2_shift_9 rfl rfl ?_
      refine gf_X2_20 (pc := 10) hK hc0.1 dX2_shift_10 ?_
      refine gw_iload (pc := 13) hK 4 dX2_shift_13 rfl ?_
      refine gw_iload_n (pc := 15) hK 3 dX2_shift_15 rfl rfl ?_
      refine gv_X2_55 (pc := 16) hK hc0.2.2.1 dX2_shift_16 (by decide) (Nat.le_of_ble_eq_true rfl) hf (fun _ m3 hf => ?_)
      refine gw_iinc (v := (x4 + 1)) (L' := [(4, .int (x4 + 1)), (0, .ref (gy_a Y c0)), (1, .int q1), (2, .int q2), (3, .int q3)]) (pc := 19) hK 4 dX2_shift_19 rfl rfl (by decide) rfl ?_
      refine gw_goto (tgt := 3) (pc := 22) hK dX2_shift_22 (by decide) ?_
      refine gw_sub (L' := [(0, .ref (gy_a Y c0)), (1, .int q1), (2, .int q2), (3, .int q3), (4, .int (x4 + 1))]) hK [1, 2, 3, 4, 0] rfl (ih _ _ hf)
set_option maxRecDepth 100000 in
set_option maxHeartbeats 4000000 in
theorem ct_X2_shift (l : Launch) (Y : gx_Y) (μ : gx_M) (c : Nat) (p1 : Int32) (p2 : Int32) (p3 : Int32) (rr : Int32 × gx_M) (hc : gk_piece Y c) (hf : fn_X2_shift (gy_k Y) μ c p1 p2 p3 = some rr) : gx_Con l yX2_shift cX2_shift 5 none 2 44 Y [.ref (gy_a Y c), .int p1, .int p2, .int p3] μ rr := by
  refine gx_Con_of (L0 := [(0, .ref (gy_a Y c)), (1, .int p1), (2, .int p2), (3, .int p3)]) (by decide) (Nat.le_of_ble_eq_true rfl) rfl (fun K hK => ?_)
  unfold fn_X2_shift at hf
  refine gw_iload_n (pc := 0) hK 1 dX2_shift_0 rfl rfl ?_
  refine gw_istore (L' := [(4, .int p1), (0, .ref (gy_a Y c)), (1, .int p1), (2, .int p2), (3, .int p3)]) (pc := 1) hK dX2_shift_1 (by decide) rfl ?_
  refine gw_sub (L' := [(0, .ref (gy_a Y c)), (1, .int p1), (2, .int p2), (3, .int p3), (4, .int p1)]) hK [1, 2, 3, 4, 0] rfl (lt_X2_shift_3 hK c p1 p2 p3 hc _ (fun m4 y5 hf => ?_) gx_F _ _ hf)
  exact gw_ret_v (pc := 25) hK dX2_shift_25 (Option.some.inj hf)
theorem gv_X6_149 {l : Launch} {cc : ByteArray} {nL fr lo : Nat} {ret : Option FieldType} {Y : gx_Y} {Post : Value → gx_M → Prop} {K : gx_KT} {pc : Nat} {μ : gx_M} {L : List (Nat × Value)} {st : List Value} {α : Type} {rr : α} (h : gx_K l RX6 cc nL fr lo ret Y Post K) {c : Nat} {p1 : Int32} {p2 : Int32} {p3 : Int32} (hc : gk_piece Y c) (d : decode cc pc = .ok (.invokevirtual 149, 3)) (hR : 2 + 1 ≤ fr ∧ 68 ≤ lo) (hst : (st.map fun v => v.category).sum ≤ 8) {k : Int32 → gx_M → Option α} (hf : gx_b (fn_X2_shift (gy_k Y) μ c p1 p2 p3) k = some rr) (kk : ∀ (r : Int32) (m : gx_M), k r m = some rr → K m (pc + 3) L (st)) : K μ pc L (.int p3 :: .int p2 :: .int p1 :: .ref (gy_a Y c) :: st) := by
  obtain ⟨r, m, e, hk⟩ := gx_b_some hf
  exact gw_callV (As := [.int p1, .int p2, .int p3]) (q := (r, m)) h hc.1 (by decide) rfl (by refine ⟨rfl, by decide, by decide, (show (parseMethodDescriptor yX2_shift.desc).map (fun d => d.parameters.length) = some 3 by decide +kernel)⟩) kw_ml_RX6_149 kw_im_X2_shift kw_se_X2_shift kw_in_RX2 kw_co_X2_shift hR hst d (ct_X2_shift l Y μ c p1 p2 p3 (r, m) hc e) (kk r m hk)
def lf_X2_rankOf_4 (kd : Nat → Nat) (c0 : Nat) (q1 : Int32) (k : gx_M → Int32 → Int32 → Option (Int32 × gx_M)) : Nat → gx_M → Int32 → Int32 → Option (Int32 × gx_M)
  | 0, _, _, _ => none
  | n + 1, μ, x2, x3 => (if μ c0 5 ≤ x3 then
k μ x2 x3
else
gx_b (fn_X2_errorSize kd μ c0 x3) (fun r2 m3 =>
gx_b (fn_X2_errorSize kd m3 c0 q1) (fun r4 m5 =>
(if r2 ≤ r4 then
gx_b (fn_X2_errorSize kd m5 c0 x3) (fun r7 m8 =>
gx_b (fn_X2_errorSize kd m8 c0 q1) (fun r9 m10 =>
(if r7 = r9 then
(if q1 ≤ x3 then
gx_b (fn_X2_sounded kd m10 c0 x3) (fun r18 m19 =>
(if r18 = 0 then
lf_X2_rankOf_4 kd c0 q1 k n m19 x2 (x3 + 1)
else
lf_X2_rankOf_4 kd c0 q1 k n m19 x2 (x3 + 1)))
else
gx_b (fn_X2_sounded kd m10 c0 x3) (fun r23 m24 =>
(if r23 = 0 then
lf_X2_rankOf_4 kd c0 q1 k n m24 x2 (x3 + 1)
else
lf_X2_rankOf_4 kd c0 q1 k n m24 (x2 + 1) (x3 + 1))))
else
gx_b (fn_X2_sounded kd m10 c0 x3) (fun r12 m13 =>
(if r12 = 0 then
lf_X2_rankOf_4 kd c0 q1 k n m13 x2 (x3 + 1)
else
lf_X2_rankOf_4 kd c0 q1 k n m13 x2 (x3 + 1))))))
else
gx_b (fn_X2_errorSize kd m5 c0 x3) (fun r28 m29 =>
gx_b (fn_X2_errorSize kd m29 c0 q1) (fun r30 m31 =>
(if r28 = r30 then
(if q1 ≤ x3 then
gx_b (fn_X2_sounded kd m31 c0 x3) (fun r38 m39 =>
(if r38 = 0 then
lf_X2_rankOf_4 kd c0 q1 k n m39 x2 (x3 + 1)
else
lf_X2_rankOf_4 kd c0 q1 k n m39 (x2 + 1) (x3 + 1)))
else
gx_b (fn_X2_sounded kd m31 c0 x3) (fun r42 m43 =>
(if r42 = 0 then
lf_X2_rankOf_4 kd c0 q1 k n m43 x2 (x3 + 1)
else
lf_X2_rankOf_4 kd c0 q1 k n m43 (x2 + 1) (x3 + 1))))
else
gx_b (fn_X2_sounded kd m31 c0 x3) (fun r33 m34 =>
(if r33 = 0 then
lf_X2_rankOf_4 kd c0 q1 k n m34 x2 (x3 + 1)
else
lf_X2_rankOf_4 kd c0 q1 k n m34 (x2 + 1) (x3 + 1))))))))))
def fn_X2_rankOf (kd : Nat → Nat) (μ : gx_M) (c : Nat) (p1 : Int32) : Option (Int32 × gx_M) :=
  lf_X2_rankOf_4 kd c p1 (fun m46 y47 y48 =>
some (y47, m46)) gx_F μ 0 0
set_option maxRecDepth 100000 in
set_option maxHeartbeats 4000000 in
theorem lt_X2_rankOf_4 {l : Launch} {Y : gx_Y} {rr : Int32 × gx_M} {K : gx_KT} (hK : gx_K l RX2 cX2_rankOf 6 2 42 (some .int) Y (gx_P rr) K) (c0 : Nat) (q1 : Int32) (hc0 : gk_piece Y c0) (k : gx_M → Int32 → Int32 → Option (Int32 × gx_M)) (hx : ∀ (μ : gx_M) (x2 : Int32) (x3 : Int32), k μ x2 x3 = some rr → K μ 84 [(0, .ref (gy_a Y c0)), (1, .int q1), (2, .int x2), (3, .int x3)] []) :
    ∀ (n : Nat) (μ : gx_M) (x2 : Int32) (x3 : Int32), lf_X2_rankOf_4 (gy_k Y) c0 q1 k n μ x2 x3 = some rr → K μ 4 [(0, .ref (gy_a Y c0)), (1, .int q1), (2, .int x2), (3, .int x3)] [] := by
  intro n
  induction n with
  | zero =>
    intro μ x2 x3 hf
    exact absurd hf (by simp [lf_X2_rankOf_4])
  | succ n ih =>
    intro μ x2 x3 hf
    rw [lf_X2_rankOf_4] at hf
    refine gw_iload_n (pc := 4) hK 3 dX2_rankOf_4 rfl rfl ?_
    refine gw_aload_n (pc := 5) hK 0 dX2_rankOf_5 rfl rfl ?_
    refine gf_X2_32 (pc := 6) hK hc0.1 dX2_rankOf_6 ?_
    refine gw_icmp_ge (tgt := 84) (pc := 9) hK dX2_rankOf_9 (by decide) hf (fun cc1 hf => ?_) (fun cc1 hf => ?_)
    ·
      refine gw_sub (L' := [(0, .ref (gy_a Y c0)), (1, .int q1), (2, .int x2), (3, .int x3)]) hK [0, 1, 2, 3] rfl (hx _ _ _ hf)
    ·
      refine gw_aload_n (pc := 12) hK 0 dX2_rankOf_12 rfl rfl ?_
      refine gw_iload_n (pc := 13) hK 3 dX2_rankOf_13 rfl rfl ?_
      refine gv_X2_90 (pc := 14) hK hc0 dX2_rankOf_14 (by decide) (Nat.le_of_ble_eq_true rfl) hf (fun r2 m3 hf => ?_)
      refine gw_aload_n (pc := 17) hK 0 dX2_rankOf_17 rfl rfl ?_
      refine gw_iload_n (pc := 18) hK 1 dX2_rankOf_18 rfl rfl ?_
      refine gv_X2_90 (pc := 19) hK hc0 dX2_rankOf_19 (by decide) (Nat.le_of_ble_eq_true rfl) hf (fun r4 m5 hf => ?_)
      refine gw_icmp_le (tgt := 29) (pc := 22) hK dX2_rankOf_22 (by decide) hf (fun cc6 hf => ?_) (fun cc6 hf => ?_)
      ·
        refine gw_iconst (v := 0) (pc := 29) hK dX2_rankOf_29 (by decide) ?_
        refine gw_istore (L' := [(4, .int 0), (0, .ref (gy_a Y c0)), (1, .int q1), (2, .int x2), (3, .int x3)]) (pc := 30) hK dX2_rankOf_30 (by decide) rfl ?_
        refine gw_aload_n (pc := 32) hK 1 dX2_rankOf_32 rfl rfl ?_
        refine gw_iload_n (pc := 33) hK 4 dX2_rankOf_33 rfl rfl ?_
        refine gv_X2_90 (pc := 34) hK hc0 dX2_rankOf_34 (by decide) (Nat.le_of_ble_eq_true rfl) hf (fun r7 m8 hf => ?_)
        refine gw_aload_n (pc := 37) hK 1 dX2_rankOf_37 rfl rfl ?_
        refine gw_iload_n (pc := 38) hK 2 dX2_rankOf_38 rfl rfl ?_
        refine gv_X2_90 (pc := 39) hK hc0 dX2_rankOf_39 (by decide) (Nat.le_of_ble_eq_true rfl) hf (fun r9 m10 hf => ?_)
        refine gw_icmp_ne (tgt := 54) (pc := 42) hK dX2_rankOf_42 (by decide) hf (fun cc11 hf => ?_) (fun cc11 hf => ?_)
        ·
          refine gw_iconst (v := 0) (pc := 54) hK dX2_rankOf_54 (by decide) ?_
          refine gw_istore (L' := [(5, .int 0), (4, .int 0), (0, .ref (gy_a Y c0)), (1, .int q1), (2, .int x2), (3, .int x3)]) (pc := 55) hK dX2_rankOf_55 (by decide) rfl ?_
          refine gw_aload_n (pc := 57) hK 2 dX2_rankOf_57 rfl rfl ?_
          refine gw_iload_n (pc := 58) hK 5 dX2_rankOf_58 rfl rfl ?_
          refine gv_X2_76 (pc := 59) hK hc0 dX2_rankOf_59 (by decide) (Nat.le_of_ble_eq_true rfl) hf (fun r12 m13 hf => ?_)
          refine gw_if_eq (tgt := 78) (pc := 62) hK dX2_rankOf_62 (by decide) hf (fun cc14 hf => ?_) (fun cc14 hf => ?_)
          ·
            refine gw_iinc (v := (x3 + 1)) (L' := [(3, .int (x3 + 1)), (5, .int 0), (4, .int 0), (0, .ref (gy_a Y c0)), (1, .int q1), (2, .int x2)]) (pc := 78) hK 5 dX2_rankOf_78 rfl rfl (by decide) rfl ?_
            refine gw_goto (tgt := 4) (pc := 81) hK dX2_rankOf_81 (by decide) ?_
            refine gw_sub (L' := [(0, .ref (gy_a Y c0)), (1, .int q1), (2, .int x2), (3, .int (x3 + 1))]) hK [3, 4, 5, 0] rfl (ih _ _ _ hf)
          ·
            refine gw_iload (pc := 65) hK 1 dX2_rankOf_65 rfl ?_
            refine gw_if_ne_c (tgt := 75) (pc := 67) hK dX2_rankOf_67 (by decide) (fun cc15 => absurd cc15 (by decide)) (fun _ => ?_)
            refine gw_iload (pc := 70) hK 0 dX2_rankOf_70 rfl ?_
            refine gw_if_eq_c (tgt := 78) (pc := 72) hK dX2_rankOf_72 (by decide) (fun _ => ?_) (fun cc16 => absurd cc16 (by decide))
            refine gw_iinc (v := (x3 + 1)) (L' := [(3, .int (x3 + 1)), (5, .int 0), (4, .int 0), (0, .ref (gy_a Y c0)), (1, .int q1), (2, .int x2)]) (pc := 78) hK 5 dX2_rankOf_78 rfl rfl (by decide) rfl ?_
            refine gw_goto (tgt := 4) (pc := 81) hK dX2_rankOf_81 (by decide) ?_
            refine gw_sub (L' := [(0, .ref (gy_a Y c0)), (1, .int q1), (2, .int x2), (3, .int (x3 + 1))]) hK [3, 4, 5, 0] rfl (ih _ _ _ hf)
        ·
          refine gw_iload_n (pc := 45) hK 4 dX2_rankOf_45 rfl rfl ?_
          refine gw_iload_n (pc := 46) hK 2 dX2_rankOf_46 rfl rfl ?_
          refine gw_icmp_ge (tgt := 54) (pc := 47) hK dX2_rankOf_47 (by decide) hf (fun cc17 hf => ?_) (fun cc17 hf => ?_)
          ·
            refine gw_iconst (v := 0) (pc := 54) hK dX2_rankOf_54 (by decide) ?_
            refine gw_istore (L' := [(5, .int 0), (4, .int 0), (0, .ref (gy_a Y c0)), (1, .int q1), (2, .int x2), (3, .int x3)]) (pc := 55) hK dX2_rankOf_55 (by decide) rfl ?_
            refine gw_aload_n (pc := 57) hK 2 dX2_rankOf_57 rfl rfl ?_
            refine gw_iload_n (pc := 58) hK 5 dX2_rankOf_58 rfl rfl ?_
            refine gv_X2_76 (pc := 59) hK hc0 dX2_rankOf_59 (by decide) (Nat.le_of_ble_eq_true rfl) hf (fun r18 m19 hf => ?_)
            refine gw_if_eq (tgt := 78) (pc := 62) hK dX2_rankOf_62 (by decide) hf (fun cc20 hf => ?_) (fun cc20 hf => ?_)
            ·
              refine gw_iinc (v := (x3 + 1)) (L' := [(3, .int (x3 + 1)), (5, .int 0), (4, .int 0), (0, .ref (gy_a Y c0)), (1, .int q1), (2, .int x2)]) (pc := 78) hK 5 dX2_rankOf_78 rfl rfl (by decide) rfl ?_
              refine gw_goto (tgt := 4) (pc := 81) hK dX2_rankOf_81 (by decide) ?_
              refine gw_sub (L' := [(0, .ref (gy_a Y c0)), (1, .int q1), (2, .int x2), (3, .int (x3 + 1))]) hK [3, 4, 5, 0] rfl (ih _ _ _ hf)
            ·
              refine gw_iload (pc := 65) hK 1 dX2_rankOf_65 rfl ?_
              refine gw_if_ne_c (tgt := 75) (pc := 67) hK dX2_rankOf_67 (by decide) (fun cc21 => absurd cc21 (by decide)) (fun _ => ?_)
              refine gw_iload (pc := 70) hK 0 dX2_rankOf_70 rfl ?_
              refine gw_if_eq_c (tgt := 78) (pc := 72) hK dX2_rankOf_72 (by decide) (fun _ => ?_) (fun cc22 => absurd cc22 (by decide))
              refine gw_iinc (v := (x3 + 1)) (L' := [(3, .int (x3 + 1)), (5, .int 0), (4, .int 0), (0, .ref (gy_a Y c0)), (1, .int q1), (2, .int x2)]) (pc := 78) hK 5 dX2_rankOf_78 rfl rfl (by decide) rfl ?_
              refine gw_goto (tgt := 4) (pc := 81) hK dX2_rankOf_81 (by decide) ?_
              refine gw_sub (L' := [(0, .ref (gy_a Y c0)), (1, .int q1), (2, .int x2), (3, .int (x3 + 1))]) hK [3, 4, 5, 0] rfl (ih _ _ _ hf)
          ·
            refine gw_iconst (v := 1) (pc := 50) hK dX2_rankOf_50 (by decide) ?_
            refine gw_goto (tgt := 55) (pc := 51) hK dX2_rankOf_51 (by decide) ?_
            refine gw_istore (L' := [(5, .int 1), (4, .int 0), (0, .ref (gy_a Y c0)), (1, .int q1), (2, .int x2), (3, .int x3)]) (pc := 55) hK dX2_rankOf_55 (by decide) rfl ?_
            refine gw_aload_n (pc := 57) hK 2 dX2_rankOf_57 rfl rfl ?_
            refine gw_iload_n (pc := 58) hK 5 dX2_rankOf_58 rfl rfl ?_
            refine gv_X2_76 (pc := 59) hK hc0 dX2_rankOf_59 (by decide) (Nat.le_of_ble_eq_true rfl) hf (fun r23 m24 hf => ?_)
            refine gw_if_eq (tgt := 78) (pc := 62) hK dX2_rankOf_62 (by decide) hf (fun cc25 hf => ?_) (fun cc25 hf => ?_)
            ·
              refine gw_iinc (v := (x3 + 1)) (L' := [(3, .int (x3 + 1)), (5, .int 1), (4, .int 0), (0, .ref (gy_a Y c0)), (1, .int q1), (2, .int x2)]) (pc := 78) hK 5 dX2_rankOf_78 rfl rfl (by decide) rfl ?_
              refine gw_goto (tgt := 4) (pc := 81) hK dX2_rankOf_81 (by decide) ?_
              refine gw_sub (L' := [(0, .ref (gy_a Y c0)), (1, .int q1), (2, .int x2), (3, .int (x3 + 1))]) hK [3, 4, 5, 0] rfl (ih _ _ _ hf)
            ·
              refine gw_iload (pc := 65) hK 1 dX2_rankOf_65 rfl ?_
              refine gw_if_ne_c (tgt := 75) (pc := 67) hK dX2_rankOf_67 (by decide) (fun cc26 => absurd cc26 (by decide)) (fun _ => ?_)
              refine gw_iload (pc := 70) hK 0 dX2_rankOf_70 rfl ?_
              refine gw_if_eq_c (tgt := 78) (pc := 72) hK dX2_rankOf_72 (by decide) (fun cc27 => absurd cc27 (by decide)) (fun _ => ?_)
              refine gw_iinc (v := (x2 + 1)) (L' := [(2, .int (x2 + 1)), (5, .int 1), (4, .int 0), (0, .ref (gy_a Y c0)), (1, .int q1), (3, .int x3)]) (pc := 75) hK 4 dX2_rankOf_75 rfl rfl (by decide) rfl ?_
              refine gw_iinc (v := (x3 + 1)) (L' := [(3, .int (x3 + 1)), (2, .int (x2 + 1)), (5, .int 1), (4, .int 0), (0, .ref (gy_a Y c0)), (1, .int q1)]) (pc := 78) hK 5 dX2_rankOf_78 rfl rfl (by decide) rfl ?_
              refine gw_goto (tgt := 4) (pc := 81) hK dX2_rankOf_81 (by decide) ?_
              refine gw_sub (L' := [(0, .ref (gy_a Y c0)), (1, .int q1), (2, .int (x2 + 1)), (3, .int (x3 + 1))]) hK [4, 5, 1, 0] rfl (ih _ _ _ hf)
      ·
        refine gw_iconst (v := 1) (pc := 25) hK dX2_rankOf_25 (by decide) ?_
        refine gw_goto (tgt := 30) (pc := 26) hK dX2_rankOf_26 (by decide) ?_
        refine gw_istore (L' := [(4, .int 1), (0, .ref (gy_a Y c0)), (1, .int q1), (2, .int x2), (3, .int x3)]) (pc := 30) hK dX2_rankOf_30 (by decide) rfl ?_
        refine gw_aload_n (pc := 32) hK 1 dX2_rankOf_32 rfl rfl ?_
        refine gw_iload_n (pc := 33) hK 4 dX2_rankOf_33 rfl rfl ?_
        refine gv_X2_90 (pc := 34) hK hc0 dX2_rankOf_34 (by decide) (Nat.le_of_ble_eq_true rfl) hf (fun r28 m29 hf => ?_)
        refine gw_aload_n (pc := 37) hK 1 dX2_rankOf_37 rfl rfl ?_
        refine gw_iload_n (pc := 38) hK 2 dX2_rankOf_38 rfl rfl ?_
        refine gv_X2_90 (pc := 39) hK hc0 dX2_rankOf_39 (by decide) (Nat.le_of_ble_eq_true rfl) hf (fun r30 m31 hf => ?_)
        refine gw_icmp_ne (tgt := 54) (pc := 42) hK dX2_rankOf_42 (by decide) hf (fun cc32 hf => ?_) (fun cc32 hf => ?_)
        ·
          refine gw_iconst (v := 0) (pc := 54) hK dX2_rankOf_54 (by decide) ?_
          refine gw_istore (L' := [(5, .int 0), (4, .int 1), (0, .ref (gy_a Y c0)), (1, .int q1), (2, .int x2), (3, .int x3)]) (pc := 55) hK dX2_rankOf_55 (by decide) rfl ?_
          refine gw_aload_n (pc := 57) hK 2 dX2_rankOf_57 rfl rfl ?_
          refine gw_iload_n (pc := 58) hK 5 dX2_rankOf_58 rfl rfl ?_
          refine gv_X2_76 (pc := 59) hK hc0 dX2_rankOf_59 (by decide) (Nat.le_of_ble_eq_true rfl) hf (fun r33 m34 hf => ?_)
          refine gw_if_eq (tgt := 78) (pc := 62) hK dX2_rankOf_62 (by decide) hf (fun cc35 hf => ?_) (fun cc35 hf => ?_)
          ·
            refine gw_iinc (v := (x3 + 1)) (L' := [(3, .int (x3 + 1)), (5, .int 0), (4, .int 1), (0, .ref (gy_a Y c0)), (1, .int q1), (2, .int x2)]) (pc := 78) hK 5 dX2_rankOf_78 rfl rfl (by decide) rfl ?_
            refine gw_goto (tgt := 4) (pc := 81) hK dX2_rankOf_81 (by decide) ?_
            refine gw_sub (L' := [(0, .ref (gy_a Y c0)), (1, .int q1), (2, .int x2), (3, .int (x3 + 1))]) hK [3, 4, 5, 0] rfl (ih _ _ _ hf)
          ·
            refine gw_iload (pc := 65) hK 1 dX2_rankOf_65 rfl ?_
            refine gw_if_ne_c (tgt := 75) (pc := 67) hK dX2_rankOf_67 (by decide) (fun _ => ?_) (fun cc36 => absurd cc36 (by decide))
            refine gw_iinc (v := (x2 + 1)) (L' := [(2, .int (x2 + 1)), (5, .int 0), (4, .int 1), (0, .ref (gy_a Y c0)), (1, .int q1), (3, .int x3)]) (pc := 75) hK 4 dX2_rankOf_75 rfl rfl (by decide) rfl ?_
            refine gw_iinc (v := (x3 + 1)) (L' := [(3, .int (x3 + 1)), (2, .int (x2 + 1)), (5, .int 0), (4, .int 1), (0, .ref (gy_a Y c0)), (1, .int q1)]) (pc := 78) hK 5 dX2_rankOf_78 rfl rfl (by decide) rfl ?_
            refine gw_goto (tgt := 4) (pc := 81) hK dX2_rankOf_81 (by decide) ?_
            refine gw_sub (L' := [(0, .ref (gy_a Y c0)), (1, .int q1), (2, .int (x2 + 1)), (3, .int (x3 + 1))]) hK [4, 5, 1, 0] rfl (ih _ _ _ hf)
        ·
          refine gw_iload_n (pc := 45) hK 4 dX2_rankOf_45 rfl rfl ?_
          refine gw_iload_n (pc := 46) hK 2 dX2_rankOf_46 rfl rfl ?_
          refine gw_icmp_ge (tgt := 54) (pc := 47) hK dX2_rankOf_47 (by decide) hf (fun cc37 hf => ?_) (fun cc37 hf => ?_)
          ·
            refine gw_iconst (v := 0) (pc := 54) hK dX2_rankOf_54 (by decide) ?_
            refine gw_istore (L' := [(5, .int 0), (4, .int 1), (0, .ref (gy_a Y c0)), (1, .int q1), (2, .int x2), (3, .int x3)]) (pc := 55) hK dX2_rankOf_55 (by decide) rfl ?_
            refine gw_aload_n (pc := 57) hK 2 dX2_rankOf_57 rfl rfl ?_
            refine gw_iload_n (pc := 58) hK 5 dX2_rankOf_58 rfl rfl ?_
            refine gv_X2_76 (pc := 59) hK hc0 dX2_rankOf_59 (by decide) (Nat.le_of_ble_eq_true rfl) hf (fun r38 m39 hf => ?_)
            refine gw_if_eq (tgt := 78) (pc := 62) hK dX2_rankOf_62 (by decide) hf (fun cc40 hf => ?_) (fun cc40 hf => ?_)
            ·
              refine gw_iinc (v := (x3 + 1)) (L' := [(3, .int (x3 + 1)), (5, .int 0), (4, .int 1), (0, .ref (gy_a Y c0)), (1, .int q1), (2, .int x2)]) (pc := 78) hK 5 dX2_rankOf_78 rfl rfl (by decide) rfl ?_
              refine gw_goto (tgt := 4) (pc := 81) hK dX2_rankOf_81 (by decide) ?_
              refine gw_sub (L' := [(0, .ref (gy_a Y c0)), (1, .int q1), (2, .int x2), (3, .int (x3 + 1))]) hK [3, 4, 5, 0] rfl (ih _ _ _ hf)
            ·
              refine gw_iload (pc := 65) hK 1 dX2_rankOf_65 rfl ?_
              refine gw_if_ne_c (tgt := 75) (pc := 67) hK dX2_rankOf_67 (by decide) (fun _ => ?_) (fun cc41 => absurd cc41 (by decide))
              refine gw_iinc (v := (x2 + 1)) (L' := [(2, .int (x2 + 1)), (5, .int 0), (4, .int 1), (0, .ref (gy_a Y c0)), (1, .int q1), (3, .int x3)]) (pc := 75) hK 4 dX2_rankOf_75 rfl rfl (by decide) rfl ?_
              refine gw_iinc (v := (x3 + 1)) (L' := [(3, .int (x3 + 1)), (2, .int (x2 + 1)), (5, .int 0), (4, .int 1), (0, .ref (gy_a Y c0)), (1, .int q1)]) (pc := 78) hK 5 dX2_rankOf_78 rfl rfl (by decide) rfl ?_
              refine gw_goto (tgt := 4) (pc := 81) hK dX2_rankOf_81 (by decide) ?_
              refine gw_sub (L' := [(0, .ref (gy_a Y c0)), (1, .int q1), (2, .int (x2 + 1)), (3, .int (x3 + 1))]) hK [4, 5, 1, 0] rfl (ih _ _ _ hf)
          ·
            refine gw_iconst (v := 1) (pc := 50) hK dX2_rankOf_50 (by decide) ?_
            refine gw_goto (tgt := 55) (pc := 51) hK dX2_rankOf_51 (by decide) ?_
            refine gw_istore (L' := [(5, .int 1), (4, .int 1), (0, .ref (gy_a Y c0)), (1, .int q1), (2, .int x2), (3, .int x3)]) (pc := 55) hK dX2_rankOf_55 (by decide) rfl ?_
            refine gw_aload_n (pc := 57) hK 2 dX2_rankOf_57 rfl rfl ?_
            refine gw_iload_n (pc := 58) hK 5 dX2_rankOf_58 rfl rfl ?_
            refine gv_X2_76 (pc := 59) hK hc0 dX2_rankOf_59 (by decide) (Nat.le_of_ble_eq_true rfl) hf (fun r42 m43 hf => ?_)
            refine gw_if_eq (tgt := 78) (pc := 62) hK dX2_rankOf_62 (by decide) hf (fun cc44 hf => ?_) (fun cc44 hf => ?_)
            ·
              refine gw_iinc (v := (x3 + 1)) (L' := [(3, .int (x3 + 1)), (5, .int 1), (4, .int 1), (0, .ref (gy_a Y c0)), (1, .int q1), (2, .int x2)]) (pc := 78) hK 5 dX2_rankOf_78 rfl rfl (by decide) rfl ?_
              refine gw_goto (tgt := 4) (pc := 81) hK dX2_rankOf_81 (by decide) ?_
              refine gw_sub (L' := [(0, .ref (gy_a Y c0)), (1, .int q1), (2, .int x2), (3, .int (x3 + 1))]) hK [3, 4, 5, 0] rfl (ih _ _ _ hf)
            ·
              refine gw_iload (pc := 65) hK 1 dX2_rankOf_65 rfl ?_
              refine gw_if_ne_c (tgt := 75) (pc := 67) hK dX2_rankOf_67 (by decide) (fun _ => ?_) (fun cc45 => absurd cc45 (by decide))
              refine gw_iinc (v := (x2 + 1)) (L' := [(2, .int (x2 + 1)), (5, .int 1), (4, .int 1), (0, .ref (gy_a Y c0)), (1, .int q1), (3, .int x3)]) (pc := 75) hK 4 dX2_rankOf_75 rfl rfl (by decide) rfl ?_
              refine gw_iinc (v := (x3 + 1)) (L' := [(3, .int (x3 + 1)), (2, .int (x2 + 1)), (5, .int 1), (4, .int 1), (0, .ref (gy_a Y c0)), (1, .int q1)]) (pc := 78) hK 5 dX2_rankOf_78 rfl rfl (by decide) rfl ?_
              refine gw_goto (tgt := 4) (pc := 81) hK dX2_rankOf_81 (by decide) ?_
              refine gw_sub (L' := [(0, .ref (gy_a Y c0)), (1, .int q1), (2, .int (x2 + 1)), (3, .int (x3 + 1))]) hK [4, 5, 1, 0] rfl (ih _ _ _ hf)
set_option maxRecDepth 100000 in
set_option maxHeartbeats 4000000 in
theorem ct_X2_rankOf (l : Launch) (Y : gx_Y) (μ : gx_M) (c : Nat) (p1 : Int32) (rr : Int32 × gx_M) (hc : gk_piece Y c) (hf : fn_X2_rankOf (gy_k Y) μ c p1 = some rr) : gx_Con l yX2_rankOf cX2_rankOf 6 (some .int) 2 42 Y [.ref (gy_a Y c), .int p1] μ rr := by
  refine gx_Con_of (L0 := [(0, .ref (gy_a Y c)), (1, .int p1)]) (by decide) (Nat.le_of_ble_eq_true rfl) rfl (fun K hK => ?_)
  unfold fn_X2_rankOf at hf
  refine gw_iconst (v := 0) (pc := 0) hK dX2_rankOf_0 (by decide) ?_
  refine gw_istore_n (L' := [(2, .int 0), (0, .ref (gy_a Y c)), (1, .int p1)]) (pc := 1) hK dX2_rankOf_1 rfl (by decide) rfl ?_
  refine gw_iconst (v := 0) (pc := 2) hK dX2_rankOf_2 (by decide) ?_
  refine gw_istore_n (L' := [(3, .int 0), (2, .int 0), (0, .ref (gy_a Y c)), (1, .int p1)]) (pc := 3) hK dX2_rankOf_3 rfl (by decide) rfl ?_
  refine gw_sub (L' := [(0, .ref (gy_a Y c)), (1, .int p1), (2, .int 0), (3, .int 0)]) hK [2, 3, 1, 0] rfl (lt_X2_rankOf_4 hK c p1 hc _ (fun m46 y47 y48 hf => ?_) gx_F _ _ _ hf)
  refine gw_iload_n (pc := 84) hK 2 dX2_rankOf_84 rfl rfl ?_
  exact gw_ret_i (pc := 85) hK dX2_rankOf_85 (Option.some.inj hf)
theorem gv_X2_87 {l : Launch} {cc : ByteArray} {nL fr lo : Nat} {ret : Option FieldType} {Y : gx_Y} {Post : Value → gx_M → Prop} {K : gx_KT} {pc : Nat} {μ : gx_M} {L : List (Nat × Value)} {st : List Value} {α : Type} {rr : α} (h : gx_K l RX2 cc nL fr lo ret Y Post K) {c : Nat} {p1 : Int32} (hc : gk_piece Y c) (d : decode cc pc = .ok (.invokevirtual 87, 3)) (hR : 2 + 1 ≤ fr ∧ 67 ≤ lo) (hst : (st.map fun v => v.category).sum ≤ 8) {k : Int32 → gx_M → Option α} (hf : gx_b (fn_X2_rankOf (gy_k Y) μ c p1) k = some rr) (kk : ∀ (r : Int32) (m : gx_M), k r m = some rr → K m (pc + 3) L (.int r :: st)) : K μ pc L (.int p1 :: .ref (gy_a Y c) :: st) := by
  obtain ⟨r, m, e, hk⟩ := gx_b_some hf
  exact gw_callV (As := [.int p1]) (q := (r, m)) h hc.1 (by decide) rfl (by refine ⟨rfl, by decide, by decide, (show (parseMethodDescriptor yX2_rankOf.desc).map (fun d => d.parameters.length) = some 1 by decide +kernel)⟩) kw_ml_RX2_87 kw_im_X2_rankOf kw_se_X2_rankOf kw_in_RX2 kw_co_X2_rankOf hR hst d (ct_X2_rankOf l Y μ c p1 (r, m) hc e) (kk r m hk)
def lf_X2_noteAtRank_2 (kd : Nat → Nat) (c0 : Nat) (q1 : Int32) (k : gx_M → Int32 → Option (Int32 × gx_M)) : Nat → gx_M → Int32 → Option (Int32 × gx_M)
  | 0, _, _ => none
  | n + 1, μ, x2 => (if μ c0 5 ≤ x2 then
k μ x2
else
gx_b (fn_X2_sounded kd μ c0 x2) (fun r2 m3 =>
(if r2 = 0 then
lf_X2_noteAtRank_2 kd c0 q1 k n m3 (x2 + 1)
else
gx_b (fn_X2_rankOf kd m3 c0 x2) (fun r5 m6 =>
(if r5 = q1 then
some (x2, m6)
else
lf_X2_noteAtRank_2 kd c0 q1 k n m6 (x2 + 1))))))
def fn_X2_noteAtRank (kd : Nat → Nat) (μ : gx_M) (c : Nat) (p1 : Int32) : Option (Int32 × gx_M) :=
  lf_X2_noteAtRank_2 kd c p1 (fun m8 y9 =>
some ((-1), m8)) gx_F μ 0
set_option maxRecDepth 100000 in
set_option maxHeartbeats 4000000 in
theorem lt_X2_noteAtRank_2 {l : Launch} {Y : gx_Y} {rr : Int32 × gx_M} {K : gx_KT} (hK : gx_K l RX2 cX2_noteAtRank 3 3 67 (some .int) Y (gx_P rr) K) (c0 : Nat) (q1 : Int32) (hc0 : gk_piece Y c0) (k : gx_M → Int32 → Option (Int32 × gx_M)) (hx : ∀ (μ : gx_M) (x2 : Int32), k μ x2 = some rr → K μ 35 [(0, .ref (gy_a Y c0)), (1, .int q1), (2, .int x2)] []) :
    ∀ (n : Nat) (μ : gx_M) (x2 : Int32), lf_X2_noteAtRank_2 (gy_k Y) c0 q1 k n μ x2 = some rr → K μ 2 [(0, .ref (gy_a Y c0)), (1, .int q1), (2, .int x2)] [] := by
  intro n
  induction n with
  | zero =>
    intro μ x2 hf
    exact absurd hf (by simp [lf_X2_noteAtRank_2])
  | succ n ih =>
    intro μ x2 hf
    rw [lf_X2_noteAtRank_2] at hf
    refine gw_iload_n (pc := 2) hK 2 dX2_noteAtRank_2 rfl rfl ?_
    refine gw_aload_n (pc := 3) hK 0 dX2_noteAtRank_3 rfl rfl ?_
    refine gf_X2_32 (pc := 4) hK hc0.1 dX2_noteAtRank_4 ?_
    refine gw_icmp_ge (tgt := 35) (pc := 7) hK dX2_noteAtRank_7 (by decide) hf (fun cc1 hf => ?_) (fun cc1 hf => ?_)
    ·
      refine gw_sub (L' := [(0, .ref (gy_a Y c0)), (1, .int q1), (2, .int x2)]) hK [0, 1, 2] rfl (hx _ _ hf)
    ·
      refine gw_aload_n (pc := 10) hK 0 dX2_noteAtRank_10 rfl rfl ?_
      refine gw_iload_n (pc := 11) hK 2 dX2_noteAtRank_11 rfl rfl ?_
      refine gv_X2_76 (pc := 12) hK hc0 dX2_noteAtRank_12 (by decide) (Nat.le_of_ble_eq_true rfl) hf (fun r2 m3 hf => ?_)
      refine gw_if_eq (tgt := 29) (pc := 15) hK dX2_noteAtRank_15 (by decide) hf (fun cc4 hf => ?_) (fun cc4 hf => ?_)
      ·
        refine gw_iinc (v := (x2 + 1)) (L' := [(2, .int (x2 + 1)), (0, .ref (gy_a Y c0)), (1, .int q1)]) (pc := 29) hK 2 dX2_noteAtRank_29 rfl rfl (by decide) rfl ?_
        refine gw_goto (tgt := 2) (pc := 32) hK dX2_noteAtRank_32 (by decide) ?_
        refine gw_sub (L' := [(0, .ref (gy_a Y c0)), (1, .int q1), (2, .int (x2 + 1))]) hK [1, 2, 0] rfl (ih _ _ hf)
      ·
        refine gw_aload_n (pc := 18) hK 0 dX2_noteAtRank_18 rfl rfl ?_
        refine gw_iload_n (pc := 19) hK 2 dX2_noteAtRank_19 rfl rfl ?_
        refine gv_X2_87 (pc := 20) hK hc0 dX2_noteAtRank_20 (by decide) (Nat.le_of_ble_eq_true rfl) hf (fun r5 m6 hf => ?_)
        refine gw_iload_n (pc := 23) hK 1 dX2_noteAtRank_23 rfl rfl ?_
        refine gw_icmp_ne (tgt := 29) (pc := 24) hK dX2_noteAtRank_24 (by decide) hf (fun cc7 hf => ?_) (fun cc7 hf => ?_)
        ·
          refine gw_iinc (v := (x2 + 1)) (L' := [(2, .int (x2 + 1)), (0, .ref (gy_a Y c0)), (1, .int q1)]) (pc := 29) hK 2 dX2_noteAtRank_29 rfl rfl (by decide) rfl ?_
          refine gw_goto (tgt := 2) (pc := 32) hK dX2_noteAtRank_32 (by decide) ?_
          refine gw_sub (L' := [(0, .ref (gy_a Y c0)), (1, .int q1), (2, .int (x2 + 1))]) hK [1, 2, 0] rfl (ih _ _ hf)
        ·
          refine gw_iload_n (pc := 27) hK 2 dX2_noteAtRank_27 rfl rfl ?_
          exact gw_ret_i (pc := 28) hK dX2_noteAtRank_28 (Option.some.inj hf)
set_option maxRecDepth 100000 in
set_option maxHeartbeats 4000000 in
theorem ct_X2_noteAtRank (l : Launch) (Y : gx_Y) (μ : gx_M) (c : Nat) (p1 : Int32) (rr : Int32 × gx_M) (hc : gk_piece Y c) (hf : fn_X2_noteAtRank (gy_k Y) μ c p1 = some rr) : gx_Con l yX2_noteAtRank cX2_noteAtRank 3 (some .int) 3 67 Y [.ref (gy_a Y c), .int p1] μ rr := by
  refine gx_Con_of (L0 := [(0, .ref (gy_a Y c)), (1, .int p1)]) (by decide) (Nat.le_of_ble_eq_true rfl) rfl (fun K hK => ?_)
  unfold fn_X2_noteAtRank at hf
  refine gw_iconst (v := 0) (pc := 0) hK dX2_noteAtRank_0 (by decide) ?_
  refine gw_istore_n (L' := [(2, .int 0), (0, .ref (gy_a Y c)), (1, .int p1)]) (pc := 1) hK dX2_noteAtRank_1 rfl (by decide) rfl ?_
  refine gw_sub (L' := [(0, .ref (gy_a Y c)), (1, .int p1), (2, .int 0)]) hK [1, 2, 0] rfl (lt_X2_noteAtRank_2 hK c p1 hc _ (fun m8 y9 hf => ?_) gx_F _ _ hf)
  refine gw_iconst (v := (-1)) (pc := 35) hK dX2_noteAtRank_35 (by decide) ?_
  exact gw_ret_i (pc := 36) hK dX2_noteAtRank_36 (Option.some.inj hf)
theorem gv_X6_162 {l : Launch} {cc : ByteArray} {nL fr lo : Nat} {ret : Option FieldType} {Y : gx_Y} {Post : Value → gx_M → Prop} {K : gx_KT} {pc : Nat} {μ : gx_M} {L : List (Nat × Value)} {st : List Value} {α : Type} {rr : α} (h : gx_K l RX6 cc nL fr lo ret Y Post K) {c : Nat} {p1 : Int32} (hc : gk_piece Y c) (d : decode cc pc = .ok (.invokevirtual 162, 3)) (hR : 3 + 1 ≤ fr ∧ 89 ≤ lo) (hst : (st.map fun v => v.category).sum ≤ 8) {k : Int32 → gx_M → Option α} (hf : gx_b (fn_X2_noteAtRank (gy_k Y) μ c p1) k = some rr) (kk : ∀ (r : Int32) (m : gx_M), k r m = some rr → K m (pc + 3) L (.int r :: st)) : K μ pc L (.int p1 :: .ref (gy_a Y c) :: st) := by
  obtain ⟨r, m, e, hk⟩ := gx_b_some hf
  exact gw_callV (As := [.int p1]) (q := (r, m)) h hc.1 (by decide) rfl (by refine ⟨rfl, by decide, by decide, (show (parseMethodDescriptor yX2_noteAtRank.desc).map (fun d => d.parameters.length) = some 1 by decide +kernel)⟩) kw_ml_RX6_162 kw_im_X2_noteAtRank kw_se_X2_noteAtRank kw_in_RX2 kw_co_X2_noteAtRank hR hst d (ct_X2_noteAtRank l Y μ c p1 (r, m) hc e) (kk r m hk)
def fn_X2_errorOf (kd : Nat → Nat) (μ : gx_M) (c : Nat) (p1 : Int32) : Option (Int32 × gx_M) :=
  gx_b (fn_X3_get kd μ (c + 9) p1) (fun r1 m2 =>
some (r1, m2))
set_option maxRecDepth 100000 in
set_option maxHeartbeats 4000000 in
theorem ct_X2_errorOf (l : Launch) (Y : gx_Y) (μ : gx_M) (c : Nat) (p1 : Int32) (rr : Int32 × gx_M) (hc : gk_piece Y c) (hf : fn_X2_errorOf (gy_k Y) μ c p1 = some rr) : gx_Con l yX2_errorOf cX2_errorOf 2 (some .int) 1 21 Y [.ref (gy_a Y c), .int p1] μ rr := by
  refine gx_Con_of (L0 := [(0, .ref (gy_a Y c)), (1, .int p1)]) (by decide) (Nat.le_of_ble_eq_true rfl) rfl (fun K hK => ?_)
  unfold fn_X2_errorOf at hf
  refine gw_aload_n (pc := 0) hK 0 dX2_errorOf_0 rfl rfl ?_
  refine gf_X2_29 (pc := 1) hK hc.1 dX2_errorOf_1 ?_
  refine gw_iload_n (pc := 4) hK 1 dX2_errorOf_4 rfl rfl ?_
  refine gv_X2_36 (pc := 5) hK hc.2.2.2.2.2 dX2_errorOf_5 (by decide) (Nat.le_of_ble_eq_true rfl) hf (fun r1 m2 hf => ?_)
  exact gw_ret_i (pc := 8) hK dX2_errorOf_8 (Option.some.inj hf)
theorem gv_X6_172 {l : Launch} {cc : ByteArray} {nL fr lo : Nat} {ret : Option FieldType} {Y : gx_Y} {Post : Value → gx_M → Prop} {K : gx_KT} {pc : Nat} {μ : gx_M} {L : List (Nat × Value)} {st : List Value} {α : Type} {rr : α} (h : gx_K l RX6 cc nL fr lo ret Y Post K) {c : Nat} {p1 : Int32} (hc : gk_piece Y c) (d : decode cc pc = .ok (.invokevirtual 172, 3)) (hR : 1 + 1 ≤ fr ∧ 42 ≤ lo) (hst : (st.map fun v => v.category).sum ≤ 8) {k : Int32 → gx_M → Option α} (hf : gx_b (fn_X2_errorOf (gy_k Y) μ c p1) k = some rr) (kk : ∀ (r : Int32) (m : gx_M), k r m = some rr → K m (pc + 3) L (.int r :: st)) : K μ pc L (.int p1 :: .ref (gy_a Y c) :: st) := by
  obtain ⟨r, m, e, hk⟩ := gx_b_some hf
  exact gw_callV (As := [.int p1]) (q := (r, m)) h hc.1 (by decide) rfl (by refine ⟨rfl, by decide, by decide, (show (parseMethodDescriptor yX2_errorOf.desc).map (fun d => d.parameters.length) = some 1 by decide +kernel)⟩) kw_ml_RX6_172 kw_im_X2_errorOf kw_se_X2_errorOf kw_in_RX2 kw_co_X2_errorOf hR hst d (ct_X2_errorOf l Y μ c p1 (r, m) hc e) (kk r m hk)
def fn_X6_isSetting (kd : Nat → Nat) (μ : gx_M) (p0 : Int32) (p1 : Int32) : Option (Int32 × gx_M) :=
  (if p0 = 0 then
gx_b (fn_X6_isWithin kd μ p1 1 600) (fun r2 m3 =>
(if r2 = 0 ∨ r2 = 1 then some (r2, m3) else none))
else
(if p0 = 1 then
gx_b (fn_X6_isWithin kd μ p1 1 600) (fun r6 m7 =>
(if r6 = 0 ∨ r6 = 1 then some (r6, m7) else none))
else
(if p0 = 2 then
gx_b (fn_X6_isWithin kd μ p1 0 600) (fun r10 m11 =>
(if r10 = 0 ∨ r10 = 1 then some (r10, m11) else none))
else
(if p0 = 3 then
gx_b (fn_X6_isWithin kd μ p1 0 1) (fun r14 m15 =>
(if r14 = 0 ∨ r14 = 1 then some (r14, m15) else none))
else
some (0, μ)))))
set_option maxRecDepth 100000 in
set_option maxHeartbeats 4000000 in
theorem ct_X6_isSetting (l : Launch) (Y : gx_Y) (μ : gx_M) (p0 : Int32) (p1 : Int32) (rr : Int32 × gx_M) (hf : fn_X6_isSetting (gy_k Y) μ p0 p1 = some rr) : gx_Con l yX6_isSetting cX6_isSetting 2 (some .boolean) 1 22 Y [.int p0, .int p1] μ rr := by
  refine gx_Con_of (L0 := [(0, .int p0), (1, .int p1)]) (by decide) (Nat.le_of_ble_eq_true rfl) rfl (fun K hK => ?_)
  unfold fn_X6_isSetting at hf
  refine gw_iload_n (pc := 0) hK 0 dX6_isSetting_0 rfl rfl ?_
  by_cases cs1 : p0 = 0
  · replace hf := gx_pos cs1 hf
    refine gw_tblIn (tgt := 32) (pc := 1) hK dX6_isSetting_1 (by rw [cs1]; decide) (by rw [cs1]; decide) (by rw [cs1]; rfl) (by decide) ?_
    refine gw_iload_n (pc := 32) hK 1 dX6_isSetting_32 rfl rfl ?_
    refine gw_iconst (v := 1) (pc := 33) hK dX6_isSetting_33 (by decide) ?_
    refine gw_sipush (v := 600) (pc := 34) hK dX6_isSetting_34 (by decide) ?_
    refine gv_X6_33 (pc := 37) hK dX6_isSetting_37 (by decide) (Nat.le_of_ble_eq_true rfl) hf (fun r2 m3 hf => ?_)
    obtain ⟨hz4, hf⟩ := gx_must hf
    exact gw_ret_z (pc := 40) hK dX6_isSetting_40 (gx_nar hz4) (Option.some.inj hf)
  replace hf := gx_neg cs1 hf
  by_cases cs5 : p0 = 1
  · replace hf := gx_pos cs5 hf
    refine gw_tblIn (tgt := 41) (pc := 1) hK dX6_isSetting_1 (by rw [cs5]; decide) (by rw [cs5]; decide) (by rw [cs5]; rfl) (by decide) ?_
    refine gw_iload_n (pc := 41) hK 1 dX6_isSetting_41 rfl rfl ?_
    refine gw_iconst (v := 1) (pc := 42) hK dX6_isSetting_42 (by decide) ?_
    refine gw_sipush (v := 600) (pc := 43) hK dX6_isSetting_43 (by decide) ?_
    refine gv_X6_33 (pc := 46) hK dX6_isSetting_46 (by decide) (Nat.le_of_ble_eq_true rfl) hf (fun r6 m7 hf => ?_)
    obtain ⟨hz8, hf⟩ := gx_must hf
    exact gw_ret_z (pc := 49) hK dX6_isSetting_49 (gx_nar hz8) (Option.some.inj hf)
  replace hf := gx_neg cs5 hf
  by_cases cs9 : p0 = 2
  · replace hf := gx_pos cs9 hf
    refine gw_tblIn (tgt := 50) (pc := 1) hK dX6_isSetting_1 (by rw [cs9]; decide) (by rw [cs9]; decide) (by rw [cs9]; rfl) (by decide) ?_
    refine gw_iload_n (pc := 50) hK 1 dX6_isSetting_50 rfl rfl ?_
    refine gw_iconst (v := 0) (pc := 51) hK dX6_isSetting_51 (by decide) ?_
    refine gw_sipush (v := 600) (pc := 52) hK dX6_isSetting_52 (by decide) ?_
    refine gv_X6_33 (pc := 55) hK dX6_isSetting_55 (by decide) (Nat.le_of_ble_eq_true rfl) hf (fun r10 m11 hf => ?_)
    obtain ⟨hz12, hf⟩ := gx_must hf
    exact gw_ret_z (pc := 58) hK dX6_isSetting_58 (gx_nar hz12) (Option.some.inj hf)
  replace hf := gx_neg cs9 hf
  by_cases cs13 : p0 = 3
  · replace hf := gx_pos cs13 hf
    refine gw_tblIn (tgt := 59) (pc := 1) hK dX6_isSetting_1 (by rw [cs13]; decide) (by rw [cs13]; decide) (by rw [cs13]; rfl) (by decide) ?_
    refine gw_iload_n (pc := 59) hK 1 dX6_isSetting_59 rfl rfl ?_
    refine gw_iconst (v := 0) (pc := 60) hK dX6_isSetting_60 (by decide) ?_
    refine gw_iconst (v := 1) (pc := 61) hK dX6_isSetting_61 (by decide) ?_
    refine gv_X6_33 (pc := 62) hK dX6_isSetting_62 (by decide) (Nat.le_of_ble_eq_true rfl) hf (fun r14 m15 hf => ?_)
    obtain ⟨hz16, hf⟩ := gx_must hf
    exact gw_ret_z (pc := 65) hK dX6_isSetting_65 (gx_nar hz16) (Option.some.inj hf)
  replace hf := gx_neg cs13 hf
  have ncs1 := lv_neT cs1 (a := 0) (by decide)
  have ncs5 := lv_neT cs5 (a := 1) (by decide)
  have ncs9 := lv_neT cs9 (a := 2) (by decide)
  have ncs13 := lv_neT cs13 (a := 3) (by decide)
  refine gw_tblOut (tgt := 66) (pc := 1) hK dX6_isSetting_1 (by omega) (by decide) ?_
  refine gw_iconst (v := 0) (pc := 66) hK dX6_isSetting_66 (by decide) ?_
  exact gw_ret_z (pc := 67) hK dX6_isSetting_67 rfl (Option.some.inj hf)
theorem gv_X6_95 {l : Launch} {cc : ByteArray} {nL fr lo : Nat} {ret : Option FieldType} {Y : gx_Y} {Post : Value → gx_M → Prop} {K : gx_KT} {pc : Nat} {μ : gx_M} {L : List (Nat × Value)} {st : List Value} {α : Type} {rr : α} (h : gx_K l RX6 cc nL fr lo ret Y Post K) {p0 : Int32} {p1 : Int32} (d : decode cc pc = .ok (.invokestatic 95, 3)) (hR : 1 + 1 ≤ fr ∧ 43 ≤ lo) (hst : (st.map fun v => v.category).sum ≤ 8) {k : Int32 → gx_M → Option α} (hf : gx_b (fn_X6_isSetting (gy_k Y) μ p0 p1) k = some rr) (kk : ∀ (r : Int32) (m : gx_M), k r m = some rr → K m (pc + 3) L (.int r :: st)) : K μ pc L (.int p1 :: .int p0 :: st) := by
  obtain ⟨r, m, e, hk⟩ := gx_b_some hf
  exact gw_callS (As := [.int p0, .int p1]) (q := (r, m)) h (by refine ⟨rfl, by decide, by decide, (show (parseMethodDescriptor yX6_isSetting.desc).map (fun d => d.parameters.length) = some 2 by decide +kernel)⟩) kw_ml_RX6_95 kw_st_X6_isSetting kw_in_RX6 kw_co_X6_isSetting hR hst d (ct_X6_isSetting l Y μ p0 p1 (r, m)  e) (kk r m hk)
def lf_X2_forgetPlaying_2 (kd : Nat → Nat) (c0 : Nat) (k : gx_M → Int32 → Option (Int32 × gx_M)) : Nat → gx_M → Int32 → Option (Int32 × gx_M)
  | 0, _, _ => none
  | n + 1, μ, x1 => (if μ c0 5 ≤ x1 then
k μ x1
else
gx_b (fn_X3_put kd μ (c0 + 5) x1 0) (fun _ m3 =>
lf_X2_forgetPlaying_2 kd c0 k n m3 (x1 + 1)))
def fn_X2_forgetPlaying (kd : Nat → Nat) (μ : gx_M) (c : Nat) : Option (Int32 × gx_M) :=
  lf_X2_forgetPlaying_2 kd c (fun m4 y5 =>
some (0, m4)) gx_F μ 0
set_option maxRecDepth 100000 in
set_option maxHeartbeats 4000000 in
theorem lt_X2_forgetPlaying_2 {l : Launch} {Y : gx_Y} {rr : Int32 × gx_M} {K : gx_KT} (hK : gx_K l RX2 cX2_forgetPlaying 2 1 22 none Y (gx_P rr) K) (c0 : Nat) (hc0 : gk_piece Y c0) (k : gx_M → Int32 → Option (Int32 × gx_M)) (hx : ∀ (μ : gx_M) (x1 : Int32), k μ x1 = some rr → K μ 25 [(0, .ref (gy_a Y c0)), (1, .int x1)] []) :
    ∀ (n : Nat) (μ : gx_M) (x1 : Int32), lf_X2_forgetPlaying_2 (gy_k Y) c0 k n μ x1 = some rr → K μ 2 [(0, .ref (gy_a Y c0)), (1, .int x1)] [] := by
  intro n
  induction n with
  | zero =>
    intro μ x1 hf
    exact absurd hf (by simp [lf_X2_forgetPlaying_2])
  | succ n ih =>
    intro μ x1 hf
    rw [lf_X2_forgetPlaying_2] at hf
    refine gw_iload_n (pc := 2) hK 1 dX2_forgetPlaying_2 rfl rfl ?_
    refine gw_aload_n (pc := 3) hK 0 dX2_forgetPlaying_3 rfl rfl ?_
    refine gf_X2_32 (pc := 4) hK hc0.1 dX2_forgetPlaying_4 ?_
    refine gw_icmp_ge (tgt := 25) (pc := 7) hK dX2_forgetPlaying_7 (by decide) hf (fun cc1 hf => ?_) (fun cc1 hf => ?_)
    ·
      refine gw_sub (L' := [(0, .ref (gy_a Y c0)), (1, .int x1)]) hK [0, 1] rfl (hx _ _ hf)
    ·
      refine gw_aload_n (pc := 10) hK 0 dX2_forgetPlaying_10 rfl rfl ?_
      refine gf_X2_23 (pc := 11) hK hc0.1 dX2_forgetPlaying_11 ?_
      refine gw_iload_n (pc := 14) hK 1 dX2_forgetPlaying_14 rfl rfl ?_
      refine gw_iconst (v := 0) (pc := 15) hK dX2_forgetPlaying_15 (by decide) ?_
      refine gv_X2_66 (pc := 16) hK hc0.2.2.2.1 dX2_forgetPlaying_16 (by decide) (Nat.le_of_ble_eq_true rfl) hf (fun _ m3 hf => ?_)
      refine gw_iinc (v := (x1 + 1)) (L' := [(1, .int (x1 + 1)), (0, .ref (gy_a Y c0))]) (pc := 19) hK 1 dX2_forgetPlaying_19 rfl rfl (by decide) rfl ?_
      refine gw_goto (tgt := 2) (pc := 22) hK dX2_forgetPlaying_22 (by decide) ?_
      refine gw_sub (L' := [(0, .ref (gy_a Y c0)), (1, .int (x1 + 1))]) hK [1, 0] rfl (ih _ _ hf)
set_option maxRecDepth 100000 in
set_option maxHeartbeats 4000000 in
theorem ct_X2_forgetPlaying (l : Launch) (Y : gx_Y) (μ : gx_M) (c : Nat) (rr : Int32 × gx_M) (hc : gk_piece Y c) (hf : fn_X2_forgetPlaying (gy_k Y) μ c = some rr) : gx_Con l yX2_forgetPlaying cX2_forgetPlaying 2 none 1 22 Y [.ref (gy_a Y c)] μ rr := by
  refine gx_Con_of (L0 := [(0, .ref (gy_a Y c))]) (by decide) (Nat.le_of_ble_eq_true rfl) rfl (fun K hK => ?_)
  unfold fn_X2_forgetPlaying at hf
  refine gw_iconst (v := 0) (pc := 0) hK dX2_forgetPlaying_0 (by decide) ?_
  refine gw_istore_n (L' := [(1, .int 0), (0, .ref (gy_a Y c))]) (pc := 1) hK dX2_forgetPlaying_1 rfl (by decide) rfl ?_
  refine gw_sub (L' := [(0, .ref (gy_a Y c)), (1, .int 0)]) hK [1, 0] rfl (lt_X2_forgetPlaying_2 hK c hc _ (fun m4 y5 hf => ?_) gx_F _ _ hf)
  exact gw_ret_v (pc := 25) hK dX2_forgetPlaying_25 (Option.some.inj hf)
theorem gv_X4_46 {l : Launch} {cc : ByteArray} {nL fr lo : Nat} {ret : Option FieldType} {Y : gx_Y} {Post : Value → gx_M → Prop} {K : gx_KT} {pc : Nat} {μ : gx_M} {L : List (Nat × Value)} {st : List Value} {α : Type} {rr : α} (h : gx_K l RX4 cc nL fr lo ret Y Post K) {c : Nat} (hc : gk_piece Y c) (d : decode cc pc = .ok (.invokevirtual 46, 3)) (hR : 1 + 1 ≤ fr ∧ 43 ≤ lo) (hst : (st.map fun v => v.category).sum ≤ 8) {k : Int32 → gx_M → Option α} (hf : gx_b (fn_X2_forgetPlaying (gy_k Y) μ c) k = some rr) (kk : ∀ (r : Int32) (m : gx_M), k r m = some rr → K m (pc + 3) L (st)) : K μ pc L (.ref (gy_a Y c) :: st) := by
  obtain ⟨r, m, e, hk⟩ := gx_b_some hf
  exact gw_callV (As := []) (q := (r, m)) h hc.1 (by decide) rfl (by refine ⟨rfl, by decide, by decide, (show (parseMethodDescriptor yX2_forgetPlaying.desc).map (fun d => d.parameters.length) = some 0 by decide +kernel)⟩) kw_ml_RX4_46 kw_im_X2_forgetPlaying kw_se_X2_forgetPlaying kw_in_RX2 kw_co_X2_forgetPlaying hR hst d (ct_X2_forgetPlaying l Y μ c (r, m) hc e) (kk r m hk)
