def lf_L_types_3 (kd : Nat → Nat) (c0 : Nat) (q1 : Int64) (k : gx_M → Int32 → Option (Int32 × gx_M)) : Nat → gx_M → Int32 → Option (Int32 × gx_M)
  | 0, _, _ => none
  | n + 1, μ, x3 => (if x3 < 0 then
k μ x3
else
(if ((q1 >>> (Int32.toInt64 (8 * x3) &&& 63)) &&& 255).toInt32 = 0 then
lf_L_types_3 kd c0 q1 k n μ (x3 + (-1))
else
gx_b (fn_X6_type kd μ c0 (((q1 >>> (Int32.toInt64 (8 * x3) &&& 63)) &&& 255).toInt32)) (fun r3 m4 =>
lf_L_types_3 kd c0 q1 k n m4 (x3 + (-1)))))
def fn_L_types (kd : Nat → Nat) (μ : gx_M) (c0 : Nat) (p1 : Int64) : Option (Int32 × gx_M) :=
  lf_L_types_3 kd c0 p1 (fun m5 y6 =>
some (0, m5)) gx_F μ 7
set_option maxRecDepth 100000 in
set_option maxHeartbeats 4000000 in
theorem lt_L_types_3 {l : Launch} {Y : gx_Y} {rr : Int32 × gx_M} {K : gx_KT} (hK : gx_K l RL cL_types 5 3 64 none Y (gx_P rr) K) (c0 : Nat) (q1 : Int64) (hc0 : gk_bow Y c0) (k : gx_M → Int32 → Option (Int32 × gx_M)) (hx : ∀ (μ : gx_M) (x3 : Int32), k μ x3 = some rr → K μ 38 [(0, .ref (gy_a Y c0)), (1, .long q1), (3, .int x3)] []) :
    ∀ (n : Nat) (μ : gx_M) (x3 : Int32), lf_L_types_3 (gy_k Y) c0 q1 k n μ x3 = some rr → K μ 3 [(0, .ref (gy_a Y c0)), (1, .long q1), (3, .int x3)] [] := by
  intro n
  induction n with
  | zero =>
    intro μ x3 hf
    exact absurd hf (by simp [lf_L_types_3])
  | succ n ih =>
    intro μ x3 hf
    rw [lf_L_types_3] at hf
    refine gw_iload_n (pc := 3) hK 2 dL_types_3 rfl rfl ?_
    refine gw_if_lt (tgt := 38) (pc := 4) hK dL_types_4 (by decide) hf (fun cc1 hf => ?_) (fun cc1 hf => ?_)
    ·
      refine gw_sub (L' := [(0, .ref (gy_a Y c0)), (1, .long q1), (3, .int x3)]) hK [0, 1, 2] rfl (hx _ _ hf)
    ·
      refine gw_lload_n (pc := 7) hK 1 dL_types_7 rfl rfl ?_
      refine gw_bipush (v := 8) (pc := 8) hK dL_types_8 (by decide) ?_
      refine gw_iload_n (pc := 10) hK 2 dL_types_10 rfl rfl ?_
      refine gw_imul (pc := 11) hK dL_types_11 ?_
      refine gw_lshr (pc := 12) hK dL_types_12 ?_
      refine gw_ldc2 (pc := 13) hK dL_types_13 kw_kl_RL_108 ?_
      refine gw_land (pc := 16) hK dL_types_16 ?_
      refine gw_l2i (pc := 17) hK dL_types_17 ?_
      refine gw_istore (L' := [(4, .int (((q1 >>> (Int32.toInt64 (8 * x3) &&& 63)) &&& 255).toInt32)), (0, .ref (gy_a Y c0)), (1, .long q1), (3, .int x3)]) (pc := 18) hK dL_types_18 (by decide) rfl ?_
      refine gw_iload (pc := 20) hK 0 dL_types_20 rfl ?_
      refine gw_if_eq (tgt := 32) (pc := 22) hK dL_types_22 (by decide) hf (fun cc2 hf => ?_) (fun cc2 hf => ?_)
      ·
        refine gw_iinc (v := (x3 + (-1))) (L' := [(3, .int (x3 + (-1))), (4, .int (((q1 >>> (Int32.toInt64 (8 * x3) &&& 63)) &&& 255).toInt32)), (0, .ref (gy_a Y c0)), (1, .long q1)]) (pc := 32) hK 3 dL_types_32 rfl rfl (by decide) rfl ?_
        refine gw_goto (tgt := 3) (pc := 35) hK dL_types_35 (by decide) ?_
        refine gw_sub (L' := [(0, .ref (gy_a Y c0)), (1, .long q1), (3, .int (x3 + (-1)))]) hK [2, 3, 0] rfl (ih _ _ hf)
      ·
        refine gw_aload_n (pc := 25) hK 1 dL_types_25 rfl rfl ?_
        refine gw_iload (pc := 26) hK 0 dL_types_26 rfl ?_
        refine gv_L_102 (pc := 28) hK hc0 dL_types_28 (by decide) (Nat.le_of_ble_eq_true rfl) hf (fun r3 m4 hf => ?_)
        refine gw_pop (pc := 31) hK dL_types_31 rfl ?_
        refine gw_iinc (v := (x3 + (-1))) (L' := [(3, .int (x3 + (-1))), (4, .int (((q1 >>> (Int32.toInt64 (8 * x3) &&& 63)) &&& 255).toInt32)), (0, .ref (gy_a Y c0)), (1, .long q1)]) (pc := 32) hK 3 dL_types_32 rfl rfl (by decide) rfl ?_
        refine gw_goto (tgt := 3) (pc := 35) hK dL_types_35 (by decide) ?_
        refine gw_sub (L' := [(0, .ref (gy_a Y c0)), (1, .long q1), (3, .int (x3 + (-1)))]) hK [2, 3, 0] rfl (ih _ _ hf)
set_option maxRecDepth 100000 in
set_option maxHeartbeats 4000000 in
theorem ct_L_types (l : Launch) (Y : gx_Y) (μ : gx_M) (c0 : Nat) (p1 : Int64) (rr : Int32 × gx_M) (hc0 : gk_bow Y c0) (hf : fn_L_types (gy_k Y) μ c0 p1 = some rr) : gx_Con l yL_types cL_types 5 none 3 64 Y [.ref (gy_a Y c0), .long p1] μ rr := by
  refine gx_Con_of (L0 := [(0, .ref (gy_a Y c0)), (1, .long p1)]) (by decide) (Nat.le_of_ble_eq_true rfl) rfl (fun K hK => ?_)
  unfold fn_L_types at hf
  refine gw_bipush (v := 7) (pc := 0) hK dL_types_0 (by decide) ?_
  refine gw_istore_n (L' := [(3, .int 7), (0, .ref (gy_a Y c0)), (1, .long p1)]) (pc := 2) hK dL_types_2 rfl (by decide) rfl ?_
  refine gw_sub (L' := [(0, .ref (gy_a Y c0)), (1, .long p1), (3, .int 7)]) hK [1, 2, 0] rfl (lt_L_types_3 hK c0 p1 hc0 _ (fun m5 y6 hf => ?_) gx_F _ _ hf)
  exact gw_ret_v (pc := 38) hK dL_types_38 (Option.some.inj hf)
theorem gv_L_113 {l : Launch} {cc : ByteArray} {nL fr lo : Nat} {ret : Option FieldType} {Y : gx_Y} {Post : Value → gx_M → Prop} {K : gx_KT} {pc : Nat} {μ : gx_M} {L : List (Nat × Value)} {st : List Value} {α : Type} {rr : α} (h : gx_K l RL cc nL fr lo ret Y Post K) {c0 : Nat} {p1 : Int64} (hc0 : gk_bow Y c0) (d : decode cc pc = .ok (.invokestatic 113, 3)) (hR : 3 + 1 ≤ fr ∧ 88 ≤ lo) (hst : (st.map fun v => v.category).sum ≤ 8) {k : Int32 → gx_M → Option α} (hf : gx_b (fn_L_types (gy_k Y) μ c0 p1) k = some rr) (kk : ∀ (r : Int32) (m : gx_M), k r m = some rr → K m (pc + 3) L (st)) : K μ pc L (.long p1 :: .ref (gy_a Y c0) :: st) := by
  obtain ⟨r, m, e, hk⟩ := gx_b_some hf
  exact gw_callS (As := [.ref (gy_a Y c0), .long p1]) (q := (r, m)) h (by refine ⟨rfl, by decide, by decide, (show (parseMethodDescriptor yL_types.desc).map (fun d => d.parameters.length) = some 2 by decide +kernel)⟩) kw_ml_RL_113 kw_st_L_types kw_in_RL kw_co_L_types hR hst d (ct_L_types l Y μ c0 p1 (r, m) hc0 e) (kk r m hk)
def fn_L_isFault (kd : Nat → Nat) (μ : gx_M) (c0 : Nat) (p1 : Int64) (p3 : Int64) (p5 : Int32) (p6 : Int32) : Option (Int32 × gx_M) :=
  gx_b (fn_X6_clearText kd μ c0) (fun r1 m2 =>
gx_b (fn_L_types kd m2 c0 p1) (fun _ m4 =>
gx_b (fn_L_types kd m4 c0 p3) (fun _ m6 =>
gx_b (fn_X6_fault kd m6 c0 0) (fun r7 m8 =>
(if r7 = p5 then
gx_b (fn_X6_fault kd m8 c0 1) (fun r10 m11 =>
(if r10 = p6 then
some (1, m11)
else
some (0, m11)))
else
some (0, m8))))))
set_option maxRecDepth 100000 in
set_option maxHeartbeats 4000000 in
theorem ct_L_isFault (l : Launch) (Y : gx_Y) (μ : gx_M) (c0 : Nat) (p1 : Int64) (p3 : Int64) (p5 : Int32) (p6 : Int32) (rr : Int32 × gx_M) (hc0 : gk_bow Y c0) (hf : fn_L_isFault (gy_k Y) μ c0 p1 p3 p5 p6 = some rr) : gx_Con l yL_isFault cL_isFault 7 (some .boolean) 7 149 Y [.ref (gy_a Y c0), .long p1, .long p3, .int p5, .int p6] μ rr := by
  refine gx_Con_of (L0 := [(0, .ref (gy_a Y c0)), (1, .long p1), (3, .long p3), (5, .int p5), (6, .int p6)]) (by decide) (Nat.le_of_ble_eq_true rfl) rfl (fun K hK => ?_)
  unfold fn_L_isFault at hf
  refine gw_aload_n (pc := 0) hK 0 dL_isFault_0 rfl rfl ?_
  refine gv_L_110 (pc := 1) hK hc0 dL_isFault_1 (by decide) (Nat.le_of_ble_eq_true rfl) hf (fun r1 m2 hf => ?_)
  refine gw_pop (pc := 4) hK dL_isFault_4 rfl ?_
  refine gw_aload_n (pc := 5) hK 0 dL_isFault_5 rfl rfl ?_
  refine gw_lload_n (pc := 6) hK 1 dL_isFault_6 rfl rfl ?_
  refine gv_L_113 (pc := 7) hK hc0 dL_isFault_7 (by decide) (Nat.le_of_ble_eq_true rfl) hf (fun _ m4 hf => ?_)
  refine gw_aload_n (pc := 10) hK 0 dL_isFault_10 rfl rfl ?_
  refine gw_lload_n (pc := 11) hK 2 dL_isFault_11 rfl rfl ?_
  refine gv_L_113 (pc := 12) hK hc0 dL_isFault_12 (by decide) (Nat.le_of_ble_eq_true rfl) hf (fun _ m6 hf => ?_)
  refine gw_aload_n (pc := 15) hK 0 dL_isFault_15 rfl rfl ?_
  refine gw_iconst (v := 0) (pc := 16) hK dL_isFault_16 (by decide) ?_
  refine gv_L_105 (pc := 17) hK hc0 dL_isFault_17 (by decide) (Nat.le_of_ble_eq_true rfl) hf (fun r7 m8 hf => ?_)
  refine gw_iload (pc := 20) hK 3 dL_isFault_20 rfl ?_
  refine gw_icmp_ne (tgt := 39) (pc := 22) hK dL_isFault_22 (by decide) hf (fun cc9 hf => ?_) (fun cc9 hf => ?_)
  ·
    refine gw_iconst (v := 0) (pc := 39) hK dL_isFault_39 (by decide) ?_
    exact gw_ret_z (pc := 40) hK dL_isFault_40 rfl (Option.some.inj hf)
  ·
    refine gw_aload_n (pc := 25) hK 0 dL_isFault_25 rfl rfl ?_
    refine gw_iconst (v := 1) (pc := 26) hK dL_isFault_26 (by decide) ?_
    refine gv_L_105 (pc := 27) hK hc0 dL_isFault_27 (by decide) (Nat.le_of_ble_eq_true rfl) hf (fun r10 m11 hf => ?_)
    refine gw_iload (pc := 30) hK 4 dL_isFault_30 rfl ?_
    refine gw_icmp_ne (tgt := 39) (pc := 32) hK dL_isFault_32 (by decide) hf (fun cc12 hf => ?_) (fun cc12 hf => ?_)
    ·
      refine gw_iconst (v := 0) (pc := 39) hK dL_isFault_39 (by decide) ?_
      exact gw_ret_z (pc := 40) hK dL_isFault_40 rfl (Option.some.inj hf)
    ·
      refine gw_iconst (v := 1) (pc := 35) hK dL_isFault_35 (by decide) ?_
      refine gw_goto (tgt := 40) (pc := 36) hK dL_isFault_36 (by decide) ?_
      exact gw_ret_z (pc := 40) hK dL_isFault_40 rfl (Option.some.inj hf)
theorem gv_L_123 {l : Launch} {cc : ByteArray} {nL fr lo : Nat} {ret : Option FieldType} {Y : gx_Y} {Post : Value → gx_M → Prop} {K : gx_KT} {pc : Nat} {μ : gx_M} {L : List (Nat × Value)} {st : List Value} {α : Type} {rr : α} (h : gx_K l RL cc nL fr lo ret Y Post K) {c0 : Nat} {p1 : Int64} {p3 : Int64} {p5 : Int32} {p6 : Int32} (hc0 : gk_bow Y c0) (d : decode cc pc = .ok (.invokestatic 123, 3)) (hR : 7 + 1 ≤ fr ∧ 175 ≤ lo) (hst : (st.map fun v => v.category).sum ≤ 8) {k : Int32 → gx_M → Option α} (hf : gx_b (fn_L_isFault (gy_k Y) μ c0 p1 p3 p5 p6) k = some rr) (kk : ∀ (r : Int32) (m : gx_M), k r m = some rr → K m (pc + 3) L (.int r :: st)) : K μ pc L (.int p6 :: .int p5 :: .long p3 :: .long p1 :: .ref (gy_a Y c0) :: st) := by
  obtain ⟨r, m, e, hk⟩ := gx_b_some hf
  exact gw_callS (As := [.ref (gy_a Y c0), .long p1, .long p3, .int p5, .int p6]) (q := (r, m)) h (by refine ⟨rfl, by decide, by decide, (show (parseMethodDescriptor yL_isFault.desc).map (fun d => d.parameters.length) = some 5 by decide +kernel)⟩) kw_ml_RL_123 kw_st_L_isFault kw_in_RL kw_co_L_isFault hR hst d (ct_L_isFault l Y μ c0 p1 p3 p5 p6 (r, m) hc0 e) (kk r m hk)
def fn_L_mixed (kd : Nat → Nat) (μ : gx_M) (p0 : Int64) (p2 : Int64) : Option (Int64 × gx_M) :=
  some (((31 * p0) + p2), μ)
set_option maxRecDepth 100000 in
set_option maxHeartbeats 4000000 in
theorem ct_L_mixed (l : Launch) (Y : gx_Y) (μ : gx_M) (p0 : Int64) (p2 : Int64) (rr : Int64 × gx_M) (hf : fn_L_mixed (gy_k Y) μ p0 p2 = some rr) : gx_ConL l yL_mixed cL_mixed 4 0 0 Y [.long p0, .long p2] μ rr := by
  refine gx_ConL_of (L0 := [(0, .long p0), (2, .long p2)]) (by decide) (Nat.le_of_ble_eq_true rfl) rfl (fun K hK => ?_)
  unfold fn_L_mixed at hf
  refine gw_ldc2 (pc := 0) hK dL_mixed_0 kw_kl_RL_9 ?_
  refine gw_lload_n (pc := 3) hK 0 dL_mixed_3 rfl rfl ?_
  refine gw_lmul (pc := 4) hK dL_mixed_4 ?_
  refine gw_lload_n (pc := 5) hK 1 dL_mixed_5 rfl rfl ?_
  refine gw_ladd (pc := 6) hK dL_mixed_6 ?_
  exact gw_ret_l (pc := 7) hK dL_mixed_7 (Option.some.inj hf)
theorem gv_L_19 {l : Launch} {cc : ByteArray} {nL fr lo : Nat} {ret : Option FieldType} {Y : gx_Y} {Post : Value → gx_M → Prop} {K : gx_KT} {pc : Nat} {μ : gx_M} {L : List (Nat × Value)} {st : List Value} {α : Type} {rr : α} (h : gx_K l RL cc nL fr lo ret Y Post K) {p0 : Int64} {p2 : Int64} (d : decode cc pc = .ok (.invokestatic 19, 3)) (hR : 0 + 1 ≤ fr ∧ 23 ≤ lo) (hst : (st.map fun v => v.category).sum ≤ 8) {k : Int64 → gx_M → Option α} (hf : gx_bL (fn_L_mixed (gy_k Y) μ p0 p2) k = some rr) (kk : ∀ (r : Int64) (m : gx_M), k r m = some rr → K m (pc + 3) L (.long r :: st)) : K μ pc L (.long p2 :: .long p0 :: st) := by
  obtain ⟨r, m, e, hk⟩ := gx_bL_some hf
  exact gw_callSL (As := [.long p0, .long p2]) (q := (r, m)) h (by refine ⟨rfl, by decide, by decide, (show (parseMethodDescriptor yL_mixed.desc).map (fun d => d.parameters.length) = some 2 by decide +kernel)⟩) kw_ml_RL_19 kw_st_L_mixed kw_in_RL kw_co_L_mixed hR hst d (ct_L_mixed l Y μ p0 p2 (r, m)  e) (kk r m hk)
def fn_L_part (kd : Nat → Nat) (μ : gx_M) (p0 : Int32) (p1 : Int32) : Option (Int32 × gx_M) :=
  (if ¬ p1 = 0 then some (((p0 &&& 2147483647) - (p0 &&& 2147483647) / p1 * p1), μ) else none)
set_option maxRecDepth 100000 in
set_option maxHeartbeats 4000000 in
theorem ct_L_part (l : Launch) (Y : gx_Y) (μ : gx_M) (p0 : Int32) (p1 : Int32) (rr : Int32 × gx_M) (hf : fn_L_part (gy_k Y) μ p0 p1 = some rr) : gx_Con l yL_part cL_part 2 (some .int) 0 0 Y [.int p0, .int p1] μ rr := by
  refine gx_Con_of (L0 := [(0, .int p0), (1, .int p1)]) (by decide) (Nat.le_of_ble_eq_true rfl) rfl (fun K hK => ?_)
  unfold fn_L_part at hf
  refine gw_iload_n (pc := 0) hK 0 dL_part_0 rfl rfl ?_
  refine gw_ldc (pc := 1) hK dL_part_1 kw_k_RL_7 ?_
  refine gw_iand (pc := 3) hK dL_part_3 ?_
  refine gw_iload_n (pc := 4) hK 1 dL_part_4 rfl rfl ?_
  obtain ⟨hz1, hf⟩ := gx_must hf
  refine gw_irem (pc := 5) hK dL_part_5 hz1 ?_
  exact gw_ret_i (pc := 6) hK dL_part_6 (Option.some.inj hf)
theorem gv_L_196 {l : Launch} {cc : ByteArray} {nL fr lo : Nat} {ret : Option FieldType} {Y : gx_Y} {Post : Value → gx_M → Prop} {K : gx_KT} {pc : Nat} {μ : gx_M} {L : List (Nat × Value)} {st : List Value} {α : Type} {rr : α} (h : gx_K l RL cc nL fr lo ret Y Post K) {p0 : Int32} {p1 : Int32} (d : decode cc pc = .ok (.invokestatic 196, 3)) (hR : 0 + 1 ≤ fr ∧ 21 ≤ lo) (hst : (st.map fun v => v.category).sum ≤ 8) {k : Int32 → gx_M → Option α} (hf : gx_b (fn_L_part (gy_k Y) μ p0 p1) k = some rr) (kk : ∀ (r : Int32) (m : gx_M), k r m = some rr → K m (pc + 3) L (.int r :: st)) : K μ pc L (.int p1 :: .int p0 :: st) := by
  obtain ⟨r, m, e, hk⟩ := gx_b_some hf
  exact gw_callS (As := [.int p0, .int p1]) (q := (r, m)) h (by refine ⟨rfl, by decide, by decide, (show (parseMethodDescriptor yL_part.desc).map (fun d => d.parameters.length) = some 2 by decide +kernel)⟩) kw_ml_RL_196 kw_st_L_part kw_in_RL kw_co_L_part hR hst d (ct_L_part l Y μ p0 p1 (r, m)  e) (kk r m hk)
def lf_L_refusesBowls_80 (kd : Nat → Nat) (c0 : Nat) (q1 : Int32) (k : gx_M → Int32 → Option (Int32 × gx_M)) : Nat → gx_M → Int32 → Option (Int32 × gx_M)
  | 0, _, _ => none
  | n + 1, μ, x2 => (if 2 ≤ x2 then
k μ x2
else
(if x2 = 0 then
gx_b (fn_X6_remove kd μ c0 q1) (fun r47 m48 =>
(if r47 = (-100001) then
gx_b (fn_X6_pour kd m48 c0 q1 1) (fun r50 m51 =>
(if r50 = (-100001) then
gx_b (fn_X6_spill kd m51 c0 q1 1) (fun r53 m54 =>
(if r53 = (-100001) then
gx_b (fn_X6_crack kd m54 c0 q1 0) (fun r56 m57 =>
(if r56 = (-100001) then
gx_b (fn_X6_mark kd m57 c0 q1 0) (fun r59 m60 =>
(if r59 = (-100001) then
gx_b (fn_X6_bowlOf kd m60 c0 q1 0) (fun r62 m63 =>
(if r62 = (-100001) then
gx_b (fn_X6_levelFor kd m63 c0 q1 0) (fun r65 m66 =>
(if r65 = (-100001) then
gx_b (fn_X6_pitchAt kd m66 c0 q1 3600) (fun r68 m69 =>
(if r68 = (-100001) then
lf_L_refusesBowls_80 kd c0 q1 k n m69 (x2 + 1)
else
some (0, m69)))
else
some (0, m66)))
else
some (0, m63)))
else
some (0, m60)))
else
some (0, m57)))
else
some (0, m54)))
else
some (0, m51)))
else
some (0, m48)))
else
gx_b (fn_X6_remove kd μ c0 (-1)) (fun r23 m24 =>
(if r23 = (-100001) then
gx_b (fn_X6_pour kd m24 c0 (-1) 1) (fun r26 m27 =>
(if r26 = (-100001) then
gx_b (fn_X6_spill kd m27 c0 (-1) 1) (fun r29 m30 =>
(if r29 = (-100001) then
gx_b (fn_X6_crack kd m30 c0 (-1) 0) (fun r32 m33 =>
(if r32 = (-100001) then
gx_b (fn_X6_mark kd m33 c0 (-1) 0) (fun r35 m36 =>
(if r35 = (-100001) then
gx_b (fn_X6_bowlOf kd m36 c0 (-1) 0) (fun r38 m39 =>
(if r38 = (-100001) then
gx_b (fn_X6_levelFor kd m39 c0 (-1) 0) (fun r41 m42 =>
(if r41 = (-100001) then
gx_b (fn_X6_pitchAt kd m42 c0 (-1) 3600) (fun r44 m45 =>
(if r44 = (-100001) then
lf_L_refusesBowls_80 kd c0 q1 k n m45 (x2 + 1)
else
some (0, m45)))
else
some (0, m42)))
else
some (0, m39)))
else
some (0, m36)))
else
some (0, m33)))
else
some (0, m30)))
else
some (0, m27)))
else
some (0, m24)))))
def fn_L_refusesBowls (kd : Nat → Nat) (μ : gx_M) (c0 : Nat) : Option (Int32 × gx_M) :=
  gx_b (fn_X6_count kd μ c0 1) (fun r1 m2 =>
gx_b (fn_X6_bowl kd m2 c0 (-1) 1) (fun r3 m4 =>
(if r3 = (-100001) then
gx_b (fn_X6_bowl kd m4 c0 6001 1) (fun r6 m7 =>
(if r6 = (-100001) then
gx_b (fn_X6_bowl kd m7 c0 0 0) (fun r9 m10 =>
(if r9 = (-100001) then
gx_b (fn_X6_bowl kd m10 c0 0 2401) (fun r12 m13 =>
(if r12 = (-100001) then
gx_b (fn_X6_nearest kd m13 c0 (-1)) (fun r15 m16 =>
(if r15 = (-100001) then
gx_b (fn_X6_nearest kd m16 c0 6001) (fun r18 m19 =>
(if r18 = (-100001) then
lf_L_refusesBowls_80 kd c0 r1 (fun m71 y72 =>
(if r1 ≤ 0 then
(if 0 < r1 then
some (1, m71)
else
gx_b (fn_X6_nearest kd m71 c0 0) (fun r75 m76 =>
(if r75 = (-100004) then
gx_b (fn_X6_firstFalse kd m76 c0) (fun r78 m79 =>
(if r78 = (-100004) then
gx_b (fn_X6_leastTolerance kd m79 c0) (fun r81 m82 =>
(if r81 = (-100004) then
some (1, m82)
else
some (0, m82)))
else
some (0, m79)))
else
some (0, m76))))
else
gx_b (fn_X6_pour kd m71 c0 0 0) (fun r84 m85 =>
(if r84 = (-100001) then
gx_b (fn_X6_pour kd m85 c0 0 1001) (fun r87 m88 =>
(if r87 = (-100001) then
gx_b (fn_X6_spill kd m88 c0 0 0) (fun r90 m91 =>
(if r90 = (-100001) then
gx_b (fn_X6_spill kd m91 c0 0 1001) (fun r93 m94 =>
(if r93 = (-100001) then
gx_b (fn_X6_crack kd m94 c0 0 (-1)) (fun r96 m97 =>
(if r96 = (-100001) then
gx_b (fn_X6_crack kd m97 c0 0 1001) (fun r99 m100 =>
(if r99 = (-100001) then
gx_b (fn_X6_mark kd m100 c0 0 (-1)) (fun r102 m103 =>
(if r102 = (-100001) then
gx_b (fn_X6_mark kd m103 c0 0 1001) (fun r105 m106 =>
(if r105 = (-100001) then
gx_b (fn_X6_bowlOf kd m106 c0 0 7) (fun r108 m109 =>
(if r108 = (-100001) then
gx_b (fn_X6_bowlOf kd m109 c0 0 (-1)) (fun r111 m112 =>
(if r111 = (-100001) then
gx_b (fn_X6_levelFor kd m112 c0 0 (-3001)) (fun r114 m115 =>
(if r114 = (-100001) then
gx_b (fn_X6_levelFor kd m115 c0 0 6001) (fun r117 m118 =>
(if r117 = (-100001) then
gx_b (fn_X6_pitchAt kd m118 c0 0 3601) (fun r120 m121 =>
(if r120 = (-100001) then
gx_b (fn_X6_count kd m121 c0 0) (fun r123 m124 =>
gx_b (fn_X6_pitchAt kd m124 c0 0 (r123 - 1)) (fun r125 m126 =>
(if r125 = (-100001) then
gx_b (fn_X6_count kd m126 c0 0) (fun r128 m129 =>
gx_b (fn_X6_pitchAt kd m129 c0 0 r128) (fun r130 m131 =>
gx_b (fn_X6_bowlOf kd m131 c0 0 5) (fun r132 m133 =>
(if r130 = r132 then
(if 0 < r1 then
some (1, m133)
else
gx_b (fn_X6_nearest kd m133 c0 0) (fun r136 m137 =>
(if r136 = (-100004) then
gx_b (fn_X6_firstFalse kd m137 c0) (fun r139 m140 =>
(if r139 = (-100004) then
gx_b (fn_X6_leastTolerance kd m140 c0) (fun r142 m143 =>
(if r142 = (-100004) then
some (1, m143)
else
some (0, m143)))
else
some (0, m140)))
else
some (0, m137))))
else
some (0, m133)))))
else
some (0, m126))))
else
some (0, m121)))
else
some (0, m118)))
else
some (0, m115)))
else
some (0, m112)))
else
some (0, m109)))
else
some (0, m106)))
else
some (0, m103)))
else
some (0, m100)))
else
some (0, m97)))
else
some (0, m94)))
else
some (0, m91)))
else
some (0, m88)))
else
some (0, m85))))) gx_F m19 0
else
some (0, m19)))
else
some (0, m16)))
else
some (0, m13)))
else
some (0, m10)))
else
some (0, m7)))
else
some (0, m4))))
set_option maxRecDepth 100000 in
set_option maxHeartbeats 4000000 in
theorem lt_L_refusesBowls_80 {l : Launch} {Y : gx_Y} {rr : Int32 × gx_M} {K : gx_KT} (hK : gx_K l RL cL_refusesBowls 4 7 160 (some .boolean) Y (gx_P rr) K) (c0 : Nat) (q1 : Int32) (hc0 : gk_bow Y c0) (k : gx_M → Int32 → Option (Int32 × gx_M)) (hx : ∀ (μ : gx_M) (x2 : Int32), k μ x2 = some rr → K μ 192 [(0, .ref (gy_a Y c0)), (1, .int q1), (2, .int x2)] []) :
    ∀ (n : Nat) (μ : gx_M) (x2 : Int32), lf_L_refusesBowls_80 (gy_k Y) c0 q1 k n μ x2 = some rr → K μ 80 [(0, .ref (gy_a Y c0)), (1, .int q1), (2, .int x2)] [] := by
  intro n
  induction n with
  | zero =>
    intro μ x2 hf
    exact absurd hf (by simp [lf_L_refusesBowls_80])
  | succ n ih =>
    intro μ x2 hf
    rw [lf_L_refusesBowls_80] at hf
    refine gw_iload_n (pc := 80) hK 2 dL_refusesBowls_80 rfl rfl ?_
    refine gw_iconst (v := 2) (pc := 81) hK dL_refusesBowls_81 (by decide) ?_
    refine gw_icmp_ge (tgt := 192) (pc := 82) hK dL_refusesBowls_82 (by decide) hf (fun cc21 hf => ?_) (fun cc21 hf => ?_)
    ·
      refine gw_sub (L' := [(0, .ref (gy_a Y c0)), (1, .int q1), (2, .int x2)]) hK [0, 1, 2] rfl (hx _ _ hf)
    ·
      refine gw_iload_n (pc := 85) hK 2 dL_refusesBowls_85 rfl rfl ?_
      refine gw_if_ne (tgt := 93) (pc := 86) hK dL_refusesBowls_86 (by decide) hf (fun cc22 hf => ?_) (fun cc22 hf => ?_)
      ·
        refine gw_iconst (v := (-1)) (pc := 93) hK dL_refusesBowls_93 (by decide) ?_
        refine gw_istore_n (L' := [(3, .int (-1)), (0, .ref (gy_a Y c0)), (1, .int q1), (2, .int x2)]) (pc := 94) hK dL_refusesBowls_94 rfl (by decide) rfl ?_
        refine gw_aload_n (pc := 95) hK 1 dL_refusesBowls_95 rfl rfl ?_
        refine gw_iload_n (pc := 96) hK 0 dL_refusesBowls_96 rfl rfl ?_
        refine gv_L_39 (pc := 97) hK hc0 dL_refusesBowls_97 (by decide) (Nat.le_of_ble_eq_true rfl) hf (fun r23 m24 hf => ?_)
        refine gw_ldc (pc := 100) hK dL_refusesBowls_100 kw_k_RL_35 ?_
        refine gw_icmp_ne (tgt := 184) (pc := 102) hK dL_refusesBowls_102 (by decide) hf (fun cc25 hf => ?_) (fun cc25 hf => ?_)
        ·
          refine gw_iconst (v := 0) (pc := 184) hK dL_refusesBowls_184 (by decide) ?_
          exact gw_ret_z (pc := 185) hK dL_refusesBowls_185 rfl (Option.some.inj hf)
        ·
          refine gw_aload_n (pc := 105) hK 1 dL_refusesBowls_105 rfl rfl ?_
          refine gw_iload_n (pc := 106) hK 0 dL_refusesBowls_106 rfl rfl ?_
          refine gw_iconst (v := 1) (pc := 107) hK dL_refusesBowls_107 (by decide) ?_
          refine gv_L_42 (pc := 108) hK hc0 dL_refusesBowls_108 (by decide) (Nat.le_of_ble_eq_true rfl) hf (fun r26 m27 hf => ?_)
          refine gw_ldc (pc := 111) hK dL_refusesBowls_111 kw_k_RL_35 ?_
          refine gw_icmp_ne (tgt := 184) (pc := 113) hK dL_refusesBowls_113 (by decide) hf (fun cc28 hf => ?_) (fun cc28 hf => ?_)
          ·
            refine gw_iconst (v := 0) (pc := 184) hK dL_refusesBowls_184 (by decide) ?_
            exact gw_ret_z (pc := 185) hK dL_refusesBowls_185 rfl (Option.some.inj hf)
          ·
            refine gw_aload_n (pc := 116) hK 1 dL_refusesBowls_116 rfl rfl ?_
            refine gw_iload_n (pc := 117) hK 0 dL_refusesBowls_117 rfl rfl ?_
            refine gw_iconst (v := 1) (pc := 118) hK dL_refusesBowls_118 (by decide) ?_
            refine gv_L_45 (pc := 119) hK hc0 dL_refusesBowls_119 (by decide) (Nat.le_of_ble_eq_true rfl) hf (fun r29 m30 hf => ?_)
            refine gw_ldc (pc := 122) hK dL_refusesBowls_122 kw_k_RL_35 ?_
            refine gw_icmp_ne (tgt := 184) (pc := 124) hK dL_refusesBowls_124 (by decide) hf (fun cc31 hf => ?_) (fun cc31 hf => ?_)
            ·
              refine gw_iconst (v := 0) (pc := 184) hK dL_refusesBowls_184 (by decide) ?_
              exact gw_ret_z (pc := 185) hK dL_refusesBowls_185 rfl (Option.some.inj hf)
            ·
              refine gw_aload_n (pc := 127) hK 1 dL_refusesBowls_127 rfl rfl ?_
              refine gw_iload_n (pc := 128) hK 0 dL_refusesBowls_128 rfl rfl ?_
              refine gw_iconst (v := 0) (pc := 129) hK dL_refusesBowls_129 (by decide) ?_
              refine gv_L_48 (pc := 130) hK hc0 dL_refusesBowls_130 (by decide) (Nat.le_of_ble_eq_true rfl) hf (fun r32 m33 hf => ?_)
              refine gw_ldc (pc := 133) hK dL_refusesBowls_133 kw_k_RL_35 ?_
              refine gw_icmp_ne (tgt := 184) (pc := 135) hK dL_refusesBowls_135 (by decide) hf (fun cc34 hf => ?_) (fun cc34 hf => ?_)
              ·
                refine gw_iconst (v := 0) (pc := 184) hK dL_refusesBowls_184 (by decide) ?_
                exact gw_ret_z (pc := 185) hK dL_refusesBowls_185 rfl (Option.some.inj hf)
              ·
                refine gw_aload_n (pc := 138) hK 1 dL_refusesBowls_138 rfl rfl ?_
                refine gw_iload_n (pc := 139) hK 0 dL_refusesBowls_139 rfl rfl ?_
                refine gw_iconst (v := 0) (pc := 140) hK dL_refusesBowls_140 (by decide) ?_
                refine gv_L_51 (pc := 141) hK hc0 dL_refusesBowls_141 (by decide) (Nat.le_of_ble_eq_true rfl) hf (fun r35 m36 hf => ?_)
                refine gw_ldc (pc := 144) hK dL_refusesBowls_144 kw_k_RL_35 ?_
                refine gw_icmp_ne (tgt := 184) (pc := 146) hK dL_refusesBowls_146 (by decide) hf (fun cc37 hf => ?_) (fun cc37 hf => ?_)
                ·
                  refine gw_iconst (v := 0) (pc := 184) hK dL_refusesBowls_184 (by decide) ?_
                  exact gw_ret_z (pc := 185) hK dL_refusesBowls_185 rfl (Option.some.inj hf)
                ·
                  refine gw_aload_n (pc := 149) hK 1 dL_refusesBowls_149 rfl rfl ?_
                  refine gw_iload_n (pc := 150) hK 0 dL_refusesBowls_150 rfl rfl ?_
                  refine gw_iconst (v := 0) (pc := 151) hK dL_refusesBowls_151 (by decide) ?_
                  refine gv_L_25 (pc := 152) hK hc0 dL_refusesBowls_152 (by decide) (Nat.le_of_ble_eq_true rfl) hf (fun r38 m39 hf => ?_)
                  refine gw_ldc (pc := 155) hK dL_refusesBowls_155 kw_k_RL_35 ?_
                  refine gw_icmp_ne (tgt := 184) (pc := 157) hK dL_refusesBowls_157 (by decide) hf (fun cc40 hf => ?_) (fun cc40 hf => ?_)
                  ·
                    refine gw_iconst (v := 0) (pc := 184) hK dL_refusesBowls_184 (by decide) ?_
                    exact gw_ret_z (pc := 185) hK dL_refusesBowls_185 rfl (Option.some.inj hf)
                  ·
                    refine gw_aload_n (pc := 160) hK 1 dL_refusesBowls_160 rfl rfl ?_
                    refine gw_iload_n (pc := 161) hK 0 dL_refusesBowls_161 rfl rfl ?_
                    refine gw_iconst (v := 0) (pc := 162) hK dL_refusesBowls_162 (by decide) ?_
                    refine gv_L_54 (pc := 163) hK hc0 dL_refusesBowls_163 (by decide) (Nat.le_of_ble_eq_true rfl) hf (fun r41 m42 hf => ?_)
                    refine gw_ldc (pc := 166) hK dL_refusesBowls_166 kw_k_RL_35 ?_
                    refine gw_icmp_ne (tgt := 184) (pc := 168) hK dL_refusesBowls_168 (by decide) hf (fun cc43 hf => ?_) (fun cc43 hf => ?_)
                    ·
                      refine gw_iconst (v := 0) (pc := 184) hK dL_refusesBowls_184 (by decide) ?_
                      exact gw_ret_z (pc := 185) hK dL_refusesBowls_185 rfl (Option.some.inj hf)
                    ·
                      refine gw_aload_n (pc := 171) hK 1 dL_refusesBowls_171 rfl rfl ?_
                      refine gw_iload_n (pc := 172) hK 0 dL_refusesBowls_172 rfl rfl ?_
                      refine gw_sipush (v := 3600) (pc := 173) hK dL_refusesBowls_173 (by decide) ?_
                      refine gv_L_57 (pc := 176) hK hc0 dL_refusesBowls_176 (by decide) (Nat.le_of_ble_eq_true rfl) hf (fun r44 m45 hf => ?_)
                      refine gw_ldc (pc := 179) hK dL_refusesBowls_179 kw_k_RL_35 ?_
                      refine gw_icmp_eq (tgt := 186) (pc := 181) hK dL_refusesBowls_181 (by decide) hf (fun cc46 hf => ?_) (fun cc46 hf => ?_)
                      ·
                        refine gw_iinc (v := (x2 + 1)) (L' := [(2, .int (x2 + 1)), (3, .int (-1)), (0, .ref (gy_a Y c0)), (1, .int q1)]) (pc := 186) hK 3 dL_refusesBowls_186 rfl rfl (by decide) rfl ?_
                        refine gw_goto (tgt := 80) (pc := 189) hK dL_refusesBowls_189 (by decide) ?_
                        refine gw_sub (L' := [(0, .ref (gy_a Y c0)), (1, .int q1), (2, .int (x2 + 1))]) hK [2, 3, 0] rfl (ih _ _ hf)
                      ·
                        refine gw_iconst (v := 0) (pc := 184) hK dL_refusesBowls_184 (by decide) ?_
                        exact gw_ret_z (pc := 185) hK dL_refusesBowls_185 rfl (Option.some.inj hf)
      ·
        refine gw_iload_n (pc := 89) hK 1 dL_refusesBowls_89 rfl rfl ?_
        refine gw_goto (tgt := 94) (pc := 90) hK dL_refusesBowls_90 (by decide) ?_
        refine gw_istore_n (L' := [(3, .int q1), (0, .ref (gy_a Y c0)), (1, .int q1), (2, .int x2)]) (pc := 94) hK dL_refusesBowls_94 rfl (by decide) rfl ?_
        refine gw_aload_n (pc := 95) hK 1 dL_refusesBowls_95 rfl rfl ?_
        refine gw_iload_n (pc := 96) hK 0 dL_refusesBowls_96 rfl rfl ?_
        refine gv_L_39 (pc := 97) hK hc0 dL_refusesBowls_97 (by decide) (Nat.le_of_ble_eq_true rfl) hf (fun r47 m48 hf => ?_)
        refine gw_ldc (pc := 100) hK dL_refusesBowls_100 kw_k_RL_35 ?_
        refine gw_icmp_ne (tgt := 184) (pc := 102) hK dL_refusesBowls_102 (by decide) hf (fun cc49 hf => ?_) (fun cc49 hf => ?_)
        ·
          refine gw_iconst (v := 0) (pc := 184) hK dL_refusesBowls_184 (by decide) ?_
          exact gw_ret_z (pc := 185) hK dL_refusesBowls_185 rfl (Option.some.inj hf)
        ·
          refine gw_aload_n (pc := 105) hK 1 dL_refusesBowls_105 rfl rfl ?_
          refine gw_iload_n (pc := 106) hK 0 dL_refusesBowls_106 rfl rfl ?_
          refine gw_iconst (v := 1) (pc := 107) hK dL_refusesBowls_107 (by decide) ?_
          refine gv_L_42 (pc := 108) hK hc0 dL_refusesBowls_108 (by decide) (Nat.le_of_ble_eq_true rfl) hf (fun r50 m51 hf => ?_)
          refine gw_ldc (pc := 111) hK dL_refusesBowls_111 kw_k_RL_35 ?_
          refine gw_icmp_ne (tgt := 184) (pc := 113) hK dL_refusesBowls_113 (by decide) hf (fun cc52 hf => ?_) (fun cc52 hf => ?_)
          ·
            refine gw_iconst (v := 0) (pc := 184) hK dL_refusesBowls_184 (by decide) ?_
            exact gw_ret_z (pc := 185) hK dL_refusesBowls_185 rfl (Option.some.inj hf)
          ·
            refine gw_aload_n (pc := 116) hK 1 dL_refusesBowls_116 rfl rfl ?_
            refine gw_iload_n (pc := 117) hK 0 dL_refusesBowls_117 rfl rfl ?_
            refine gw_iconst (v := 1) (pc := 118) hK dL_refusesBowls_118 (by decide) ?_
            refine gv_L_45 (pc := 119) hK hc0 dL_refusesBowls_119 (by decide) (Nat.le_of_ble_eq_true rfl) hf (fun r53 m54 hf => ?_)
            refine gw_ldc (pc := 122) hK dL_refusesBowls_122 kw_k_RL_35 ?_
            refine gw_icmp_ne (tgt := 184) (pc := 124) hK dL_refusesBowls_124 (by decide) hf (fun cc55 hf => ?_) (fun cc55 hf => ?_)
            ·
              refine gw_iconst (v := 0) (pc := 184) hK dL_refusesBowls_184 (by decide) ?_
              exact gw_ret_z (pc := 185) hK dL_refusesBowls_185 rfl (Option.some.inj hf)
            ·
              refine gw_aload_n (pc := 127) hK 1 dL_refusesBowls_127 rfl rfl ?_
              refine gw_iload_n (pc := 128) hK 0 dL_refusesBowls_128 rfl rfl ?_
              refine gw_iconst (v := 0) (pc := 129) hK dL_refusesBowls_129 (by decide) ?_
              refine gv_L_48 (pc := 130) hK hc0 dL_refusesBowls_130 (by decide) (Nat.le_of_ble_eq_true rfl) hf (fun r56 m57 hf => ?_)
              refine gw_ldc (pc := 133) hK dL_refusesBowls_133 kw_k_RL_35 ?_
              refine gw_icmp_ne (tgt := 184) (pc := 135) hK dL_refusesBowls_135 (by decide) hf (fun cc58 hf => ?_) (fun cc58 hf => ?_)
              ·
                refine gw_iconst (v := 0) (pc := 184) hK dL_refusesBowls_184 (by decide) ?_
                exact gw_ret_z (pc := 185) hK dL_refusesBowls_185 rfl (Option.some.inj hf)
              ·
                refine gw_aload_n (pc := 138) hK 1 dL_refusesBowls_138 rfl rfl ?_
                refine gw_iload_n (pc := 139) hK 0 dL_refusesBowls_139 rfl rfl ?_
                refine gw_iconst (v := 0) (pc := 140) hK dL_refusesBowls_140 (by decide) ?_
                refine gv_L_51 (pc := 141) hK hc0 dL_refusesBowls_141 (by decide) (Nat.le_of_ble_eq_true rfl) hf (fun r59 m60 hf => ?_)
                refine gw_ldc (pc := 144) hK dL_refusesBowls_144 kw_k_RL_35 ?_
                refine gw_icmp_ne (tgt := 184) (pc := 146) hK dL_refusesBowls_146 (by decide) hf (fun cc61 hf => ?_) (fun cc61 hf => ?_)
                ·
                  refine gw_iconst (v := 0) (pc := 184) hK dL_refusesBowls_184 (by decide) ?_
                  exact gw_ret_z (pc := 185) hK dL_refusesBowls_185 rfl (Option.some.inj hf)
                ·
                  refine gw_aload_n (pc := 149) hK 1 dL_refusesBowls_149 rfl rfl ?_
                  refine gw_iload_n (pc := 150) hK 0 dL_refusesBowls_150 rfl rfl ?_
                  refine gw_iconst (v := 0) (pc := 151) hK dL_refusesBowls_151 (by decide) ?_
                  refine gv_L_25 (pc := 152) hK hc0 dL_refusesBowls_152 (by decide) (Nat.le_of_ble_eq_true rfl) hf (fun r62 m63 hf => ?_)
                  refine gw_ldc (pc := 155) hK dL_refusesBowls_155 kw_k_RL_35 ?_
                  refine gw_icmp_ne (tgt := 184) (pc := 157) hK dL_refusesBowls_157 (by decide) hf (fun cc64 hf => ?_) (fun cc64 hf => ?_)
                  ·
                    refine gw_iconst (v := 0) (pc := 184) hK dL_refusesBowls_184 (by decide) ?_
                    exact gw_ret_z (pc := 185) hK dL_refusesBowls_185 rfl (Option.some.inj hf)
                  ·
                    refine gw_aload_n (pc := 160) hK 1 dL_refusesBowls_160 rfl rfl ?_
                    refine gw_iload_n (pc := 161) hK 0 dL_refusesBowls_161 rfl rfl ?_
                    refine gw_iconst (v := 0) (pc := 162) hK dL_refusesBowls_162 (by decide) ?_
                    refine gv_L_54 (pc := 163) hK hc0 dL_refusesBowls_163 (by decide) (Nat.le_of_ble_eq_true rfl) hf (fun r65 m66 hf => ?_)
                    refine gw_ldc (pc := 166) hK dL_refusesBowls_166 kw_k_RL_35 ?_
                    refine gw_icmp_ne (tgt := 184) (pc := 168) hK dL_refusesBowls_168 (by decide) hf (fun cc67 hf => ?_) (fun cc67 hf => ?_)
                    ·
                      refine gw_iconst (v := 0) (pc := 184) hK dL_refusesBowls_184 (by decide) ?_
                      exact gw_ret_z (pc := 185) hK dL_refusesBowls_185 rfl (Option.some.inj hf)
                    ·
                      refine gw_aload_n (pc := 171) hK 1 dL_refusesBowls_171 rfl rfl ?_
                      refine gw_iload_n (pc := 172) hK 0 dL_refusesBowls_172 rfl rfl ?_
                      refine gw_sipush (v := 3600) (pc := 173) hK dL_refusesBowls_173 (by decide) ?_
                      refine gv_L_57 (pc := 176) hK hc0 dL_refusesBowls_176 (by decide) (Nat.le_of_ble_eq_true rfl) hf (fun r68 m69 hf => ?_)
                      refine gw_ldc (pc := 179) hK dL_refusesBowls_179 kw_k_RL_35 ?_
                      refine gw_icmp_eq (tgt := 186) (pc := 181) hK dL_refusesBowls_181 (by decide) hf (fun cc70 hf => ?_) (fun cc70 hf => ?_)
                      ·
                        refine gw_iinc (v := (x2 + 1)) (L' := [(2, .int (x2 + 1)), (3, .int q1), (0, .ref (gy_a Y c0)), (1, .int q1)]) (pc := 186) hK 3 dL_refusesBowls_186 rfl rfl (by decide) rfl ?_
                        refine gw_goto (tgt := 80) (pc := 189) hK dL_refusesBowls_189 (by decide) ?_
                        refine gw_sub (L' := [(0, .ref (gy_a Y c0)), (1, .int q1), (2, .int (x2 + 1))]) hK [2, 3, 0] rfl (ih _ _ hf)
                      ·
                        refine gw_iconst (v := 0) (pc := 184) hK dL_refusesBowls_184 (by decide) ?_
                        exact gw_ret_z (pc := 185) hK dL_refusesBowls_185 rfl (Option.some.inj hf)
set_option maxRecDepth 100000 in
set_option maxHeartbeats 4000000 in
theorem ct_L_refusesBowls (l : Launch) (Y : gx_Y) (μ : gx_M) (c0 : Nat) (rr : Int32 × gx_M) (hc0 : gk_bow Y c0) (hf : fn_L_refusesBowls (gy_k Y) μ c0 = some rr) : gx_Con l yL_refusesBowls cL_refusesBowls 4 (some .boolean) 7 160 Y [.ref (gy_a Y c0)] μ rr := by
  refine gx_Con_of (L0 := [(0, .ref (gy_a Y c0))]) (by decide) (Nat.le_of_ble_eq_true rfl) rfl (fun K hK => ?_)
  unfold fn_L_refusesBowls at hf
  refine gw_aload_n (pc := 0) hK 0 dL_refusesBowls_0 rfl rfl ?_
  refine gw_iconst (v := 1) (pc := 1) hK dL_refusesBowls_1 (by decide) ?_
  refine gv_L_13 (pc := 2) hK hc0 dL_refusesBowls_2 (by decide) (Nat.le_of_ble_eq_true rfl) hf (fun r1 m2 hf => ?_)
  refine gw_istore_n (L' := [(1, .int r1), (0, .ref (gy_a Y c0))]) (pc := 5) hK dL_refusesBowls_5 rfl (by decide) rfl ?_
  refine gw_aload_n (pc := 6) hK 1 dL_refusesBowls_6 rfl rfl ?_
  refine gw_iconst (v := (-1)) (pc := 7) hK dL_refusesBowls_7 (by decide) ?_
  refine gw_iconst (v := 1) (pc := 8) hK dL_refusesBowls_8 (by decide) ?_
  refine gv_L_32 (pc := 9) hK hc0 dL_refusesBowls_9 (by decide) (Nat.le_of_ble_eq_true rfl) hf (fun r3 m4 hf => ?_)
  refine gw_ldc (pc := 12) hK dL_refusesBowls_12 kw_k_RL_35 ?_
  refine gw_icmp_ne (tgt := 76) (pc := 14) hK dL_refusesBowls_14 (by decide) hf (fun cc5 hf => ?_) (fun cc5 hf => ?_)
  ·
    refine gw_iconst (v := 0) (pc := 76) hK dL_refusesBowls_76 (by decide) ?_
    exact gw_ret_z (pc := 77) hK dL_refusesBowls_77 rfl (Option.some.inj hf)
  ·
    refine gw_aload_n (pc := 17) hK 1 dL_refusesBowls_17 rfl rfl ?_
    refine gw_sipush (v := 6001) (pc := 18) hK dL_refusesBowls_18 (by decide) ?_
    refine gw_iconst (v := 1) (pc := 21) hK dL_refusesBowls_21 (by decide) ?_
    refine gv_L_32 (pc := 22) hK hc0 dL_refusesBowls_22 (by decide) (Nat.le_of_ble_eq_true rfl) hf (fun r6 m7 hf => ?_)
    refine gw_ldc (pc := 25) hK dL_refusesBowls_25 kw_k_RL_35 ?_
    refine gw_icmp_ne (tgt := 76) (pc := 27) hK dL_refusesBowls_27 (by decide) hf (fun cc8 hf => ?_) (fun cc8 hf => ?_)
    ·
      refine gw_iconst (v := 0) (pc := 76) hK dL_refusesBowls_76 (by decide) ?_
      exact gw_ret_z (pc := 77) hK dL_refusesBowls_77 rfl (Option.some.inj hf)
    ·
      refine gw_aload_n (pc := 30) hK 1 dL_refusesBowls_30 rfl rfl ?_
      refine gw_iconst (v := 0) (pc := 31) hK dL_refusesBowls_31 (by decide) ?_
      refine gw_iconst (v := 0) (pc := 32) hK dL_refusesBowls_32 (by decide) ?_
      refine gv_L_32 (pc := 33) hK hc0 dL_refusesBowls_33 (by decide) (Nat.le_of_ble_eq_true rfl) hf (fun r9 m10 hf => ?_)
      refine gw_ldc (pc := 36) hK dL_refusesBowls_36 kw_k_RL_35 ?_
      refine gw_icmp_ne (tgt := 76) (pc := 38) hK dL_refusesBowls_38 (by decide) hf (fun cc11 hf => ?_) (fun cc11 hf => ?_)
      ·
        refine gw_iconst (v := 0) (pc := 76) hK dL_refusesBowls_76 (by decide) ?_
        exact gw_ret_z (pc := 77) hK dL_refusesBowls_77 rfl (Option.some.inj hf)
      ·
        refine gw_aload_n (pc := 41) hK 1 dL_refusesBowls_41 rfl rfl ?_
        refine gw_iconst (v := 0) (pc := 42) hK dL_refusesBowls_42 (by decide) ?_
        refine gw_sipush (v := 2401) (pc := 43) hK dL_refusesBowls_43 (by decide) ?_
        refine gv_L_32 (pc := 46) hK hc0 dL_refusesBowls_46 (by decide) (Nat.le_of_ble_eq_true rfl) hf (fun r12 m13 hf => ?_)
        refine gw_ldc (pc := 49) hK dL_refusesBowls_49 kw_k_RL_35 ?_
        refine gw_icmp_ne (tgt := 76) (pc := 51) hK dL_refusesBowls_51 (by decide) hf (fun cc14 hf => ?_) (fun cc14 hf => ?_)
        ·
          refine gw_iconst (v := 0) (pc := 76) hK dL_refusesBowls_76 (by decide) ?_
          exact gw_ret_z (pc := 77) hK dL_refusesBowls_77 rfl (Option.some.inj hf)
        ·
          refine gw_aload_n (pc := 54) hK 1 dL_refusesBowls_54 rfl rfl ?_
          refine gw_iconst (v := (-1)) (pc := 55) hK dL_refusesBowls_55 (by decide) ?_
          refine gv_L_36 (pc := 56) hK hc0 dL_refusesBowls_56 (by decide) (Nat.le_of_ble_eq_true rfl) hf (fun r15 m16 hf => ?_)
          refine gw_ldc (pc := 59) hK dL_refusesBowls_59 kw_k_RL_35 ?_
          refine gw_icmp_ne (tgt := 76) (pc := 61) hK dL_refusesBowls_61 (by decide) hf (fun cc17 hf => ?_) (fun cc17 hf => ?_)
          ·
            refine gw_iconst (v := 0) (pc := 76) hK dL_refusesBowls_76 (by decide) ?_
            exact gw_ret_z (pc := 77) hK dL_refusesBowls_77 rfl (Option.some.inj hf)
          ·
            refine gw_aload_n (pc := 64) hK 1 dL_refusesBowls_64 rfl rfl ?_
            refine gw_sipush (v := 6001) (pc := 65) hK dL_refusesBowls_65 (by decide) ?_
            refine gv_L_36 (pc := 68) hK hc0 dL_refusesBowls_68 (by decide) (Nat.le_of_ble_eq_true rfl) hf (fun r18 m19 hf => ?_)
            refine gw_ldc (pc := 71) hK dL_refusesBowls_71 kw_k_RL_35 ?_
            refine gw_icmp_eq (tgt := 78) (pc := 73) hK dL_refusesBowls_73 (by decide) hf (fun cc20 hf => ?_) (fun cc20 hf => ?_)
            ·
              refine gw_iconst (v := 0) (pc := 78) hK dL_refusesBowls_78 (by decide) ?_
              refine gw_istore_n (L' := [(2, .int 0), (1, .int r1), (0, .ref (gy_a Y c0))]) (pc := 79) hK dL_refusesBowls_79 rfl (by decide) rfl ?_
              refine gw_sub (L' := [(0, .ref (gy_a Y c0)), (1, .int r1), (2, .int 0)]) hK [2, 1, 0] rfl (lt_L_refusesBowls_80 hK c0 r1 hc0 _ (fun m71 y72 hf => ?_) gx_F _ _ hf)
              refine gw_iload_n (pc := 192) hK 1 dL_refusesBowls_192 rfl rfl ?_
              refine gw_if_le (tgt := 392) (pc := 193) hK dL_refusesBowls_193 (by decide) hf (fun cc73 hf => ?_) (fun cc73 hf => ?_)
              ·
                refine gw_iload_n (pc := 392) hK 1 dL_refusesBowls_392 rfl rfl ?_
                refine gw_if_gt (tgt := 424) (pc := 393) hK dL_refusesBowls_393 (by decide) hf (fun cc74 hf => ?_) (fun cc74 hf => ?_)
                ·
                  refine gw_iconst (v := 1) (pc := 424) hK dL_refusesBowls_424 (by decide) ?_
                  refine gw_goto (tgt := 429) (pc := 425) hK dL_refusesBowls_425 (by decide) ?_
                  exact gw_ret_z (pc := 429) hK dL_refusesBowls_429 rfl (Option.some.inj hf)
                ·
                  refine gw_aload_n (pc := 396) hK 0 dL_refusesBowls_396 rfl rfl ?_
                  refine gw_iconst (v := 0) (pc := 397) hK dL_refusesBowls_397 (by decide) ?_
                  refine gv_L_36 (pc := 398) hK hc0 dL_refusesBowls_398 (by decide) (Nat.le_of_ble_eq_true rfl) hf (fun r75 m76 hf => ?_)
                  refine gw_ldc (pc := 401) hK dL_refusesBowls_401 kw_k_RL_60 ?_
                  refine gw_icmp_ne (tgt := 428) (pc := 403) hK dL_refusesBowls_403 (by decide) hf (fun cc77 hf => ?_) (fun cc77 hf => ?_)
                  ·
                    refine gw_iconst (v := 0) (pc := 428) hK dL_refusesBowls_428 (by decide) ?_
                    exact gw_ret_z (pc := 429) hK dL_refusesBowls_429 rfl (Option.some.inj hf)
                  ·
                    refine gw_aload_n (pc := 406) hK 0 dL_refusesBowls_406 rfl rfl ?_
                    refine gv_L_61 (pc := 407) hK hc0 dL_refusesBowls_407 (by decide) (Nat.le_of_ble_eq_true rfl) hf (fun r78 m79 hf => ?_)
                    refine gw_ldc (pc := 410) hK dL_refusesBowls_410 kw_k_RL_60 ?_
                    refine gw_icmp_ne (tgt := 428) (pc := 412) hK dL_refusesBowls_412 (by decide) hf (fun cc80 hf => ?_) (fun cc80 hf => ?_)
                    ·
                      refine gw_iconst (v := 0) (pc := 428) hK dL_refusesBowls_428 (by decide) ?_
                      exact gw_ret_z (pc := 429) hK dL_refusesBowls_429 rfl (Option.some.inj hf)
                    ·
                      refine gw_aload_n (pc := 415) hK 0 dL_refusesBowls_415 rfl rfl ?_
                      refine gv_L_65 (pc := 416) hK hc0 dL_refusesBowls_416 (by decide) (Nat.le_of_ble_eq_true rfl) hf (fun r81 m82 hf => ?_)
                      refine gw_ldc (pc := 419) hK dL_refusesBowls_419 kw_k_RL_60 ?_
                      refine gw_icmp_ne (tgt := 428) (pc := 421) hK dL_refusesBowls_421 (by decide) hf (fun cc83 hf => ?_) (fun cc83 hf => ?_)
                      ·
                        refine gw_iconst (v := 0) (pc := 428) hK dL_refusesBowls_428 (by decide) ?_
                        exact gw_ret_z (pc := 429) hK dL_refusesBowls_429 rfl (Option.some.inj hf)
                      ·
                        refine gw_iconst (v := 1) (pc := 424) hK dL_refusesBowls_424 (by decide) ?_
                        refine gw_goto (tgt := 429) (pc := 425) hK dL_refusesBowls_425 (by decide) ?_
                        exact gw_ret_z (pc := 429) hK dL_refusesBowls_429 rfl (Option.some.inj hf)
              ·
                refine gw_aload_n (pc := 196) hK 0 dL_refusesBowls_196 rfl rfl ?_
                refine gw_iconst (v := 0) (pc := 197) hK dL_refusesBowls_197 (by decide) ?_
                refine gw_iconst (v := 0) (pc := 198) hK dL_refusesBowls_198 (by decide) ?_
                refine gv_L_42 (pc := 199) hK hc0 dL_refusesBowls_199 (by decide) (Nat.le_of_ble_eq_true rfl) hf (fun r84 m85 hf => ?_)
                refine gw_ldc (pc := 202) hK dL_refusesBowls_202 kw_k_RL_35 ?_
                refine gw_icmp_ne (tgt := 390) (pc := 204) hK dL_refusesBowls_204 (by decide) hf (fun cc86 hf => ?_) (fun cc86 hf => ?_)
                ·
                  refine gw_iconst (v := 0) (pc := 390) hK dL_refusesBowls_390 (by decide) ?_
                  exact gw_ret_z (pc := 391) hK dL_refusesBowls_391 rfl (Option.some.inj hf)
                ·
                  refine gw_aload_n (pc := 207) hK 0 dL_refusesBowls_207 rfl rfl ?_
                  refine gw_iconst (v := 0) (pc := 208) hK dL_refusesBowls_208 (by decide) ?_
                  refine gw_sipush (v := 1001) (pc := 209) hK dL_refusesBowls_209 (by decide) ?_
                  refine gv_L_42 (pc := 212) hK hc0 dL_refusesBowls_212 (by decide) (Nat.le_of_ble_eq_true rfl) hf (fun r87 m88 hf => ?_)
                  refine gw_ldc (pc := 215) hK dL_refusesBowls_215 kw_k_RL_35 ?_
                  refine gw_icmp_ne (tgt := 390) (pc := 217) hK dL_refusesBowls_217 (by decide) hf (fun cc89 hf => ?_) (fun cc89 hf => ?_)
                  ·
                    refine gw_iconst (v := 0) (pc := 390) hK dL_refusesBowls_390 (by decide) ?_
                    exact gw_ret_z (pc := 391) hK dL_refusesBowls_391 rfl (Option.some.inj hf)
                  ·
                    refine gw_aload_n (pc := 220) hK 0 dL_refusesBowls_220 rfl rfl ?_
                    refine gw_iconst (v := 0) (pc := 221) hK dL_refusesBowls_221 (by decide) ?_
                    refine gw_iconst (v := 0) (pc := 222) hK dL_refusesBowls_222 (by decide) ?_
                    refine gv_L_45 (pc := 223) hK hc0 dL_refusesBowls_223 (by decide) (Nat.le_of_ble_eq_true rfl) hf (fun r90 m91 hf => ?_)
                    refine gw_ldc (pc := 226) hK dL_refusesBowls_226 kw_k_RL_35 ?_
                    refine gw_icmp_ne (tgt := 390) (pc := 228) hK dL_refusesBowls_228 (by decide) hf (fun cc92 hf => ?_) (fun cc92 hf => ?_)
                    ·
                      refine gw_iconst (v := 0) (pc := 390) hK dL_refusesBowls_390 (by decide) ?_
                      exact gw_ret_z (pc := 391) hK dL_refusesBowls_391 rfl (Option.some.inj hf)
                    ·
                      refine gw_aload_n (pc := 231) hK 0 dL_refusesBowls_231 rfl rfl ?_
                      refine gw_iconst (v := 0) (pc := 232) hK dL_refusesBowls_232 (by decide) ?_
                      refine gw_sipush (v := 1001) (pc := 233) hK dL_refusesBowls_233 (by decide) ?_
                      refine gv_L_45 (pc := 236) hK hc0 dL_refusesBowls_236 (by decide) (Nat.le_of_ble_eq_true rfl) hf (fun r93 m94 hf => ?_)
                      refine gw_ldc (pc := 239) hK dL_refusesBowls_239 kw_k_RL_35 ?_
                      refine gw_icmp_ne (tgt := 390) (pc := 241) hK dL_refusesBowls_241 (by decide) hf (fun cc95 hf => ?_) (fun cc95 hf => ?_)
                      ·
                        refine gw_iconst (v := 0) (pc := 390) hK dL_refusesBowls_390 (by decide) ?_
                        exact gw_ret_z (pc := 391) hK dL_refusesBowls_391 rfl (Option.some.inj hf)
                      ·
                        refine gw_aload_n (pc := 244) hK 0 dL_refusesBowls_244 rfl rfl ?_
                        refine gw_iconst (v := 0) (pc := 245) hK dL_refusesBowls_245 (by decide) ?_
                        refine gw_iconst (v := (-1)) (pc := 246) hK dL_refusesBowls_246 (by decide) ?_
                        refine gv_L_48 (pc := 247) hK hc0 dL_refusesBowls_247 (by decide) (Nat.le_of_ble_eq_true rfl) hf (fun r96 m97 hf => ?_)
                        refine gw_ldc (pc := 250) hK dL_refusesBowls_250 kw_k_RL_35 ?_
                        refine gw_icmp_ne (tgt := 390) (pc := 252) hK dL_refusesBowls_252 (by decide) hf (fun cc98 hf => ?_) (fun cc98 hf => ?_)
                        ·
                          refine gw_iconst (v := 0) (pc := 390) hK dL_refusesBowls_390 (by decide) ?_
                          exact gw_ret_z (pc := 391) hK dL_refusesBowls_391 rfl (Option.some.inj hf)
                        ·
                          refine gw_aload_n (pc := 255) hK 0 dL_refusesBowls_255 rfl rfl ?_
                          refine gw_iconst (v := 0) (pc := 256) hK dL_refusesBowls_256 (by decide) ?_
                          refine gw_sipush (v := 1001) (pc := 257) hK dL_refusesBowls_257 (by decide) ?_
                          refine gv_L_48 (pc := 260) hK hc0 dL_refusesBowls_260 (by decide) (Nat.le_of_ble_eq_true rfl) hf (fun r99 m100 hf => ?_)
                          refine gw_ldc (pc := 263) hK dL_refusesBowls_263 kw_k_RL_35 ?_
                          refine gw_icmp_ne (tgt := 390) (pc := 265) hK dL_refusesBowls_265 (by decide) hf (fun cc101 hf => ?_) (fun cc101 hf => ?_)
                          ·
                            refine gw_iconst (v := 0) (pc := 390) hK dL_refusesBowls_390 (by decide) ?_
                            exact gw_ret_z (pc := 391) hK dL_refusesBowls_391 rfl (Option.some.inj hf)
                          ·
                            refine gw_aload_n (pc := 268) hK 0 dL_refusesBowls_268 rfl rfl ?_
                            refine gw_iconst (v := 0) (pc := 269) hK dL_refusesBowls_269 (by decide) ?_
                            refine gw_iconst (v := (-1)) (pc := 270) hK dL_refusesBowls_270 (by decide) ?_
                            refine gv_L_51 (pc := 271) hK hc0 dL_refusesBowls_271 (by decide) (Nat.le_of_ble_eq_true rfl) hf (fun r102 m103 hf => ?_)
                            refine gw_ldc (pc := 274) hK dL_refusesBowls_274 kw_k_RL_35 ?_
                            refine gw_icmp_ne (tgt := 390) (pc := 276) hK dL_refusesBowls_276 (by decide) hf (fun cc104 hf => ?_) (fun cc104 hf => ?_)
                            ·
                              refine gw_iconst (v := 0) (pc := 390) hK dL_refusesBowls_390 (by decide) ?_
                              exact gw_ret_z (pc := 391) hK dL_refusesBowls_391 rfl (Option.some.inj hf)
                            ·
                              refine gw_aload_n (pc := 279) hK 0 dL_refusesBowls_279 rfl rfl ?_
                              refine gw_iconst (v := 0) (pc := 280) hK dL_refusesBowls_280 (by decide) ?_
                              refine gw_sipush (v := 1001) (pc := 281) hK dL_refusesBowls_281 (by decide) ?_
                              refine gv_L_51 (pc := 284) hK hc0 dL_refusesBowls_284 (by decide) (Nat.le_of_ble_eq_true rfl) hf (fun r105 m106 hf => ?_)
                              refine gw_ldc (pc := 287) hK dL_refusesBowls_287 kw_k_RL_35 ?_
                              refine gw_icmp_ne (tgt := 390) (pc := 289) hK dL_refusesBowls_289 (by decide) hf (fun cc107 hf => ?_) (fun cc107 hf => ?_)
                              ·
                                refine gw_iconst (v := 0) (pc := 390) hK dL_refusesBowls_390 (by decide) ?_
                                exact gw_ret_z (pc := 391) hK dL_refusesBowls_391 rfl (Option.some.inj hf)
                              ·
                                refine gw_aload_n (pc := 292) hK 0 dL_refusesBowls_292 rfl rfl ?_
                                refine gw_iconst (v := 0) (pc := 293) hK dL_refusesBowls_293 (by decide) ?_
                                refine gw_bipush (v := 7) (pc := 294) hK dL_refusesBowls_294 (by decide) ?_
                                refine gv_L_25 (pc := 296) hK hc0 dL_refusesBowls_296 (by decide) (Nat.le_of_ble_eq_true rfl) hf (fun r108 m109 hf => ?_)
                                refine gw_ldc (pc := 299) hK dL_refusesBowls_299 kw_k_RL_35 ?_
                                refine gw_icmp_ne (tgt := 390) (pc := 301) hK dL_refusesBowls_301 (by decide) hf (fun cc110 hf => ?_) (fun cc110 hf => ?_)
                                ·
                                  refine gw_iconst (v := 0) (pc := 390) hK dL_refusesBowls_390 (by decide) ?_
                                  exact gw_ret_z (pc := 391) hK dL_refusesBowls_391 rfl (Option.some.inj hf)
                                ·
                                  refine gw_aload_n (pc := 304) hK 0 dL_refusesBowls_304 rfl rfl ?_
                                  refine gw_iconst (v := 0) (pc := 305) hK dL_refusesBowls_305 (by decide) ?_
                                  refine gw_iconst (v := (-1)) (pc := 306) hK dL_refusesBowls_306 (by decide) ?_
                                  refine gv_L_25 (pc := 307) hK hc0 dL_refusesBowls_307 (by decide) (Nat.le_of_ble_eq_true rfl) hf (fun r111 m112 hf => ?_)
                                  refine gw_ldc (pc := 310) hK dL_refusesBowls_310 kw_k_RL_35 ?_
                                  refine gw_icmp_ne (tgt := 390) (pc := 312) hK dL_refusesBowls_312 (by decide) hf (fun cc113 hf => ?_) (fun cc113 hf => ?_)
                                  ·
                                    refine gw_iconst (v := 0) (pc := 390) hK dL_refusesBowls_390 (by decide) ?_
                                    exact gw_ret_z (pc := 391) hK dL_refusesBowls_391 rfl (Option.some.inj hf)
                                  ·
                                    refine gw_aload_n (pc := 315) hK 0 dL_refusesBowls_315 rfl rfl ?_
                                    refine gw_iconst (v := 0) (pc := 316) hK dL_refusesBowls_316 (by decide) ?_
                                    refine gw_sipush (v := (-3001)) (pc := 317) hK dL_refusesBowls_317 (by decide) ?_
                                    refine gv_L_54 (pc := 320) hK hc0 dL_refusesBowls_320 (by decide) (Nat.le_of_ble_eq_true rfl) hf (fun r114 m115 hf => ?_)
                                    refine gw_ldc (pc := 323) hK dL_refusesBowls_323 kw_k_RL_35 ?_
                                    refine gw_icmp_ne (tgt := 390) (pc := 325) hK dL_refusesBowls_325 (by decide) hf (fun cc116 hf => ?_) (fun cc116 hf => ?_)
                                    ·
                                      refine gw_iconst (v := 0) (pc := 390) hK dL_refusesBowls_390 (by decide) ?_
                                      exact gw_ret_z (pc := 391) hK dL_refusesBowls_391 rfl (Option.some.inj hf)
                                    ·
                                      refine gw_aload_n (pc := 328) hK 0 dL_refusesBowls_328 rfl rfl ?_
                                      refine gw_iconst (v := 0) (pc := 329) hK dL_refusesBowls_329 (by decide) ?_
                                      refine gw_sipush (v := 6001) (pc := 330) hK dL_refusesBowls_330 (by decide) ?_
                                      refine gv_L_54 (pc := 333) hK hc0 dL_refusesBowls_333 (by decide) (Nat.le_of_ble_eq_true rfl) hf (fun r117 m118 hf => ?_)
                                      refine gw_ldc (pc := 336) hK dL_refusesBowls_336 kw_k_RL_35 ?_
                                      refine gw_icmp_ne (tgt := 390) (pc := 338) hK dL_refusesBowls_338 (by decide) hf (fun cc119 hf => ?_) (fun cc119 hf => ?_)
                                      ·
                                        refine gw_iconst (v := 0) (pc := 390) hK dL_refusesBowls_390 (by decide) ?_
                                        exact gw_ret_z (pc := 391) hK dL_refusesBowls_391 rfl (Option.some.inj hf)
                                      ·
                                        refine gw_aload_n (pc := 341) hK 0 dL_refusesBowls_341 rfl rfl ?_
                                        refine gw_iconst (v := 0) (pc := 342) hK dL_refusesBowls_342 (by decide) ?_
                                        refine gw_sipush (v := 3601) (pc := 343) hK dL_refusesBowls_343 (by decide) ?_
                                        refine gv_L_57 (pc := 346) hK hc0 dL_refusesBowls_346 (by decide) (Nat.le_of_ble_eq_true rfl) hf (fun r120 m121 hf => ?_)
                                        refine gw_ldc (pc := 349) hK dL_refusesBowls_349 kw_k_RL_35 ?_
                                        refine gw_icmp_ne (tgt := 390) (pc := 351) hK dL_refusesBowls_351 (by decide) hf (fun cc122 hf => ?_) (fun cc122 hf => ?_)
                                        ·
                                          refine gw_iconst (v := 0) (pc := 390) hK dL_refusesBowls_390 (by decide) ?_
                                          exact gw_ret_z (pc := 391) hK dL_refusesBowls_391 rfl (Option.some.inj hf)
                                        ·
                                          refine gw_aload_n (pc := 354) hK 0 dL_refusesBowls_354 rfl rfl ?_
                                          refine gw_iconst (v := 0) (pc := 355) hK dL_refusesBowls_355 (by decide) ?_
                                          refine gw_aload_n (pc := 356) hK 0 dL_refusesBowls_356 rfl rfl ?_
                                          refine gw_iconst (v := 0) (pc := 357) hK dL_refusesBowls_357 (by decide) ?_
                                          refine gv_L_13 (pc := 358) hK hc0 dL_refusesBowls_358 (by decide) (Nat.le_of_ble_eq_true rfl) hf (fun r123 m124 hf => ?_)
                                          refine gw_iconst (v := 1) (pc := 361) hK dL_refusesBowls_361 (by decide) ?_
                                          refine gw_isub (pc := 362) hK dL_refusesBowls_362 ?_
                                          refine gv_L_57 (pc := 363) hK hc0 dL_refusesBowls_363 (by decide) (Nat.le_of_ble_eq_true rfl) hf (fun r125 m126 hf => ?_)
                                          refine gw_ldc (pc := 366) hK dL_refusesBowls_366 kw_k_RL_35 ?_
                                          refine gw_icmp_ne (tgt := 390) (pc := 368) hK dL_refusesBowls_368 (by decide) hf (fun cc127 hf => ?_) (fun cc127 hf => ?_)
                                          ·
                                            refine gw_iconst (v := 0) (pc := 390) hK dL_refusesBowls_390 (by decide) ?_
                                            exact gw_ret_z (pc := 391) hK dL_refusesBowls_391 rfl (Option.some.inj hf)
                                          ·
                                            refine gw_aload_n (pc := 371) hK 0 dL_refusesBowls_371 rfl rfl ?_
                                            refine gw_iconst (v := 0) (pc := 372) hK dL_refusesBowls_372 (by decide) ?_
                                            refine gw_aload_n (pc := 373) hK 0 dL_refusesBowls_373 rfl rfl ?_
                                            refine gw_iconst (v := 0) (pc := 374) hK dL_refusesBowls_374 (by decide) ?_
                                            refine gv_L_13 (pc := 375) hK hc0 dL_refusesBowls_375 (by decide) (Nat.le_of_ble_eq_true rfl) hf (fun r128 m129 hf => ?_)
                                            refine gv_L_57 (pc := 378) hK hc0 dL_refusesBowls_378 (by decide) (Nat.le_of_ble_eq_true rfl) hf (fun r130 m131 hf => ?_)
                                            refine gw_aload_n (pc := 381) hK 0 dL_refusesBowls_381 rfl rfl ?_
                                            refine gw_iconst (v := 0) (pc := 382) hK dL_refusesBowls_382 (by decide) ?_
                                            refine gw_iconst (v := 5) (pc := 383) hK dL_refusesBowls_383 (by decide) ?_
                                            refine gv_L_25 (pc := 384) hK hc0 dL_refusesBowls_384 (by decide) (Nat.le_of_ble_eq_true rfl) hf (fun r132 m133 hf => ?_)
                                            refine gw_icmp_eq (tgt := 392) (pc := 387) hK dL_refusesBowls_387 (by decide) hf (fun cc134 hf => ?_) (fun cc134 hf => ?_)
                                            ·
                                              refine gw_iload_n (pc := 392) hK 1 dL_refusesBowls_392 rfl rfl ?_
                                              refine gw_if_gt (tgt := 424) (pc := 393) hK dL_refusesBowls_393 (by decide) hf (fun cc135 hf => ?_) (fun cc135 hf => ?_)
                                              ·
                                                refine gw_iconst (v := 1) (pc := 424) hK dL_refusesBowls_424 (by decide) ?_
                                                refine gw_goto (tgt := 429) (pc := 425) hK dL_refusesBowls_425 (by decide) ?_
                                                exact gw_ret_z (pc := 429) hK dL_refusesBowls_429 rfl (Option.some.inj hf)
                                              ·
                                                refine gw_aload_n (pc := 396) hK 0 dL_refusesBowls_396 rfl rfl ?_
                                                refine gw_iconst (v := 0) (pc := 397) hK dL_refusesBowls_397 (by decide) ?_
                                                refine gv_L_36 (pc := 398) hK hc0 dL_refusesBowls_398 (by decide) (Nat.le_of_ble_eq_true rfl) hf (fun r136 m137 hf => ?_)
                                                refine gw_ldc (pc := 401) hK dL_refusesBowls_401 kw_k_RL_60 ?_
                                                refine gw_icmp_ne (tgt := 428) (pc := 403) hK dL_refusesBowls_403 (by decide) hf (fun cc138 hf => ?_) (fun cc138 hf => ?_)
                                                ·
                                                  refine gw_iconst (v := 0) (pc := 428) hK dL_refusesBowls_428 (by decide) ?_
                                                  exact gw_ret_z (pc := 429) hK dL_refusesBowls_429 rfl (Option.some.inj hf)
                                                ·
                                                  refine gw_aload_n (pc := 406) hK 0 dL_refusesBowls_406 rfl rfl ?_
                                                  refine gv_L_61 (pc := 407) hK hc0 dL_refusesBowls_407 (by decide) (Nat.le_of_ble_eq_true rfl) hf (fun r139 m140 hf => ?_)
                                                  refine gw_ldc (pc := 410) hK dL_refusesBowls_410 kw_k_RL_60 ?_
                                                  refine gw_icmp_ne (tgt := 428) (pc := 412) hK dL_refusesBowls_412 (by decide) hf (fun cc141 hf => ?_) (fun cc141 hf => ?_)
                                                  ·
                                                    refine gw_iconst (v := 0) (pc := 428) hK dL_refusesBowls_428 (by decide) ?_
                                                    exact gw_ret_z (pc := 429) hK dL_refusesBowls_429 rfl (Option.some.inj hf)
                                                  ·
                                                    refine gw_aload_n (pc := 415) hK 0 dL_refusesBowls_415 rfl rfl ?_
                                                    refine gv_L_65 (pc := 416) hK hc0 dL_refusesBowls_416 (by decide) (Nat.le_of_ble_eq_true rfl) hf (fun r142 m143 hf => ?_)
                                                    refine gw_ldc (pc := 419) hK dL_refusesBowls_419 kw_k_RL_60 ?_
                                                    refine gw_icmp_ne (tgt := 428) (pc := 421) hK dL_refusesBowls_421 (by decide) hf (fun cc144 hf => ?_) (fun cc144 hf => ?_)
                                                    ·
                                                      refine gw_iconst (v := 0) (pc := 428) hK dL_refusesBowls_428 (by decide) ?_
                                                      exact gw_ret_z (pc := 429) hK dL_refusesBowls_429 rfl (Option.some.inj hf)
                                                    ·
                                                      refine gw_iconst (v := 1) (pc := 424) hK dL_refusesBowls_424 (by decide) ?_
                                                      refine gw_goto (tgt := 429) (pc := 425) hK dL_refusesBowls_425 (by decide) ?_
                                                      exact gw_ret_z (pc := 429) hK dL_refusesBowls_429 rfl (Option.some.inj hf)
                                            ·
                                              refine gw_iconst (v := 0) (pc := 390) hK dL_refusesBowls_390 (by decide) ?_
                                              exact gw_ret_z (pc := 391) hK dL_refusesBowls_391 rfl (Option.some.inj hf)
            ·
              refine gw_iconst (v := 0) (pc := 76) hK dL_refusesBowls_76 (by decide) ?_
              exact gw_ret_z (pc := 77) hK dL_refusesBowls_77 rfl (Option.some.inj hf)
theorem gv_L_89 {l : Launch} {cc : ByteArray} {nL fr lo : Nat} {ret : Option FieldType} {Y : gx_Y} {Post : Value → gx_M → Prop} {K : gx_KT} {pc : Nat} {μ : gx_M} {L : List (Nat × Value)} {st : List Value} {α : Type} {rr : α} (h : gx_K l RL cc nL fr lo ret Y Post K) {c0 : Nat} (hc0 : gk_bow Y c0) (d : decode cc pc = .ok (.invokestatic 89, 3)) (hR : 7 + 1 ≤ fr ∧ 183 ≤ lo) (hst : (st.map fun v => v.category).sum ≤ 8) {k : Int32 → gx_M → Option α} (hf : gx_b (fn_L_refusesBowls (gy_k Y) μ c0) k = some rr) (kk : ∀ (r : Int32) (m : gx_M), k r m = some rr → K m (pc + 3) L (.int r :: st)) : K μ pc L (.ref (gy_a Y c0) :: st) := by
  obtain ⟨r, m, e, hk⟩ := gx_b_some hf
  exact gw_callS (As := [.ref (gy_a Y c0)]) (q := (r, m)) h (by refine ⟨rfl, by decide, by decide, (show (parseMethodDescriptor yL_refusesBowls.desc).map (fun d => d.parameters.length) = some 1 by decide +kernel)⟩) kw_ml_RL_89 kw_st_L_refusesBowls kw_in_RL kw_co_L_refusesBowls hR hst d (ct_L_refusesBowls l Y μ c0 (r, m) hc0 e) (kk r m hk)
def lf_L_refusesNotes_103 (kd : Nat → Nat) (c0 : Nat) (q1 : Int32) (k : gx_M → Int32 → Option (Int32 × gx_M)) : Nat → gx_M → Int32 → Option (Int32 × gx_M)
  | 0, _, _ => none
  | n + 1, μ, x2 => (if 2 ≤ x2 then
k μ x2
else
(if x2 = 0 then
gx_b (fn_X6_drop kd μ c0 q1) (fun r38 m39 =>
(if r38 = (-100001) then
gx_b (fn_X6_noteOf kd m39 c0 q1 0) (fun r41 m42 =>
(if r41 = (-100001) then
gx_b (fn_X6_wouldBe kd m42 c0 q1) (fun r44 m45 =>
(if r44 = (-100001) then
lf_L_refusesNotes_103 kd c0 q1 k n m45 (x2 + 1)
else
some (0, m45)))
else
some (0, m42)))
else
some (0, m39)))
else
gx_b (fn_X6_drop kd μ c0 (-1)) (fun r29 m30 =>
(if r29 = (-100001) then
gx_b (fn_X6_noteOf kd m30 c0 (-1) 0) (fun r32 m33 =>
(if r32 = (-100001) then
gx_b (fn_X6_wouldBe kd m33 c0 (-1)) (fun r35 m36 =>
(if r35 = (-100001) then
lf_L_refusesNotes_103 kd c0 q1 k n m36 (x2 + 1)
else
some (0, m36)))
else
some (0, m33)))
else
some (0, m30)))))
def fn_L_refusesNotes (kd : Nat → Nat) (μ : gx_M) (c0 : Nat) : Option (Int32 × gx_M) :=
  gx_b (fn_X6_count kd μ c0 2) (fun r1 m2 =>
gx_b (fn_X6_note kd m2 c0 (-1) 0) (fun r3 m4 =>
(if r3 = (-100001) then
gx_b (fn_X6_note kd m4 c0 3601 0) (fun r6 m7 =>
(if r6 = (-100001) then
gx_b (fn_X6_note kd m7 c0 0 (-1)) (fun r9 m10 =>
(if r9 = (-100001) then
gx_b (fn_X6_note kd m10 c0 0 6001) (fun r12 m13 =>
(if r12 = (-100001) then
gx_b (fn_X6_transpose kd m13 c0 0 r1 1) (fun r15 m16 =>
(if r15 = (-100001) then
gx_b (fn_X6_transpose kd m16 c0 (-1) 0 1) (fun r18 m19 =>
(if r18 = (-100001) then
gx_b (fn_X6_worst kd m19 c0 (-1)) (fun r21 m22 =>
(if r21 = (-100001) then
gx_b (fn_X6_worst kd m22 c0 40) (fun r24 m25 =>
(if r24 = (-100004) then
lf_L_refusesNotes_103 kd c0 r1 (fun m47 y48 =>
(if r1 < 2 then
some (1, m47)
else
gx_b (fn_X6_transpose kd m47 c0 1 0 1) (fun r50 m51 =>
(if r50 = (-100001) then
gx_b (fn_X6_transpose kd m51 c0 0 0 0) (fun r53 m54 =>
(if r53 = (-100001) then
gx_b (fn_X6_transpose kd m54 c0 0 0 6001) (fun r56 m57 =>
(if r56 = (-100001) then
gx_b (fn_X6_transpose kd m57 c0 0 0 (-6001)) (fun r59 m60 =>
(if r59 = (-100001) then
gx_b (fn_X6_noteOf kd m60 c0 0 7) (fun r62 m63 =>
(if r62 = (-100001) then
gx_b (fn_X6_noteOf kd m63 c0 0 (-1)) (fun r65 m66 =>
(if r65 = (-100001) then
gx_b (fn_X6_noteOf kd m66 c0 0 0) (fun r68 m69 =>
gx_b (fn_X6_note kd m69 c0 r68 0) (fun r70 m71 =>
(if r70 = (-100002) then
gx_b (fn_X6_noteOf kd m71 c0 0 1) (fun r73 m74 =>
(if r73 ≤ 0 then
gx_b (fn_X6_transpose kd m74 c0 0 1 (-1)) (fun r76 m77 =>
(if r76 = (-100002) then
some (1, m77)
else
some (0, m77)))
else
gx_b (fn_X6_noteOf kd m74 c0 0 1) (fun r79 m80 =>
gx_b (fn_X6_transpose kd m80 c0 0 0 (6001 - r79)) (fun r81 m82 =>
(if r81 = (-100002) then
some (1, m82)
else
some (0, m82))))))
else
some (0, m71))))
else
some (0, m66)))
else
some (0, m63)))
else
some (0, m60)))
else
some (0, m57)))
else
some (0, m54)))
else
some (0, m51))))) gx_F m25 0
else
some (0, m25)))
else
some (0, m22)))
else
some (0, m19)))
else
some (0, m16)))
else
some (0, m13)))
else
some (0, m10)))
else
some (0, m7)))
else
some (0, m4))))
set_option maxRecDepth 100000 in
set_option maxHeartbeats 4000000 in
theorem lt_L_refusesNotes_103 {l : Launch} {Y : gx_Y} {rr : Int32 × gx_M} {K : gx_KT} (hK : gx_K l RL cL_refusesNotes 4 7 160 (some .boolean) Y (gx_P rr) K) (c0 : Nat) (q1 : Int32) (hc0 : gk_bow Y c0) (k : gx_M → Int32 → Option (Int32 × gx_M)) (hx : ∀ (μ : gx_M) (x2 : Int32), k μ x2 = some rr → K μ 157 [(0, .ref (gy_a Y c0)), (1, .int q1), (2, .int x2)] []) :
    ∀ (n : Nat) (μ : gx_M) (x2 : Int32), lf_L_refusesNotes_103 (gy_k Y) c0 q1 k n μ x2 = some rr → K μ 103 [(0, .ref (gy_a Y c0)), (1, .int q1), (2, .int x2)] [] := by
  intro n
  induction n with
  | zero =>
    intro μ x2 hf
    exact absurd hf (by simp [lf_L_refusesNotes_103])
  | succ n ih =>
    intro μ x2 hf
    rw [lf_L_refusesNotes_103] at hf
    refine gw_iload_n (pc := 103) hK 2 dL_refusesNotes_103 rfl rfl ?_
    refine gw_iconst (v := 2) (pc := 104) hK dL_refusesNotes_104 (by decide) ?_
    refine gw_icmp_ge (tgt := 157) (pc := 105) hK dL_refusesNotes_105 (by decide) hf (fun cc27 hf => ?_) (fun cc27 hf => ?_)
    ·
      refine gw_sub (L' := [(0, .ref (gy_a Y c0)), (1, .int q1), (2, .int x2)]) hK [0, 1, 2] rfl (hx _ _ hf)
    ·
      refine gw_iload_n (pc := 108) hK 2 dL_refusesNotes_108 rfl rfl ?_
      refine gw_if_ne (tgt := 116) (pc := 109) hK dL_refusesNotes_109 (by decide) hf (fun cc28 hf => ?_) (fun cc28 hf => ?_)
      ·
        refine gw_iconst (v := (-1)) (pc := 116) hK dL_refusesNotes_116 (by decide) ?_
        refine gw_istore_n (L' := [(3, .int (-1)), (0, .ref (gy_a Y c0)), (1, .int q1), (2, .int x2)]) (pc := 117) hK dL_refusesNotes_117 rfl (by decide) rfl ?_
        refine gw_aload_n (pc := 118) hK 1 dL_refusesNotes_118 rfl rfl ?_
        refine gw_iload_n (pc := 119) hK 0 dL_refusesNotes_119 rfl rfl ?_
        refine gv_L_78 (pc := 120) hK hc0 dL_refusesNotes_120 (by decide) (Nat.le_of_ble_eq_true rfl) hf (fun r29 m30 hf => ?_)
        refine gw_ldc (pc := 123) hK dL_refusesNotes_123 kw_k_RL_35 ?_
        refine gw_icmp_ne (tgt := 149) (pc := 125) hK dL_refusesNotes_125 (by decide) hf (fun cc31 hf => ?_) (fun cc31 hf => ?_)
        ·
          refine gw_iconst (v := 0) (pc := 149) hK dL_refusesNotes_149 (by decide) ?_
          exact gw_ret_z (pc := 150) hK dL_refusesNotes_150 rfl (Option.some.inj hf)
        ·
          refine gw_aload_n (pc := 128) hK 1 dL_refusesNotes_128 rfl rfl ?_
          refine gw_iload_n (pc := 129) hK 0 dL_refusesNotes_129 rfl rfl ?_
          refine gw_iconst (v := 0) (pc := 130) hK dL_refusesNotes_130 (by decide) ?_
          refine gv_L_29 (pc := 131) hK hc0 dL_refusesNotes_131 (by decide) (Nat.le_of_ble_eq_true rfl) hf (fun r32 m33 hf => ?_)
          refine gw_ldc (pc := 134) hK dL_refusesNotes_134 kw_k_RL_35 ?_
          refine gw_icmp_ne (tgt := 149) (pc := 136) hK dL_refusesNotes_136 (by decide) hf (fun cc34 hf => ?_) (fun cc34 hf => ?_)
          ·
            refine gw_iconst (v := 0) (pc := 149) hK dL_refusesNotes_149 (by decide) ?_
            exact gw_ret_z (pc := 150) hK dL_refusesNotes_150 rfl (Option.some.inj hf)
          ·
            refine gw_aload_n (pc := 139) hK 1 dL_refusesNotes_139 rfl rfl ?_
            refine gw_iload_n (pc := 140) hK 0 dL_refusesNotes_140 rfl rfl ?_
            refine gv_L_81 (pc := 141) hK hc0 dL_refusesNotes_141 (by decide) (Nat.le_of_ble_eq_true rfl) hf (fun r35 m36 hf => ?_)
            refine gw_ldc (pc := 144) hK dL_refusesNotes_144 kw_k_RL_35 ?_
            refine gw_icmp_eq (tgt := 151) (pc := 146) hK dL_refusesNotes_146 (by decide) hf (fun cc37 hf => ?_) (fun cc37 hf => ?_)
            ·
              refine gw_iinc (v := (x2 + 1)) (L' := [(2, .int (x2 + 1)), (3, .int (-1)), (0, .ref (gy_a Y c0)), (1, .int q1)]) (pc := 151) hK 3 dL_refusesNotes_151 rfl rfl (by decide) rfl ?_
              refine gw_goto (tgt := 103) (pc := 154) hK dL_refusesNotes_154 (by decide) ?_
              refine gw_sub (L' := [(0, .ref (gy_a Y c0)), (1, .int q1), (2, .int (x2 + 1))]) hK [2, 3, 0] rfl (ih _ _ hf)
            ·
              refine gw_iconst (v := 0) (pc := 149) hK dL_refusesNotes_149 (by decide) ?_
              exact gw_ret_z (pc := 150) hK dL_refusesNotes_150 rfl (Option.some.inj hf)
      ·
        refine gw_iload_n (pc := 112) hK 1 dL_refusesNotes_112 rfl rfl ?_
        refine gw_goto (tgt := 117) (pc := 113) hK dL_refusesNotes_113 (by decide) ?_
        refine gw_istore_n (L' := [(3, .int q1), (0, .ref (gy_a Y c0)), (1, .int q1), (2, .int x2)]) (pc := 117) hK dL_refusesNotes_117 rfl (by decide) rfl ?_
        refine gw_aload_n (pc := 118) hK 1 dL_refusesNotes_118 rfl rfl ?_
        refine gw_iload_n (pc := 119) hK 0 dL_refusesNotes_119 rfl rfl ?_
        refine gv_L_78 (pc := 120) hK hc0 dL_refusesNotes_120 (by decide) (Nat.le_of_ble_eq_true rfl) hf (fun r38 m39 hf => ?_)
        refine gw_ldc (pc := 123) hK dL_refusesNotes_123 kw_k_RL_35 ?_
        refine gw_icmp_ne (tgt := 149) (pc := 125) hK dL_refusesNotes_125 (by decide) hf (fun cc40 hf => ?_) (fun cc40 hf => ?_)
        ·
          refine gw_iconst (v := 0) (pc := 149) hK dL_refusesNotes_149 (by decide) ?_
          exact gw_ret_z (pc := 150) hK dL_refusesNotes_150 rfl (Option.some.inj hf)
        ·
          refine gw_aload_n (pc := 128) hK 1 dL_refusesNotes_128 rfl rfl ?_
          refine gw_iload_n (pc := 129) hK 0 dL_refusesNotes_129 rfl rfl ?_
          refine gw_iconst (v := 0) (pc := 130) hK dL_refusesNotes_130 (by decide) ?_
          refine gv_L_29 (pc := 131) hK hc0 dL_refusesNotes_131 (by decide) (Nat.le_of_ble_eq_true rfl) hf (fun r41 m42 hf => ?_)
          refine gw_ldc (pc := 134) hK dL_refusesNotes_134 kw_k_RL_35 ?_
          refine gw_icmp_ne (tgt := 149) (pc := 136) hK dL_refusesNotes_136 (by decide) hf (fun cc43 hf => ?_) (fun cc43 hf => ?_)
          ·
            refine gw_iconst (v := 0) (pc := 149) hK dL_refusesNotes_149 (by decide) ?_
            exact gw_ret_z (pc := 150) hK dL_refusesNotes_150 rfl (Option.some.inj hf)
          ·
            refine gw_aload_n (pc := 139) hK 1 dL_refusesNotes_139 rfl rfl ?_
            refine gw_iload_n (pc := 140) hK 0 dL_refusesNotes_140 rfl rfl ?_
            refine gv_L_81 (pc := 141) hK hc0 dL_refusesNotes_141 (by decide) (Nat.le_of_ble_eq_true rfl) hf (fun r44 m45 hf => ?_)
            refine gw_ldc (pc := 144) hK dL_refusesNotes_144 kw_k_RL_35 ?_
            refine gw_icmp_eq (tgt := 151) (pc := 146) hK dL_refusesNotes_146 (by decide) hf (fun cc46 hf => ?_) (fun cc46 hf => ?_)
            ·
              refine gw_iinc (v := (x2 + 1)) (L' := [(2, .int (x2 + 1)), (3, .int q1), (0, .ref (gy_a Y c0)), (1, .int q1)]) (pc := 151) hK 3 dL_refusesNotes_151 rfl rfl (by decide) rfl ?_
              refine gw_goto (tgt := 103) (pc := 154) hK dL_refusesNotes_154 (by decide) ?_
              refine gw_sub (L' := [(0, .ref (gy_a Y c0)), (1, .int q1), (2, .int (x2 + 1))]) hK [2, 3, 0] rfl (ih _ _ hf)
            ·
              refine gw_iconst (v := 0) (pc := 149) hK dL_refusesNotes_149 (by decide) ?_
              exact gw_ret_z (pc := 150) hK dL_refusesNotes_150 rfl (Option.some.inj hf)
set_option maxRecDepth 100000 in
set_option maxHeartbeats 4000000 in
theorem ct_L_refusesNotes (l : Launch) (Y : gx_Y) (μ : gx_M) (c0 : Nat) (rr : Int32 × gx_M) (hc0 : gk_bow Y c0) (hf : fn_L_refusesNotes (gy_k Y) μ c0 = some rr) : gx_Con l yL_refusesNotes cL_refusesNotes 4 (some .boolean) 7 160 Y [.ref (gy_a Y c0)] μ rr := by
  refine gx_Con_of (L0 := [(0, .ref (gy_a Y c0))]) (by decide) (Nat.le_of_ble_eq_true rfl) rfl (fun K hK => ?_)
  unfold fn_L_refusesNotes at hf
  refine gw_aload_n (pc := 0) hK 0 dL_refusesNotes_0 rfl rfl ?_
  refine gw_iconst (v := 2) (pc := 1) hK dL_refusesNotes_1 (by decide) ?_
  refine gv_L_13 (pc := 2) hK hc0 dL_refusesNotes_2 (by decide) (Nat.le_of_ble_eq_true rfl) hf (fun r1 m2 hf => ?_)
  refine gw_istore_n (L' := [(1, .int r1), (0, .ref (gy_a Y c0))]) (pc := 5) hK dL_refusesNotes_5 rfl (by decide) rfl ?_
  refine gw_aload_n (pc := 6) hK 1 dL_refusesNotes_6 rfl rfl ?_
  refine gw_iconst (v := (-1)) (pc := 7) hK dL_refusesNotes_7 (by decide) ?_
  refine gw_iconst (v := 0) (pc := 8) hK dL_refusesNotes_8 (by decide) ?_
  refine gv_L_68 (pc := 9) hK hc0 dL_refusesNotes_9 (by decide) (Nat.le_of_ble_eq_true rfl) hf (fun r3 m4 hf => ?_)
  refine gw_ldc (pc := 12) hK dL_refusesNotes_12 kw_k_RL_35 ?_
  refine gw_icmp_ne (tgt := 99) (pc := 14) hK dL_refusesNotes_14 (by decide) hf (fun cc5 hf => ?_) (fun cc5 hf => ?_)
  ·
    refine gw_iconst (v := 0) (pc := 99) hK dL_refusesNotes_99 (by decide) ?_
    exact gw_ret_z (pc := 100) hK dL_refusesNotes_100 rfl (Option.some.inj hf)
  ·
    refine gw_aload_n (pc := 17) hK 1 dL_refusesNotes_17 rfl rfl ?_
    refine gw_sipush (v := 3601) (pc := 18) hK dL_refusesNotes_18 (by decide) ?_
    refine gw_iconst (v := 0) (pc := 21) hK dL_refusesNotes_21 (by decide) ?_
    refine gv_L_68 (pc := 22) hK hc0 dL_refusesNotes_22 (by decide) (Nat.le_of_ble_eq_true rfl) hf (fun r6 m7 hf => ?_)
    refine gw_ldc (pc := 25) hK dL_refusesNotes_25 kw_k_RL_35 ?_
    refine gw_icmp_ne (tgt := 99) (pc := 27) hK dL_refusesNotes_27 (by decide) hf (fun cc8 hf => ?_) (fun cc8 hf => ?_)
    ·
      refine gw_iconst (v := 0) (pc := 99) hK dL_refusesNotes_99 (by decide) ?_
      exact gw_ret_z (pc := 100) hK dL_refusesNotes_100 rfl (Option.some.inj hf)
    ·
      refine gw_aload_n (pc := 30) hK 1 dL_refusesNotes_30 rfl rfl ?_
      refine gw_iconst (v := 0) (pc := 31) hK dL_refusesNotes_31 (by decide) ?_
      refine gw_iconst (v := (-1)) (pc := 32) hK dL_refusesNotes_32 (by decide) ?_
      refine gv_L_68 (pc := 33) hK hc0 dL_refusesNotes_33 (by decide) (Nat.le_of_ble_eq_true rfl) hf (fun r9 m10 hf => ?_)
      refine gw_ldc (pc := 36) hK dL_refusesNotes_36 kw_k_RL_35 ?_
      refine gw_icmp_ne (tgt := 99) (pc := 38) hK dL_refusesNotes_38 (by decide) hf (fun cc11 hf => ?_) (fun cc11 hf => ?_)
      ·
        refine gw_iconst (v := 0) (pc := 99) hK dL_refusesNotes_99 (by decide) ?_
        exact gw_ret_z (pc := 100) hK dL_refusesNotes_100 rfl (Option.some.inj hf)
      ·
        refine gw_aload_n (pc := 41) hK 1 dL_refusesNotes_41 rfl rfl ?_
        refine gw_iconst (v := 0) (pc := 42) hK dL_refusesNotes_42 (by decide) ?_
        refine gw_sipush (v := 6001) (pc := 43) hK dL_refusesNotes_43 (by decide) ?_
        refine gv_L_68 (pc := 46) hK hc0 dL_refusesNotes_46 (by decide) (Nat.le_of_ble_eq_true rfl) hf (fun r12 m13 hf => ?_)
        refine gw_ldc (pc := 49) hK dL_refusesNotes_49 kw_k_RL_35 ?_
        refine gw_icmp_ne (tgt := 99) (pc := 51) hK dL_refusesNotes_51 (by decide) hf (fun cc14 hf => ?_) (fun cc14 hf => ?_)
        ·
          refine gw_iconst (v := 0) (pc := 99) hK dL_refusesNotes_99 (by decide) ?_
          exact gw_ret_z (pc := 100) hK dL_refusesNotes_100 rfl (Option.some.inj hf)
        ·
          refine gw_aload_n (pc := 54) hK 1 dL_refusesNotes_54 rfl rfl ?_
          refine gw_iconst (v := 0) (pc := 55) hK dL_refusesNotes_55 (by decide) ?_
          refine gw_iload_n (pc := 56) hK 0 dL_refusesNotes_56 rfl rfl ?_
          refine gw_iconst (v := 1) (pc := 57) hK dL_refusesNotes_57 (by decide) ?_
          refine gv_L_71 (pc := 58) hK hc0 dL_refusesNotes_58 (by decide) (Nat.le_of_ble_eq_true rfl) hf (fun r15 m16 hf => ?_)
          refine gw_ldc (pc := 61) hK dL_refusesNotes_61 kw_k_RL_35 ?_
          refine gw_icmp_ne (tgt := 99) (pc := 63) hK dL_refusesNotes_63 (by decide) hf (fun cc17 hf => ?_) (fun cc17 hf => ?_)
          ·
            refine gw_iconst (v := 0) (pc := 99) hK dL_refusesNotes_99 (by decide) ?_
            exact gw_ret_z (pc := 100) hK dL_refusesNotes_100 rfl (Option.some.inj hf)
          ·
            refine gw_aload_n (pc := 66) hK 1 dL_refusesNotes_66 rfl rfl ?_
            refine gw_iconst (v := (-1)) (pc := 67) hK dL_refusesNotes_67 (by decide) ?_
            refine gw_iconst (v := 0) (pc := 68) hK dL_refusesNotes_68 (by decide) ?_
            refine gw_iconst (v := 1) (pc := 69) hK dL_refusesNotes_69 (by decide) ?_
            refine gv_L_71 (pc := 70) hK hc0 dL_refusesNotes_70 (by decide) (Nat.le_of_ble_eq_true rfl) hf (fun r18 m19 hf => ?_)
            refine gw_ldc (pc := 73) hK dL_refusesNotes_73 kw_k_RL_35 ?_
            refine gw_icmp_ne (tgt := 99) (pc := 75) hK dL_refusesNotes_75 (by decide) hf (fun cc20 hf => ?_) (fun cc20 hf => ?_)
            ·
              refine gw_iconst (v := 0) (pc := 99) hK dL_refusesNotes_99 (by decide) ?_
              exact gw_ret_z (pc := 100) hK dL_refusesNotes_100 rfl (Option.some.inj hf)
            ·
              refine gw_aload_n (pc := 78) hK 1 dL_refusesNotes_78 rfl rfl ?_
              refine gw_iconst (v := (-1)) (pc := 79) hK dL_refusesNotes_79 (by decide) ?_
              refine gv_L_75 (pc := 80) hK hc0 dL_refusesNotes_80 (by decide) (Nat.le_of_ble_eq_true rfl) hf (fun r21 m22 hf => ?_)
              refine gw_ldc (pc := 83) hK dL_refusesNotes_83 kw_k_RL_35 ?_
              refine gw_icmp_ne (tgt := 99) (pc := 85) hK dL_refusesNotes_85 (by decide) hf (fun cc23 hf => ?_) (fun cc23 hf => ?_)
              ·
                refine gw_iconst (v := 0) (pc := 99) hK dL_refusesNotes_99 (by decide) ?_
                exact gw_ret_z (pc := 100) hK dL_refusesNotes_100 rfl (Option.some.inj hf)
              ·
                refine gw_aload_n (pc := 88) hK 1 dL_refusesNotes_88 rfl rfl ?_
                refine gw_bipush (v := 40) (pc := 89) hK dL_refusesNotes_89 (by decide) ?_
                refine gv_L_75 (pc := 91) hK hc0 dL_refusesNotes_91 (by decide) (Nat.le_of_ble_eq_true rfl) hf (fun r24 m25 hf => ?_)
                refine gw_ldc (pc := 94) hK dL_refusesNotes_94 kw_k_RL_60 ?_
                refine gw_icmp_eq (tgt := 101) (pc := 96) hK dL_refusesNotes_96 (by decide) hf (fun cc26 hf => ?_) (fun cc26 hf => ?_)
                ·
                  refine gw_iconst (v := 0) (pc := 101) hK dL_refusesNotes_101 (by decide) ?_
                  refine gw_istore_n (L' := [(2, .int 0), (1, .int r1), (0, .ref (gy_a Y c0))]) (pc := 102) hK dL_refusesNotes_102 rfl (by decide) rfl ?_
                  refine gw_sub (L' := [(0, .ref (gy_a Y c0)), (1, .int r1), (2, .int 0)]) hK [2, 1, 0] rfl (lt_L_refusesNotes_103 hK c0 r1 hc0 _ (fun m47 y48 hf => ?_) gx_F _ _ hf)
                  refine gw_iload_n (pc := 157) hK 1 dL_refusesNotes_157 rfl rfl ?_
                  refine gw_iconst (v := 2) (pc := 158) hK dL_refusesNotes_158 (by decide) ?_
                  refine gw_icmp_lt (tgt := 298) (pc := 159) hK dL_refusesNotes_159 (by decide) hf (fun cc49 hf => ?_) (fun cc49 hf => ?_)
                  ·
                    refine gw_iconst (v := 1) (pc := 298) hK dL_refusesNotes_298 (by decide) ?_
                    refine gw_goto (tgt := 303) (pc := 299) hK dL_refusesNotes_299 (by decide) ?_
                    exact gw_ret_z (pc := 303) hK dL_refusesNotes_303 rfl (Option.some.inj hf)
                  ·
                    refine gw_aload_n (pc := 162) hK 0 dL_refusesNotes_162 rfl rfl ?_
                    refine gw_iconst (v := 1) (pc := 163) hK dL_refusesNotes_163 (by decide) ?_
                    refine gw_iconst (v := 0) (pc := 164) hK dL_refusesNotes_164 (by decide) ?_
                    refine gw_iconst (v := 1) (pc := 165) hK dL_refusesNotes_165 (by decide) ?_
                    refine gv_L_71 (pc := 166) hK hc0 dL_refusesNotes_166 (by decide) (Nat.le_of_ble_eq_true rfl) hf (fun r50 m51 hf => ?_)
                    refine gw_ldc (pc := 169) hK dL_refusesNotes_169 kw_k_RL_35 ?_
                    refine gw_icmp_ne (tgt := 302) (pc := 171) hK dL_refusesNotes_171 (by decide) hf (fun cc52 hf => ?_) (fun cc52 hf => ?_)
                    ·
                      refine gw_iconst (v := 0) (pc := 302) hK dL_refusesNotes_302 (by decide) ?_
                      exact gw_ret_z (pc := 303) hK dL_refusesNotes_303 rfl (Option.some.inj hf)
                    ·
                      refine gw_aload_n (pc := 174) hK 0 dL_refusesNotes_174 rfl rfl ?_
                      refine gw_iconst (v := 0) (pc := 175) hK dL_refusesNotes_175 (by decide) ?_
                      refine gw_iconst (v := 0) (pc := 176) hK dL_refusesNotes_176 (by decide) ?_
                      refine gw_iconst (v := 0) (pc := 177) hK dL_refusesNotes_177 (by decide) ?_
                      refine gv_L_71 (pc := 178) hK hc0 dL_refusesNotes_178 (by decide) (Nat.le_of_ble_eq_true rfl) hf (fun r53 m54 hf => ?_)
                      refine gw_ldc (pc := 181) hK dL_refusesNotes_181 kw_k_RL_35 ?_
                      refine gw_icmp_ne (tgt := 302) (pc := 183) hK dL_refusesNotes_183 (by decide) hf (fun cc55 hf => ?_) (fun cc55 hf => ?_)
                      ·
                        refine gw_iconst (v := 0) (pc := 302) hK dL_refusesNotes_302 (by decide) ?_
                        exact gw_ret_z (pc := 303) hK dL_refusesNotes_303 rfl (Option.some.inj hf)
                      ·
                        refine gw_aload_n (pc := 186) hK 0 dL_refusesNotes_186 rfl rfl ?_
                        refine gw_iconst (v := 0) (pc := 187) hK dL_refusesNotes_187 (by decide) ?_
                        refine gw_iconst (v := 0) (pc := 188) hK dL_refusesNotes_188 (by decide) ?_
                        refine gw_sipush (v := 6001) (pc := 189) hK dL_refusesNotes_189 (by decide) ?_
                        refine gv_L_71 (pc := 192) hK hc0 dL_refusesNotes_192 (by decide) (Nat.le_of_ble_eq_true rfl) hf (fun r56 m57 hf => ?_)
                        refine gw_ldc (pc := 195) hK dL_refusesNotes_195 kw_k_RL_35 ?_
                        refine gw_icmp_ne (tgt := 302) (pc := 197) hK dL_refusesNotes_197 (by decide) hf (fun cc58 hf => ?_) (fun cc58 hf => ?_)
                        ·
                          refine gw_iconst (v := 0) (pc := 302) hK dL_refusesNotes_302 (by decide) ?_
                          exact gw_ret_z (pc := 303) hK dL_refusesNotes_303 rfl (Option.some.inj hf)
                        ·
                          refine gw_aload_n (pc := 200) hK 0 dL_refusesNotes_200 rfl rfl ?_
                          refine gw_iconst (v := 0) (pc := 201) hK dL_refusesNotes_201 (by decide) ?_
                          refine gw_iconst (v := 0) (pc := 202) hK dL_refusesNotes_202 (by decide) ?_
                          refine gw_sipush (v := (-6001)) (pc := 203) hK dL_refusesNotes_203 (by decide) ?_
                          refine gv_L_71 (pc := 206) hK hc0 dL_refusesNotes_206 (by decide) (Nat.le_of_ble_eq_true rfl) hf (fun r59 m60 hf => ?_)
                          refine gw_ldc (pc := 209) hK dL_refusesNotes_209 kw_k_RL_35 ?_
                          refine gw_icmp_ne (tgt := 302) (pc := 211) hK dL_refusesNotes_211 (by decide) hf (fun cc61 hf => ?_) (fun cc61 hf => ?_)
                          ·
                            refine gw_iconst (v := 0) (pc := 302) hK dL_refusesNotes_302 (by decide) ?_
                            exact gw_ret_z (pc := 303) hK dL_refusesNotes_303 rfl (Option.some.inj hf)
                          ·
                            refine gw_aload_n (pc := 214) hK 0 dL_refusesNotes_214 rfl rfl ?_
                            refine gw_iconst (v := 0) (pc := 215) hK dL_refusesNotes_215 (by decide) ?_
                            refine gw_bipush (v := 7) (pc := 216) hK dL_refusesNotes_216 (by decide) ?_
                            refine gv_L_29 (pc := 218) hK hc0 dL_refusesNotes_218 (by decide) (Nat.le_of_ble_eq_true rfl) hf (fun r62 m63 hf => ?_)
                            refine gw_ldc (pc := 221) hK dL_refusesNotes_221 kw_k_RL_35 ?_
                            refine gw_icmp_ne (tgt := 302) (pc := 223) hK dL_refusesNotes_223 (by decide) hf (fun cc64 hf => ?_) (fun cc64 hf => ?_)
                            ·
                              refine gw_iconst (v := 0) (pc := 302) hK dL_refusesNotes_302 (by decide) ?_
                              exact gw_ret_z (pc := 303) hK dL_refusesNotes_303 rfl (Option.some.inj hf)
                            ·
                              refine gw_aload_n (pc := 226) hK 0 dL_refusesNotes_226 rfl rfl ?_
                              refine gw_iconst (v := 0) (pc := 227) hK dL_refusesNotes_227 (by decide) ?_
                              refine gw_iconst (v := (-1)) (pc := 228) hK dL_refusesNotes_228 (by decide) ?_
                              refine gv_L_29 (pc := 229) hK hc0 dL_refusesNotes_229 (by decide) (Nat.le_of_ble_eq_true rfl) hf (fun r65 m66 hf => ?_)
                              refine gw_ldc (pc := 232) hK dL_refusesNotes_232 kw_k_RL_35 ?_
                              refine gw_icmp_ne (tgt := 302) (pc := 234) hK dL_refusesNotes_234 (by decide) hf (fun cc67 hf => ?_) (fun cc67 hf => ?_)
                              ·
                                refine gw_iconst (v := 0) (pc := 302) hK dL_refusesNotes_302 (by decide) ?_
                                exact gw_ret_z (pc := 303) hK dL_refusesNotes_303 rfl (Option.some.inj hf)
                              ·
                                refine gw_aload_n (pc := 237) hK 0 dL_refusesNotes_237 rfl rfl ?_
                                refine gw_aload_n (pc := 238) hK 0 dL_refusesNotes_238 rfl rfl ?_
                                refine gw_iconst (v := 0) (pc := 239) hK dL_refusesNotes_239 (by decide) ?_
                                refine gw_iconst (v := 0) (pc := 240) hK dL_refusesNotes_240 (by decide) ?_
                                refine gv_L_29 (pc := 241) hK hc0 dL_refusesNotes_241 (by decide) (Nat.le_of_ble_eq_true rfl) hf (fun r68 m69 hf => ?_)
                                refine gw_iconst (v := 0) (pc := 244) hK dL_refusesNotes_244 (by decide) ?_
                                refine gv_L_68 (pc := 245) hK hc0 dL_refusesNotes_245 (by decide) (Nat.le_of_ble_eq_true rfl) hf (fun r70 m71 hf => ?_)
                                refine gw_ldc (pc := 248) hK dL_refusesNotes_248 kw_k_RL_84 ?_
                                refine gw_icmp_ne (tgt := 302) (pc := 250) hK dL_refusesNotes_250 (by decide) hf (fun cc72 hf => ?_) (fun cc72 hf => ?_)
                                ·
                                  refine gw_iconst (v := 0) (pc := 302) hK dL_refusesNotes_302 (by decide) ?_
                                  exact gw_ret_z (pc := 303) hK dL_refusesNotes_303 rfl (Option.some.inj hf)
                                ·
                                  refine gw_aload_n (pc := 253) hK 0 dL_refusesNotes_253 rfl rfl ?_
                                  refine gw_iconst (v := 0) (pc := 254) hK dL_refusesNotes_254 (by decide) ?_
                                  refine gw_iconst (v := 1) (pc := 255) hK dL_refusesNotes_255 (by decide) ?_
                                  refine gv_L_29 (pc := 256) hK hc0 dL_refusesNotes_256 (by decide) (Nat.le_of_ble_eq_true rfl) hf (fun r73 m74 hf => ?_)
                                  refine gw_if_le (tgt := 286) (pc := 259) hK dL_refusesNotes_259 (by decide) hf (fun cc75 hf => ?_) (fun cc75 hf => ?_)
                                  ·
                                    refine gw_aload_n (pc := 286) hK 0 dL_refusesNotes_286 rfl rfl ?_
                                    refine gw_iconst (v := 0) (pc := 287) hK dL_refusesNotes_287 (by decide) ?_
                                    refine gw_iconst (v := 1) (pc := 288) hK dL_refusesNotes_288 (by decide) ?_
                                    refine gw_iconst (v := (-1)) (pc := 289) hK dL_refusesNotes_289 (by decide) ?_
                                    refine gv_L_71 (pc := 290) hK hc0 dL_refusesNotes_290 (by decide) (Nat.le_of_ble_eq_true rfl) hf (fun r76 m77 hf => ?_)
                                    refine gw_ldc (pc := 293) hK dL_refusesNotes_293 kw_k_RL_84 ?_
                                    refine gw_icmp_ne (tgt := 302) (pc := 295) hK dL_refusesNotes_295 (by decide) hf (fun cc78 hf => ?_) (fun cc78 hf => ?_)
                                    ·
                                      refine gw_iconst (v := 0) (pc := 302) hK dL_refusesNotes_302 (by decide) ?_
                                      exact gw_ret_z (pc := 303) hK dL_refusesNotes_303 rfl (Option.some.inj hf)
                                    ·
                                      refine gw_iconst (v := 1) (pc := 298) hK dL_refusesNotes_298 (by decide) ?_
                                      refine gw_goto (tgt := 303) (pc := 299) hK dL_refusesNotes_299 (by decide) ?_
                                      exact gw_ret_z (pc := 303) hK dL_refusesNotes_303 rfl (Option.some.inj hf)
                                  ·
                                    refine gw_aload_n (pc := 262) hK 0 dL_refusesNotes_262 rfl rfl ?_
                                    refine gw_iconst (v := 0) (pc := 263) hK dL_refusesNotes_263 (by decide) ?_
                                    refine gw_iconst (v := 0) (pc := 264) hK dL_refusesNotes_264 (by decide) ?_
                                    refine gw_sipush (v := 6001) (pc := 265) hK dL_refusesNotes_265 (by decide) ?_
                                    refine gw_aload_n (pc := 268) hK 0 dL_refusesNotes_268 rfl rfl ?_
                                    refine gw_iconst (v := 0) (pc := 269) hK dL_refusesNotes_269 (by decide) ?_
                                    refine gw_iconst (v := 1) (pc := 270) hK dL_refusesNotes_270 (by decide) ?_
                                    refine gv_L_29 (pc := 271) hK hc0 dL_refusesNotes_271 (by decide) (Nat.le_of_ble_eq_true rfl) hf (fun r79 m80 hf => ?_)
                                    refine gw_isub (pc := 274) hK dL_refusesNotes_274 ?_
                                    refine gv_L_71 (pc := 275) hK hc0 dL_refusesNotes_275 (by decide) (Nat.le_of_ble_eq_true rfl) hf (fun r81 m82 hf => ?_)
                                    refine gw_ldc (pc := 278) hK dL_refusesNotes_278 kw_k_RL_84 ?_
                                    refine gw_icmp_ne (tgt := 302) (pc := 280) hK dL_refusesNotes_280 (by decide) hf (fun cc83 hf => ?_) (fun cc83 hf => ?_)
                                    ·
                                      refine gw_iconst (v := 0) (pc := 302) hK dL_refusesNotes_302 (by decide) ?_
                                      exact gw_ret_z (pc := 303) hK dL_refusesNotes_303 rfl (Option.some.inj hf)
                                    ·
                                      refine gw_goto (tgt := 298) (pc := 283) hK dL_refusesNotes_283 (by decide) ?_
                                      refine gw_iconst (v := 1) (pc := 298) hK dL_refusesNotes_298 (by decide) ?_
                                      refine gw_goto (tgt := 303) (pc := 299) hK dL_refusesNotes_299 (by decide) ?_
                                      exact gw_ret_z (pc := 303) hK dL_refusesNotes_303 rfl (Option.some.inj hf)
                ·
                  refine gw_iconst (v := 0) (pc := 99) hK dL_refusesNotes_99 (by decide) ?_
                  exact gw_ret_z (pc := 100) hK dL_refusesNotes_100 rfl (Option.some.inj hf)
theorem gv_L_93 {l : Launch} {cc : ByteArray} {nL fr lo : Nat} {ret : Option FieldType} {Y : gx_Y} {Post : Value → gx_M → Prop} {K : gx_KT} {pc : Nat} {μ : gx_M} {L : List (Nat × Value)} {st : List Value} {α : Type} {rr : α} (h : gx_K l RL cc nL fr lo ret Y Post K) {c0 : Nat} (hc0 : gk_bow Y c0) (d : decode cc pc = .ok (.invokestatic 93, 3)) (hR : 7 + 1 ≤ fr ∧ 183 ≤ lo) (hst : (st.map fun v => v.category).sum ≤ 8) {k : Int32 → gx_M → Option α} (hf : gx_b (fn_L_refusesNotes (gy_k Y) μ c0) k = some rr) (kk : ∀ (r : Int32) (m : gx_M), k r m = some rr → K m (pc + 3) L (.int r :: st)) : K μ pc L (.ref (gy_a Y c0) :: st) := by
  obtain ⟨r, m, e, hk⟩ := gx_b_some hf
  exact gw_callS (As := [.ref (gy_a Y c0)]) (q := (r, m)) h (by refine ⟨rfl, by decide, by decide, (show (parseMethodDescriptor yL_refusesNotes.desc).map (fun d => d.parameters.length) = some 1 by decide +kernel)⟩) kw_ml_RL_93 kw_st_L_refusesNotes kw_in_RL kw_co_L_refusesNotes hR hst d (ct_L_refusesNotes l Y μ c0 (r, m) hc0 e) (kk r m hk)
def lf_L_state_6 (kd : Nat → Nat) (c0 : Nat) (k : gx_M → Int64 → Int32 → Option (Int64 × gx_M)) : Nat → gx_M → Int64 → Int32 → Option (Int64 × gx_M)
  | 0, _, _, _ => none
  | n + 1, μ, x1, x3 => (if 25 ≤ x3 then
k μ x1 x3
else
(if x3 = 7 then
lf_L_state_6 kd c0 k n μ x1 (x3 + 1)
else
(if x3 = 8 then
lf_L_state_6 kd c0 k n μ x1 (x3 + 1)
else
gx_b (fn_X6_count kd μ c0 x3) (fun r4 m5 =>
gx_bL (fn_L_mixed kd m5 x1 r4.toInt64) (fun r6 m7 =>
lf_L_state_6 kd c0 k n m7 r6 (x3 + 1))))))
def lf_L_state_43 (kd : Nat → Nat) (c0 : Nat) (k : gx_M → Int64 → Int32 → Option (Int64 × gx_M)) : Nat → gx_M → Int64 → Int32 → Option (Int64 × gx_M)
  | 0, _, _, _ => none
  | n + 1, μ, x1, x3 => gx_b (fn_X6_count kd μ c0 1) (fun r11 m12 =>
(if (7 * r11) ≤ x3 then
k m12 x1 x3
else
gx_b (fn_X6_bowlOf kd m12 c0 (x3 / 7) (x3 - x3 / 7 * 7)) (fun r14 m15 =>
gx_bL (fn_L_mixed kd m15 x1 r14.toInt64) (fun r16 m17 =>
lf_L_state_43 kd c0 k n m17 r16 (x3 + 1)))))
def lf_L_state_81 (kd : Nat → Nat) (c0 : Nat) (k : gx_M → Int64 → Int32 → Option (Int64 × gx_M)) : Nat → gx_M → Int64 → Int32 → Option (Int64 × gx_M)
  | 0, _, _, _ => none
  | n + 1, μ, x1, x3 => gx_b (fn_X6_count kd μ c0 2) (fun r21 m22 =>
(if (7 * r21) ≤ x3 then
k m22 x1 x3
else
gx_b (fn_X6_noteOf kd m22 c0 (x3 / 7) (x3 - x3 / 7 * 7)) (fun r24 m25 =>
gx_bL (fn_L_mixed kd m25 x1 r24.toInt64) (fun r26 m27 =>
lf_L_state_81 kd c0 k n m27 r26 (x3 + 1)))))
def fn_L_state (kd : Nat → Nat) (μ : gx_M) (c0 : Nat) : Option (Int64 × gx_M) :=
  lf_L_state_6 kd c0 (fun m8 y9 y10 =>
lf_L_state_43 kd c0 (fun m18 y19 y20 =>
lf_L_state_81 kd c0 (fun m28 y29 y30 =>
some (y29, m28)) gx_F m18 y19 0) gx_F m8 y9 0) gx_F μ 5 0
set_option maxRecDepth 100000 in
set_option maxHeartbeats 4000000 in
theorem lt_L_state_6 {l : Launch} {Y : gx_Y} {rr : Int64 × gx_M} {K : gx_KT} (hK : gx_K l RL cL_state 4 5 112 (some .long) Y (gx_PL rr) K) (c0 : Nat) (hc0 : gk_bow Y c0) (k : gx_M → Int64 → Int32 → Option (Int64 × gx_M)) (hx : ∀ (μ : gx_M) (x1 : Int64) (x3 : Int32), k μ x1 x3 = some rr → K μ 41 [(0, .ref (gy_a Y c0)), (1, .long x1), (3, .int x3)] []) :
    ∀ (n : Nat) (μ : gx_M) (x1 : Int64) (x3 : Int32), lf_L_state_6 (gy_k Y) c0 k n μ x1 x3 = some rr → K μ 6 [(0, .ref (gy_a Y c0)), (1, .long x1), (3, .int x3)] [] := by
  intro n
  induction n with
  | zero =>
    intro μ x1 x3 hf
    exact absurd hf (by simp [lf_L_state_6])
  | succ n ih =>
    intro μ x1 x3 hf
    rw [lf_L_state_6] at hf
    refine gw_iload_n (pc := 6) hK 2 dL_state_6 rfl rfl ?_
    refine gw_bipush (v := 25) (pc := 7) hK dL_state_7 (by decide) ?_
    refine gw_icmp_ge (tgt := 41) (pc := 9) hK dL_state_9 (by decide) hf (fun cc1 hf => ?_) (fun cc1 hf => ?_)
    ·
      refine gw_sub (L' := [(0, .ref (gy_a Y c0)), (1, .long x1), (3, .int x3)]) hK [0, 1, 2] rfl (hx _ _ _ hf)
    ·
      refine gw_iload_n (pc := 12) hK 2 dL_state_12 rfl rfl ?_
      refine gw_bipush (v := 7) (pc := 13) hK dL_state_13 (by decide) ?_
      refine gw_icmp_eq (tgt := 35) (pc := 15) hK dL_state_15 (by decide) hf (fun cc2 hf => ?_) (fun cc2 hf => ?_)
      ·
        refine gw_iinc (v := (x3 + 1)) (L' := [(3, .int (x3 + 1)), (0, .ref (gy_a Y c0)), (1, .long x1)]) (pc := 35) hK 2 dL_state_35 rfl rfl (by decide) rfl ?_
        refine gw_goto (tgt := 6) (pc := 38) hK dL_state_38 (by decide) ?_
        refine gw_sub (L' := [(0, .ref (gy_a Y c0)), (1, .long x1), (3, .int (x3 + 1))]) hK [1, 2, 0] rfl (ih _ _ _ hf)
      ·
        refine gw_iload_n (pc := 18) hK 2 dL_state_18 rfl rfl ?_
        refine gw_bipush (v := 8) (pc := 19) hK dL_state_19 (by decide) ?_
        refine gw_icmp_eq (tgt := 35) (pc := 21) hK dL_state_21 (by decide) hf (fun cc3 hf => ?_) (fun cc3 hf => ?_)
        ·
          refine gw_iinc (v := (x3 + 1)) (L' := [(3, .int (x3 + 1)), (0, .ref (gy_a Y c0)), (1, .long x1)]) (pc := 35) hK 2 dL_state_35 rfl rfl (by decide) rfl ?_
          refine gw_goto (tgt := 6) (pc := 38) hK dL_state_38 (by decide) ?_
          refine gw_sub (L' := [(0, .ref (gy_a Y c0)), (1, .long x1), (3, .int (x3 + 1))]) hK [1, 2, 0] rfl (ih _ _ _ hf)
        ·
          refine gw_lload_n (pc := 24) hK 1 dL_state_24 rfl rfl ?_
          refine gw_aload_n (pc := 25) hK 0 dL_state_25 rfl rfl ?_
          refine gw_iload_n (pc := 26) hK 2 dL_state_26 rfl rfl ?_
          refine gv_L_13 (pc := 27) hK hc0 dL_state_27 (by decide) (Nat.le_of_ble_eq_true rfl) hf (fun r4 m5 hf => ?_)
          refine gw_i2l (pc := 30) hK dL_state_30 ?_
          refine gv_L_19 (pc := 31) hK dL_state_31 (by decide) (Nat.le_of_ble_eq_true rfl) hf (fun r6 m7 hf => ?_)
          refine gw_lstore_n (L' := [(1, .long r6), (0, .ref (gy_a Y c0)), (3, .int x3)]) (pc := 34) hK dL_state_34 rfl (by decide) rfl ?_
          refine gw_iinc (v := (x3 + 1)) (L' := [(3, .int (x3 + 1)), (1, .long r6), (0, .ref (gy_a Y c0))]) (pc := 35) hK 2 dL_state_35 rfl rfl (by decide) rfl ?_
          refine gw_goto (tgt := 6) (pc := 38) hK dL_state_38 (by decide) ?_
          refine gw_sub (L' := [(0, .ref (gy_a Y c0)), (1, .long r6), (3, .int (x3 + 1))]) hK [2, 1, 0] rfl (ih _ _ _ hf)
set_option maxRecDepth 100000 in
set_option maxHeartbeats 4000000 in
theorem lt_L_state_43 {l : Launch} {Y : gx_Y} {rr : Int64 × gx_M} {K : gx_KT} (hK : gx_K l RL cL_state 4 5 112 (some .long) Y (gx_PL rr) K) (c0 : Nat) (hc0 : gk_bow Y c0) (k : gx_M → Int64 → Int32 → Option (Int64 × gx_M)) (hx : ∀ (μ : gx_M) (x1 : Int64) (x3 : Int32), k μ x1 x3 = some rr → K μ 79 [(0, .ref (gy_a Y c0)), (1, .long x1), (3, .int x3)] []) :
    ∀ (n : Nat) (μ : gx_M) (x1 : Int64) (x3 : Int32), lf_L_state_43 (gy_k Y) c0 k n μ x1 x3 = some rr → K μ 43 [(0, .ref (gy_a Y c0)), (1, .long x1), (3, .int x3)] [] := by
  intro n
  induction n with
  | zero =>
    intro μ x1 x3 hf
    exact absurd hf (by simp [lf_L_state_43])
  | succ n ih =>
    intro μ x1 x3 hf
    rw [lf_L_state_43] at hf
    refine gw_iload_n (pc := 43) hK 2 dL_state_43 rfl rfl ?_
    refine gw_bipush (v := 7) (pc := 44) hK dL_state_44 (by decide) ?_
    refine gw_aload_n (pc := 46) hK 0 dL_state_46 rfl rfl ?_
    refine gw_iconst (v := 1) (pc := 47) hK dL_state_47 (by decide) ?_
    refine gv_L_13 (pc := 48) hK hc0 dL_state_48 (by decide) (Nat.le_of_ble_eq_true rfl) hf (fun r11 m12 hf => ?_)
    refine gw_imul (pc := 51) hK dL_state_51 ?_
    refine gw_icmp_ge (tgt := 79) (pc := 52) hK dL_state_52 (by decide) hf (fun cc13 hf => ?_) (fun cc13 hf => ?_)
    ·
      refine gw_sub (L' := [(0, .ref (gy_a Y c0)), (1, .long x1), (3, .int x3)]) hK [0, 1, 2] rfl (hx _ _ _ hf)
    ·
      refine gw_lload_n (pc := 55) hK 1 dL_state_55 rfl rfl ?_
      refine gw_aload_n (pc := 56) hK 0 dL_state_56 rfl rfl ?_
      refine gw_iload_n (pc := 57) hK 2 dL_state_57 rfl rfl ?_
      refine gw_bipush (v := 7) (pc := 58) hK dL_state_58 (by decide) ?_
      refine gw_idiv (pc := 60) hK dL_state_60 (by decide) ?_
      refine gw_iload_n (pc := 61) hK 2 dL_state_61 rfl rfl ?_
      refine gw_bipush (v := 7) (pc := 62) hK dL_state_62 (by decide) ?_
      refine gw_irem (pc := 64) hK dL_state_64 (by decide) ?_
      refine gv_L_25 (pc := 65) hK hc0 dL_state_65 (by decide) (Nat.le_of_ble_eq_true rfl) hf (fun r14 m15 hf => ?_)
      refine gw_i2l (pc := 68) hK dL_state_68 ?_
      refine gv_L_19 (pc := 69) hK dL_state_69 (by decide) (Nat.le_of_ble_eq_true rfl) hf (fun r16 m17 hf => ?_)
      refine gw_lstore_n (L' := [(1, .long r16), (0, .ref (gy_a Y c0)), (3, .int x3)]) (pc := 72) hK dL_state_72 rfl (by decide) rfl ?_
      refine gw_iinc (v := (x3 + 1)) (L' := [(3, .int (x3 + 1)), (1, .long r16), (0, .ref (gy_a Y c0))]) (pc := 73) hK 2 dL_state_73 rfl rfl (by decide) rfl ?_
      refine gw_goto (tgt := 43) (pc := 76) hK dL_state_76 (by decide) ?_
      refine gw_sub (L' := [(0, .ref (gy_a Y c0)), (1, .long r16), (3, .int (x3 + 1))]) hK [2, 1, 0] rfl (ih _ _ _ hf)
set_option maxRecDepth 100000 in
set_option maxHeartbeats 4000000 in
theorem lt_L_state_81 {l : Launch} {Y : gx_Y} {rr : Int64 × gx_M} {K : gx_KT} (hK : gx_K l RL cL_state 4 5 112 (some .long) Y (gx_PL rr) K) (c0 : Nat) (hc0 : gk_bow Y c0) (k : gx_M → Int64 → Int32 → Option (Int64 × gx_M)) (hx : ∀ (μ : gx_M) (x1 : Int64) (x3 : Int32), k μ x1 x3 = some rr → K μ 117 [(0, .ref (gy_a Y c0)), (1, .long x1), (3, .int x3)] []) :
    ∀ (n : Nat) (μ : gx_M) (x1 : Int64) (x3 : Int32), lf_L_state_81 (gy_k Y) c0 k n μ x1 x3 = some rr → K μ 81 [(0, .ref (gy_a Y c0)), (1, .long x1), (3, .int x3)] [] := by
  intro n
  induction n with
  | zero =>
    intro μ x1 x3 hf
    exact absurd hf (by simp [lf_L_state_81])
  | succ n ih =>
    intro μ x1 x3 hf
    rw [lf_L_state_81] at hf
    refine gw_iload_n (pc := 81) hK 2 dL_state_81 rfl rfl ?_
    refine gw_bipush (v := 7) (pc := 82) hK dL_state_82 (by decide) ?_
    refine gw_aload_n (pc := 84) hK 0 dL_state_84 rfl rfl ?_
    refine gw_iconst (v := 2) (pc := 85) hK dL_state_85 (by decide) ?_
    refine gv_L_13 (pc := 86) hK hc0 dL_state_86 (by decide) (Nat.le_of_ble_eq_true rfl) hf (fun r21 m22 hf => ?_)
    refine gw_imul (pc := 89) hK dL_state_89 ?_
    refine gw_icmp_ge (tgt := 117) (pc := 90) hK dL_state_90 (by decide) hf (fun cc23 hf => ?_) (fun cc23 hf => ?_)
    ·
      refine gw_sub (L' := [(0, .ref (gy_a Y c0)), (1, .long x1), (3, .int x3)]) hK [0, 1, 2] rfl (hx _ _ _ hf)
    ·
      refine gw_lload_n (pc := 93) hK 1 dL_state_93 rfl rfl ?_
      refine gw_aload_n (pc := 94) hK 0 dL_state_94 rfl rfl ?_
      refine gw_iload_n (pc := 95) hK 2 dL_state_95 rfl rfl ?_
      refine gw_bipush (v := 7) (pc := 96) hK dL_state_96 (by decide) ?_
      refine gw_idiv (pc := 98) hK dL_state_98 (by decide) ?_
      refine gw_iload_n (pc := 99) hK 2 dL_state_99 rfl rfl ?_
      refine gw_bipush (v := 7) (pc := 100) hK dL_state_100 (by decide) ?_
      refine gw_irem (pc := 102) hK dL_state_102 (by decide) ?_
      refine gv_L_29 (pc := 103) hK hc0 dL_state_103 (by decide) (Nat.le_of_ble_eq_true rfl) hf (fun r24 m25 hf => ?_)
      refine gw_i2l (pc := 106) hK dL_state_106 ?_
      refine gv_L_19 (pc := 107) hK dL_state_107 (by decide) (Nat.le_of_ble_eq_true rfl) hf (fun r26 m27 hf => ?_)
      refine gw_lstore_n (L' := [(1, .long r26), (0, .ref (gy_a Y c0)), (3, .int x3)]) (pc := 110) hK dL_state_110 rfl (by decide) rfl ?_
      refine gw_iinc (v := (x3 + 1)) (L' := [(3, .int (x3 + 1)), (1, .long r26), (0, .ref (gy_a Y c0))]) (pc := 111) hK 2 dL_state_111 rfl rfl (by decide) rfl ?_
      refine gw_goto (tgt := 81) (pc := 114) hK dL_state_114 (by decide) ?_
      refine gw_sub (L' := [(0, .ref (gy_a Y c0)), (1, .long r26), (3, .int (x3 + 1))]) hK [2, 1, 0] rfl (ih _ _ _ hf)
set_option maxRecDepth 100000 in
set_option maxHeartbeats 4000000 in
theorem ct_L_state (l : Launch) (Y : gx_Y) (μ : gx_M) (c0 : Nat) (rr : Int64 × gx_M) (hc0 : gk_bow Y c0) (hf : fn_L_state (gy_k Y) μ c0 = some rr) : gx_ConL l yL_state cL_state 4 5 112 Y [.ref (gy_a Y c0)] μ rr := by
  refine gx_ConL_of (L0 := [(0, .ref (gy_a Y c0))]) (by decide) (Nat.le_of_ble_eq_true rfl) rfl (fun K hK => ?_)
  unfold fn_L_state at hf
  refine gw_ldc2 (pc := 0) hK dL_state_0 kw_kl_RL_11 ?_
  refine gw_lstore_n (L' := [(1, .long 5), (0, .ref (gy_a Y c0))]) (pc := 3) hK dL_state_3 rfl (by decide) rfl ?_
  refine gw_iconst (v := 0) (pc := 4) hK dL_state_4 (by decide) ?_
  refine gw_istore_n (L' := [(3, .int 0), (1, .long 5), (0, .ref (gy_a Y c0))]) (pc := 5) hK dL_state_5 rfl (by decide) rfl ?_
  refine gw_sub (L' := [(0, .ref (gy_a Y c0)), (1, .long 5), (3, .int 0)]) hK [2, 1, 0] rfl (lt_L_state_6 hK c0 hc0 _ (fun m8 y9 y10 hf => ?_) gx_F _ _ _ hf)
  refine gw_iconst (v := 0) (pc := 41) hK dL_state_41 (by decide) ?_
  refine gw_istore_n (L' := [(3, .int 0), (0, .ref (gy_a Y c0)), (1, .long y9)]) (pc := 42) hK dL_state_42 rfl (by decide) rfl ?_
  refine gw_sub (L' := [(0, .ref (gy_a Y c0)), (1, .long y9), (3, .int 0)]) hK [1, 2, 0] rfl (lt_L_state_43 hK c0 hc0 _ (fun m18 y19 y20 hf => ?_) gx_F _ _ _ hf)
  refine gw_iconst (v := 0) (pc := 79) hK dL_state_79 (by decide) ?_
  refine gw_istore_n (L' := [(3, .int 0), (0, .ref (gy_a Y c0)), (1, .long y19)]) (pc := 80) hK dL_state_80 rfl (by decide) rfl ?_
  refine gw_sub (L' := [(0, .ref (gy_a Y c0)), (1, .long y19), (3, .int 0)]) hK [1, 2, 0] rfl (lt_L_state_81 hK c0 hc0 _ (fun m28 y29 y30 hf => ?_) gx_F _ _ _ hf)
  refine gw_lload_n (pc := 117) hK 1 dL_state_117 rfl rfl ?_
  exact gw_ret_l (pc := 118) hK dL_state_118 (Option.some.inj hf)
theorem gv_L_85 {l : Launch} {cc : ByteArray} {nL fr lo : Nat} {ret : Option FieldType} {Y : gx_Y} {Post : Value → gx_M → Prop} {K : gx_KT} {pc : Nat} {μ : gx_M} {L : List (Nat × Value)} {st : List Value} {α : Type} {rr : α} (h : gx_K l RL cc nL fr lo ret Y Post K) {c0 : Nat} (hc0 : gk_bow Y c0) (d : decode cc pc = .ok (.invokestatic 85, 3)) (hR : 5 + 1 ≤ fr ∧ 135 ≤ lo) (hst : (st.map fun v => v.category).sum ≤ 8) {k : Int64 → gx_M → Option α} (hf : gx_bL (fn_L_state (gy_k Y) μ c0) k = some rr) (kk : ∀ (r : Int64) (m : gx_M), k r m = some rr → K m (pc + 3) L (.long r :: st)) : K μ pc L (.ref (gy_a Y c0) :: st) := by
  obtain ⟨r, m, e, hk⟩ := gx_bL_some hf
  exact gw_callSL (As := [.ref (gy_a Y c0)]) (q := (r, m)) h (by refine ⟨rfl, by decide, by decide, (show (parseMethodDescriptor yL_state.desc).map (fun d => d.parameters.length) = some 1 by decide +kernel)⟩) kw_ml_RL_85 kw_st_L_state kw_in_RL kw_co_L_state hR hst d (ct_L_state l Y μ c0 (r, m) hc0 e) (kk r m hk)
def fn_L_refused (kd : Nat → Nat) (μ : gx_M) (c0 : Nat) : Option (Int32 × gx_M) :=
  gx_bL (fn_L_state kd μ c0) (fun r1 m2 =>
gx_b (fn_X6_count kd m2 c0 7) (fun r3 m4 =>
gx_bL (fn_L_mixed kd m4 r1 r3.toInt64) (fun r5 m6 =>
gx_b (fn_X6_count kd m6 c0 8) (fun r7 m8 =>
gx_bL (fn_L_mixed kd m8 r5 r7.toInt64) (fun r9 m10 =>
gx_b (fn_L_refusesBowls kd m10 c0) (fun r11 m12 =>
(if r11 = 0 then
some (0, m12)
else
gx_b (fn_L_refusesNotes kd m12 c0) (fun r14 m15 =>
(if r14 = 0 then
some (0, m15)
else
gx_b (fn_X6_set kd m15 c0 (-1) 1) (fun r17 m18 =>
(if r17 = (-100001) then
gx_b (fn_X6_set kd m18 c0 4 1) (fun r20 m21 =>
(if r20 = (-100001) then
gx_b (fn_X6_set kd m21 c0 0 0) (fun r23 m24 =>
(if r23 = (-100001) then
gx_b (fn_X6_set kd m24 c0 0 601) (fun r26 m27 =>
(if r26 = (-100001) then
gx_b (fn_X6_set kd m27 c0 1 0) (fun r29 m30 =>
(if r29 = (-100001) then
gx_b (fn_X6_set kd m30 c0 1 601) (fun r32 m33 =>
(if r32 = (-100001) then
gx_b (fn_X6_set kd m33 c0 2 (-1)) (fun r35 m36 =>
(if r35 = (-100001) then
gx_b (fn_X6_set kd m36 c0 2 601) (fun r38 m39 =>
(if r38 = (-100001) then
gx_b (fn_X6_set kd m39 c0 3 2) (fun r41 m42 =>
(if r41 = (-100001) then
gx_b (fn_X6_set kd m42 c0 3 (-1)) (fun r44 m45 =>
(if r44 = (-100001) then
gx_b (fn_X6_count kd m45 c0 (-1)) (fun r47 m48 =>
(if r47 = (-100001) then
gx_b (fn_X6_count kd m48 c0 9) (fun r50 m51 =>
(if r50 = (-100001) then
gx_b (fn_X6_count kd m51 c0 14) (fun r53 m54 =>
(if r53 = (-100001) then
gx_b (fn_X6_count kd m54 c0 19) (fun r56 m57 =>
(if r56 = (-100001) then
gx_b (fn_X6_count kd m57 c0 25) (fun r59 m60 =>
(if r59 = (-100001) then
gx_b (fn_X6_run kd m60 c0 0) (fun r62 m63 =>
(if r62 = (-100001) then
gx_b (fn_X6_run kd m63 c0 601) (fun r65 m66 =>
(if r65 = (-100001) then
gx_b (fn_X6_type kd m66 c0 31) (fun r68 m69 =>
(if r68 = (-100001) then
gx_b (fn_X6_type kd m69 c0 127) (fun r71 m72 =>
(if r71 = (-100001) then
gx_b (fn_X6_fault kd m72 c0 (-1)) (fun r74 m75 =>
(if r74 = (-100001) then
gx_b (fn_X6_fault kd m75 c0 2) (fun r77 m78 =>
(if r77 = (-100001) then
gx_bL (fn_L_state kd m78 c0) (fun r80 m81 =>
gx_b (fn_X6_count kd m81 c0 7) (fun r82 m83 =>
gx_bL (fn_L_mixed kd m83 r80 r82.toInt64) (fun r84 m85 =>
gx_b (fn_X6_count kd m85 c0 8) (fun r86 m87 =>
gx_bL (fn_L_mixed kd m87 r84 r86.toInt64) (fun r88 m89 =>
(if (lg_cmp r88 r9) = 0 then
some (1, m89)
else
some (0, m89)))))))
else
some (0, m78)))
else
some (0, m75)))
else
some (0, m72)))
else
some (0, m69)))
else
some (0, m66)))
else
some (0, m63)))
else
some (0, m60)))
else
some (0, m57)))
else
some (0, m54)))
else
some (0, m51)))
else
some (0, m48)))
else
some (0, m45)))
else
some (0, m42)))
else
some (0, m39)))
else
some (0, m36)))
else
some (0, m33)))
else
some (0, m30)))
else
some (0, m27)))
else
some (0, m24)))
else
some (0, m21)))
else
some (0, m18))))))))))))
set_option maxRecDepth 100000 in
set_option maxHeartbeats 4000000 in
theorem ct_L_refused (l : Launch) (Y : gx_Y) (μ : gx_M) (c0 : Nat) (rr : Int32 × gx_M) (hc0 : gk_bow Y c0) (hf : fn_L_refused (gy_k Y) μ c0 = some rr) : gx_Con l yL_refused cL_refused 3 (some .boolean) 8 183 Y [.ref (gy_a Y c0)] μ rr := by
  refine gx_Con_of (L0 := [(0, .ref (gy_a Y c0))]) (by decide) (Nat.le_of_ble_eq_true rfl) rfl (fun K hK => ?_)
  unfold fn_L_refused at hf
  refine gw_aload_n (pc := 0) hK 0 dL_refused_0 rfl rfl ?_
  refine gv_L_85 (pc := 1) hK hc0 dL_refused_1 (by decide) (Nat.le_of_ble_eq_true rfl) hf (fun r1 m2 hf => ?_)
  refine gw_aload_n (pc := 4) hK 0 dL_refused_4 rfl rfl ?_
  refine gw_bipush (v := 7) (pc := 5) hK dL_refused_5 (by decide) ?_
  refine gv_L_13 (pc := 7) hK hc0 dL_refused_7 (by decide) (Nat.le_of_ble_eq_true rfl) hf (fun r3 m4 hf => ?_)
  refine gw_i2l (pc := 10) hK dL_refused_10 ?_
  refine gv_L_19 (pc := 11) hK dL_refused_11 (by decide) (Nat.le_of_ble_eq_true rfl) hf (fun r5 m6 hf => ?_)
  refine gw_aload_n (pc := 14) hK 0 dL_refused_14 rfl rfl ?_
  refine gw_bipush (v := 8) (pc := 15) hK dL_refused_15 (by decide) ?_
  refine gv_L_13 (pc := 17) hK hc0 dL_refused_17 (by decide) (Nat.le_of_ble_eq_true rfl) hf (fun r7 m8 hf => ?_)
  refine gw_i2l (pc := 20) hK dL_refused_20 ?_
  refine gv_L_19 (pc := 21) hK dL_refused_21 (by decide) (Nat.le_of_ble_eq_true rfl) hf (fun r9 m10 hf => ?_)
  refine gw_lstore_n (L' := [(1, .long r9), (0, .ref (gy_a Y c0))]) (pc := 24) hK dL_refused_24 rfl (by decide) rfl ?_
  refine gw_aload_n (pc := 25) hK 1 dL_refused_25 rfl rfl ?_
  refine gv_L_89 (pc := 26) hK hc0 dL_refused_26 (by decide) (Nat.le_of_ble_eq_true rfl) hf (fun r11 m12 hf => ?_)
  refine gw_if_eq (tgt := 273) (pc := 29) hK dL_refused_29 (by decide) hf (fun cc13 hf => ?_) (fun cc13 hf => ?_)
  ·
    refine gw_iconst (v := 0) (pc := 273) hK dL_refused_273 (by decide) ?_
    exact gw_ret_z (pc := 274) hK dL_refused_274 rfl (Option.some.inj hf)
  ·
    refine gw_aload_n (pc := 32) hK 1 dL_refused_32 rfl rfl ?_
    refine gv_L_93 (pc := 33) hK hc0 dL_refused_33 (by decide) (Nat.le_of_ble_eq_true rfl) hf (fun r14 m15 hf => ?_)
    refine gw_if_eq (tgt := 273) (pc := 36) hK dL_refused_36 (by decide) hf (fun cc16 hf => ?_) (fun cc16 hf => ?_)
    ·
      refine gw_iconst (v := 0) (pc := 273) hK dL_refused_273 (by decide) ?_
      exact gw_ret_z (pc := 274) hK dL_refused_274 rfl (Option.some.inj hf)
    ·
      refine gw_aload_n (pc := 39) hK 1 dL_refused_39 rfl rfl ?_
      refine gw_iconst (v := (-1)) (pc := 40) hK dL_refused_40 (by decide) ?_
      refine gw_iconst (v := 1) (pc := 41) hK dL_refused_41 (by decide) ?_
      refine gv_L_96 (pc := 42) hK hc0 dL_refused_42 (by decide) (Nat.le_of_ble_eq_true rfl) hf (fun r17 m18 hf => ?_)
      refine gw_ldc (pc := 45) hK dL_refused_45 kw_k_RL_35 ?_
      refine gw_icmp_ne (tgt := 273) (pc := 47) hK dL_refused_47 (by decide) hf (fun cc19 hf => ?_) (fun cc19 hf => ?_)
      ·
        refine gw_iconst (v := 0) (pc := 273) hK dL_refused_273 (by decide) ?_
        exact gw_ret_z (pc := 274) hK dL_refused_274 rfl (Option.some.inj hf)
      ·
        refine gw_aload_n (pc := 50) hK 1 dL_refused_50 rfl rfl ?_
        refine gw_iconst (v := 4) (pc := 51) hK dL_refused_51 (by decide) ?_
        refine gw_iconst (v := 1) (pc := 52) hK dL_refused_52 (by decide) ?_
        refine gv_L_96 (pc := 53) hK hc0 dL_refused_53 (by decide) (Nat.le_of_ble_eq_true rfl) hf (fun r20 m21 hf => ?_)
        refine gw_ldc (pc := 56) hK dL_refused_56 kw_k_RL_35 ?_
        refine gw_icmp_ne (tgt := 273) (pc := 58) hK dL_refused_58 (by decide) hf (fun cc22 hf => ?_) (fun cc22 hf => ?_)
        ·
          refine gw_iconst (v := 0) (pc := 273) hK dL_refused_273 (by decide) ?_
          exact gw_ret_z (pc := 274) hK dL_refused_274 rfl (Option.some.inj hf)
        ·
          refine gw_aload_n (pc := 61) hK 1 dL_refused_61 rfl rfl ?_
          refine gw_iconst (v := 0) (pc := 62) hK dL_refused_62 (by decide) ?_
          refine gw_iconst (v := 0) (pc := 63) hK dL_refused_63 (by decide) ?_
          refine gv_L_96 (pc := 64) hK hc0 dL_refused_64 (by decide) (Nat.le_of_ble_eq_true rfl) hf (fun r23 m24 hf => ?_)
          refine gw_ldc (pc := 67) hK dL_refused_67 kw_k_RL_35 ?_
          refine gw_icmp_ne (tgt := 273) (pc := 69) hK dL_refused_69 (by decide) hf (fun cc25 hf => ?_) (fun cc25 hf => ?_)
          ·
            refine gw_iconst (v := 0) (pc := 273) hK dL_refused_273 (by decide) ?_
            exact gw_ret_z (pc := 274) hK dL_refused_274 rfl (Option.some.inj hf)
          ·
            refine gw_aload_n (pc := 72) hK 1 dL_refused_72 rfl rfl ?_
            refine gw_iconst (v := 0) (pc := 73) hK dL_refused_73 (by decide) ?_
            refine gw_sipush (v := 601) (pc := 74) hK dL_refused_74 (by decide) ?_
            refine gv_L_96 (pc := 77) hK hc0 dL_refused_77 (by decide) (Nat.le_of_ble_eq_true rfl) hf (fun r26 m27 hf => ?_)
            refine gw_ldc (pc := 80) hK dL_refused_80 kw_k_RL_35 ?_
            refine gw_icmp_ne (tgt := 273) (pc := 82) hK dL_refused_82 (by decide) hf (fun cc28 hf => ?_) (fun cc28 hf => ?_)
            ·
              refine gw_iconst (v := 0) (pc := 273) hK dL_refused_273 (by decide) ?_
              exact gw_ret_z (pc := 274) hK dL_refused_274 rfl (Option.some.inj hf)
            ·
              refine gw_aload_n (pc := 85) hK 1 dL_refused_85 rfl rfl ?_
              refine gw_iconst (v := 1) (pc := 86) hK dL_refused_86 (by decide) ?_
              refine gw_iconst (v := 0) (pc := 87) hK dL_refused_87 (by decide) ?_
              refine gv_L_96 (pc := 88) hK hc0 dL_refused_88 (by decide) (Nat.le_of_ble_eq_true rfl) hf (fun r29 m30 hf => ?_)
              refine gw_ldc (pc := 91) hK dL_refused_91 kw_k_RL_35 ?_
              refine gw_icmp_ne (tgt := 273) (pc := 93) hK dL_refused_93 (by decide) hf (fun cc31 hf => ?_) (fun cc31 hf => ?_)
              ·
                refine gw_iconst (v := 0) (pc := 273) hK dL_refused_273 (by decide) ?_
                exact gw_ret_z (pc := 274) hK dL_refused_274 rfl (Option.some.inj hf)
              ·
                refine gw_aload_n (pc := 96) hK 1 dL_refused_96 rfl rfl ?_
                refine gw_iconst (v := 1) (pc := 97) hK dL_refused_97 (by decide) ?_
                refine gw_sipush (v := 601) (pc := 98) hK dL_refused_98 (by decide) ?_
                refine gv_L_96 (pc := 101) hK hc0 dL_refused_101 (by decide) (Nat.le_of_ble_eq_true rfl) hf (fun r32 m33 hf => ?_)
                refine gw_ldc (pc := 104) hK dL_refused_104 kw_k_RL_35 ?_
                refine gw_icmp_ne (tgt := 273) (pc := 106) hK dL_refused_106 (by decide) hf (fun cc34 hf => ?_) (fun cc34 hf => ?_)
                ·
                  refine gw_iconst (v := 0) (pc := 273) hK dL_refused_273 (by decide) ?_
                  exact gw_ret_z (pc := 274) hK dL_refused_274 rfl (Option.some.inj hf)
                ·
                  refine gw_aload_n (pc := 109) hK 1 dL_refused_109 rfl rfl ?_
                  refine gw_iconst (v := 2) (pc := 110) hK dL_refused_110 (by decide) ?_
                  refine gw_iconst (v := (-1)) (pc := 111) hK dL_refused_111 (by decide) ?_
                  refine gv_L_96 (pc := 112) hK hc0 dL_refused_112 (by decide) (Nat.le_of_ble_eq_true rfl) hf (fun r35 m36 hf => ?_)
                  refine gw_ldc (pc := 115) hK dL_refused_115 kw_k_RL_35 ?_
                  refine gw_icmp_ne (tgt := 273) (pc := 117) hK dL_refused_117 (by decide) hf (fun cc37 hf => ?_) (fun cc37 hf => ?_)
                  ·
                    refine gw_iconst (v := 0) (pc := 273) hK dL_refused_273 (by decide) ?_
                    exact gw_ret_z (pc := 274) hK dL_refused_274 rfl (Option.some.inj hf)
                  ·
                    refine gw_aload_n (pc := 120) hK 1 dL_refused_120 rfl rfl ?_
                    refine gw_iconst (v := 2) (pc := 121) hK dL_refused_121 (by decide) ?_
                    refine gw_sipush (v := 601) (pc := 122) hK dL_refused_122 (by decide) ?_
                    refine gv_L_96 (pc := 125) hK hc0 dL_refused_125 (by decide) (Nat.le_of_ble_eq_true rfl) hf (fun r38 m39 hf => ?_)
                    refine gw_ldc (pc := 128) hK dL_refused_128 kw_k_RL_35 ?_
                    refine gw_icmp_ne (tgt := 273) (pc := 130) hK dL_refused_130 (by decide) hf (fun cc40 hf => ?_) (fun cc40 hf => ?_)
                    ·
                      refine gw_iconst (v := 0) (pc := 273) hK dL_refused_273 (by decide) ?_
                      exact gw_ret_z (pc := 274) hK dL_refused_274 rfl (Option.some.inj hf)
                    ·
                      refine gw_aload_n (pc := 133) hK 1 dL_refused_133 rfl rfl ?_
                      refine gw_iconst (v := 3) (pc := 134) hK dL_refused_134 (by decide) ?_
                      refine gw_iconst (v := 2) (pc := 135) hK dL_refused_135 (by decide) ?_
                      refine gv_L_96 (pc := 136) hK hc0 dL_refused_136 (by decide) (Nat.le_of_ble_eq_true rfl) hf (fun r41 m42 hf => ?_)
                      refine gw_ldc (pc := 139) hK dL_refused_139 kw_k_RL_35 ?_
                      refine gw_icmp_ne (tgt := 273) (pc := 141) hK dL_refused_141 (by decide) hf (fun cc43 hf => ?_) (fun cc43 hf => ?_)
                      ·
                        refine gw_iconst (v := 0) (pc := 273) hK dL_refused_273 (by decide) ?_
                        exact gw_ret_z (pc := 274) hK dL_refused_274 rfl (Option.some.inj hf)
                      ·
                        refine gw_aload_n (pc := 144) hK 1 dL_refused_144 rfl rfl ?_
                        refine gw_iconst (v := 3) (pc := 145) hK dL_refused_145 (by decide) ?_
                        refine gw_iconst (v := (-1)) (pc := 146) hK dL_refused_146 (by decide) ?_
                        refine gv_L_96 (pc := 147) hK hc0 dL_refused_147 (by decide) (Nat.le_of_ble_eq_true rfl) hf (fun r44 m45 hf => ?_)
                        refine gw_ldc (pc := 150) hK dL_refused_150 kw_k_RL_35 ?_
                        refine gw_icmp_ne (tgt := 273) (pc := 152) hK dL_refused_152 (by decide) hf (fun cc46 hf => ?_) (fun cc46 hf => ?_)
                        ·
                          refine gw_iconst (v := 0) (pc := 273) hK dL_refused_273 (by decide) ?_
                          exact gw_ret_z (pc := 274) hK dL_refused_274 rfl (Option.some.inj hf)
                        ·
                          refine gw_aload_n (pc := 155) hK 1 dL_refused_155 rfl rfl ?_
                          refine gw_iconst (v := (-1)) (pc := 156) hK dL_refused_156 (by decide) ?_
                          refine gv_L_13 (pc := 157) hK hc0 dL_refused_157 (by decide) (Nat.le_of_ble_eq_true rfl) hf (fun r47 m48 hf => ?_)
                          refine gw_ldc (pc := 160) hK dL_refused_160 kw_k_RL_35 ?_
                          refine gw_icmp_ne (tgt := 273) (pc := 162) hK dL_refused_162 (by decide) hf (fun cc49 hf => ?_) (fun cc49 hf => ?_)
                          ·
                            refine gw_iconst (v := 0) (pc := 273) hK dL_refused_273 (by decide) ?_
                            exact gw_ret_z (pc := 274) hK dL_refused_274 rfl (Option.some.inj hf)
                          ·
                            refine gw_aload_n (pc := 165) hK 1 dL_refused_165 rfl rfl ?_
                            refine gw_bipush (v := 9) (pc := 166) hK dL_refused_166 (by decide) ?_
                            refine gv_L_13 (pc := 168) hK hc0 dL_refused_168 (by decide) (Nat.le_of_ble_eq_true rfl) hf (fun r50 m51 hf => ?_)
                            refine gw_ldc (pc := 171) hK dL_refused_171 kw_k_RL_35 ?_
                            refine gw_icmp_ne (tgt := 273) (pc := 173) hK dL_refused_173 (by decide) hf (fun cc52 hf => ?_) (fun cc52 hf => ?_)
                            ·
                              refine gw_iconst (v := 0) (pc := 273) hK dL_refused_273 (by decide) ?_
                              exact gw_ret_z (pc := 274) hK dL_refused_274 rfl (Option.some.inj hf)
                            ·
                              refine gw_aload_n (pc := 176) hK 1 dL_refused_176 rfl rfl ?_
                              refine gw_bipush (v := 14) (pc := 177) hK dL_refused_177 (by decide) ?_
                              refine gv_L_13 (pc := 179) hK hc0 dL_refused_179 (by decide) (Nat.le_of_ble_eq_true rfl) hf (fun r53 m54 hf => ?_)
                              refine gw_ldc (pc := 182) hK dL_refused_182 kw_k_RL_35 ?_
                              refine gw_icmp_ne (tgt := 273) (pc := 184) hK dL_refused_184 (by decide) hf (fun cc55 hf => ?_) (fun cc55 hf => ?_)
                              ·
                                refine gw_iconst (v := 0) (pc := 273) hK dL_refused_273 (by decide) ?_
                                exact gw_ret_z (pc := 274) hK dL_refused_274 rfl (Option.some.inj hf)
                              ·
                                refine gw_aload_n (pc := 187) hK 1 dL_refused_187 rfl rfl ?_
                                refine gw_bipush (v := 19) (pc := 188) hK dL_refused_188 (by decide) ?_
                                refine gv_L_13 (pc := 190) hK hc0 dL_refused_190 (by decide) (Nat.le_of_ble_eq_true rfl) hf (fun r56 m57 hf => ?_)
                                refine gw_ldc (pc := 193) hK dL_refused_193 kw_k_RL_35 ?_
                                refine gw_icmp_ne (tgt := 273) (pc := 195) hK dL_refused_195 (by decide) hf (fun cc58 hf => ?_) (fun cc58 hf => ?_)
                                ·
                                  refine gw_iconst (v := 0) (pc := 273) hK dL_refused_273 (by decide) ?_
                                  exact gw_ret_z (pc := 274) hK dL_refused_274 rfl (Option.some.inj hf)
                                ·
                                  refine gw_aload_n (pc := 198) hK 1 dL_refused_198 rfl rfl ?_
                                  refine gw_bipush (v := 25) (pc := 199) hK dL_refused_199 (by decide) ?_
                                  refine gv_L_13 (pc := 201) hK hc0 dL_refused_201 (by decide) (Nat.le_of_ble_eq_true rfl) hf (fun r59 m60 hf => ?_)
                                  refine gw_ldc (pc := 204) hK dL_refused_204 kw_k_RL_35 ?_
                                  refine gw_icmp_ne (tgt := 273) (pc := 206) hK dL_refused_206 (by decide) hf (fun cc61 hf => ?_) (fun cc61 hf => ?_)
                                  ·
                                    refine gw_iconst (v := 0) (pc := 273) hK dL_refused_273 (by decide) ?_
                                    exact gw_ret_z (pc := 274) hK dL_refused_274 rfl (Option.some.inj hf)
                                  ·
                                    refine gw_aload_n (pc := 209) hK 1 dL_refused_209 rfl rfl ?_
                                    refine gw_iconst (v := 0) (pc := 210) hK dL_refused_210 (by decide) ?_
                                    refine gv_L_99 (pc := 211) hK hc0 dL_refused_211 (by decide) (Nat.le_of_ble_eq_true rfl) hf (fun r62 m63 hf => ?_)
                                    refine gw_ldc (pc := 214) hK dL_refused_214 kw_k_RL_35 ?_
                                    refine gw_icmp_ne (tgt := 273) (pc := 216) hK dL_refused_216 (by decide) hf (fun cc64 hf => ?_) (fun cc64 hf => ?_)
                                    ·
                                      refine gw_iconst (v := 0) (pc := 273) hK dL_refused_273 (by decide) ?_
                                      exact gw_ret_z (pc := 274) hK dL_refused_274 rfl (Option.some.inj hf)
                                    ·
                                      refine gw_aload_n (pc := 219) hK 1 dL_refused_219 rfl rfl ?_
                                      refine gw_sipush (v := 601) (pc := 220) hK dL_refused_220 (by decide) ?_
                                      refine gv_L_99 (pc := 223) hK hc0 dL_refused_223 (by decide) (Nat.le_of_ble_eq_true rfl) hf (fun r65 m66 hf => ?_)
                                      refine gw_ldc (pc := 226) hK dL_refused_226 kw_k_RL_35 ?_
                                      refine gw_icmp_ne (tgt := 273) (pc := 228) hK dL_refused_228 (by decide) hf (fun cc67 hf => ?_) (fun cc67 hf => ?_)
                                      ·
                                        refine gw_iconst (v := 0) (pc := 273) hK dL_refused_273 (by decide) ?_
                                        exact gw_ret_z (pc := 274) hK dL_refused_274 rfl (Option.some.inj hf)
                                      ·
                                        refine gw_aload_n (pc := 231) hK 1 dL_refused_231 rfl rfl ?_
                                        refine gw_bipush (v := 31) (pc := 232) hK dL_refused_232 (by decide) ?_
                                        refine gv_L_102 (pc := 234) hK hc0 dL_refused_234 (by decide) (Nat.le_of_ble_eq_true rfl) hf (fun r68 m69 hf => ?_)
                                        refine gw_ldc (pc := 237) hK dL_refused_237 kw_k_RL_35 ?_
                                        refine gw_icmp_ne (tgt := 273) (pc := 239) hK dL_refused_239 (by decide) hf (fun cc70 hf => ?_) (fun cc70 hf => ?_)
                                        ·
                                          refine gw_iconst (v := 0) (pc := 273) hK dL_refused_273 (by decide) ?_
                                          exact gw_ret_z (pc := 274) hK dL_refused_274 rfl (Option.some.inj hf)
                                        ·
                                          refine gw_aload_n (pc := 242) hK 1 dL_refused_242 rfl rfl ?_
                                          refine gw_bipush (v := 127) (pc := 243) hK dL_refused_243 (by decide) ?_
                                          refine gv_L_102 (pc := 245) hK hc0 dL_refused_245 (by decide) (Nat.le_of_ble_eq_true rfl) hf (fun r71 m72 hf => ?_)
                                          refine gw_ldc (pc := 248) hK dL_refused_248 kw_k_RL_35 ?_
                                          refine gw_icmp_ne (tgt := 273) (pc := 250) hK dL_refused_250 (by decide) hf (fun cc73 hf => ?_) (fun cc73 hf => ?_)
                                          ·
                                            refine gw_iconst (v := 0) (pc := 273) hK dL_refused_273 (by decide) ?_
                                            exact gw_ret_z (pc := 274) hK dL_refused_274 rfl (Option.some.inj hf)
                                          ·
                                            refine gw_aload_n (pc := 253) hK 1 dL_refused_253 rfl rfl ?_
                                            refine gw_iconst (v := (-1)) (pc := 254) hK dL_refused_254 (by decide) ?_
                                            refine gv_L_105 (pc := 255) hK hc0 dL_refused_255 (by decide) (Nat.le_of_ble_eq_true rfl) hf (fun r74 m75 hf => ?_)
                                            refine gw_ldc (pc := 258) hK dL_refused_258 kw_k_RL_35 ?_
                                            refine gw_icmp_ne (tgt := 273) (pc := 260) hK dL_refused_260 (by decide) hf (fun cc76 hf => ?_) (fun cc76 hf => ?_)
                                            ·
                                              refine gw_iconst (v := 0) (pc := 273) hK dL_refused_273 (by decide) ?_
                                              exact gw_ret_z (pc := 274) hK dL_refused_274 rfl (Option.some.inj hf)
                                            ·
                                              refine gw_aload_n (pc := 263) hK 1 dL_refused_263 rfl rfl ?_
                                              refine gw_iconst (v := 2) (pc := 264) hK dL_refused_264 (by decide) ?_
                                              refine gv_L_105 (pc := 265) hK hc0 dL_refused_265 (by decide) (Nat.le_of_ble_eq_true rfl) hf (fun r77 m78 hf => ?_)
                                              refine gw_ldc (pc := 268) hK dL_refused_268 kw_k_RL_35 ?_
                                              refine gw_icmp_eq (tgt := 275) (pc := 270) hK dL_refused_270 (by decide) hf (fun cc79 hf => ?_) (fun cc79 hf => ?_)
                                              ·
                                                refine gw_aload_n (pc := 275) hK 1 dL_refused_275 rfl rfl ?_
                                                refine gv_L_85 (pc := 276) hK hc0 dL_refused_276 (by decide) (Nat.le_of_ble_eq_true rfl) hf (fun r80 m81 hf => ?_)
                                                refine gw_aload_n (pc := 279) hK 1 dL_refused_279 rfl rfl ?_
                                                refine gw_bipush (v := 7) (pc := 280) hK dL_refused_280 (by decide) ?_
                                                refine gv_L_13 (pc := 282) hK hc0 dL_refused_282 (by decide) (Nat.le_of_ble_eq_true rfl) hf (fun r82 m83 hf => ?_)
                                                refine gw_i2l (pc := 285) hK dL_refused_285 ?_
                                                refine gv_L_19 (pc := 286) hK dL_refused_286 (by decide) (Nat.le_of_ble_eq_true rfl) hf (fun r84 m85 hf => ?_)
                                                refine gw_aload_n (pc := 289) hK 1 dL_refused_289 rfl rfl ?_
                                                refine gw_bipush (v := 8) (pc := 290) hK dL_refused_290 (by decide) ?_
                                                refine gv_L_13 (pc := 292) hK hc0 dL_refused_292 (by decide) (Nat.le_of_ble_eq_true rfl) hf (fun r86 m87 hf => ?_)
                                                refine gw_i2l (pc := 295) hK dL_refused_295 ?_
                                                refine gv_L_19 (pc := 296) hK dL_refused_296 (by decide) (Nat.le_of_ble_eq_true rfl) hf (fun r88 m89 hf => ?_)
                                                refine gw_lload_n (pc := 299) hK 0 dL_refused_299 rfl rfl ?_
                                                refine gw_lcmp (pc := 300) hK dL_refused_300 ?_
                                                refine gw_if_ne (tgt := 308) (pc := 301) hK dL_refused_301 (by decide) hf (fun cc90 hf => ?_) (fun cc90 hf => ?_)
                                                ·
                                                  refine gw_iconst (v := 0) (pc := 308) hK dL_refused_308 (by decide) ?_
                                                  exact gw_ret_z (pc := 309) hK dL_refused_309 rfl (Option.some.inj hf)
                                                ·
                                                  refine gw_iconst (v := 1) (pc := 304) hK dL_refused_304 (by decide) ?_
                                                  refine gw_goto (tgt := 309) (pc := 305) hK dL_refused_305 (by decide) ?_
                                                  exact gw_ret_z (pc := 309) hK dL_refused_309 rfl (Option.some.inj hf)
                                              ·
                                                refine gw_iconst (v := 0) (pc := 273) hK dL_refused_273 (by decide) ?_
                                                exact gw_ret_z (pc := 274) hK dL_refused_274 rfl (Option.some.inj hf)
theorem gv_L_176 {l : Launch} {cc : ByteArray} {nL fr lo : Nat} {ret : Option FieldType} {Y : gx_Y} {Post : Value → gx_M → Prop} {K : gx_KT} {pc : Nat} {μ : gx_M} {L : List (Nat × Value)} {st : List Value} {α : Type} {rr : α} (h : gx_K l RL cc nL fr lo ret Y Post K) {c0 : Nat} (hc0 : gk_bow Y c0) (d : decode cc pc = .ok (.invokestatic 176, 3)) (hR : 8 + 1 ≤ fr ∧ 205 ≤ lo) (hst : (st.map fun v => v.category).sum ≤ 8) {k : Int32 → gx_M → Option α} (hf : gx_b (fn_L_refused (gy_k Y) μ c0) k = some rr) (kk : ∀ (r : Int32) (m : gx_M), k r m = some rr → K m (pc + 3) L (.int r :: st)) : K μ pc L (.ref (gy_a Y c0) :: st) := by
  obtain ⟨r, m, e, hk⟩ := gx_b_some hf
  exact gw_callS (As := [.ref (gy_a Y c0)]) (q := (r, m)) h (by refine ⟨rfl, by decide, by decide, (show (parseMethodDescriptor yL_refused.desc).map (fun d => d.parameters.length) = some 1 by decide +kernel)⟩) kw_ml_RL_176 kw_st_L_refused kw_in_RL kw_co_L_refused hR hst d (ct_L_refused l Y μ c0 (r, m) hc0 e) (kk r m hk)
