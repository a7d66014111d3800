set_option maxRecDepth 100000 in
noncomputable def lf_L_law_650 (kd : Nat → Nat) (c4 : Nat) (k : gx_M → Int32 → Option (Int32 × gx_M)) : Nat → gx_M → Int32 → Option (Int32 × gx_M)
  | 0, _, _ => none
  | n + 1, μ, x5 => (if 6 ≤ x5 then
k μ x5
else
gx_b (fn_X6_run kd μ c4 600) (fun r2 m3 =>
(if r2 = 0 then
lf_L_law_650 kd c4 k n m3 (x5 + 1)
else
some (0, m3))))
set_option maxRecDepth 100000 in
noncomputable def fn_L_law (kd : Nat → Nat) (μ : gx_M) (c : Nat) : Option (Int32 × gx_M) :=
  lf_L_law_650 kd c (fun m5 y6 =>
gx_b (fn_X6_run kd m5 c 1) (fun r7 m8 =>
(if r7 = (-100003) then
gx_b (fn_X6_run kd m8 c 0) (fun r10 m11 =>
(if r10 = (-100001) then
gx_b (fn_X6_count kd m11 c 0) (fun r13 m14 =>
(if r13 = 3600 then
gx_b (fn_X6_rewind kd m14 c) (fun r16 m17 =>
(if r16 = 3600 then
gx_b (fn_X6_run kd m17 c 600) (fun r19 m20 =>
(if r19 = 0 then
gx_b (fn_X6_undo kd m20 c) (fun r22 m23 =>
(if r22 = 4 then
some (1, m23)
else
some (0, m23)))
else
some (0, m20)))
else
some (0, m17)))
else
some (0, m14)))
else
some (0, m11)))
else
some (0, m8)))) gx_F μ 0
set_option maxRecDepth 100000 in
set_option maxHeartbeats 4000000 in
theorem lt_L_law_650 {l : Launch} {Y : gx_Y} {rr : Int32 × gx_M} {K : gx_KT} (hK : gx_K l RL cL_law 9 12 450 (some .boolean) Y (gx_P rr) K) (c4 : Nat) (hc4 : gk_bow Y c4) (k : gx_M → Int32 → Option (Int32 × gx_M)) (hx : ∀ (μ : gx_M) (x5 : Int32), k μ x5 = some rr → K μ 676 [(4, .ref (gy_a Y c4)), (5, .int x5)] []) :
    ∀ (n : Nat) (μ : gx_M) (x5 : Int32), lf_L_law_650 (gy_k Y) c4 k n μ x5 = some rr → K μ 650 [(4, .ref (gy_a Y c4)), (5, .int x5)] [] := by
  intro n
  induction n with
  | zero =>
    intro μ x5 hf
    exact absurd hf (by simp [lf_L_law_650])
  | succ n ih =>
    intro μ x5 hf
    rw [lf_L_law_650] at hf
    refine gw_iload (pc := 650) hK 1 dL_law_650 rfl ?_
    refine gw_bipush (v := 6) (pc := 652) hK dL_law_652 (by decide) ?_
    refine gw_icmp_ge (tgt := 676) (pc := 654) hK dL_law_654 (by decide) hf (fun cc1 hf => ?_) (fun cc1 hf => ?_)
    ·
      refine gw_sub (L' := [(4, .ref (gy_a Y c4)), (5, .int x5)]) hK [0, 1] rfl (hx _ _ hf)
    ·
      refine gw_aload (pc := 657) hK 0 dL_law_657 rfl ?_
      refine gw_sipush (v := 600) (pc := 659) hK dL_law_659 (by decide) ?_
      refine gv_L_99 (pc := 662) hK hc4 dL_law_662 (by decide) (Nat.le_of_ble_eq_true rfl) hf (fun r2 m3 hf => ?_)
      refine gw_if_eq (tgt := 670) (pc := 665) hK dL_law_665 (by decide) hf (fun cc4 hf => ?_) (fun cc4 hf => ?_)
      ·
        refine gw_iinc (v := (x5 + 1)) (L' := [(5, .int (x5 + 1)), (4, .ref (gy_a Y c4))]) (pc := 670) hK 1 dL_law_670 rfl rfl (by decide) rfl ?_
        refine gw_goto (tgt := 650) (pc := 673) hK dL_law_673 (by decide) ?_
        refine gw_sub (L' := [(4, .ref (gy_a Y c4)), (5, .int (x5 + 1))]) hK [1, 0] rfl (ih _ _ hf)
      ·
        refine gw_iconst (v := 0) (pc := 668) hK dL_law_668 (by decide) ?_
        exact gw_ret_z (pc := 669) hK dL_law_669 rfl (Option.some.inj hf)
set_option maxRecDepth 100000 in
set_option maxHeartbeats 40000000 in
theorem kb_L_law {l : Launch} {Y : gx_Y} {rr : Int32 × gx_M} {K : gx_KT} (hK : gx_K l RL cL_law 9 12 450 (some .boolean) Y (gx_P rr) K) (μ : gx_M) (c : Nat) (hc : gk_bow Y c) (hf : fn_L_law (gy_k Y) μ c = some rr) : K μ 647 [(4, .ref (gy_a Y c))] [] := by
  unfold fn_L_law at hf
  refine gw_iconst (v := 0) (pc := 647) hK dL_law_647 (by decide) ?_
  refine gw_istore (L' := [(5, .int 0), (4, .ref (gy_a Y c))]) (pc := 648) hK dL_law_648 (by decide) rfl ?_
  refine gw_sub (L' := [(4, .ref (gy_a Y c)), (5, .int 0)]) hK [1, 0] rfl (lt_L_law_650 hK c hc _ (fun m5 y6 hf => ?_) gx_F _ _ hf)
  refine gw_aload (pc := 676) hK 0 dL_law_676 rfl ?_
  refine gw_iconst (v := 1) (pc := 678) hK dL_law_678 (by decide) ?_
  refine gv_L_99 (pc := 679) hK hc dL_law_679 (by decide) (Nat.le_of_ble_eq_true rfl) hf (fun r7 m8 hf => ?_)
  refine gw_ldc (pc := 682) hK dL_law_682 kw_k_RL_175 ?_
  refine gw_icmp_ne (tgt := 745) (pc := 684) hK dL_law_684 (by decide) hf (fun cc9 hf => ?_) (fun cc9 hf => ?_)
  ·
    refine gw_iconst (v := 0) (pc := 745) hK dL_law_745 (by decide) ?_
    exact gw_ret_z (pc := 746) hK dL_law_746 rfl (Option.some.inj hf)
  ·
    refine gw_aload (pc := 687) hK 0 dL_law_687 rfl ?_
    refine gw_iconst (v := 0) (pc := 689) hK dL_law_689 (by decide) ?_
    refine gv_L_99 (pc := 690) hK hc dL_law_690 (by decide) (Nat.le_of_ble_eq_true rfl) hf (fun r10 m11 hf => ?_)
    refine gw_ldc (pc := 693) hK dL_law_693 kw_k_RL_35 ?_
    refine gw_icmp_ne (tgt := 745) (pc := 695) hK dL_law_695 (by decide) hf (fun cc12 hf => ?_) (fun cc12 hf => ?_)
    ·
      refine gw_iconst (v := 0) (pc := 745) hK dL_law_745 (by decide) ?_
      exact gw_ret_z (pc := 746) hK dL_law_746 rfl (Option.some.inj hf)
    ·
      refine gw_aload (pc := 698) hK 0 dL_law_698 rfl ?_
      refine gw_iconst (v := 0) (pc := 700) hK dL_law_700 (by decide) ?_
      refine gv_L_13 (pc := 701) hK hc dL_law_701 (by decide) (Nat.le_of_ble_eq_true rfl) hf (fun r13 m14 hf => ?_)
      refine gw_sipush (v := 3600) (pc := 704) hK dL_law_704 (by decide) ?_
      refine gw_icmp_ne (tgt := 745) (pc := 707) hK dL_law_707 (by decide) hf (fun cc15 hf => ?_) (fun cc15 hf => ?_)
      ·
        refine gw_iconst (v := 0) (pc := 745) hK dL_law_745 (by decide) ?_
        exact gw_ret_z (pc := 746) hK dL_law_746 rfl (Option.some.inj hf)
      ·
        refine gw_aload (pc := 710) hK 0 dL_law_710 rfl ?_
        refine gv_L_182 (pc := 712) hK hc dL_law_712 (by decide) (Nat.le_of_ble_eq_true rfl) hf (fun r16 m17 hf => ?_)
        refine gw_sipush (v := 3600) (pc := 715) hK dL_law_715 (by decide) ?_
        refine gw_icmp_ne (tgt := 745) (pc := 718) hK dL_law_718 (by decide) hf (fun cc18 hf => ?_) (fun cc18 hf => ?_)
        ·
          refine gw_iconst (v := 0) (pc := 745) hK dL_law_745 (by decide) ?_
          exact gw_ret_z (pc := 746) hK dL_law_746 rfl (Option.some.inj hf)
        ·
          refine gw_aload (pc := 721) hK 0 dL_law_721 rfl ?_
          refine gw_sipush (v := 600) (pc := 723) hK dL_law_723 (by decide) ?_
          refine gv_L_99 (pc := 726) hK hc dL_law_726 (by decide) (Nat.le_of_ble_eq_true rfl) hf (fun r19 m20 hf => ?_)
          refine gw_if_ne (tgt := 745) (pc := 729) hK dL_law_729 (by decide) hf (fun cc21 hf => ?_) (fun cc21 hf => ?_)
          ·
            refine gw_iconst (v := 0) (pc := 745) hK dL_law_745 (by decide) ?_
            exact gw_ret_z (pc := 746) hK dL_law_746 rfl (Option.some.inj hf)
          ·
            refine gw_aload (pc := 732) hK 0 dL_law_732 rfl ?_
            refine gv_L_179 (pc := 734) hK hc dL_law_734 (by decide) (Nat.le_of_ble_eq_true rfl) hf (fun r22 m23 hf => ?_)
            refine gw_iconst (v := 4) (pc := 737) hK dL_law_737 (by decide) ?_
            refine gw_icmp_ne (tgt := 745) (pc := 738) hK dL_law_738 (by decide) hf (fun cc24 hf => ?_) (fun cc24 hf => ?_)
            ·
              refine gw_iconst (v := 0) (pc := 745) hK dL_law_745 (by decide) ?_
              exact gw_ret_z (pc := 746) hK dL_law_746 rfl (Option.some.inj hf)
            ·
              refine gw_iconst (v := 1) (pc := 741) hK dL_law_741 (by decide) ?_
              refine gw_goto (tgt := 746) (pc := 742) hK dL_law_742 (by decide) ?_
              exact gw_ret_z (pc := 746) hK dL_law_746 rfl (Option.some.inj hf)
theorem ev_law : ev_1 (fn_L_law gl_kd gl_init 6) = true := by decide +kernel
