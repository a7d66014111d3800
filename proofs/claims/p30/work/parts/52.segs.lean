set_option maxRecDepth 100000 in
noncomputable def lf_L_texts_430 (kd : Nat → Nat) (c0 : Nat) (k : gx_M → Int32 → Option (Int32 × gx_M)) : Nat → gx_M → Int32 → Option (Int32 × gx_M)
  | 0, _, _ => none
  | n + 1, μ, x1 => (if 36 ≤ x1 then
k μ x1
else
gx_b (fn_X6_note kd μ c0 (200 + x1) x1) (fun r127 m128 =>
gx_nrm m128 (fun m129 =>
(if r127 = (3 + x1) then
lf_L_texts_430 kd c0 k n m129 (x1 + 1)
else
some (0, m129)))))
set_option maxRecDepth 100000 in
noncomputable def lf_L_texts_547 (kd : Nat → Nat) (c0 : Nat) (k : gx_M → Int32 → Option (Int32 × gx_M)) : Nat → gx_M → Int32 → Option (Int32 × gx_M)
  | 0, _, _ => none
  | n + 1, μ, x1 => (if 100 < x1 then
k μ x1
else
gx_b (fn_X6_type kd μ c0 49) (fun r163 m164 =>
(if r163 = x1 then
lf_L_texts_547 kd c0 k n m164 (x1 + 1)
else
some (0, m164))))
set_option maxRecDepth 100000 in
noncomputable def fn_L_texts (kd : Nat → Nat) (μ : gx_M) (c : Nat) : Option (Int32 × gx_M) :=
  gx_b (fn_X6_enter kd μ c) (fun r1 m2 =>
gx_nrm m2 (fun m3 =>
(if r1 = 0 then
gx_b (fn_X6_count kd m3 c 7) (fun r5 m6 =>
(if r5 = 1 then
gx_b (fn_X6_note kd m6 c 100 5) (fun r8 m9 =>
gx_nrm m9 (fun m10 =>
(if r8 = 0 then
gx_b (fn_L_isFault kd m10 c 825897531 0 (-100004) (-100004)) (fun r12 m13 =>
gx_nrm m13 (fun m14 =>
(if r12 = 0 then
some (0, m14)
else
gx_b (fn_L_isFault kd m14 c 0 0 (-100004) (-100004)) (fun r16 m17 =>
gx_nrm m17 (fun m18 =>
(if r16 = 0 then
some (0, m18)
else
gx_b (fn_L_isFault kd m18 c 3226162 0 0 1) (fun r20 m21 =>
gx_nrm m21 (fun m22 =>
(if r20 = 0 then
some (0, m22)
else
gx_b (fn_L_isFault kd m22 c 825963067 0 0 1) (fun r24 m25 =>
gx_nrm m25 (fun m26 =>
(if r24 = 0 then
some (0, m26)
else
gx_b (fn_L_isFault kd m26 c 3547202886351335473 3813435 4 2) (fun r28 m29 =>
gx_nrm m29 (fun m30 =>
(if r28 = 0 then
some (0, m30)
else
gx_b (fn_L_isFault kd m30 c 13856278269931835 0 0 2) (fun r32 m33 =>
gx_nrm m33 (fun m34 =>
(if r32 = 0 then
some (0, m34)
else
gx_b (fn_L_isFault kd m34 c 3544952156018323771 0 0 1) (fun r36 m37 =>
gx_nrm m37 (fun m38 =>
(if r36 = 0 then
some (0, m38)
else
gx_b (fn_L_isFault kd m38 c 3547201748184872251 0 0 1) (fun r40 m41 =>
gx_nrm m41 (fun m42 =>
(if r40 = 0 then
some (0, m42)
else
gx_b (fn_L_isFault kd m42 c 54083037311291 0 0 3) (fun r44 m45 =>
gx_nrm m45 (fun m46 =>
(if r44 = 0 then
some (0, m46)
else
gx_b (fn_L_isFault kd m46 c 3547202886300610609 3814203 4 3) (fun r48 m49 =>
gx_nrm m49 (fun m50 =>
(if r48 = 0 then
some (0, m50)
else
gx_b (fn_L_isFault kd m50 c 138264851003 0 0 1) (fun r52 m53 =>
gx_nrm m53 (fun m54 =>
(if r52 = 0 then
some (0, m54)
else
gx_b (fn_L_isFault kd m54 c 211429767968 0 4 1) (fun r56 m57 =>
gx_nrm m57 (fun m58 =>
(if r56 = 0 then
some (0, m58)
else
gx_b (fn_L_isFault kd m58 c 3472328296395452464 12347 (-100004) (-100004)) (fun r60 m61 =>
gx_nrm m61 (fun m62 =>
(if r60 = 0 then
some (0, m62)
else
gx_b (fn_L_isFault kd m62 c 3690189928369893424 12347 (-100004) (-100004)) (fun r64 m65 =>
gx_nrm m65 (fun m66 =>
(if r64 = 0 then
some (0, m66)
else
gx_b (fn_L_isFault kd m66 c 14907 0 0 1) (fun r68 m69 =>
gx_nrm m69 (fun m70 =>
(if r68 = 0 then
some (0, m70)
else
gx_b (fn_L_isFault kd m70 c 211429767995 0 4 1) (fun r72 m73 =>
gx_nrm m73 (fun m74 =>
(if r72 = 0 then
some (0, m74)
else
gx_b (fn_L_isFault kd m74 c 3544385933315944497 59 0 2) (fun r76 m77 =>
gx_nrm m77 (fun m78 =>
(if r76 = 0 then
some (0, m78)
else
gx_b (fn_L_isFault kd m78 c 3547202886334821179 220019833720 12 1) (fun r80 m81 =>
gx_nrm m81 (fun m82 =>
(if r80 = 0 then
some (0, m82)
else
gx_b (fn_L_isFault kd m82 c 13856261274810932 0 4 1) (fun r84 m85 =>
gx_nrm m85 (fun m86 =>
(if r84 = 0 then
some (0, m86)
else
gx_b (fn_L_isFault kd m86 c 3750459 0 0 1) (fun r88 m89 =>
gx_nrm m89 (fun m90 =>
(if r88 = 0 then
some (0, m90)
else
gx_b (fn_X6_enter kd m90 c) (fun r92 m93 =>
gx_nrm m93 (fun m94 =>
(if r92 = (-100002) then
gx_b (fn_L_isFault kd m94 c 3979555047648932923 0 (-100004) (-100004)) (fun r96 m97 =>
gx_nrm m97 (fun m98 =>
(if r96 = 0 then
some (0, m98)
else
gx_b (fn_X6_enter kd m98 c) (fun r100 m101 =>
gx_nrm m101 (fun m102 =>
(if r100 = 2 then
gx_b (fn_X6_noteOf kd m102 c 0 0) (fun r104 m105 =>
(if r104 = 3 then
gx_b (fn_X6_noteOf kd m105 c 0 1) (fun r107 m108 =>
(if r107 = 4 then
gx_b (fn_X6_noteOf kd m108 c 1 1) (fun r110 m111 =>
(if r110 = 8 then
gx_b (fn_X6_noteOf kd m111 c 2 0) (fun r113 m114 =>
(if r113 = 100 then
gx_b (fn_X6_enter kd m114 c) (fun r116 m117 =>
gx_nrm m117 (fun m118 =>
(if r116 = (-100002) then
gx_b (fn_X6_fault kd m118 c 0) (fun r120 m121 =>
(if r120 = 0 then
gx_b (fn_X6_fault kd m121 c 1) (fun r123 m124 =>
(if r123 = 3 then
lf_L_texts_430 kd c (fun m131 y132 =>
gx_b (fn_L_isFault kd m131 c 3547202886334821179 0 4 4) (fun r133 m134 =>
gx_nrm m134 (fun m135 =>
(if r133 = 0 then
some (0, m135)
else
gx_b (fn_X6_note kd m135 c 1 1) (fun r137 m138 =>
gx_nrm m138 (fun m139 =>
(if r137 = 0 then
gx_b (fn_X6_note kd m139 c 2 1) (fun r141 m142 =>
gx_nrm m142 (fun m143 =>
(if r141 = (-100003) then
gx_b (fn_X6_note kd m143 c 1 1) (fun r145 m146 =>
gx_nrm m146 (fun m147 =>
(if r145 = (-100002) then
gx_b (fn_X6_note kd m147 c 1 6001) (fun r149 m150 =>
gx_nrm m150 (fun m151 =>
(if r149 = (-100001) then
gx_b (fn_X6_fault kd m151 c 0) (fun r153 m154 =>
(if r153 = 0 then
gx_b (fn_X6_fault kd m154 c 1) (fun r156 m157 =>
(if r156 = 3 then
gx_b (fn_X6_clearText kd m157 c) (fun r159 m160 =>
(if r159 = 8 then
lf_L_texts_547 kd c (fun m166 y167 =>
gx_b (fn_X6_type kd m166 c 49) (fun r168 m169 =>
(if r168 = (-100003) then
gx_b (fn_X6_type kd m169 c 31) (fun r171 m172 =>
(if r171 = (-100001) then
gx_b (fn_X6_fault kd m172 c 1) (fun r174 m175 =>
(if r174 = 1 then
gx_b (fn_X6_enter kd m175 c) (fun r177 m178 =>
gx_nrm m178 (fun m179 =>
(if r177 = (-100002) then
some (1, m179)
else
some (0, m179))))
else
some (0, m175)))
else
some (0, m172)))
else
some (0, m169)))) gx_F m160 1
else
some (0, m160)))
else
some (0, m157)))
else
some (0, m154)))
else
some (0, m151))))
else
some (0, m147))))
else
some (0, m143))))
else
some (0, m139)))))))) gx_F m124 0
else
some (0, m124)))
else
some (0, m121)))
else
some (0, m118))))
else
some (0, m114)))
else
some (0, m111)))
else
some (0, m108)))
else
some (0, m105)))
else
some (0, m102)))))))
else
some (0, m94))))))))))))))))))))))))))))))))))))))))))))))))))))))))))))))))
else
some (0, m10))))
else
some (0, m6)))
else
some (0, m3))))
set_option maxRecDepth 100000 in
set_option maxHeartbeats 4000000 in
theorem lt_L_texts_430 {l : Launch} {Y : gx_Y} {rr : Int32 × gx_M} {K : gx_KT} (hK : gx_K l RL cL_texts 2 8 175 (some .boolean) Y (gx_P rr) K) (hn : gx_nok Y) (c0 : Nat) (hc0 : gk_bow Y c0) (k : gx_M → Int32 → Option (Int32 × gx_M)) (hx : ∀ (μ : gx_M) (x1 : Int32), k μ x1 = some rr → K μ 460 [(0, .ref (gy_a Y c0)), (1, .int x1)] []) :
    ∀ (n : Nat) (μ : gx_M) (x1 : Int32), lf_L_texts_430 (gy_k Y) c0 k n μ x1 = some rr → K μ 430 [(0, .ref (gy_a Y c0)), (1, .int x1)] [] := by
  intro n
  induction n with
  | zero =>
    intro μ x1 hf
    exact absurd hf (by simp [lf_L_texts_430])
  | succ n ih =>
    intro μ x1 hf
    rw [lf_L_texts_430] at hf
    refine gw_iload_n (pc := 430) hK 1 dL_texts_430 rfl rfl ?_
    refine gw_bipush (v := 36) (pc := 431) hK dL_texts_431 (by decide) ?_
    refine gw_icmp_ge (tgt := 460) (pc := 433) hK dL_texts_433 (by decide) hf (fun cc126 hf => ?_) (fun cc126 hf => ?_)
    ·
      refine gw_sub (L' := [(0, .ref (gy_a Y c0)), (1, .int x1)]) hK [0, 1] rfl (hx _ _ hf)
    ·
      refine gw_aload_n (pc := 436) hK 0 dL_texts_436 rfl rfl ?_
      refine gw_sipush (v := 200) (pc := 437) hK dL_texts_437 (by decide) ?_
      refine gw_iload_n (pc := 440) hK 1 dL_texts_440 rfl rfl ?_
      refine gw_iadd (pc := 441) hK dL_texts_441 ?_
      refine gw_iload_n (pc := 442) hK 1 dL_texts_442 rfl rfl ?_
      refine gv_L_68 (pc := 443) hK hc0 dL_texts_443 (by decide) (Nat.le_of_ble_eq_true rfl) hf (fun r127 m128 hf => ?_)
      refine gw_nrm hK hn hf (fun hf => ?_)
      generalize gx_nf m128 = m129 at hf ⊢
      refine gw_iconst (v := 3) (pc := 446) hK dL_texts_446 (by decide) ?_
      refine gw_iload_n (pc := 447) hK 1 dL_texts_447 rfl rfl ?_
      refine gw_iadd (pc := 448) hK dL_texts_448 ?_
      refine gw_icmp_eq (tgt := 454) (pc := 449) hK dL_texts_449 (by decide) hf (fun cc130 hf => ?_) (fun cc130 hf => ?_)
      ·
        refine gw_iinc (v := (x1 + 1)) (L' := [(1, .int (x1 + 1)), (0, .ref (gy_a Y c0))]) (pc := 454) hK 1 dL_texts_454 rfl rfl (by decide) rfl ?_
        refine gw_goto (tgt := 430) (pc := 457) hK dL_texts_457 (by decide) ?_
        refine gw_sub (L' := [(0, .ref (gy_a Y c0)), (1, .int (x1 + 1))]) hK [1, 0] rfl (ih _ _ hf)
      ·
        refine gw_iconst (v := 0) (pc := 452) hK dL_texts_452 (by decide) ?_
        exact gw_ret_z (pc := 453) hK dL_texts_453 rfl (Option.some.inj hf)
set_option maxRecDepth 100000 in
set_option maxHeartbeats 4000000 in
theorem lt_L_texts_547 {l : Launch} {Y : gx_Y} {rr : Int32 × gx_M} {K : gx_KT} (hK : gx_K l RL cL_texts 2 8 175 (some .boolean) Y (gx_P rr) K) (hn : gx_nok Y) (c0 : Nat) (hc0 : gk_bow Y c0) (k : gx_M → Int32 → Option (Int32 × gx_M)) (hx : ∀ (μ : gx_M) (x1 : Int32), k μ x1 = some rr → K μ 571 [(0, .ref (gy_a Y c0)), (1, .int x1)] []) :
    ∀ (n : Nat) (μ : gx_M) (x1 : Int32), lf_L_texts_547 (gy_k Y) c0 k n μ x1 = some rr → K μ 547 [(0, .ref (gy_a Y c0)), (1, .int x1)] [] := by
  intro n
  induction n with
  | zero =>
    intro μ x1 hf
    exact absurd hf (by simp [lf_L_texts_547])
  | succ n ih =>
    intro μ x1 hf
    rw [lf_L_texts_547] at hf
    refine gw_iload_n (pc := 547) hK 1 dL_texts_547 rfl rfl ?_
    refine gw_bipush (v := 100) (pc := 548) hK dL_texts_548 (by decide) ?_
    refine gw_icmp_gt (tgt := 571) (pc := 550) hK dL_texts_550 (by decide) hf (fun cc162 hf => ?_) (fun cc162 hf => ?_)
    ·
      refine gw_sub (L' := [(0, .ref (gy_a Y c0)), (1, .int x1)]) hK [0, 1] rfl (hx _ _ hf)
    ·
      refine gw_aload_n (pc := 553) hK 0 dL_texts_553 rfl rfl ?_
      refine gw_bipush (v := 49) (pc := 554) hK dL_texts_554 (by decide) ?_
      refine gv_L_102 (pc := 556) hK hc0 dL_texts_556 (by decide) (Nat.le_of_ble_eq_true rfl) hf (fun r163 m164 hf => ?_)
      refine gw_iload_n (pc := 559) hK 1 dL_texts_559 rfl rfl ?_
      refine gw_icmp_eq (tgt := 565) (pc := 560) hK dL_texts_560 (by decide) hf (fun cc165 hf => ?_) (fun cc165 hf => ?_)
      ·
        refine gw_iinc (v := (x1 + 1)) (L' := [(1, .int (x1 + 1)), (0, .ref (gy_a Y c0))]) (pc := 565) hK 1 dL_texts_565 rfl rfl (by decide) rfl ?_
        refine gw_goto (tgt := 547) (pc := 568) hK dL_texts_568 (by decide) ?_
        refine gw_sub (L' := [(0, .ref (gy_a Y c0)), (1, .int (x1 + 1))]) hK [1, 0] rfl (ih _ _ hf)
      ·
        refine gw_iconst (v := 0) (pc := 563) hK dL_texts_563 (by decide) ?_
        exact gw_ret_z (pc := 564) hK dL_texts_564 rfl (Option.some.inj hf)
set_option maxRecDepth 100000 in
set_option maxHeartbeats 40000000 in
theorem kb_L_texts {l : Launch} {Y : gx_Y} {rr : Int32 × gx_M} {K : gx_KT} (hK : gx_K l RL cL_texts 2 8 175 (some .boolean) Y (gx_P rr) K) (hn : gx_nok Y) (μ : gx_M) (c : Nat) (hc : gk_bow Y c) (hf : fn_L_texts (gy_k Y) μ c = some rr) : K μ 8 [(0, .ref (gy_a Y c))] [] := by
  unfold fn_L_texts at hf
  refine gw_aload_n (pc := 8) hK 0 dL_texts_8 rfl rfl ?_
  refine gv_L_118 (pc := 9) hK hc dL_texts_9 (by decide) (Nat.le_of_ble_eq_true rfl) hf (fun r1 m2 hf => ?_)
  refine gw_nrm hK hn hf (fun hf => ?_)
  generalize gx_nf m2 = m3 at hf ⊢
  refine gw_if_ne (tgt := 35) (pc := 12) hK dL_texts_12 (by decide) hf (fun cc4 hf => ?_) (fun cc4 hf => ?_)
  ·
    refine gw_iconst (v := 0) (pc := 35) hK dL_texts_35 (by decide) ?_
    exact gw_ret_z (pc := 36) hK dL_texts_36 rfl (Option.some.inj hf)
  ·
    refine gw_aload_n (pc := 15) hK 0 dL_texts_15 rfl rfl ?_
    refine gw_bipush (v := 7) (pc := 16) hK dL_texts_16 (by decide) ?_
    refine gv_L_13 (pc := 18) hK hc dL_texts_18 (by decide) (Nat.le_of_ble_eq_true rfl) hf (fun r5 m6 hf => ?_)
    refine gw_iconst (v := 1) (pc := 21) hK dL_texts_21 (by decide) ?_
    refine gw_icmp_ne (tgt := 35) (pc := 22) hK dL_texts_22 (by decide) hf (fun cc7 hf => ?_) (fun cc7 hf => ?_)
    ·
      refine gw_iconst (v := 0) (pc := 35) hK dL_texts_35 (by decide) ?_
      exact gw_ret_z (pc := 36) hK dL_texts_36 rfl (Option.some.inj hf)
    ·
      refine gw_aload_n (pc := 25) hK 0 dL_texts_25 rfl rfl ?_
      refine gw_bipush (v := 100) (pc := 26) hK dL_texts_26 (by decide) ?_
      refine gw_iconst (v := 5) (pc := 28) hK dL_texts_28 (by decide) ?_
      refine gv_L_68 (pc := 29) hK hc dL_texts_29 (by decide) (Nat.le_of_ble_eq_true rfl) hf (fun r8 m9 hf => ?_)
      refine gw_nrm hK hn hf (fun hf => ?_)
      generalize gx_nf m9 = m10 at hf ⊢
      refine gw_if_eq (tgt := 37) (pc := 32) hK dL_texts_32 (by decide) hf (fun cc11 hf => ?_) (fun cc11 hf => ?_)
      ·
        refine gw_aload_n (pc := 37) hK 0 dL_texts_37 rfl rfl ?_
        refine gw_ldc2 (pc := 38) hK dL_texts_38 kw_kl_RL_121 ?_
        refine gw_lconst (v := 0) (pc := 41) hK dL_texts_41 (by decide) ?_
        refine gw_ldc (pc := 42) hK dL_texts_42 kw_k_RL_60 ?_
        refine gw_ldc (pc := 44) hK dL_texts_44 kw_k_RL_60 ?_
        refine gv_L_123 (pc := 46) hK hc dL_texts_46 (by decide) (Nat.le_of_ble_eq_true rfl) hf (fun r12 m13 hf => ?_)
        refine gw_nrm hK hn hf (fun hf => ?_)
        generalize gx_nf m13 = m14 at hf ⊢
        refine gw_if_eq (tgt := 91) (pc := 49) hK dL_texts_49 (by decide) hf (fun cc15 hf => ?_) (fun cc15 hf => ?_)
        ·
          refine gw_iconst (v := 0) (pc := 91) hK dL_texts_91 (by decide) ?_
          exact gw_ret_z (pc := 92) hK dL_texts_92 rfl (Option.some.inj hf)
        ·
          refine gw_aload_n (pc := 52) hK 0 dL_texts_52 rfl rfl ?_
          refine gw_lconst (v := 0) (pc := 53) hK dL_texts_53 (by decide) ?_
          refine gw_lconst (v := 0) (pc := 54) hK dL_texts_54 (by decide) ?_
          refine gw_ldc (pc := 55) hK dL_texts_55 kw_k_RL_60 ?_
          refine gw_ldc (pc := 57) hK dL_texts_57 kw_k_RL_60 ?_
          refine gv_L_123 (pc := 59) hK hc dL_texts_59 (by decide) (Nat.le_of_ble_eq_true rfl) hf (fun r16 m17 hf => ?_)
          refine gw_nrm hK hn hf (fun hf => ?_)
          generalize gx_nf m17 = m18 at hf ⊢
          refine gw_if_eq (tgt := 91) (pc := 62) hK dL_texts_62 (by decide) hf (fun cc19 hf => ?_) (fun cc19 hf => ?_)
          ·
            refine gw_iconst (v := 0) (pc := 91) hK dL_texts_91 (by decide) ?_
            exact gw_ret_z (pc := 92) hK dL_texts_92 rfl (Option.some.inj hf)
          ·
            refine gw_aload_n (pc := 65) hK 0 dL_texts_65 rfl rfl ?_
            refine gw_ldc2 (pc := 66) hK dL_texts_66 kw_kl_RL_127 ?_
            refine gw_lconst (v := 0) (pc := 69) hK dL_texts_69 (by decide) ?_
            refine gw_iconst (v := 0) (pc := 70) hK dL_texts_70 (by decide) ?_
            refine gw_iconst (v := 1) (pc := 71) hK dL_texts_71 (by decide) ?_
            refine gv_L_123 (pc := 72) hK hc dL_texts_72 (by decide) (Nat.le_of_ble_eq_true rfl) hf (fun r20 m21 hf => ?_)
            refine gw_nrm hK hn hf (fun hf => ?_)
            generalize gx_nf m21 = m22 at hf ⊢
            refine gw_if_eq (tgt := 91) (pc := 75) hK dL_texts_75 (by decide) hf (fun cc23 hf => ?_) (fun cc23 hf => ?_)
            ·
              refine gw_iconst (v := 0) (pc := 91) hK dL_texts_91 (by decide) ?_
              exact gw_ret_z (pc := 92) hK dL_texts_92 rfl (Option.some.inj hf)
            ·
              refine gw_aload_n (pc := 78) hK 0 dL_texts_78 rfl rfl ?_
              refine gw_ldc2 (pc := 79) hK dL_texts_79 kw_kl_RL_129 ?_
              refine gw_lconst (v := 0) (pc := 82) hK dL_texts_82 (by decide) ?_
              refine gw_iconst (v := 0) (pc := 83) hK dL_texts_83 (by decide) ?_
              refine gw_iconst (v := 1) (pc := 84) hK dL_texts_84 (by decide) ?_
              refine gv_L_123 (pc := 85) hK hc dL_texts_85 (by decide) (Nat.le_of_ble_eq_true rfl) hf (fun r24 m25 hf => ?_)
              refine gw_nrm hK hn hf (fun hf => ?_)
              generalize gx_nf m25 = m26 at hf ⊢
              refine gw_if_ne (tgt := 93) (pc := 88) hK dL_texts_88 (by decide) hf (fun cc27 hf => ?_) (fun cc27 hf => ?_)
              ·
                refine gw_aload_n (pc := 93) hK 0 dL_texts_93 rfl rfl ?_
                refine gw_ldc2 (pc := 94) hK dL_texts_94 kw_kl_RL_131 ?_
                refine gw_ldc2 (pc := 97) hK dL_texts_97 kw_kl_RL_133 ?_
                refine gw_iconst (v := 4) (pc := 100) hK dL_texts_100 (by decide) ?_
                refine gw_iconst (v := 2) (pc := 101) hK dL_texts_101 (by decide) ?_
                refine gv_L_123 (pc := 102) hK hc dL_texts_102 (by decide) (Nat.le_of_ble_eq_true rfl) hf (fun r28 m29 hf => ?_)
                refine gw_nrm hK hn hf (fun hf => ?_)
                generalize gx_nf m29 = m30 at hf ⊢
                refine gw_if_eq (tgt := 147) (pc := 105) hK dL_texts_105 (by decide) hf (fun cc31 hf => ?_) (fun cc31 hf => ?_)
                ·
                  refine gw_iconst (v := 0) (pc := 147) hK dL_texts_147 (by decide) ?_
                  exact gw_ret_z (pc := 148) hK dL_texts_148 rfl (Option.some.inj hf)
                ·
                  refine gw_aload_n (pc := 108) hK 0 dL_texts_108 rfl rfl ?_
                  refine gw_ldc2 (pc := 109) hK dL_texts_109 kw_kl_RL_135 ?_
                  refine gw_lconst (v := 0) (pc := 112) hK dL_texts_112 (by decide) ?_
                  refine gw_iconst (v := 0) (pc := 113) hK dL_texts_113 (by decide) ?_
                  refine gw_iconst (v := 2) (pc := 114) hK dL_texts_114 (by decide) ?_
                  refine gv_L_123 (pc := 115) hK hc dL_texts_115 (by decide) (Nat.le_of_ble_eq_true rfl) hf (fun r32 m33 hf => ?_)
                  refine gw_nrm hK hn hf (fun hf => ?_)
                  generalize gx_nf m33 = m34 at hf ⊢
                  refine gw_if_eq (tgt := 147) (pc := 118) hK dL_texts_118 (by decide) hf (fun cc35 hf => ?_) (fun cc35 hf => ?_)
                  ·
                    refine gw_iconst (v := 0) (pc := 147) hK dL_texts_147 (by decide) ?_
                    exact gw_ret_z (pc := 148) hK dL_texts_148 rfl (Option.some.inj hf)
                  ·
                    refine gw_aload_n (pc := 121) hK 0 dL_texts_121 rfl rfl ?_
                    refine gw_ldc2 (pc := 122) hK dL_texts_122 kw_kl_RL_137 ?_
                    refine gw_lconst (v := 0) (pc := 125) hK dL_texts_125 (by decide) ?_
                    refine gw_iconst (v := 0) (pc := 126) hK dL_texts_126 (by decide) ?_
                    refine gw_iconst (v := 1) (pc := 127) hK dL_texts_127 (by decide) ?_
                    refine gv_L_123 (pc := 128) hK hc dL_texts_128 (by decide) (Nat.le_of_ble_eq_true rfl) hf (fun r36 m37 hf => ?_)
                    refine gw_nrm hK hn hf (fun hf => ?_)
                    generalize gx_nf m37 = m38 at hf ⊢
                    refine gw_if_eq (tgt := 147) (pc := 131) hK dL_texts_131 (by decide) hf (fun cc39 hf => ?_) (fun cc39 hf => ?_)
                    ·
                      refine gw_iconst (v := 0) (pc := 147) hK dL_texts_147 (by decide) ?_
                      exact gw_ret_z (pc := 148) hK dL_texts_148 rfl (Option.some.inj hf)
                    ·
                      refine gw_aload_n (pc := 134) hK 0 dL_texts_134 rfl rfl ?_
                      refine gw_ldc2 (pc := 135) hK dL_texts_135 kw_kl_RL_139 ?_
                      refine gw_lconst (v := 0) (pc := 138) hK dL_texts_138 (by decide) ?_
                      refine gw_iconst (v := 0) (pc := 139) hK dL_texts_139 (by decide) ?_
                      refine gw_iconst (v := 1) (pc := 140) hK dL_texts_140 (by decide) ?_
                      refine gv_L_123 (pc := 141) hK hc dL_texts_141 (by decide) (Nat.le_of_ble_eq_true rfl) hf (fun r40 m41 hf => ?_)
                      refine gw_nrm hK hn hf (fun hf => ?_)
                      generalize gx_nf m41 = m42 at hf ⊢
                      refine gw_if_ne (tgt := 149) (pc := 144) hK dL_texts_144 (by decide) hf (fun cc43 hf => ?_) (fun cc43 hf => ?_)
                      ·
                        refine gw_aload_n (pc := 149) hK 0 dL_texts_149 rfl rfl ?_
                        refine gw_ldc2 (pc := 150) hK dL_texts_150 kw_kl_RL_141 ?_
                        refine gw_lconst (v := 0) (pc := 153) hK dL_texts_153 (by decide) ?_
                        refine gw_iconst (v := 0) (pc := 154) hK dL_texts_154 (by decide) ?_
                        refine gw_iconst (v := 3) (pc := 155) hK dL_texts_155 (by decide) ?_
                        refine gv_L_123 (pc := 156) hK hc dL_texts_156 (by decide) (Nat.le_of_ble_eq_true rfl) hf (fun r44 m45 hf => ?_)
                        refine gw_nrm hK hn hf (fun hf => ?_)
                        generalize gx_nf m45 = m46 at hf ⊢
                        refine gw_if_eq (tgt := 203) (pc := 159) hK dL_texts_159 (by decide) hf (fun cc47 hf => ?_) (fun cc47 hf => ?_)
                        ·
                          refine gw_iconst (v := 0) (pc := 203) hK dL_texts_203 (by decide) ?_
                          exact gw_ret_z (pc := 204) hK dL_texts_204 rfl (Option.some.inj hf)
                        ·
                          refine gw_aload_n (pc := 162) hK 0 dL_texts_162 rfl rfl ?_
                          refine gw_ldc2 (pc := 163) hK dL_texts_163 kw_kl_RL_143 ?_
                          refine gw_ldc2 (pc := 166) hK dL_texts_166 kw_kl_RL_145 ?_
                          refine gw_iconst (v := 4) (pc := 169) hK dL_texts_169 (by decide) ?_
                          refine gw_iconst (v := 3) (pc := 170) hK dL_texts_170 (by decide) ?_
                          refine gv_L_123 (pc := 171) hK hc dL_texts_171 (by decide) (Nat.le_of_ble_eq_true rfl) hf (fun r48 m49 hf => ?_)
                          refine gw_nrm hK hn hf (fun hf => ?_)
                          generalize gx_nf m49 = m50 at hf ⊢
                          refine gw_if_eq (tgt := 203) (pc := 174) hK dL_texts_174 (by decide) hf (fun cc51 hf => ?_) (fun cc51 hf => ?_)
                          ·
                            refine gw_iconst (v := 0) (pc := 203) hK dL_texts_203 (by decide) ?_
                            exact gw_ret_z (pc := 204) hK dL_texts_204 rfl (Option.some.inj hf)
                          ·
                            refine gw_aload_n (pc := 177) hK 0 dL_texts_177 rfl rfl ?_
                            refine gw_ldc2 (pc := 178) hK dL_texts_178 kw_kl_RL_147 ?_
                            refine gw_lconst (v := 0) (pc := 181) hK dL_texts_181 (by decide) ?_
                            refine gw_iconst (v := 0) (pc := 182) hK dL_texts_182 (by decide) ?_
                            refine gw_iconst (v := 1) (pc := 183) hK dL_texts_183 (by decide) ?_
                            refine gv_L_123 (pc := 184) hK hc dL_texts_184 (by decide) (Nat.le_of_ble_eq_true rfl) hf (fun r52 m53 hf => ?_)
                            refine gw_nrm hK hn hf (fun hf => ?_)
                            generalize gx_nf m53 = m54 at hf ⊢
                            refine gw_if_eq (tgt := 203) (pc := 187) hK dL_texts_187 (by decide) hf (fun cc55 hf => ?_) (fun cc55 hf => ?_)
                            ·
                              refine gw_iconst (v := 0) (pc := 203) hK dL_texts_203 (by decide) ?_
                              exact gw_ret_z (pc := 204) hK dL_texts_204 rfl (Option.some.inj hf)
                            ·
                              refine gw_aload_n (pc := 190) hK 0 dL_texts_190 rfl rfl ?_
                              refine gw_ldc2 (pc := 191) hK dL_texts_191 kw_kl_RL_149 ?_
                              refine gw_lconst (v := 0) (pc := 194) hK dL_texts_194 (by decide) ?_
                              refine gw_iconst (v := 4) (pc := 195) hK dL_texts_195 (by decide) ?_
                              refine gw_iconst (v := 1) (pc := 196) hK dL_texts_196 (by decide) ?_
                              refine gv_L_123 (pc := 197) hK hc dL_texts_197 (by decide) (Nat.le_of_ble_eq_true rfl) hf (fun r56 m57 hf => ?_)
                              refine gw_nrm hK hn hf (fun hf => ?_)
                              generalize gx_nf m57 = m58 at hf ⊢
                              refine gw_if_ne (tgt := 205) (pc := 200) hK dL_texts_200 (by decide) hf (fun cc59 hf => ?_) (fun cc59 hf => ?_)
                              ·
                                refine gw_aload_n (pc := 205) hK 0 dL_texts_205 rfl rfl ?_
                                refine gw_ldc2 (pc := 206) hK dL_texts_206 kw_kl_RL_151 ?_
                                refine gw_ldc2 (pc := 209) hK dL_texts_209 kw_kl_RL_153 ?_
                                refine gw_ldc (pc := 212) hK dL_texts_212 kw_k_RL_60 ?_
                                refine gw_ldc (pc := 214) hK dL_texts_214 kw_k_RL_60 ?_
                                refine gv_L_123 (pc := 216) hK hc dL_texts_216 (by decide) (Nat.le_of_ble_eq_true rfl) hf (fun r60 m61 hf => ?_)
                                refine gw_nrm hK hn hf (fun hf => ?_)
                                generalize gx_nf m61 = m62 at hf ⊢
                                refine gw_if_eq (tgt := 265) (pc := 219) hK dL_texts_219 (by decide) hf (fun cc63 hf => ?_) (fun cc63 hf => ?_)
                                ·
                                  refine gw_iconst (v := 0) (pc := 265) hK dL_texts_265 (by decide) ?_
                                  exact gw_ret_z (pc := 266) hK dL_texts_266 rfl (Option.some.inj hf)
                                ·
                                  refine gw_aload_n (pc := 222) hK 0 dL_texts_222 rfl rfl ?_
                                  refine gw_ldc2 (pc := 223) hK dL_texts_223 kw_kl_RL_155 ?_
                                  refine gw_ldc2 (pc := 226) hK dL_texts_226 kw_kl_RL_153 ?_
                                  refine gw_ldc (pc := 229) hK dL_texts_229 kw_k_RL_60 ?_
                                  refine gw_ldc (pc := 231) hK dL_texts_231 kw_k_RL_60 ?_
                                  refine gv_L_123 (pc := 233) hK hc dL_texts_233 (by decide) (Nat.le_of_ble_eq_true rfl) hf (fun r64 m65 hf => ?_)
                                  refine gw_nrm hK hn hf (fun hf => ?_)
                                  generalize gx_nf m65 = m66 at hf ⊢
                                  refine gw_if_eq (tgt := 265) (pc := 236) hK dL_texts_236 (by decide) hf (fun cc67 hf => ?_) (fun cc67 hf => ?_)
                                  ·
                                    refine gw_iconst (v := 0) (pc := 265) hK dL_texts_265 (by decide) ?_
                                    exact gw_ret_z (pc := 266) hK dL_texts_266 rfl (Option.some.inj hf)
                                  ·
                                    refine gw_aload_n (pc := 239) hK 0 dL_texts_239 rfl rfl ?_
                                    refine gw_ldc2 (pc := 240) hK dL_texts_240 kw_kl_RL_157 ?_
                                    refine gw_lconst (v := 0) (pc := 243) hK dL_texts_243 (by decide) ?_
                                    refine gw_iconst (v := 0) (pc := 244) hK dL_texts_244 (by decide) ?_
                                    refine gw_iconst (v := 1) (pc := 245) hK dL_texts_245 (by decide) ?_
                                    refine gv_L_123 (pc := 246) hK hc dL_texts_246 (by decide) (Nat.le_of_ble_eq_true rfl) hf (fun r68 m69 hf => ?_)
                                    refine gw_nrm hK hn hf (fun hf => ?_)
                                    generalize gx_nf m69 = m70 at hf ⊢
                                    refine gw_if_eq (tgt := 265) (pc := 249) hK dL_texts_249 (by decide) hf (fun cc71 hf => ?_) (fun cc71 hf => ?_)
                                    ·
                                      refine gw_iconst (v := 0) (pc := 265) hK dL_texts_265 (by decide) ?_
                                      exact gw_ret_z (pc := 266) hK dL_texts_266 rfl (Option.some.inj hf)
                                    ·
                                      refine gw_aload_n (pc := 252) hK 0 dL_texts_252 rfl rfl ?_
                                      refine gw_ldc2 (pc := 253) hK dL_texts_253 kw_kl_RL_159 ?_
                                      refine gw_lconst (v := 0) (pc := 256) hK dL_texts_256 (by decide) ?_
                                      refine gw_iconst (v := 4) (pc := 257) hK dL_texts_257 (by decide) ?_
                                      refine gw_iconst (v := 1) (pc := 258) hK dL_texts_258 (by decide) ?_
                                      refine gv_L_123 (pc := 259) hK hc dL_texts_259 (by decide) (Nat.le_of_ble_eq_true rfl) hf (fun r72 m73 hf => ?_)
                                      refine gw_nrm hK hn hf (fun hf => ?_)
                                      generalize gx_nf m73 = m74 at hf ⊢
                                      refine gw_if_ne (tgt := 267) (pc := 262) hK dL_texts_262 (by decide) hf (fun cc75 hf => ?_) (fun cc75 hf => ?_)
                                      ·
                                        refine gw_aload_n (pc := 267) hK 0 dL_texts_267 rfl rfl ?_
                                        refine gw_ldc2 (pc := 268) hK dL_texts_268 kw_kl_RL_161 ?_
                                        refine gw_ldc2 (pc := 271) hK dL_texts_271 kw_kl_RL_163 ?_
                                        refine gw_iconst (v := 0) (pc := 274) hK dL_texts_274 (by decide) ?_
                                        refine gw_iconst (v := 2) (pc := 275) hK dL_texts_275 (by decide) ?_
                                        refine gv_L_123 (pc := 276) hK hc dL_texts_276 (by decide) (Nat.le_of_ble_eq_true rfl) hf (fun r76 m77 hf => ?_)
                                        refine gw_nrm hK hn hf (fun hf => ?_)
                                        generalize gx_nf m77 = m78 at hf ⊢
                                        refine gw_if_eq (tgt := 324) (pc := 279) hK dL_texts_279 (by decide) hf (fun cc79 hf => ?_) (fun cc79 hf => ?_)
                                        ·
                                          refine gw_iconst (v := 0) (pc := 324) hK dL_texts_324 (by decide) ?_
                                          exact gw_ret_z (pc := 325) hK dL_texts_325 rfl (Option.some.inj hf)
                                        ·
                                          refine gw_aload_n (pc := 282) hK 0 dL_texts_282 rfl rfl ?_
                                          refine gw_ldc2 (pc := 283) hK dL_texts_283 kw_kl_RL_165 ?_
                                          refine gw_ldc2 (pc := 286) hK dL_texts_286 kw_kl_RL_167 ?_
                                          refine gw_bipush (v := 12) (pc := 289) hK dL_texts_289 (by decide) ?_
                                          refine gw_iconst (v := 1) (pc := 291) hK dL_texts_291 (by decide) ?_
                                          refine gv_L_123 (pc := 292) hK hc dL_texts_292 (by decide) (Nat.le_of_ble_eq_true rfl) hf (fun r80 m81 hf => ?_)
                                          refine gw_nrm hK hn hf (fun hf => ?_)
                                          generalize gx_nf m81 = m82 at hf ⊢
                                          refine gw_if_eq (tgt := 324) (pc := 295) hK dL_texts_295 (by decide) hf (fun cc83 hf => ?_) (fun cc83 hf => ?_)
                                          ·
                                            refine gw_iconst (v := 0) (pc := 324) hK dL_texts_324 (by decide) ?_
                                            exact gw_ret_z (pc := 325) hK dL_texts_325 rfl (Option.some.inj hf)
                                          ·
                                            refine gw_aload_n (pc := 298) hK 0 dL_texts_298 rfl rfl ?_
                                            refine gw_ldc2 (pc := 299) hK dL_texts_299 kw_kl_RL_169 ?_
                                            refine gw_lconst (v := 0) (pc := 302) hK dL_texts_302 (by decide) ?_
                                            refine gw_iconst (v := 4) (pc := 303) hK dL_texts_303 (by decide) ?_
                                            refine gw_iconst (v := 1) (pc := 304) hK dL_texts_304 (by decide) ?_
                                            refine gv_L_123 (pc := 305) hK hc dL_texts_305 (by decide) (Nat.le_of_ble_eq_true rfl) hf (fun r84 m85 hf => ?_)
                                            refine gw_nrm hK hn hf (fun hf => ?_)
                                            generalize gx_nf m85 = m86 at hf ⊢
                                            refine gw_if_eq (tgt := 324) (pc := 308) hK dL_texts_308 (by decide) hf (fun cc87 hf => ?_) (fun cc87 hf => ?_)
                                            ·
                                              refine gw_iconst (v := 0) (pc := 324) hK dL_texts_324 (by decide) ?_
                                              exact gw_ret_z (pc := 325) hK dL_texts_325 rfl (Option.some.inj hf)
                                            ·
                                              refine gw_aload_n (pc := 311) hK 0 dL_texts_311 rfl rfl ?_
                                              refine gw_ldc2 (pc := 312) hK dL_texts_312 kw_kl_RL_171 ?_
                                              refine gw_lconst (v := 0) (pc := 315) hK dL_texts_315 (by decide) ?_
                                              refine gw_iconst (v := 0) (pc := 316) hK dL_texts_316 (by decide) ?_
                                              refine gw_iconst (v := 1) (pc := 317) hK dL_texts_317 (by decide) ?_
                                              refine gv_L_123 (pc := 318) hK hc dL_texts_318 (by decide) (Nat.le_of_ble_eq_true rfl) hf (fun r88 m89 hf => ?_)
                                              refine gw_nrm hK hn hf (fun hf => ?_)
                                              generalize gx_nf m89 = m90 at hf ⊢
                                              refine gw_if_ne (tgt := 326) (pc := 321) hK dL_texts_321 (by decide) hf (fun cc91 hf => ?_) (fun cc91 hf => ?_)
                                              ·
                                                refine gw_aload_n (pc := 326) hK 0 dL_texts_326 rfl rfl ?_
                                                refine gv_L_118 (pc := 327) hK hc dL_texts_327 (by decide) (Nat.le_of_ble_eq_true rfl) hf (fun r92 m93 hf => ?_)
                                                refine gw_nrm hK hn hf (fun hf => ?_)
                                                generalize gx_nf m93 = m94 at hf ⊢
                                                refine gw_ldc (pc := 330) hK dL_texts_330 kw_k_RL_84 ?_
                                                refine gw_icmp_ne (tgt := 426) (pc := 332) hK dL_texts_332 (by decide) hf (fun cc95 hf => ?_) (fun cc95 hf => ?_)
                                                ·
                                                  refine gw_iconst (v := 0) (pc := 426) hK dL_texts_426 (by decide) ?_
                                                  exact gw_ret_z (pc := 427) hK dL_texts_427 rfl (Option.some.inj hf)
                                                ·
                                                  refine gw_aload_n (pc := 335) hK 0 dL_texts_335 rfl rfl ?_
                                                  refine gw_ldc2 (pc := 336) hK dL_texts_336 kw_kl_RL_173 ?_
                                                  refine gw_lconst (v := 0) (pc := 339) hK dL_texts_339 (by decide) ?_
                                                  refine gw_ldc (pc := 340) hK dL_texts_340 kw_k_RL_60 ?_
                                                  refine gw_ldc (pc := 342) hK dL_texts_342 kw_k_RL_60 ?_
                                                  refine gv_L_123 (pc := 344) hK hc dL_texts_344 (by decide) (Nat.le_of_ble_eq_true rfl) hf (fun r96 m97 hf => ?_)
                                                  refine gw_nrm hK hn hf (fun hf => ?_)
                                                  generalize gx_nf m97 = m98 at hf ⊢
                                                  refine gw_if_eq (tgt := 426) (pc := 347) hK dL_texts_347 (by decide) hf (fun cc99 hf => ?_) (fun cc99 hf => ?_)
                                                  ·
                                                    refine gw_iconst (v := 0) (pc := 426) hK dL_texts_426 (by decide) ?_
                                                    exact gw_ret_z (pc := 427) hK dL_texts_427 rfl (Option.some.inj hf)
                                                  ·
                                                    refine gw_aload_n (pc := 350) hK 0 dL_texts_350 rfl rfl ?_
                                                    refine gv_L_118 (pc := 351) hK hc dL_texts_351 (by decide) (Nat.le_of_ble_eq_true rfl) hf (fun r100 m101 hf => ?_)
                                                    refine gw_nrm hK hn hf (fun hf => ?_)
                                                    generalize gx_nf m101 = m102 at hf ⊢
                                                    refine gw_iconst (v := 2) (pc := 354) hK dL_texts_354 (by decide) ?_
                                                    refine gw_icmp_ne (tgt := 426) (pc := 355) hK dL_texts_355 (by decide) hf (fun cc103 hf => ?_) (fun cc103 hf => ?_)
                                                    ·
                                                      refine gw_iconst (v := 0) (pc := 426) hK dL_texts_426 (by decide) ?_
                                                      exact gw_ret_z (pc := 427) hK dL_texts_427 rfl (Option.some.inj hf)
                                                    ·
                                                      refine gw_aload_n (pc := 358) hK 0 dL_texts_358 rfl rfl ?_
                                                      refine gw_iconst (v := 0) (pc := 359) hK dL_texts_359 (by decide) ?_
                                                      refine gw_iconst (v := 0) (pc := 360) hK dL_texts_360 (by decide) ?_
                                                      refine gv_L_29 (pc := 361) hK hc dL_texts_361 (by decide) (Nat.le_of_ble_eq_true rfl) hf (fun r104 m105 hf => ?_)
                                                      refine gw_iconst (v := 3) (pc := 364) hK dL_texts_364 (by decide) ?_
                                                      refine gw_icmp_ne (tgt := 426) (pc := 365) hK dL_texts_365 (by decide) hf (fun cc106 hf => ?_) (fun cc106 hf => ?_)
                                                      ·
                                                        refine gw_iconst (v := 0) (pc := 426) hK dL_texts_426 (by decide) ?_
                                                        exact gw_ret_z (pc := 427) hK dL_texts_427 rfl (Option.some.inj hf)
                                                      ·
                                                        refine gw_aload_n (pc := 368) hK 0 dL_texts_368 rfl rfl ?_
                                                        refine gw_iconst (v := 0) (pc := 369) hK dL_texts_369 (by decide) ?_
                                                        refine gw_iconst (v := 1) (pc := 370) hK dL_texts_370 (by decide) ?_
                                                        refine gv_L_29 (pc := 371) hK hc dL_texts_371 (by decide) (Nat.le_of_ble_eq_true rfl) hf (fun r107 m108 hf => ?_)
                                                        refine gw_iconst (v := 4) (pc := 374) hK dL_texts_374 (by decide) ?_
                                                        refine gw_icmp_ne (tgt := 426) (pc := 375) hK dL_texts_375 (by decide) hf (fun cc109 hf => ?_) (fun cc109 hf => ?_)
                                                        ·
                                                          refine gw_iconst (v := 0) (pc := 426) hK dL_texts_426 (by decide) ?_
                                                          exact gw_ret_z (pc := 427) hK dL_texts_427 rfl (Option.some.inj hf)
                                                        ·
                                                          refine gw_aload_n (pc := 378) hK 0 dL_texts_378 rfl rfl ?_
                                                          refine gw_iconst (v := 1) (pc := 379) hK dL_texts_379 (by decide) ?_
                                                          refine gw_iconst (v := 1) (pc := 380) hK dL_texts_380 (by decide) ?_
                                                          refine gv_L_29 (pc := 381) hK hc dL_texts_381 (by decide) (Nat.le_of_ble_eq_true rfl) hf (fun r110 m111 hf => ?_)
                                                          refine gw_bipush (v := 8) (pc := 384) hK dL_texts_384 (by decide) ?_
                                                          refine gw_icmp_ne (tgt := 426) (pc := 386) hK dL_texts_386 (by decide) hf (fun cc112 hf => ?_) (fun cc112 hf => ?_)
                                                          ·
                                                            refine gw_iconst (v := 0) (pc := 426) hK dL_texts_426 (by decide) ?_
                                                            exact gw_ret_z (pc := 427) hK dL_texts_427 rfl (Option.some.inj hf)
                                                          ·
                                                            refine gw_aload_n (pc := 389) hK 0 dL_texts_389 rfl rfl ?_
                                                            refine gw_iconst (v := 2) (pc := 390) hK dL_texts_390 (by decide) ?_
                                                            refine gw_iconst (v := 0) (pc := 391) hK dL_texts_391 (by decide) ?_
                                                            refine gv_L_29 (pc := 392) hK hc dL_texts_392 (by decide) (Nat.le_of_ble_eq_true rfl) hf (fun r113 m114 hf => ?_)
                                                            refine gw_bipush (v := 100) (pc := 395) hK dL_texts_395 (by decide) ?_
                                                            refine gw_icmp_ne (tgt := 426) (pc := 397) hK dL_texts_397 (by decide) hf (fun cc115 hf => ?_) (fun cc115 hf => ?_)
                                                            ·
                                                              refine gw_iconst (v := 0) (pc := 426) hK dL_texts_426 (by decide) ?_
                                                              exact gw_ret_z (pc := 427) hK dL_texts_427 rfl (Option.some.inj hf)
                                                            ·
                                                              refine gw_aload_n (pc := 400) hK 0 dL_texts_400 rfl rfl ?_
                                                              refine gv_L_118 (pc := 401) hK hc dL_texts_401 (by decide) (Nat.le_of_ble_eq_true rfl) hf (fun r116 m117 hf => ?_)
                                                              refine gw_nrm hK hn hf (fun hf => ?_)
                                                              generalize gx_nf m117 = m118 at hf ⊢
                                                              refine gw_ldc (pc := 404) hK dL_texts_404 kw_k_RL_84 ?_
                                                              refine gw_icmp_ne (tgt := 426) (pc := 406) hK dL_texts_406 (by decide) hf (fun cc119 hf => ?_) (fun cc119 hf => ?_)
                                                              ·
                                                                refine gw_iconst (v := 0) (pc := 426) hK dL_texts_426 (by decide) ?_
                                                                exact gw_ret_z (pc := 427) hK dL_texts_427 rfl (Option.some.inj hf)
                                                              ·
                                                                refine gw_aload_n (pc := 409) hK 0 dL_texts_409 rfl rfl ?_
                                                                refine gw_iconst (v := 0) (pc := 410) hK dL_texts_410 (by decide) ?_
                                                                refine gv_L_105 (pc := 411) hK hc dL_texts_411 (by decide) (Nat.le_of_ble_eq_true rfl) hf (fun r120 m121 hf => ?_)
                                                                refine gw_if_ne (tgt := 426) (pc := 414) hK dL_texts_414 (by decide) hf (fun cc122 hf => ?_) (fun cc122 hf => ?_)
                                                                ·
                                                                  refine gw_iconst (v := 0) (pc := 426) hK dL_texts_426 (by decide) ?_
                                                                  exact gw_ret_z (pc := 427) hK dL_texts_427 rfl (Option.some.inj hf)
                                                                ·
                                                                  refine gw_aload_n (pc := 417) hK 0 dL_texts_417 rfl rfl ?_
                                                                  refine gw_iconst (v := 1) (pc := 418) hK dL_texts_418 (by decide) ?_
                                                                  refine gv_L_105 (pc := 419) hK hc dL_texts_419 (by decide) (Nat.le_of_ble_eq_true rfl) hf (fun r123 m124 hf => ?_)
                                                                  refine gw_iconst (v := 3) (pc := 422) hK dL_texts_422 (by decide) ?_
                                                                  refine gw_icmp_eq (tgt := 428) (pc := 423) hK dL_texts_423 (by decide) hf (fun cc125 hf => ?_) (fun cc125 hf => ?_)
                                                                  ·
                                                                    refine gw_iconst (v := 0) (pc := 428) hK dL_texts_428 (by decide) ?_
                                                                    refine gw_istore_n (L' := [(1, .int 0), (0, .ref (gy_a Y c))]) (pc := 429) hK dL_texts_429 rfl (by decide) rfl ?_
                                                                    refine gw_sub (L' := [(0, .ref (gy_a Y c)), (1, .int 0)]) hK [1, 0] rfl (lt_L_texts_430 hK hn c hc _ (fun m131 y132 hf => ?_) gx_F _ _ hf)
                                                                    refine gw_aload_n (pc := 460) hK 0 dL_texts_460 rfl rfl ?_
                                                                    refine gw_ldc2 (pc := 461) hK dL_texts_461 kw_kl_RL_165 ?_
                                                                    refine gw_lconst (v := 0) (pc := 464) hK dL_texts_464 (by decide) ?_
                                                                    refine gw_iconst (v := 4) (pc := 465) hK dL_texts_465 (by decide) ?_
                                                                    refine gw_iconst (v := 4) (pc := 466) hK dL_texts_466 (by decide) ?_
                                                                    refine gv_L_123 (pc := 467) hK hc dL_texts_467 (by decide) (Nat.le_of_ble_eq_true rfl) hf (fun r133 m134 hf => ?_)
                                                                    refine gw_nrm hK hn hf (fun hf => ?_)
                                                                    generalize gx_nf m134 = m135 at hf ⊢
                                                                    refine gw_if_eq (tgt := 543) (pc := 470) hK dL_texts_470 (by decide) hf (fun cc136 hf => ?_) (fun cc136 hf => ?_)
                                                                    ·
                                                                      refine gw_iconst (v := 0) (pc := 543) hK dL_texts_543 (by decide) ?_
                                                                      exact gw_ret_z (pc := 544) hK dL_texts_544 rfl (Option.some.inj hf)
                                                                    ·
                                                                      refine gw_aload_n (pc := 473) hK 0 dL_texts_473 rfl rfl ?_
                                                                      refine gw_iconst (v := 1) (pc := 474) hK dL_texts_474 (by decide) ?_
                                                                      refine gw_iconst (v := 1) (pc := 475) hK dL_texts_475 (by decide) ?_
                                                                      refine gv_L_68 (pc := 476) hK hc dL_texts_476 (by decide) (Nat.le_of_ble_eq_true rfl) hf (fun r137 m138 hf => ?_)
                                                                      refine gw_nrm hK hn hf (fun hf => ?_)
                                                                      generalize gx_nf m138 = m139 at hf ⊢
                                                                      refine gw_if_ne (tgt := 543) (pc := 479) hK dL_texts_479 (by decide) hf (fun cc140 hf => ?_) (fun cc140 hf => ?_)
                                                                      ·
                                                                        refine gw_iconst (v := 0) (pc := 543) hK dL_texts_543 (by decide) ?_
                                                                        exact gw_ret_z (pc := 544) hK dL_texts_544 rfl (Option.some.inj hf)
                                                                      ·
                                                                        refine gw_aload_n (pc := 482) hK 0 dL_texts_482 rfl rfl ?_
                                                                        refine gw_iconst (v := 2) (pc := 483) hK dL_texts_483 (by decide) ?_
                                                                        refine gw_iconst (v := 1) (pc := 484) hK dL_texts_484 (by decide) ?_
                                                                        refine gv_L_68 (pc := 485) hK hc dL_texts_485 (by decide) (Nat.le_of_ble_eq_true rfl) hf (fun r141 m142 hf => ?_)
                                                                        refine gw_nrm hK hn hf (fun hf => ?_)
                                                                        generalize gx_nf m142 = m143 at hf ⊢
                                                                        refine gw_ldc (pc := 488) hK dL_texts_488 kw_k_RL_175 ?_
                                                                        refine gw_icmp_ne (tgt := 543) (pc := 490) hK dL_texts_490 (by decide) hf (fun cc144 hf => ?_) (fun cc144 hf => ?_)
                                                                        ·
                                                                          refine gw_iconst (v := 0) (pc := 543) hK dL_texts_543 (by decide) ?_
                                                                          exact gw_ret_z (pc := 544) hK dL_texts_544 rfl (Option.some.inj hf)
                                                                        ·
                                                                          refine gw_aload_n (pc := 493) hK 0 dL_texts_493 rfl rfl ?_
                                                                          refine gw_iconst (v := 1) (pc := 494) hK dL_texts_494 (by decide) ?_
                                                                          refine gw_iconst (v := 1) (pc := 495) hK dL_texts_495 (by decide) ?_
                                                                          refine gv_L_68 (pc := 496) hK hc dL_texts_496 (by decide) (Nat.le_of_ble_eq_true rfl) hf (fun r145 m146 hf => ?_)
                                                                          refine gw_nrm hK hn hf (fun hf => ?_)
                                                                          generalize gx_nf m146 = m147 at hf ⊢
                                                                          refine gw_ldc (pc := 499) hK dL_texts_499 kw_k_RL_84 ?_
                                                                          refine gw_icmp_ne (tgt := 543) (pc := 501) hK dL_texts_501 (by decide) hf (fun cc148 hf => ?_) (fun cc148 hf => ?_)
                                                                          ·
                                                                            refine gw_iconst (v := 0) (pc := 543) hK dL_texts_543 (by decide) ?_
                                                                            exact gw_ret_z (pc := 544) hK dL_texts_544 rfl (Option.some.inj hf)
                                                                          ·
                                                                            refine gw_aload_n (pc := 504) hK 0 dL_texts_504 rfl rfl ?_
                                                                            refine gw_iconst (v := 1) (pc := 505) hK dL_texts_505 (by decide) ?_
                                                                            refine gw_sipush (v := 6001) (pc := 506) hK dL_texts_506 (by decide) ?_
                                                                            refine gv_L_68 (pc := 509) hK hc dL_texts_509 (by decide) (Nat.le_of_ble_eq_true rfl) hf (fun r149 m150 hf => ?_)
                                                                            refine gw_nrm hK hn hf (fun hf => ?_)
                                                                            generalize gx_nf m150 = m151 at hf ⊢
                                                                            refine gw_ldc (pc := 512) hK dL_texts_512 kw_k_RL_35 ?_
                                                                            refine gw_icmp_ne (tgt := 543) (pc := 514) hK dL_texts_514 (by decide) hf (fun cc152 hf => ?_) (fun cc152 hf => ?_)
                                                                            ·
                                                                              refine gw_iconst (v := 0) (pc := 543) hK dL_texts_543 (by decide) ?_
                                                                              exact gw_ret_z (pc := 544) hK dL_texts_544 rfl (Option.some.inj hf)
                                                                            ·
                                                                              refine gw_aload_n (pc := 517) hK 0 dL_texts_517 rfl rfl ?_
                                                                              refine gw_iconst (v := 0) (pc := 518) hK dL_texts_518 (by decide) ?_
                                                                              refine gv_L_105 (pc := 519) hK hc dL_texts_519 (by decide) (Nat.le_of_ble_eq_true rfl) hf (fun r153 m154 hf => ?_)
                                                                              refine gw_if_ne (tgt := 543) (pc := 522) hK dL_texts_522 (by decide) hf (fun cc155 hf => ?_) (fun cc155 hf => ?_)
                                                                              ·
                                                                                refine gw_iconst (v := 0) (pc := 543) hK dL_texts_543 (by decide) ?_
                                                                                exact gw_ret_z (pc := 544) hK dL_texts_544 rfl (Option.some.inj hf)
                                                                              ·
                                                                                refine gw_aload_n (pc := 525) hK 0 dL_texts_525 rfl rfl ?_
                                                                                refine gw_iconst (v := 1) (pc := 526) hK dL_texts_526 (by decide) ?_
                                                                                refine gv_L_105 (pc := 527) hK hc dL_texts_527 (by decide) (Nat.le_of_ble_eq_true rfl) hf (fun r156 m157 hf => ?_)
                                                                                refine gw_iconst (v := 3) (pc := 530) hK dL_texts_530 (by decide) ?_
                                                                                refine gw_icmp_ne (tgt := 543) (pc := 531) hK dL_texts_531 (by decide) hf (fun cc158 hf => ?_) (fun cc158 hf => ?_)
                                                                                ·
                                                                                  refine gw_iconst (v := 0) (pc := 543) hK dL_texts_543 (by decide) ?_
                                                                                  exact gw_ret_z (pc := 544) hK dL_texts_544 rfl (Option.some.inj hf)
                                                                                ·
                                                                                  refine gw_aload_n (pc := 534) hK 0 dL_texts_534 rfl rfl ?_
                                                                                  refine gv_L_110 (pc := 535) hK hc dL_texts_535 (by decide) (Nat.le_of_ble_eq_true rfl) hf (fun r159 m160 hf => ?_)
                                                                                  refine gw_bipush (v := 8) (pc := 538) hK dL_texts_538 (by decide) ?_
                                                                                  refine gw_icmp_eq (tgt := 545) (pc := 540) hK dL_texts_540 (by decide) hf (fun cc161 hf => ?_) (fun cc161 hf => ?_)
                                                                                  ·
                                                                                    refine gw_iconst (v := 1) (pc := 545) hK dL_texts_545 (by decide) ?_
                                                                                    refine gw_istore_n (L' := [(1, .int 1), (0, .ref (gy_a Y c))]) (pc := 546) hK dL_texts_546 rfl (by decide) rfl ?_
                                                                                    refine gw_sub (L' := [(0, .ref (gy_a Y c)), (1, .int 1)]) hK [1, 0] rfl (lt_L_texts_547 hK hn c hc _ (fun m166 y167 hf => ?_) gx_F _ _ hf)
                                                                                    refine gw_aload_n (pc := 571) hK 0 dL_texts_571 rfl rfl ?_
                                                                                    refine gw_bipush (v := 49) (pc := 572) hK dL_texts_572 (by decide) ?_
                                                                                    refine gv_L_102 (pc := 574) hK hc dL_texts_574 (by decide) (Nat.le_of_ble_eq_true rfl) hf (fun r168 m169 hf => ?_)
                                                                                    refine gw_ldc (pc := 577) hK dL_texts_577 kw_k_RL_175 ?_
                                                                                    refine gw_icmp_ne (tgt := 615) (pc := 579) hK dL_texts_579 (by decide) hf (fun cc170 hf => ?_) (fun cc170 hf => ?_)
                                                                                    ·
                                                                                      refine gw_iconst (v := 0) (pc := 615) hK dL_texts_615 (by decide) ?_
                                                                                      exact gw_ret_z (pc := 616) hK dL_texts_616 rfl (Option.some.inj hf)
                                                                                    ·
                                                                                      refine gw_aload_n (pc := 582) hK 0 dL_texts_582 rfl rfl ?_
                                                                                      refine gw_bipush (v := 31) (pc := 583) hK dL_texts_583 (by decide) ?_
                                                                                      refine gv_L_102 (pc := 585) hK hc dL_texts_585 (by decide) (Nat.le_of_ble_eq_true rfl) hf (fun r171 m172 hf => ?_)
                                                                                      refine gw_ldc (pc := 588) hK dL_texts_588 kw_k_RL_35 ?_
                                                                                      refine gw_icmp_ne (tgt := 615) (pc := 590) hK dL_texts_590 (by decide) hf (fun cc173 hf => ?_) (fun cc173 hf => ?_)
                                                                                      ·
                                                                                        refine gw_iconst (v := 0) (pc := 615) hK dL_texts_615 (by decide) ?_
                                                                                        exact gw_ret_z (pc := 616) hK dL_texts_616 rfl (Option.some.inj hf)
                                                                                      ·
                                                                                        refine gw_aload_n (pc := 593) hK 0 dL_texts_593 rfl rfl ?_
                                                                                        refine gw_iconst (v := 1) (pc := 594) hK dL_texts_594 (by decide) ?_
                                                                                        refine gv_L_105 (pc := 595) hK hc dL_texts_595 (by decide) (Nat.le_of_ble_eq_true rfl) hf (fun r174 m175 hf => ?_)
                                                                                        refine gw_iconst (v := 1) (pc := 598) hK dL_texts_598 (by decide) ?_
                                                                                        refine gw_icmp_ne (tgt := 615) (pc := 599) hK dL_texts_599 (by decide) hf (fun cc176 hf => ?_) (fun cc176 hf => ?_)
                                                                                        ·
                                                                                          refine gw_iconst (v := 0) (pc := 615) hK dL_texts_615 (by decide) ?_
                                                                                          exact gw_ret_z (pc := 616) hK dL_texts_616 rfl (Option.some.inj hf)
                                                                                        ·
                                                                                          refine gw_aload_n (pc := 602) hK 0 dL_texts_602 rfl rfl ?_
                                                                                          refine gv_L_118 (pc := 603) hK hc dL_texts_603 (by decide) (Nat.le_of_ble_eq_true rfl) hf (fun r177 m178 hf => ?_)
                                                                                          refine gw_nrm hK hn hf (fun hf => ?_)
                                                                                          generalize gx_nf m178 = m179 at hf ⊢
                                                                                          refine gw_ldc (pc := 606) hK dL_texts_606 kw_k_RL_84 ?_
                                                                                          refine gw_icmp_ne (tgt := 615) (pc := 608) hK dL_texts_608 (by decide) hf (fun cc180 hf => ?_) (fun cc180 hf => ?_)
                                                                                          ·
                                                                                            refine gw_iconst (v := 0) (pc := 615) hK dL_texts_615 (by decide) ?_
                                                                                            exact gw_ret_z (pc := 616) hK dL_texts_616 rfl (Option.some.inj hf)
                                                                                          ·
                                                                                            refine gw_iconst (v := 1) (pc := 611) hK dL_texts_611 (by decide) ?_
                                                                                            refine gw_goto (tgt := 616) (pc := 612) hK dL_texts_612 (by decide) ?_
                                                                                            exact gw_ret_z (pc := 616) hK dL_texts_616 rfl (Option.some.inj hf)
                                                                                  ·
                                                                                    refine gw_iconst (v := 0) (pc := 543) hK dL_texts_543 (by decide) ?_
                                                                                    exact gw_ret_z (pc := 544) hK dL_texts_544 rfl (Option.some.inj hf)
                                                                  ·
                                                                    refine gw_iconst (v := 0) (pc := 426) hK dL_texts_426 (by decide) ?_
                                                                    exact gw_ret_z (pc := 427) hK dL_texts_427 rfl (Option.some.inj hf)
                                              ·
                                                refine gw_iconst (v := 0) (pc := 324) hK dL_texts_324 (by decide) ?_
                                                exact gw_ret_z (pc := 325) hK dL_texts_325 rfl (Option.some.inj hf)
                                      ·
                                        refine gw_iconst (v := 0) (pc := 265) hK dL_texts_265 (by decide) ?_
                                        exact gw_ret_z (pc := 266) hK dL_texts_266 rfl (Option.some.inj hf)
                              ·
                                refine gw_iconst (v := 0) (pc := 203) hK dL_texts_203 (by decide) ?_
                                exact gw_ret_z (pc := 204) hK dL_texts_204 rfl (Option.some.inj hf)
                      ·
                        refine gw_iconst (v := 0) (pc := 147) hK dL_texts_147 (by decide) ?_
                        exact gw_ret_z (pc := 148) hK dL_texts_148 rfl (Option.some.inj hf)
              ·
                refine gw_iconst (v := 0) (pc := 91) hK dL_texts_91 (by decide) ?_
                exact gw_ret_z (pc := 92) hK dL_texts_92 rfl (Option.some.inj hf)
      ·
        refine gw_iconst (v := 0) (pc := 35) hK dL_texts_35 (by decide) ?_
        exact gw_ret_z (pc := 36) hK dL_texts_36 rfl (Option.some.inj hf)
set_option maxRecDepth 100000 in
noncomputable def fn_L_known (kd : Nat → Nat) (μ : gx_M) (c : Nat) : Option (Int32 × gx_M) :=
  gx_b (fn_L_refused kd μ c) (fun r1 m2 =>
gx_nrm m2 (fun m3 =>
(if r1 = 0 then
some (0, m3)
else
gx_b (fn_X6_undo kd m3 c) (fun r5 m6 =>
gx_nrm m6 (fun m7 =>
(if r5 = (-100002) then
gx_b (fn_X6_bowl kd m7 c 1000 1000) (fun r9 m10 =>
gx_nrm m10 (fun m11 =>
(if r9 = 0 then
gx_b (fn_X6_bowl kd m11 c 2000 500) (fun r13 m14 =>
gx_nrm m14 (fun m15 =>
(if r13 = 1 then
gx_b (fn_X6_bowlOf kd m15 c 0 5) (fun r17 m18 =>
(if r17 = 1000 then
gx_b (fn_X6_bowlOf kd m18 c 0 4) (fun r20 m21 =>
(if r20 = 1000 then
gx_b (fn_X6_pour kd m21 c 0 100) (fun r23 m24 =>
gx_nrm m24 (fun m25 =>
(if r23 = 100 then
gx_b (fn_X6_bowlOf kd m25 c 0 5) (fun r27 m28 =>
(if r27 = 990 then
gx_b (fn_X6_pour kd m28 c 0 901) (fun r30 m31 =>
gx_nrm m31 (fun m32 =>
(if r30 = (-100003) then
gx_b (fn_X6_spill kd m32 c 0 101) (fun r34 m35 =>
gx_nrm m35 (fun m36 =>
(if r34 = (-100002) then
gx_b (fn_X6_spill kd m36 c 0 1) (fun r38 m39 =>
gx_nrm m39 (fun m40 =>
(if r38 = 99 then
gx_b (fn_X6_bowlOf kd m40 c 0 5) (fun r42 m43 =>
(if r42 = 991 then
gx_b (fn_X6_crack kd m43 c 0 50) (fun r45 m46 =>
gx_nrm m46 (fun m47 =>
(if r45 = 49 then
gx_b (fn_X6_bowlOf kd m47 c 0 5) (fun r49 m50 =>
(if r49 = 998 then
gx_b (fn_X6_pour kd m50 c 0 10) (fun r52 m53 =>
gx_nrm m53 (fun m54 =>
(if r52 = 50 then
gx_b (fn_X6_count kd m54 c 20) (fun r56 m57 =>
(if r56 = 110 then
gx_b (fn_X6_count kd m57 c 21) (fun r59 m60 =>
(if r59 = 50 then
gx_b (fn_X6_count kd m60 c 22) (fun r62 m63 =>
(if r62 = 0 then
gx_b (fn_X6_count kd m63 c 23) (fun r65 m66 =>
(if r65 = 59 then
gx_b (fn_X6_count kd m66 c 24) (fun r68 m69 =>
(if r68 = 1 then
gx_b (fn_X6_levelFor kd m69 c 0 998) (fun r71 m72 =>
(if r71 = 45 then
gx_b (fn_X6_levelFor kd m72 c 0 (-3000)) (fun r74 m75 =>
(if r74 = 45 then
gx_b (fn_X6_levelFor kd m75 c 0 6000) (fun r77 m78 =>
(if r77 = 0 then
gx_b (fn_X6_nearest kd m78 c 1500) (fun r80 m81 =>
(if r80 = 1 then
gx_b (fn_X6_nearest kd m81 c 1499) (fun r83 m84 =>
(if r83 = 0 then
gx_b (fn_X6_note kd m84 c 5 1000) (fun r86 m87 =>
gx_nrm m87 (fun m88 =>
(if r86 = 0 then
gx_b (fn_X6_note kd m88 c 2 2010) (fun r90 m91 =>
gx_nrm m91 (fun m92 =>
(if r90 = 0 then
gx_b (fn_X6_note kd m92 c 5 1) (fun r94 m95 =>
gx_nrm m95 (fun m96 =>
(if r94 = (-100002) then
gx_b (fn_X6_noteOf kd m96 c 0 0) (fun r98 m99 =>
(if r98 = 2 then
gx_b (fn_X6_noteOf kd m99 c 1 0) (fun r101 m102 =>
(if r101 = 5 then
gx_b (fn_X6_count kd m102 c 3) (fun r104 m105 =>
(if r104 = 1 then
gx_b (fn_X6_noteOf kd m105 c 1 2) (fun r107 m108 =>
(if r107 = 0 then
gx_b (fn_X6_set kd m108 c 1 3) (fun r110 m111 =>
gx_nrm m111 (fun m112 =>
(if r110 = 10 then
gx_b (fn_X6_count kd m112 c 3) (fun r114 m115 =>
(if r114 = 2 then
gx_b (fn_X6_noteOf kd m115 c 1 2) (fun r117 m118 =>
(if r117 = 1 then
gx_b (fn_X6_wouldBe kd m118 c 0) (fun r120 m121 =>
gx_nrm m121 (fun m122 =>
(if r120 = (-10) then
gx_b (fn_X6_wouldBe kd m122 c 1) (fun r124 m125 =>
gx_nrm m125 (fun m126 =>
(if r124 = (-2) then
gx_b (fn_X6_firstFalse kd m126 c) (fun r128 m129 =>
gx_nrm m129 (fun m130 =>
(if r128 = (-100004) then
gx_b (fn_X6_set kd m130 c 2 9) (fun r132 m133 =>
gx_nrm m133 (fun m134 =>
(if r132 = 10 then
gx_b (fn_X6_firstFalse kd m134 c) (fun r136 m137 =>
gx_nrm m137 (fun m138 =>
(if r136 = 0 then
gx_b (fn_X6_leastTolerance kd m138 c) (fun r140 m141 =>
gx_nrm m141 (fun m142 =>
(if r140 = 10 then
gx_b (fn_X6_noteOf kd m142 c 0 3) (fun r144 m145 =>
(if r144 = 0 then
gx_b (fn_X6_run kd m145 c 4) (fun r147 m148 =>
gx_nrm m148 (fun m149 =>
(if r147 = 1 then
gx_b (fn_X6_noteOf kd m149 c 0 3) (fun r151 m152 =>
(if r151 = 1 then
gx_b (fn_X6_noteOf kd m152 c 0 4) (fun r154 m155 =>
(if r154 = 1 then
gx_b (fn_X6_noteOf kd m155 c 0 5) (fun r157 m158 =>
(if r157 = (-10) then
gx_b (fn_X6_noteOf kd m158 c 0 6) (fun r160 m161 =>
(if r160 = 0 then
gx_b (fn_X6_noteOf kd m161 c 1 4) (fun r163 m164 =>
(if r163 = (-100004) then
gx_b (fn_X6_noteOf kd m164 c 1 6) (fun r166 m167 =>
(if r166 = (-100004) then
gx_b (fn_X6_wouldBe kd m167 c 0) (fun r169 m170 =>
gx_nrm m170 (fun m171 =>
(if r169 = (-100002) then
gx_b (fn_X6_count kd m171 c 4) (fun r173 m174 =>
(if r173 = 1 then
gx_b (fn_X6_count kd m174 c 5) (fun r176 m177 =>
(if r176 = 0 then
gx_b (fn_X6_count kd m177 c 6) (fun r179 m180 =>
(if r179 = 0 then
gx_b (fn_X6_worst kd m180 c 0) (fun r182 m183 =>
(if r182 = 0 then
gx_b (fn_X6_worst kd m183 c 1) (fun r185 m186 =>
(if r185 = (-100004) then
gx_b (fn_X6_firstFalse kd m186 c) (fun r188 m189 =>
gx_nrm m189 (fun m190 =>
(if r188 = (-100004) then
gx_b (fn_X6_leastTolerance kd m190 c) (fun r192 m193 =>
gx_nrm m193 (fun m194 =>
(if r192 = 2 then
gx_b (fn_X6_note kd m194 c 3 500) (fun r196 m197 =>
gx_nrm m197 (fun m198 =>
(if r196 = 1 then
gx_b (fn_X6_count kd m198 c 3) (fun r200 m201 =>
(if r200 = 1 then
gx_b (fn_X6_drop kd m201 c 1) (fun r203 m204 =>
gx_nrm m204 (fun m205 =>
(if r203 = 2 then
gx_b (fn_X6_mark kd m205 c 0 60) (fun r207 m208 =>
gx_nrm m208 (fun m209 =>
(if r207 = 0 then
gx_b (fn_X6_bowlOf kd m209 c 0 6) (fun r211 m212 =>
(if r211 = 998 then
gx_b (fn_X6_set kd m212 c 3 1) (fun r214 m215 =>
gx_nrm m215 (fun m216 =>
(if r214 = 0 then
gx_b (fn_X6_run kd m216 c 1) (fun r218 m219 =>
gx_nrm m219 (fun m220 =>
(if r218 = 1 then
gx_b (fn_X6_noteOf kd m220 c 1 4) (fun r222 m223 =>
(if r222 = 0 then
gx_b (fn_X6_noteOf kd m223 c 1 5) (fun r225 m226 =>
(if r225 = (-2) then
gx_b (fn_X6_noteOf kd m226 c 1 6) (fun r228 m229 =>
(if r228 = 1 then
gx_b (fn_X6_count kd m229 c 20) (fun r231 m232 =>
(if r231 = 120 then
gx_b (fn_X6_count kd m232 c 23) (fun r234 m235 =>
(if r234 = 69 then
gx_b (fn_X6_worst kd m235 c 0) (fun r237 m238 =>
(if r237 = 0 then
gx_b (fn_X6_worst kd m238 c 1) (fun r240 m241 =>
(if r240 = 1 then
gx_b (fn_X6_transpose kd m241 c 0 1 (-1001)) (fun r243 m244 =>
gx_nrm m244 (fun m245 =>
(if r243 = (-100002) then
gx_b (fn_X6_transpose kd m245 c 0 1 5) (fun r247 m248 =>
gx_nrm m248 (fun m249 =>
(if r247 = 2 then
gx_b (fn_X6_noteOf kd m249 c 1 1) (fun r251 m252 =>
(if r251 = 1005 then
gx_b (fn_X6_noteOf kd m252 c 1 5) (fun r254 m255 =>
(if r254 = (-2) then
gx_b (fn_X6_leastTolerance kd m255 c) (fun r257 m258 =>
gx_nrm m258 (fun m259 =>
(if r257 = (-100004) then
gx_b (fn_X6_rewind kd m259 c) (fun r261 m262 =>
gx_nrm m262 (fun m263 =>
(if r261 = 5 then
gx_b (fn_X6_count kd m263 c 0) (fun r265 m266 =>
(if r265 = 0 then
gx_b (fn_X6_noteOf kd m266 c 0 3) (fun r268 m269 =>
(if r268 = 0 then
gx_b (fn_X6_noteOf kd m269 c 0 4) (fun r271 m272 =>
(if r271 = (-100004) then
gx_b (fn_X6_worst kd m272 c 0) (fun r274 m275 =>
(if r274 = (-100004) then
gx_b (fn_X6_set kd m275 c 0 2) (fun r277 m278 =>
gx_nrm m278 (fun m279 =>
(if r277 = 60 then
gx_b (fn_X6_pitchAt kd m279 c 0 2) (fun r281 m282 =>
gx_nrm m282 (fun m283 =>
(if r281 = 998 then
gx_b (fn_X6_pitchAt kd m283 c 1 3600) (fun r285 m286 =>
gx_nrm m286 (fun m287 =>
(if r285 = 2000 then
gx_b (fn_X6_run kd m287 c 4) (fun r289 m290 =>
gx_nrm m290 (fun m291 =>
(if r289 = 1 then
gx_b (fn_X6_bowlOf kd m291 c 0 2) (fun r293 m294 =>
(if r293 = 49 then
gx_b (fn_X6_count kd m294 c 20) (fun r296 m297 =>
(if r296 = 131 then
gx_b (fn_X6_count kd m297 c 21) (fun r299 m300 =>
(if r299 = 49 then
gx_b (fn_X6_count kd m300 c 22) (fun r302 m303 =>
(if r302 = 2 then
gx_b (fn_X6_count kd m303 c 23) (fun r305 m306 =>
(if r305 = 79 then
gx_b (fn_X6_remove kd m306 c 0) (fun r308 m309 =>
gx_nrm m309 (fun m310 =>
(if r308 = 1 then
gx_b (fn_X6_count kd m310 c 24) (fun r312 m313 =>
(if r312 = 50 then
gx_b (fn_X6_noteOf kd m313 c 0 4) (fun r315 m316 =>
(if r315 = 1 then
gx_b (fn_X6_bowlOf kd m316 c 0 0) (fun r318 m319 =>
(if r318 = 2000 then
gx_b (fn_X6_remove kd m319 c 0) (fun r321 m322 =>
gx_nrm m322 (fun m323 =>
(if r321 = 0 then
gx_b (fn_X6_wouldBe kd m323 c 1) (fun r325 m326 =>
gx_nrm m326 (fun m327 =>
(if r325 = (-100004) then
gx_b (fn_X6_run kd m327 c 1) (fun r329 m330 =>
gx_nrm m330 (fun m331 =>
(if r329 = 1 then
gx_b (fn_X6_noteOf kd m331 c 1 3) (fun r333 m334 =>
(if r333 = 1 then
gx_b (fn_X6_noteOf kd m334 c 1 4) (fun r336 m337 =>
(if r336 = (-100004) then
gx_b (fn_X6_noteOf kd m337 c 1 5) (fun r339 m340 =>
(if r339 = (-100004) then
gx_b (fn_X6_count kd m340 c 4) (fun r342 m343 =>
(if r342 = 2 then
gx_b (fn_X6_count kd m343 c 6) (fun r345 m346 =>
(if r345 = 1 then
gx_b (fn_X6_count kd m346 c 5) (fun r348 m349 =>
(if r348 = 0 then
gx_b (fn_X6_nearest kd m349 c 0) (fun r351 m352 =>
(if r351 = (-100004) then
some (1, m352)
else
some (0, m352)))
else
some (0, m349)))
else
some (0, m346)))
else
some (0, m343)))
else
some (0, m340)))
else
some (0, m337)))
else
some (0, m334)))
else
some (0, m331))))
else
some (0, m327))))
else
some (0, m323))))
else
some (0, m319)))
else
some (0, m316)))
else
some (0, m313)))
else
some (0, m310))))
else
some (0, m306)))
else
some (0, m303)))
else
some (0, m300)))
else
some (0, m297)))
else
some (0, m294)))
else
some (0, m291))))
else
some (0, m287))))
else
some (0, m283))))
else
some (0, m279))))
else
some (0, m275)))
else
some (0, m272)))
else
some (0, m269)))
else
some (0, m266)))
else
some (0, m263))))
else
some (0, m259))))
else
some (0, m255)))
else
some (0, m252)))
else
some (0, m249))))
else
some (0, m245))))
else
some (0, m241)))
else
some (0, m238)))
else
some (0, m235)))
else
some (0, m232)))
else
some (0, m229)))
else
some (0, m226)))
else
some (0, m223)))
else
some (0, m220))))
else
some (0, m216))))
else
some (0, m212)))
else
some (0, m209))))
else
some (0, m205))))
else
some (0, m201)))
else
some (0, m198))))
else
some (0, m194))))
else
some (0, m190))))
else
some (0, m186)))
else
some (0, m183)))
else
some (0, m180)))
else
some (0, m177)))
else
some (0, m174)))
else
some (0, m171))))
else
some (0, m167)))
else
some (0, m164)))
else
some (0, m161)))
else
some (0, m158)))
else
some (0, m155)))
else
some (0, m152)))
else
some (0, m149))))
else
some (0, m145)))
else
some (0, m142))))
else
some (0, m138))))
else
some (0, m134))))
else
some (0, m130))))
else
some (0, m126))))
else
some (0, m122))))
else
some (0, m118)))
else
some (0, m115)))
else
some (0, m112))))
else
some (0, m108)))
else
some (0, m105)))
else
some (0, m102)))
else
some (0, m99)))
else
some (0, m96))))
else
some (0, m92))))
else
some (0, m88))))
else
some (0, m84)))
else
some (0, m81)))
else
some (0, m78)))
else
some (0, m75)))
else
some (0, m72)))
else
some (0, m69)))
else
some (0, m66)))
else
some (0, m63)))
else
some (0, m60)))
else
some (0, m57)))
else
some (0, m54))))
else
some (0, m50)))
else
some (0, m47))))
else
some (0, m43)))
else
some (0, m40))))
else
some (0, m36))))
else
some (0, m32))))
else
some (0, m28)))
else
some (0, m25))))
else
some (0, m21)))
else
some (0, m18)))
else
some (0, m15))))
else
some (0, m11))))
else
some (0, m7)))))))
set_option maxRecDepth 100000 in
set_option maxHeartbeats 40000000 in
theorem kb_L_known {l : Launch} {Y : gx_Y} {rr : Int32 × gx_M} {K : gx_KT} (hK : gx_K l RL cL_known 1 9 205 (some .boolean) Y (gx_P rr) K) (hn : gx_nok Y) (μ : gx_M) (c : Nat) (hc : gk_bow Y c) (hf : fn_L_known (gy_k Y) μ c = some rr) : K μ 8 [(0, .ref (gy_a Y c))] [] := by
  unfold fn_L_known at hf
  refine gw_aload_n (pc := 8) hK 0 dL_known_8 rfl rfl ?_
  refine gv_L_176 (pc := 9) hK hc dL_known_9 (by decide) (Nat.le_of_ble_eq_true rfl) hf (fun r1 m2 hf => ?_)
  refine gw_nrm hK hn hf (fun hf => ?_)
  generalize gx_nf m2 = m3 at hf ⊢
  refine gw_if_eq (tgt := 235) (pc := 12) hK dL_known_12 (by decide) hf (fun cc4 hf => ?_) (fun cc4 hf => ?_)
  ·
    refine gw_iconst (v := 0) (pc := 235) hK dL_known_235 (by decide) ?_
    exact gw_ret_z (pc := 236) hK dL_known_236 rfl (Option.some.inj hf)
  ·
    refine gw_aload_n (pc := 15) hK 0 dL_known_15 rfl rfl ?_
    refine gv_L_179 (pc := 16) hK hc dL_known_16 (by decide) (Nat.le_of_ble_eq_true rfl) hf (fun r5 m6 hf => ?_)
    refine gw_nrm hK hn hf (fun hf => ?_)
    generalize gx_nf m6 = m7 at hf ⊢
    refine gw_ldc (pc := 19) hK dL_known_19 kw_k_RL_84 ?_
    refine gw_icmp_ne (tgt := 235) (pc := 21) hK dL_known_21 (by decide) hf (fun cc8 hf => ?_) (fun cc8 hf => ?_)
    ·
      refine gw_iconst (v := 0) (pc := 235) hK dL_known_235 (by decide) ?_
      exact gw_ret_z (pc := 236) hK dL_known_236 rfl (Option.some.inj hf)
    ·
      refine gw_aload_n (pc := 24) hK 0 dL_known_24 rfl rfl ?_
      refine gw_sipush (v := 1000) (pc := 25) hK dL_known_25 (by decide) ?_
      refine gw_sipush (v := 1000) (pc := 28) hK dL_known_28 (by decide) ?_
      refine gv_L_32 (pc := 31) hK hc dL_known_31 (by decide) (Nat.le_of_ble_eq_true rfl) hf (fun r9 m10 hf => ?_)
      refine gw_nrm hK hn hf (fun hf => ?_)
      generalize gx_nf m10 = m11 at hf ⊢
      refine gw_if_ne (tgt := 235) (pc := 34) hK dL_known_34 (by decide) hf (fun cc12 hf => ?_) (fun cc12 hf => ?_)
      ·
        refine gw_iconst (v := 0) (pc := 235) hK dL_known_235 (by decide) ?_
        exact gw_ret_z (pc := 236) hK dL_known_236 rfl (Option.some.inj hf)
      ·
        refine gw_aload_n (pc := 37) hK 0 dL_known_37 rfl rfl ?_
        refine gw_sipush (v := 2000) (pc := 38) hK dL_known_38 (by decide) ?_
        refine gw_sipush (v := 500) (pc := 41) hK dL_known_41 (by decide) ?_
        refine gv_L_32 (pc := 44) hK hc dL_known_44 (by decide) (Nat.le_of_ble_eq_true rfl) hf (fun r13 m14 hf => ?_)
        refine gw_nrm hK hn hf (fun hf => ?_)
        generalize gx_nf m14 = m15 at hf ⊢
        refine gw_iconst (v := 1) (pc := 47) hK dL_known_47 (by decide) ?_
        refine gw_icmp_ne (tgt := 235) (pc := 48) hK dL_known_48 (by decide) hf (fun cc16 hf => ?_) (fun cc16 hf => ?_)
        ·
          refine gw_iconst (v := 0) (pc := 235) hK dL_known_235 (by decide) ?_
          exact gw_ret_z (pc := 236) hK dL_known_236 rfl (Option.some.inj hf)
        ·
          refine gw_aload_n (pc := 51) hK 0 dL_known_51 rfl rfl ?_
          refine gw_iconst (v := 0) (pc := 52) hK dL_known_52 (by decide) ?_
          refine gw_iconst (v := 5) (pc := 53) hK dL_known_53 (by decide) ?_
          refine gv_L_25 (pc := 54) hK hc dL_known_54 (by decide) (Nat.le_of_ble_eq_true rfl) hf (fun r17 m18 hf => ?_)
          refine gw_sipush (v := 1000) (pc := 57) hK dL_known_57 (by decide) ?_
          refine gw_icmp_ne (tgt := 235) (pc := 60) hK dL_known_60 (by decide) hf (fun cc19 hf => ?_) (fun cc19 hf => ?_)
          ·
            refine gw_iconst (v := 0) (pc := 235) hK dL_known_235 (by decide) ?_
            exact gw_ret_z (pc := 236) hK dL_known_236 rfl (Option.some.inj hf)
          ·
            refine gw_aload_n (pc := 63) hK 0 dL_known_63 rfl rfl ?_
            refine gw_iconst (v := 0) (pc := 64) hK dL_known_64 (by decide) ?_
            refine gw_iconst (v := 4) (pc := 65) hK dL_known_65 (by decide) ?_
            refine gv_L_25 (pc := 66) hK hc dL_known_66 (by decide) (Nat.le_of_ble_eq_true rfl) hf (fun r20 m21 hf => ?_)
            refine gw_sipush (v := 1000) (pc := 69) hK dL_known_69 (by decide) ?_
            refine gw_icmp_ne (tgt := 235) (pc := 72) hK dL_known_72 (by decide) hf (fun cc22 hf => ?_) (fun cc22 hf => ?_)
            ·
              refine gw_iconst (v := 0) (pc := 235) hK dL_known_235 (by decide) ?_
              exact gw_ret_z (pc := 236) hK dL_known_236 rfl (Option.some.inj hf)
            ·
              refine gw_aload_n (pc := 75) hK 0 dL_known_75 rfl rfl ?_
              refine gw_iconst (v := 0) (pc := 76) hK dL_known_76 (by decide) ?_
              refine gw_bipush (v := 100) (pc := 77) hK dL_known_77 (by decide) ?_
              refine gv_L_42 (pc := 79) hK hc dL_known_79 (by decide) (Nat.le_of_ble_eq_true rfl) hf (fun r23 m24 hf => ?_)
              refine gw_nrm hK hn hf (fun hf => ?_)
              generalize gx_nf m24 = m25 at hf ⊢
              refine gw_bipush (v := 100) (pc := 82) hK dL_known_82 (by decide) ?_
              refine gw_icmp_ne (tgt := 235) (pc := 84) hK dL_known_84 (by decide) hf (fun cc26 hf => ?_) (fun cc26 hf => ?_)
              ·
                refine gw_iconst (v := 0) (pc := 235) hK dL_known_235 (by decide) ?_
                exact gw_ret_z (pc := 236) hK dL_known_236 rfl (Option.some.inj hf)
              ·
                refine gw_aload_n (pc := 87) hK 0 dL_known_87 rfl rfl ?_
                refine gw_iconst (v := 0) (pc := 88) hK dL_known_88 (by decide) ?_
                refine gw_iconst (v := 5) (pc := 89) hK dL_known_89 (by decide) ?_
                refine gv_L_25 (pc := 90) hK hc dL_known_90 (by decide) (Nat.le_of_ble_eq_true rfl) hf (fun r27 m28 hf => ?_)
                refine gw_sipush (v := 990) (pc := 93) hK dL_known_93 (by decide) ?_
                refine gw_icmp_ne (tgt := 235) (pc := 96) hK dL_known_96 (by decide) hf (fun cc29 hf => ?_) (fun cc29 hf => ?_)
                ·
                  refine gw_iconst (v := 0) (pc := 235) hK dL_known_235 (by decide) ?_
                  exact gw_ret_z (pc := 236) hK dL_known_236 rfl (Option.some.inj hf)
                ·
                  refine gw_aload_n (pc := 99) hK 0 dL_known_99 rfl rfl ?_
                  refine gw_iconst (v := 0) (pc := 100) hK dL_known_100 (by decide) ?_
                  refine gw_sipush (v := 901) (pc := 101) hK dL_known_101 (by decide) ?_
                  refine gv_L_42 (pc := 104) hK hc dL_known_104 (by decide) (Nat.le_of_ble_eq_true rfl) hf (fun r30 m31 hf => ?_)
                  refine gw_nrm hK hn hf (fun hf => ?_)
                  generalize gx_nf m31 = m32 at hf ⊢
                  refine gw_ldc (pc := 107) hK dL_known_107 kw_k_RL_175 ?_
                  refine gw_icmp_ne (tgt := 235) (pc := 109) hK dL_known_109 (by decide) hf (fun cc33 hf => ?_) (fun cc33 hf => ?_)
                  ·
                    refine gw_iconst (v := 0) (pc := 235) hK dL_known_235 (by decide) ?_
                    exact gw_ret_z (pc := 236) hK dL_known_236 rfl (Option.some.inj hf)
                  ·
                    refine gw_aload_n (pc := 112) hK 0 dL_known_112 rfl rfl ?_
                    refine gw_iconst (v := 0) (pc := 113) hK dL_known_113 (by decide) ?_
                    refine gw_bipush (v := 101) (pc := 114) hK dL_known_114 (by decide) ?_
                    refine gv_L_45 (pc := 116) hK hc dL_known_116 (by decide) (Nat.le_of_ble_eq_true rfl) hf (fun r34 m35 hf => ?_)
                    refine gw_nrm hK hn hf (fun hf => ?_)
                    generalize gx_nf m35 = m36 at hf ⊢
                    refine gw_ldc (pc := 119) hK dL_known_119 kw_k_RL_84 ?_
                    refine gw_icmp_ne (tgt := 235) (pc := 121) hK dL_known_121 (by decide) hf (fun cc37 hf => ?_) (fun cc37 hf => ?_)
                    ·
                      refine gw_iconst (v := 0) (pc := 235) hK dL_known_235 (by decide) ?_
                      exact gw_ret_z (pc := 236) hK dL_known_236 rfl (Option.some.inj hf)
                    ·
                      refine gw_aload_n (pc := 124) hK 0 dL_known_124 rfl rfl ?_
                      refine gw_iconst (v := 0) (pc := 125) hK dL_known_125 (by decide) ?_
                      refine gw_iconst (v := 1) (pc := 126) hK dL_known_126 (by decide) ?_
                      refine gv_L_45 (pc := 127) hK hc dL_known_127 (by decide) (Nat.le_of_ble_eq_true rfl) hf (fun r38 m39 hf => ?_)
                      refine gw_nrm hK hn hf (fun hf => ?_)
                      generalize gx_nf m39 = m40 at hf ⊢
                      refine gw_bipush (v := 99) (pc := 130) hK dL_known_130 (by decide) ?_
                      refine gw_icmp_ne (tgt := 235) (pc := 132) hK dL_known_132 (by decide) hf (fun cc41 hf => ?_) (fun cc41 hf => ?_)
                      ·
                        refine gw_iconst (v := 0) (pc := 235) hK dL_known_235 (by decide) ?_
                        exact gw_ret_z (pc := 236) hK dL_known_236 rfl (Option.some.inj hf)
                      ·
                        refine gw_aload_n (pc := 135) hK 0 dL_known_135 rfl rfl ?_
                        refine gw_iconst (v := 0) (pc := 136) hK dL_known_136 (by decide) ?_
                        refine gw_iconst (v := 5) (pc := 137) hK dL_known_137 (by decide) ?_
                        refine gv_L_25 (pc := 138) hK hc dL_known_138 (by decide) (Nat.le_of_ble_eq_true rfl) hf (fun r42 m43 hf => ?_)
                        refine gw_sipush (v := 991) (pc := 141) hK dL_known_141 (by decide) ?_
                        refine gw_icmp_ne (tgt := 235) (pc := 144) hK dL_known_144 (by decide) hf (fun cc44 hf => ?_) (fun cc44 hf => ?_)
                        ·
                          refine gw_iconst (v := 0) (pc := 235) hK dL_known_235 (by decide) ?_
                          exact gw_ret_z (pc := 236) hK dL_known_236 rfl (Option.some.inj hf)
                        ·
                          refine gw_aload_n (pc := 147) hK 0 dL_known_147 rfl rfl ?_
                          refine gw_iconst (v := 0) (pc := 148) hK dL_known_148 (by decide) ?_
                          refine gw_bipush (v := 50) (pc := 149) hK dL_known_149 (by decide) ?_
                          refine gv_L_48 (pc := 151) hK hc dL_known_151 (by decide) (Nat.le_of_ble_eq_true rfl) hf (fun r45 m46 hf => ?_)
                          refine gw_nrm hK hn hf (fun hf => ?_)
                          generalize gx_nf m46 = m47 at hf ⊢
                          refine gw_bipush (v := 49) (pc := 154) hK dL_known_154 (by decide) ?_
                          refine gw_icmp_ne (tgt := 235) (pc := 156) hK dL_known_156 (by decide) hf (fun cc48 hf => ?_) (fun cc48 hf => ?_)
                          ·
                            refine gw_iconst (v := 0) (pc := 235) hK dL_known_235 (by decide) ?_
                            exact gw_ret_z (pc := 236) hK dL_known_236 rfl (Option.some.inj hf)
                          ·
                            refine gw_aload_n (pc := 159) hK 0 dL_known_159 rfl rfl ?_
                            refine gw_iconst (v := 0) (pc := 160) hK dL_known_160 (by decide) ?_
                            refine gw_iconst (v := 5) (pc := 161) hK dL_known_161 (by decide) ?_
                            refine gv_L_25 (pc := 162) hK hc dL_known_162 (by decide) (Nat.le_of_ble_eq_true rfl) hf (fun r49 m50 hf => ?_)
                            refine gw_sipush (v := 998) (pc := 165) hK dL_known_165 (by decide) ?_
                            refine gw_icmp_ne (tgt := 235) (pc := 168) hK dL_known_168 (by decide) hf (fun cc51 hf => ?_) (fun cc51 hf => ?_)
                            ·
                              refine gw_iconst (v := 0) (pc := 235) hK dL_known_235 (by decide) ?_
                              exact gw_ret_z (pc := 236) hK dL_known_236 rfl (Option.some.inj hf)
                            ·
                              refine gw_aload_n (pc := 171) hK 0 dL_known_171 rfl rfl ?_
                              refine gw_iconst (v := 0) (pc := 172) hK dL_known_172 (by decide) ?_
                              refine gw_bipush (v := 10) (pc := 173) hK dL_known_173 (by decide) ?_
                              refine gv_L_42 (pc := 175) hK hc dL_known_175 (by decide) (Nat.le_of_ble_eq_true rfl) hf (fun r52 m53 hf => ?_)
                              refine gw_nrm hK hn hf (fun hf => ?_)
                              generalize gx_nf m53 = m54 at hf ⊢
                              refine gw_bipush (v := 50) (pc := 178) hK dL_known_178 (by decide) ?_
                              refine gw_icmp_ne (tgt := 235) (pc := 180) hK dL_known_180 (by decide) hf (fun cc55 hf => ?_) (fun cc55 hf => ?_)
                              ·
                                refine gw_iconst (v := 0) (pc := 235) hK dL_known_235 (by decide) ?_
                                exact gw_ret_z (pc := 236) hK dL_known_236 rfl (Option.some.inj hf)
                              ·
                                refine gw_aload_n (pc := 183) hK 0 dL_known_183 rfl rfl ?_
                                refine gw_bipush (v := 20) (pc := 184) hK dL_known_184 (by decide) ?_
                                refine gv_L_13 (pc := 186) hK hc dL_known_186 (by decide) (Nat.le_of_ble_eq_true rfl) hf (fun r56 m57 hf => ?_)
                                refine gw_bipush (v := 110) (pc := 189) hK dL_known_189 (by decide) ?_
                                refine gw_icmp_ne (tgt := 235) (pc := 191) hK dL_known_191 (by decide) hf (fun cc58 hf => ?_) (fun cc58 hf => ?_)
                                ·
                                  refine gw_iconst (v := 0) (pc := 235) hK dL_known_235 (by decide) ?_
                                  exact gw_ret_z (pc := 236) hK dL_known_236 rfl (Option.some.inj hf)
                                ·
                                  refine gw_aload_n (pc := 194) hK 0 dL_known_194 rfl rfl ?_
                                  refine gw_bipush (v := 21) (pc := 195) hK dL_known_195 (by decide) ?_
                                  refine gv_L_13 (pc := 197) hK hc dL_known_197 (by decide) (Nat.le_of_ble_eq_true rfl) hf (fun r59 m60 hf => ?_)
                                  refine gw_bipush (v := 50) (pc := 200) hK dL_known_200 (by decide) ?_
                                  refine gw_icmp_ne (tgt := 235) (pc := 202) hK dL_known_202 (by decide) hf (fun cc61 hf => ?_) (fun cc61 hf => ?_)
                                  ·
                                    refine gw_iconst (v := 0) (pc := 235) hK dL_known_235 (by decide) ?_
                                    exact gw_ret_z (pc := 236) hK dL_known_236 rfl (Option.some.inj hf)
                                  ·
                                    refine gw_aload_n (pc := 205) hK 0 dL_known_205 rfl rfl ?_
                                    refine gw_bipush (v := 22) (pc := 206) hK dL_known_206 (by decide) ?_
                                    refine gv_L_13 (pc := 208) hK hc dL_known_208 (by decide) (Nat.le_of_ble_eq_true rfl) hf (fun r62 m63 hf => ?_)
                                    refine gw_if_ne (tgt := 235) (pc := 211) hK dL_known_211 (by decide) hf (fun cc64 hf => ?_) (fun cc64 hf => ?_)
                                    ·
                                      refine gw_iconst (v := 0) (pc := 235) hK dL_known_235 (by decide) ?_
                                      exact gw_ret_z (pc := 236) hK dL_known_236 rfl (Option.some.inj hf)
                                    ·
                                      refine gw_aload_n (pc := 214) hK 0 dL_known_214 rfl rfl ?_
                                      refine gw_bipush (v := 23) (pc := 215) hK dL_known_215 (by decide) ?_
                                      refine gv_L_13 (pc := 217) hK hc dL_known_217 (by decide) (Nat.le_of_ble_eq_true rfl) hf (fun r65 m66 hf => ?_)
                                      refine gw_bipush (v := 59) (pc := 220) hK dL_known_220 (by decide) ?_
                                      refine gw_icmp_ne (tgt := 235) (pc := 222) hK dL_known_222 (by decide) hf (fun cc67 hf => ?_) (fun cc67 hf => ?_)
                                      ·
                                        refine gw_iconst (v := 0) (pc := 235) hK dL_known_235 (by decide) ?_
                                        exact gw_ret_z (pc := 236) hK dL_known_236 rfl (Option.some.inj hf)
                                      ·
                                        refine gw_aload_n (pc := 225) hK 0 dL_known_225 rfl rfl ?_
                                        refine gw_bipush (v := 24) (pc := 226) hK dL_known_226 (by decide) ?_
                                        refine gv_L_13 (pc := 228) hK hc dL_known_228 (by decide) (Nat.le_of_ble_eq_true rfl) hf (fun r68 m69 hf => ?_)
                                        refine gw_iconst (v := 1) (pc := 231) hK dL_known_231 (by decide) ?_
                                        refine gw_icmp_eq (tgt := 237) (pc := 232) hK dL_known_232 (by decide) hf (fun cc70 hf => ?_) (fun cc70 hf => ?_)
                                        ·
                                          refine gw_aload_n (pc := 237) hK 0 dL_known_237 rfl rfl ?_
                                          refine gw_iconst (v := 0) (pc := 238) hK dL_known_238 (by decide) ?_
                                          refine gw_sipush (v := 998) (pc := 239) hK dL_known_239 (by decide) ?_
                                          refine gv_L_54 (pc := 242) hK hc dL_known_242 (by decide) (Nat.le_of_ble_eq_true rfl) hf (fun r71 m72 hf => ?_)
                                          refine gw_bipush (v := 45) (pc := 245) hK dL_known_245 (by decide) ?_
                                          refine gw_icmp_ne (tgt := 396) (pc := 247) hK dL_known_247 (by decide) hf (fun cc73 hf => ?_) (fun cc73 hf => ?_)
                                          ·
                                            refine gw_iconst (v := 0) (pc := 396) hK dL_known_396 (by decide) ?_
                                            exact gw_ret_z (pc := 397) hK dL_known_397 rfl (Option.some.inj hf)
                                          ·
                                            refine gw_aload_n (pc := 250) hK 0 dL_known_250 rfl rfl ?_
                                            refine gw_iconst (v := 0) (pc := 251) hK dL_known_251 (by decide) ?_
                                            refine gw_sipush (v := (-3000)) (pc := 252) hK dL_known_252 (by decide) ?_
                                            refine gv_L_54 (pc := 255) hK hc dL_known_255 (by decide) (Nat.le_of_ble_eq_true rfl) hf (fun r74 m75 hf => ?_)
                                            refine gw_bipush (v := 45) (pc := 258) hK dL_known_258 (by decide) ?_
                                            refine gw_icmp_ne (tgt := 396) (pc := 260) hK dL_known_260 (by decide) hf (fun cc76 hf => ?_) (fun cc76 hf => ?_)
                                            ·
                                              refine gw_iconst (v := 0) (pc := 396) hK dL_known_396 (by decide) ?_
                                              exact gw_ret_z (pc := 397) hK dL_known_397 rfl (Option.some.inj hf)
                                            ·
                                              refine gw_aload_n (pc := 263) hK 0 dL_known_263 rfl rfl ?_
                                              refine gw_iconst (v := 0) (pc := 264) hK dL_known_264 (by decide) ?_
                                              refine gw_sipush (v := 6000) (pc := 265) hK dL_known_265 (by decide) ?_
                                              refine gv_L_54 (pc := 268) hK hc dL_known_268 (by decide) (Nat.le_of_ble_eq_true rfl) hf (fun r77 m78 hf => ?_)
                                              refine gw_if_ne (tgt := 396) (pc := 271) hK dL_known_271 (by decide) hf (fun cc79 hf => ?_) (fun cc79 hf => ?_)
                                              ·
                                                refine gw_iconst (v := 0) (pc := 396) hK dL_known_396 (by decide) ?_
                                                exact gw_ret_z (pc := 397) hK dL_known_397 rfl (Option.some.inj hf)
                                              ·
                                                refine gw_aload_n (pc := 274) hK 0 dL_known_274 rfl rfl ?_
                                                refine gw_sipush (v := 1500) (pc := 275) hK dL_known_275 (by decide) ?_
                                                refine gv_L_36 (pc := 278) hK hc dL_known_278 (by decide) (Nat.le_of_ble_eq_true rfl) hf (fun r80 m81 hf => ?_)
                                                refine gw_iconst (v := 1) (pc := 281) hK dL_known_281 (by decide) ?_
                                                refine gw_icmp_ne (tgt := 396) (pc := 282) hK dL_known_282 (by decide) hf (fun cc82 hf => ?_) (fun cc82 hf => ?_)
                                                ·
                                                  refine gw_iconst (v := 0) (pc := 396) hK dL_known_396 (by decide) ?_
                                                  exact gw_ret_z (pc := 397) hK dL_known_397 rfl (Option.some.inj hf)
                                                ·
                                                  refine gw_aload_n (pc := 285) hK 0 dL_known_285 rfl rfl ?_
                                                  refine gw_sipush (v := 1499) (pc := 286) hK dL_known_286 (by decide) ?_
                                                  refine gv_L_36 (pc := 289) hK hc dL_known_289 (by decide) (Nat.le_of_ble_eq_true rfl) hf (fun r83 m84 hf => ?_)
                                                  refine gw_if_ne (tgt := 396) (pc := 292) hK dL_known_292 (by decide) hf (fun cc85 hf => ?_) (fun cc85 hf => ?_)
                                                  ·
                                                    refine gw_iconst (v := 0) (pc := 396) hK dL_known_396 (by decide) ?_
                                                    exact gw_ret_z (pc := 397) hK dL_known_397 rfl (Option.some.inj hf)
                                                  ·
                                                    refine gw_aload_n (pc := 295) hK 0 dL_known_295 rfl rfl ?_
                                                    refine gw_iconst (v := 5) (pc := 296) hK dL_known_296 (by decide) ?_
                                                    refine gw_sipush (v := 1000) (pc := 297) hK dL_known_297 (by decide) ?_
                                                    refine gv_L_68 (pc := 300) hK hc dL_known_300 (by decide) (Nat.le_of_ble_eq_true rfl) hf (fun r86 m87 hf => ?_)
                                                    refine gw_nrm hK hn hf (fun hf => ?_)
                                                    generalize gx_nf m87 = m88 at hf ⊢
                                                    refine gw_if_ne (tgt := 396) (pc := 303) hK dL_known_303 (by decide) hf (fun cc89 hf => ?_) (fun cc89 hf => ?_)
                                                    ·
                                                      refine gw_iconst (v := 0) (pc := 396) hK dL_known_396 (by decide) ?_
                                                      exact gw_ret_z (pc := 397) hK dL_known_397 rfl (Option.some.inj hf)
                                                    ·
                                                      refine gw_aload_n (pc := 306) hK 0 dL_known_306 rfl rfl ?_
                                                      refine gw_iconst (v := 2) (pc := 307) hK dL_known_307 (by decide) ?_
                                                      refine gw_sipush (v := 2010) (pc := 308) hK dL_known_308 (by decide) ?_
                                                      refine gv_L_68 (pc := 311) hK hc dL_known_311 (by decide) (Nat.le_of_ble_eq_true rfl) hf (fun r90 m91 hf => ?_)
                                                      refine gw_nrm hK hn hf (fun hf => ?_)
                                                      generalize gx_nf m91 = m92 at hf ⊢
                                                      refine gw_if_ne (tgt := 396) (pc := 314) hK dL_known_314 (by decide) hf (fun cc93 hf => ?_) (fun cc93 hf => ?_)
                                                      ·
                                                        refine gw_iconst (v := 0) (pc := 396) hK dL_known_396 (by decide) ?_
                                                        exact gw_ret_z (pc := 397) hK dL_known_397 rfl (Option.some.inj hf)
                                                      ·
                                                        refine gw_aload_n (pc := 317) hK 0 dL_known_317 rfl rfl ?_
                                                        refine gw_iconst (v := 5) (pc := 318) hK dL_known_318 (by decide) ?_
                                                        refine gw_iconst (v := 1) (pc := 319) hK dL_known_319 (by decide) ?_
                                                        refine gv_L_68 (pc := 320) hK hc dL_known_320 (by decide) (Nat.le_of_ble_eq_true rfl) hf (fun r94 m95 hf => ?_)
                                                        refine gw_nrm hK hn hf (fun hf => ?_)
                                                        generalize gx_nf m95 = m96 at hf ⊢
                                                        refine gw_ldc (pc := 323) hK dL_known_323 kw_k_RL_84 ?_
                                                        refine gw_icmp_ne (tgt := 396) (pc := 325) hK dL_known_325 (by decide) hf (fun cc97 hf => ?_) (fun cc97 hf => ?_)
                                                        ·
                                                          refine gw_iconst (v := 0) (pc := 396) hK dL_known_396 (by decide) ?_
                                                          exact gw_ret_z (pc := 397) hK dL_known_397 rfl (Option.some.inj hf)
                                                        ·
                                                          refine gw_aload_n (pc := 328) hK 0 dL_known_328 rfl rfl ?_
                                                          refine gw_iconst (v := 0) (pc := 329) hK dL_known_329 (by decide) ?_
                                                          refine gw_iconst (v := 0) (pc := 330) hK dL_known_330 (by decide) ?_
                                                          refine gv_L_29 (pc := 331) hK hc dL_known_331 (by decide) (Nat.le_of_ble_eq_true rfl) hf (fun r98 m99 hf => ?_)
                                                          refine gw_iconst (v := 2) (pc := 334) hK dL_known_334 (by decide) ?_
                                                          refine gw_icmp_ne (tgt := 396) (pc := 335) hK dL_known_335 (by decide) hf (fun cc100 hf => ?_) (fun cc100 hf => ?_)
                                                          ·
                                                            refine gw_iconst (v := 0) (pc := 396) hK dL_known_396 (by decide) ?_
                                                            exact gw_ret_z (pc := 397) hK dL_known_397 rfl (Option.some.inj hf)
                                                          ·
                                                            refine gw_aload_n (pc := 338) hK 0 dL_known_338 rfl rfl ?_
                                                            refine gw_iconst (v := 1) (pc := 339) hK dL_known_339 (by decide) ?_
                                                            refine gw_iconst (v := 0) (pc := 340) hK dL_known_340 (by decide) ?_
                                                            refine gv_L_29 (pc := 341) hK hc dL_known_341 (by decide) (Nat.le_of_ble_eq_true rfl) hf (fun r101 m102 hf => ?_)
                                                            refine gw_iconst (v := 5) (pc := 344) hK dL_known_344 (by decide) ?_
                                                            refine gw_icmp_ne (tgt := 396) (pc := 345) hK dL_known_345 (by decide) hf (fun cc103 hf => ?_) (fun cc103 hf => ?_)
                                                            ·
                                                              refine gw_iconst (v := 0) (pc := 396) hK dL_known_396 (by decide) ?_
                                                              exact gw_ret_z (pc := 397) hK dL_known_397 rfl (Option.some.inj hf)
                                                            ·
                                                              refine gw_aload_n (pc := 348) hK 0 dL_known_348 rfl rfl ?_
                                                              refine gw_iconst (v := 3) (pc := 349) hK dL_known_349 (by decide) ?_
                                                              refine gv_L_13 (pc := 350) hK hc dL_known_350 (by decide) (Nat.le_of_ble_eq_true rfl) hf (fun r104 m105 hf => ?_)
                                                              refine gw_iconst (v := 1) (pc := 353) hK dL_known_353 (by decide) ?_
                                                              refine gw_icmp_ne (tgt := 396) (pc := 354) hK dL_known_354 (by decide) hf (fun cc106 hf => ?_) (fun cc106 hf => ?_)
                                                              ·
                                                                refine gw_iconst (v := 0) (pc := 396) hK dL_known_396 (by decide) ?_
                                                                exact gw_ret_z (pc := 397) hK dL_known_397 rfl (Option.some.inj hf)
                                                              ·
                                                                refine gw_aload_n (pc := 357) hK 0 dL_known_357 rfl rfl ?_
                                                                refine gw_iconst (v := 1) (pc := 358) hK dL_known_358 (by decide) ?_
                                                                refine gw_iconst (v := 2) (pc := 359) hK dL_known_359 (by decide) ?_
                                                                refine gv_L_29 (pc := 360) hK hc dL_known_360 (by decide) (Nat.le_of_ble_eq_true rfl) hf (fun r107 m108 hf => ?_)
                                                                refine gw_if_ne (tgt := 396) (pc := 363) hK dL_known_363 (by decide) hf (fun cc109 hf => ?_) (fun cc109 hf => ?_)
                                                                ·
                                                                  refine gw_iconst (v := 0) (pc := 396) hK dL_known_396 (by decide) ?_
                                                                  exact gw_ret_z (pc := 397) hK dL_known_397 rfl (Option.some.inj hf)
                                                                ·
                                                                  refine gw_aload_n (pc := 366) hK 0 dL_known_366 rfl rfl ?_
                                                                  refine gw_iconst (v := 1) (pc := 367) hK dL_known_367 (by decide) ?_
                                                                  refine gw_iconst (v := 3) (pc := 368) hK dL_known_368 (by decide) ?_
                                                                  refine gv_L_96 (pc := 369) hK hc dL_known_369 (by decide) (Nat.le_of_ble_eq_true rfl) hf (fun r110 m111 hf => ?_)
                                                                  refine gw_nrm hK hn hf (fun hf => ?_)
                                                                  generalize gx_nf m111 = m112 at hf ⊢
                                                                  refine gw_bipush (v := 10) (pc := 372) hK dL_known_372 (by decide) ?_
                                                                  refine gw_icmp_ne (tgt := 396) (pc := 374) hK dL_known_374 (by decide) hf (fun cc113 hf => ?_) (fun cc113 hf => ?_)
                                                                  ·
                                                                    refine gw_iconst (v := 0) (pc := 396) hK dL_known_396 (by decide) ?_
                                                                    exact gw_ret_z (pc := 397) hK dL_known_397 rfl (Option.some.inj hf)
                                                                  ·
                                                                    refine gw_aload_n (pc := 377) hK 0 dL_known_377 rfl rfl ?_
                                                                    refine gw_iconst (v := 3) (pc := 378) hK dL_known_378 (by decide) ?_
                                                                    refine gv_L_13 (pc := 379) hK hc dL_known_379 (by decide) (Nat.le_of_ble_eq_true rfl) hf (fun r114 m115 hf => ?_)
                                                                    refine gw_iconst (v := 2) (pc := 382) hK dL_known_382 (by decide) ?_
                                                                    refine gw_icmp_ne (tgt := 396) (pc := 383) hK dL_known_383 (by decide) hf (fun cc116 hf => ?_) (fun cc116 hf => ?_)
                                                                    ·
                                                                      refine gw_iconst (v := 0) (pc := 396) hK dL_known_396 (by decide) ?_
                                                                      exact gw_ret_z (pc := 397) hK dL_known_397 rfl (Option.some.inj hf)
                                                                    ·
                                                                      refine gw_aload_n (pc := 386) hK 0 dL_known_386 rfl rfl ?_
                                                                      refine gw_iconst (v := 1) (pc := 387) hK dL_known_387 (by decide) ?_
                                                                      refine gw_iconst (v := 2) (pc := 388) hK dL_known_388 (by decide) ?_
                                                                      refine gv_L_29 (pc := 389) hK hc dL_known_389 (by decide) (Nat.le_of_ble_eq_true rfl) hf (fun r117 m118 hf => ?_)
                                                                      refine gw_iconst (v := 1) (pc := 392) hK dL_known_392 (by decide) ?_
                                                                      refine gw_icmp_eq (tgt := 398) (pc := 393) hK dL_known_393 (by decide) hf (fun cc119 hf => ?_) (fun cc119 hf => ?_)
                                                                      ·
                                                                        refine gw_aload_n (pc := 398) hK 0 dL_known_398 rfl rfl ?_
                                                                        refine gw_iconst (v := 0) (pc := 399) hK dL_known_399 (by decide) ?_
                                                                        refine gv_L_81 (pc := 400) hK hc dL_known_400 (by decide) (Nat.le_of_ble_eq_true rfl) hf (fun r120 m121 hf => ?_)
                                                                        refine gw_nrm hK hn hf (fun hf => ?_)
                                                                        generalize gx_nf m121 = m122 at hf ⊢
                                                                        refine gw_bipush (v := (-10)) (pc := 403) hK dL_known_403 (by decide) ?_
                                                                        refine gw_icmp_ne (tgt := 608) (pc := 405) hK dL_known_405 (by decide) hf (fun cc123 hf => ?_) (fun cc123 hf => ?_)
                                                                        ·
                                                                          refine gw_iconst (v := 0) (pc := 608) hK dL_known_608 (by decide) ?_
                                                                          exact gw_ret_z (pc := 609) hK dL_known_609 rfl (Option.some.inj hf)
                                                                        ·
                                                                          refine gw_aload_n (pc := 408) hK 0 dL_known_408 rfl rfl ?_
                                                                          refine gw_iconst (v := 1) (pc := 409) hK dL_known_409 (by decide) ?_
                                                                          refine gv_L_81 (pc := 410) hK hc dL_known_410 (by decide) (Nat.le_of_ble_eq_true rfl) hf (fun r124 m125 hf => ?_)
                                                                          refine gw_nrm hK hn hf (fun hf => ?_)
                                                                          generalize gx_nf m125 = m126 at hf ⊢
                                                                          refine gw_bipush (v := (-2)) (pc := 413) hK dL_known_413 (by decide) ?_
                                                                          refine gw_icmp_ne (tgt := 608) (pc := 415) hK dL_known_415 (by decide) hf (fun cc127 hf => ?_) (fun cc127 hf => ?_)
                                                                          ·
                                                                            refine gw_iconst (v := 0) (pc := 608) hK dL_known_608 (by decide) ?_
                                                                            exact gw_ret_z (pc := 609) hK dL_known_609 rfl (Option.some.inj hf)
                                                                          ·
                                                                            refine gw_aload_n (pc := 418) hK 0 dL_known_418 rfl rfl ?_
                                                                            refine gv_L_61 (pc := 419) hK hc dL_known_419 (by decide) (Nat.le_of_ble_eq_true rfl) hf (fun r128 m129 hf => ?_)
                                                                            refine gw_nrm hK hn hf (fun hf => ?_)
                                                                            generalize gx_nf m129 = m130 at hf ⊢
                                                                            refine gw_ldc (pc := 422) hK dL_known_422 kw_k_RL_60 ?_
                                                                            refine gw_icmp_ne (tgt := 608) (pc := 424) hK dL_known_424 (by decide) hf (fun cc131 hf => ?_) (fun cc131 hf => ?_)
                                                                            ·
                                                                              refine gw_iconst (v := 0) (pc := 608) hK dL_known_608 (by decide) ?_
                                                                              exact gw_ret_z (pc := 609) hK dL_known_609 rfl (Option.some.inj hf)
                                                                            ·
                                                                              refine gw_aload_n (pc := 427) hK 0 dL_known_427 rfl rfl ?_
                                                                              refine gw_iconst (v := 2) (pc := 428) hK dL_known_428 (by decide) ?_
                                                                              refine gw_bipush (v := 9) (pc := 429) hK dL_known_429 (by decide) ?_
                                                                              refine gv_L_96 (pc := 431) hK hc dL_known_431 (by decide) (Nat.le_of_ble_eq_true rfl) hf (fun r132 m133 hf => ?_)
                                                                              refine gw_nrm hK hn hf (fun hf => ?_)
                                                                              generalize gx_nf m133 = m134 at hf ⊢
                                                                              refine gw_bipush (v := 10) (pc := 434) hK dL_known_434 (by decide) ?_
                                                                              refine gw_icmp_ne (tgt := 608) (pc := 436) hK dL_known_436 (by decide) hf (fun cc135 hf => ?_) (fun cc135 hf => ?_)
                                                                              ·
                                                                                refine gw_iconst (v := 0) (pc := 608) hK dL_known_608 (by decide) ?_
                                                                                exact gw_ret_z (pc := 609) hK dL_known_609 rfl (Option.some.inj hf)
                                                                              ·
                                                                                refine gw_aload_n (pc := 439) hK 0 dL_known_439 rfl rfl ?_
                                                                                refine gv_L_61 (pc := 440) hK hc dL_known_440 (by decide) (Nat.le_of_ble_eq_true rfl) hf (fun r136 m137 hf => ?_)
                                                                                refine gw_nrm hK hn hf (fun hf => ?_)
                                                                                generalize gx_nf m137 = m138 at hf ⊢
                                                                                refine gw_if_ne (tgt := 608) (pc := 443) hK dL_known_443 (by decide) hf (fun cc139 hf => ?_) (fun cc139 hf => ?_)
                                                                                ·
                                                                                  refine gw_iconst (v := 0) (pc := 608) hK dL_known_608 (by decide) ?_
                                                                                  exact gw_ret_z (pc := 609) hK dL_known_609 rfl (Option.some.inj hf)
                                                                                ·
                                                                                  refine gw_aload_n (pc := 446) hK 0 dL_known_446 rfl rfl ?_
                                                                                  refine gv_L_65 (pc := 447) hK hc dL_known_447 (by decide) (Nat.le_of_ble_eq_true rfl) hf (fun r140 m141 hf => ?_)
                                                                                  refine gw_nrm hK hn hf (fun hf => ?_)
                                                                                  generalize gx_nf m141 = m142 at hf ⊢
                                                                                  refine gw_bipush (v := 10) (pc := 450) hK dL_known_450 (by decide) ?_
                                                                                  refine gw_icmp_ne (tgt := 608) (pc := 452) hK dL_known_452 (by decide) hf (fun cc143 hf => ?_) (fun cc143 hf => ?_)
                                                                                  ·
                                                                                    refine gw_iconst (v := 0) (pc := 608) hK dL_known_608 (by decide) ?_
                                                                                    exact gw_ret_z (pc := 609) hK dL_known_609 rfl (Option.some.inj hf)
                                                                                  ·
                                                                                    refine gw_aload_n (pc := 455) hK 0 dL_known_455 rfl rfl ?_
                                                                                    refine gw_iconst (v := 0) (pc := 456) hK dL_known_456 (by decide) ?_
                                                                                    refine gw_iconst (v := 3) (pc := 457) hK dL_known_457 (by decide) ?_
                                                                                    refine gv_L_29 (pc := 458) hK hc dL_known_458 (by decide) (Nat.le_of_ble_eq_true rfl) hf (fun r144 m145 hf => ?_)
                                                                                    refine gw_if_ne (tgt := 608) (pc := 461) hK dL_known_461 (by decide) hf (fun cc146 hf => ?_) (fun cc146 hf => ?_)
                                                                                    ·
                                                                                      refine gw_iconst (v := 0) (pc := 608) hK dL_known_608 (by decide) ?_
                                                                                      exact gw_ret_z (pc := 609) hK dL_known_609 rfl (Option.some.inj hf)
                                                                                    ·
                                                                                      refine gw_aload_n (pc := 464) hK 0 dL_known_464 rfl rfl ?_
                                                                                      refine gw_iconst (v := 4) (pc := 465) hK dL_known_465 (by decide) ?_
                                                                                      refine gv_L_99 (pc := 466) hK hc dL_known_466 (by decide) (Nat.le_of_ble_eq_true rfl) hf (fun r147 m148 hf => ?_)
                                                                                      refine gw_nrm hK hn hf (fun hf => ?_)
                                                                                      generalize gx_nf m148 = m149 at hf ⊢
                                                                                      refine gw_iconst (v := 1) (pc := 469) hK dL_known_469 (by decide) ?_
                                                                                      refine gw_icmp_ne (tgt := 608) (pc := 470) hK dL_known_470 (by decide) hf (fun cc150 hf => ?_) (fun cc150 hf => ?_)
                                                                                      ·
                                                                                        refine gw_iconst (v := 0) (pc := 608) hK dL_known_608 (by decide) ?_
                                                                                        exact gw_ret_z (pc := 609) hK dL_known_609 rfl (Option.some.inj hf)
                                                                                      ·
                                                                                        refine gw_aload_n (pc := 473) hK 0 dL_known_473 rfl rfl ?_
                                                                                        refine gw_iconst (v := 0) (pc := 474) hK dL_known_474 (by decide) ?_
                                                                                        refine gw_iconst (v := 3) (pc := 475) hK dL_known_475 (by decide) ?_
                                                                                        refine gv_L_29 (pc := 476) hK hc dL_known_476 (by decide) (Nat.le_of_ble_eq_true rfl) hf (fun r151 m152 hf => ?_)
                                                                                        refine gw_iconst (v := 1) (pc := 479) hK dL_known_479 (by decide) ?_
                                                                                        refine gw_icmp_ne (tgt := 608) (pc := 480) hK dL_known_480 (by decide) hf (fun cc153 hf => ?_) (fun cc153 hf => ?_)
                                                                                        ·
                                                                                          refine gw_iconst (v := 0) (pc := 608) hK dL_known_608 (by decide) ?_
                                                                                          exact gw_ret_z (pc := 609) hK dL_known_609 rfl (Option.some.inj hf)
                                                                                        ·
                                                                                          refine gw_aload_n (pc := 483) hK 0 dL_known_483 rfl rfl ?_
                                                                                          refine gw_iconst (v := 0) (pc := 484) hK dL_known_484 (by decide) ?_
                                                                                          refine gw_iconst (v := 4) (pc := 485) hK dL_known_485 (by decide) ?_
                                                                                          refine gv_L_29 (pc := 486) hK hc dL_known_486 (by decide) (Nat.le_of_ble_eq_true rfl) hf (fun r154 m155 hf => ?_)
                                                                                          refine gw_iconst (v := 1) (pc := 489) hK dL_known_489 (by decide) ?_
                                                                                          refine gw_icmp_ne (tgt := 608) (pc := 490) hK dL_known_490 (by decide) hf (fun cc156 hf => ?_) (fun cc156 hf => ?_)
                                                                                          ·
                                                                                            refine gw_iconst (v := 0) (pc := 608) hK dL_known_608 (by decide) ?_
                                                                                            exact gw_ret_z (pc := 609) hK dL_known_609 rfl (Option.some.inj hf)
                                                                                          ·
                                                                                            refine gw_aload_n (pc := 493) hK 0 dL_known_493 rfl rfl ?_
                                                                                            refine gw_iconst (v := 0) (pc := 494) hK dL_known_494 (by decide) ?_
                                                                                            refine gw_iconst (v := 5) (pc := 495) hK dL_known_495 (by decide) ?_
                                                                                            refine gv_L_29 (pc := 496) hK hc dL_known_496 (by decide) (Nat.le_of_ble_eq_true rfl) hf (fun r157 m158 hf => ?_)
                                                                                            refine gw_bipush (v := (-10)) (pc := 499) hK dL_known_499 (by decide) ?_
                                                                                            refine gw_icmp_ne (tgt := 608) (pc := 501) hK dL_known_501 (by decide) hf (fun cc159 hf => ?_) (fun cc159 hf => ?_)
                                                                                            ·
                                                                                              refine gw_iconst (v := 0) (pc := 608) hK dL_known_608 (by decide) ?_
                                                                                              exact gw_ret_z (pc := 609) hK dL_known_609 rfl (Option.some.inj hf)
                                                                                            ·
                                                                                              refine gw_aload_n (pc := 504) hK 0 dL_known_504 rfl rfl ?_
                                                                                              refine gw_iconst (v := 0) (pc := 505) hK dL_known_505 (by decide) ?_
                                                                                              refine gw_bipush (v := 6) (pc := 506) hK dL_known_506 (by decide) ?_
                                                                                              refine gv_L_29 (pc := 508) hK hc dL_known_508 (by decide) (Nat.le_of_ble_eq_true rfl) hf (fun r160 m161 hf => ?_)
                                                                                              refine gw_if_ne (tgt := 608) (pc := 511) hK dL_known_511 (by decide) hf (fun cc162 hf => ?_) (fun cc162 hf => ?_)
                                                                                              ·
                                                                                                refine gw_iconst (v := 0) (pc := 608) hK dL_known_608 (by decide) ?_
                                                                                                exact gw_ret_z (pc := 609) hK dL_known_609 rfl (Option.some.inj hf)
                                                                                              ·
                                                                                                refine gw_aload_n (pc := 514) hK 0 dL_known_514 rfl rfl ?_
                                                                                                refine gw_iconst (v := 1) (pc := 515) hK dL_known_515 (by decide) ?_
                                                                                                refine gw_iconst (v := 4) (pc := 516) hK dL_known_516 (by decide) ?_
                                                                                                refine gv_L_29 (pc := 517) hK hc dL_known_517 (by decide) (Nat.le_of_ble_eq_true rfl) hf (fun r163 m164 hf => ?_)
                                                                                                refine gw_ldc (pc := 520) hK dL_known_520 kw_k_RL_60 ?_
                                                                                                refine gw_icmp_ne (tgt := 608) (pc := 522) hK dL_known_522 (by decide) hf (fun cc165 hf => ?_) (fun cc165 hf => ?_)
                                                                                                ·
                                                                                                  refine gw_iconst (v := 0) (pc := 608) hK dL_known_608 (by decide) ?_
                                                                                                  exact gw_ret_z (pc := 609) hK dL_known_609 rfl (Option.some.inj hf)
                                                                                                ·
                                                                                                  refine gw_aload_n (pc := 525) hK 0 dL_known_525 rfl rfl ?_
                                                                                                  refine gw_iconst (v := 1) (pc := 526) hK dL_known_526 (by decide) ?_
                                                                                                  refine gw_bipush (v := 6) (pc := 527) hK dL_known_527 (by decide) ?_
                                                                                                  refine gv_L_29 (pc := 529) hK hc dL_known_529 (by decide) (Nat.le_of_ble_eq_true rfl) hf (fun r166 m167 hf => ?_)
                                                                                                  refine gw_ldc (pc := 532) hK dL_known_532 kw_k_RL_60 ?_
                                                                                                  refine gw_icmp_ne (tgt := 608) (pc := 534) hK dL_known_534 (by decide) hf (fun cc168 hf => ?_) (fun cc168 hf => ?_)
                                                                                                  ·
                                                                                                    refine gw_iconst (v := 0) (pc := 608) hK dL_known_608 (by decide) ?_
                                                                                                    exact gw_ret_z (pc := 609) hK dL_known_609 rfl (Option.some.inj hf)
                                                                                                  ·
                                                                                                    refine gw_aload_n (pc := 537) hK 0 dL_known_537 rfl rfl ?_
                                                                                                    refine gw_iconst (v := 0) (pc := 538) hK dL_known_538 (by decide) ?_
                                                                                                    refine gv_L_81 (pc := 539) hK hc dL_known_539 (by decide) (Nat.le_of_ble_eq_true rfl) hf (fun r169 m170 hf => ?_)
                                                                                                    refine gw_nrm hK hn hf (fun hf => ?_)
                                                                                                    generalize gx_nf m170 = m171 at hf ⊢
                                                                                                    refine gw_ldc (pc := 542) hK dL_known_542 kw_k_RL_84 ?_
                                                                                                    refine gw_icmp_ne (tgt := 608) (pc := 544) hK dL_known_544 (by decide) hf (fun cc172 hf => ?_) (fun cc172 hf => ?_)
                                                                                                    ·
                                                                                                      refine gw_iconst (v := 0) (pc := 608) hK dL_known_608 (by decide) ?_
                                                                                                      exact gw_ret_z (pc := 609) hK dL_known_609 rfl (Option.some.inj hf)
                                                                                                    ·
                                                                                                      refine gw_aload_n (pc := 547) hK 0 dL_known_547 rfl rfl ?_
                                                                                                      refine gw_iconst (v := 4) (pc := 548) hK dL_known_548 (by decide) ?_
                                                                                                      refine gv_L_13 (pc := 549) hK hc dL_known_549 (by decide) (Nat.le_of_ble_eq_true rfl) hf (fun r173 m174 hf => ?_)
                                                                                                      refine gw_iconst (v := 1) (pc := 552) hK dL_known_552 (by decide) ?_
                                                                                                      refine gw_icmp_ne (tgt := 608) (pc := 553) hK dL_known_553 (by decide) hf (fun cc175 hf => ?_) (fun cc175 hf => ?_)
                                                                                                      ·
                                                                                                        refine gw_iconst (v := 0) (pc := 608) hK dL_known_608 (by decide) ?_
                                                                                                        exact gw_ret_z (pc := 609) hK dL_known_609 rfl (Option.some.inj hf)
                                                                                                      ·
                                                                                                        refine gw_aload_n (pc := 556) hK 0 dL_known_556 rfl rfl ?_
                                                                                                        refine gw_iconst (v := 5) (pc := 557) hK dL_known_557 (by decide) ?_
                                                                                                        refine gv_L_13 (pc := 558) hK hc dL_known_558 (by decide) (Nat.le_of_ble_eq_true rfl) hf (fun r176 m177 hf => ?_)
                                                                                                        refine gw_if_ne (tgt := 608) (pc := 561) hK dL_known_561 (by decide) hf (fun cc178 hf => ?_) (fun cc178 hf => ?_)
                                                                                                        ·
                                                                                                          refine gw_iconst (v := 0) (pc := 608) hK dL_known_608 (by decide) ?_
                                                                                                          exact gw_ret_z (pc := 609) hK dL_known_609 rfl (Option.some.inj hf)
                                                                                                        ·
                                                                                                          refine gw_aload_n (pc := 564) hK 0 dL_known_564 rfl rfl ?_
                                                                                                          refine gw_bipush (v := 6) (pc := 565) hK dL_known_565 (by decide) ?_
                                                                                                          refine gv_L_13 (pc := 567) hK hc dL_known_567 (by decide) (Nat.le_of_ble_eq_true rfl) hf (fun r179 m180 hf => ?_)
                                                                                                          refine gw_if_ne (tgt := 608) (pc := 570) hK dL_known_570 (by decide) hf (fun cc181 hf => ?_) (fun cc181 hf => ?_)
                                                                                                          ·
                                                                                                            refine gw_iconst (v := 0) (pc := 608) hK dL_known_608 (by decide) ?_
                                                                                                            exact gw_ret_z (pc := 609) hK dL_known_609 rfl (Option.some.inj hf)
                                                                                                          ·
                                                                                                            refine gw_aload_n (pc := 573) hK 0 dL_known_573 rfl rfl ?_
                                                                                                            refine gw_iconst (v := 0) (pc := 574) hK dL_known_574 (by decide) ?_
                                                                                                            refine gv_L_75 (pc := 575) hK hc dL_known_575 (by decide) (Nat.le_of_ble_eq_true rfl) hf (fun r182 m183 hf => ?_)
                                                                                                            refine gw_if_ne (tgt := 608) (pc := 578) hK dL_known_578 (by decide) hf (fun cc184 hf => ?_) (fun cc184 hf => ?_)
                                                                                                            ·
                                                                                                              refine gw_iconst (v := 0) (pc := 608) hK dL_known_608 (by decide) ?_
                                                                                                              exact gw_ret_z (pc := 609) hK dL_known_609 rfl (Option.some.inj hf)
                                                                                                            ·
                                                                                                              refine gw_aload_n (pc := 581) hK 0 dL_known_581 rfl rfl ?_
                                                                                                              refine gw_iconst (v := 1) (pc := 582) hK dL_known_582 (by decide) ?_
                                                                                                              refine gv_L_75 (pc := 583) hK hc dL_known_583 (by decide) (Nat.le_of_ble_eq_true rfl) hf (fun r185 m186 hf => ?_)
                                                                                                              refine gw_ldc (pc := 586) hK dL_known_586 kw_k_RL_60 ?_
                                                                                                              refine gw_icmp_ne (tgt := 608) (pc := 588) hK dL_known_588 (by decide) hf (fun cc187 hf => ?_) (fun cc187 hf => ?_)
                                                                                                              ·
                                                                                                                refine gw_iconst (v := 0) (pc := 608) hK dL_known_608 (by decide) ?_
                                                                                                                exact gw_ret_z (pc := 609) hK dL_known_609 rfl (Option.some.inj hf)
                                                                                                              ·
                                                                                                                refine gw_aload_n (pc := 591) hK 0 dL_known_591 rfl rfl ?_
                                                                                                                refine gv_L_61 (pc := 592) hK hc dL_known_592 (by decide) (Nat.le_of_ble_eq_true rfl) hf (fun r188 m189 hf => ?_)
                                                                                                                refine gw_nrm hK hn hf (fun hf => ?_)
                                                                                                                generalize gx_nf m189 = m190 at hf ⊢
                                                                                                                refine gw_ldc (pc := 595) hK dL_known_595 kw_k_RL_60 ?_
                                                                                                                refine gw_icmp_ne (tgt := 608) (pc := 597) hK dL_known_597 (by decide) hf (fun cc191 hf => ?_) (fun cc191 hf => ?_)
                                                                                                                ·
                                                                                                                  refine gw_iconst (v := 0) (pc := 608) hK dL_known_608 (by decide) ?_
                                                                                                                  exact gw_ret_z (pc := 609) hK dL_known_609 rfl (Option.some.inj hf)
                                                                                                                ·
                                                                                                                  refine gw_aload_n (pc := 600) hK 0 dL_known_600 rfl rfl ?_
                                                                                                                  refine gv_L_65 (pc := 601) hK hc dL_known_601 (by decide) (Nat.le_of_ble_eq_true rfl) hf (fun r192 m193 hf => ?_)
                                                                                                                  refine gw_nrm hK hn hf (fun hf => ?_)
                                                                                                                  generalize gx_nf m193 = m194 at hf ⊢
                                                                                                                  refine gw_iconst (v := 2) (pc := 604) hK dL_known_604 (by decide) ?_
                                                                                                                  refine gw_icmp_eq (tgt := 610) (pc := 605) hK dL_known_605 (by decide) hf (fun cc195 hf => ?_) (fun cc195 hf => ?_)
                                                                                                                  ·
                                                                                                                    refine gw_aload_n (pc := 610) hK 0 dL_known_610 rfl rfl ?_
                                                                                                                    refine gw_iconst (v := 3) (pc := 611) hK dL_known_611 (by decide) ?_
                                                                                                                    refine gw_sipush (v := 500) (pc := 612) hK dL_known_612 (by decide) ?_
                                                                                                                    refine gv_L_68 (pc := 615) hK hc dL_known_615 (by decide) (Nat.le_of_ble_eq_true rfl) hf (fun r196 m197 hf => ?_)
                                                                                                                    refine gw_nrm hK hn hf (fun hf => ?_)
                                                                                                                    generalize gx_nf m197 = m198 at hf ⊢
                                                                                                                    refine gw_iconst (v := 1) (pc := 618) hK dL_known_618 (by decide) ?_
                                                                                                                    refine gw_icmp_ne (tgt := 799) (pc := 619) hK dL_known_619 (by decide) hf (fun cc199 hf => ?_) (fun cc199 hf => ?_)
                                                                                                                    ·
                                                                                                                      refine gw_iconst (v := 0) (pc := 799) hK dL_known_799 (by decide) ?_
                                                                                                                      exact gw_ret_z (pc := 800) hK dL_known_800 rfl (Option.some.inj hf)
                                                                                                                    ·
                                                                                                                      refine gw_aload_n (pc := 622) hK 0 dL_known_622 rfl rfl ?_
                                                                                                                      refine gw_iconst (v := 3) (pc := 623) hK dL_known_623 (by decide) ?_
                                                                                                                      refine gv_L_13 (pc := 624) hK hc dL_known_624 (by decide) (Nat.le_of_ble_eq_true rfl) hf (fun r200 m201 hf => ?_)
                                                                                                                      refine gw_iconst (v := 1) (pc := 627) hK dL_known_627 (by decide) ?_
                                                                                                                      refine gw_icmp_ne (tgt := 799) (pc := 628) hK dL_known_628 (by decide) hf (fun cc202 hf => ?_) (fun cc202 hf => ?_)
                                                                                                                      ·
                                                                                                                        refine gw_iconst (v := 0) (pc := 799) hK dL_known_799 (by decide) ?_
                                                                                                                        exact gw_ret_z (pc := 800) hK dL_known_800 rfl (Option.some.inj hf)
                                                                                                                      ·
                                                                                                                        refine gw_aload_n (pc := 631) hK 0 dL_known_631 rfl rfl ?_
                                                                                                                        refine gw_iconst (v := 1) (pc := 632) hK dL_known_632 (by decide) ?_
                                                                                                                        refine gv_L_78 (pc := 633) hK hc dL_known_633 (by decide) (Nat.le_of_ble_eq_true rfl) hf (fun r203 m204 hf => ?_)
                                                                                                                        refine gw_nrm hK hn hf (fun hf => ?_)
                                                                                                                        generalize gx_nf m204 = m205 at hf ⊢
                                                                                                                        refine gw_iconst (v := 2) (pc := 636) hK dL_known_636 (by decide) ?_
                                                                                                                        refine gw_icmp_ne (tgt := 799) (pc := 637) hK dL_known_637 (by decide) hf (fun cc206 hf => ?_) (fun cc206 hf => ?_)
                                                                                                                        ·
                                                                                                                          refine gw_iconst (v := 0) (pc := 799) hK dL_known_799 (by decide) ?_
                                                                                                                          exact gw_ret_z (pc := 800) hK dL_known_800 rfl (Option.some.inj hf)
                                                                                                                        ·
                                                                                                                          refine gw_aload_n (pc := 640) hK 0 dL_known_640 rfl rfl ?_
                                                                                                                          refine gw_iconst (v := 0) (pc := 641) hK dL_known_641 (by decide) ?_
                                                                                                                          refine gw_bipush (v := 60) (pc := 642) hK dL_known_642 (by decide) ?_
                                                                                                                          refine gv_L_51 (pc := 644) hK hc dL_known_644 (by decide) (Nat.le_of_ble_eq_true rfl) hf (fun r207 m208 hf => ?_)
                                                                                                                          refine gw_nrm hK hn hf (fun hf => ?_)
                                                                                                                          generalize gx_nf m208 = m209 at hf ⊢
                                                                                                                          refine gw_if_ne (tgt := 799) (pc := 647) hK dL_known_647 (by decide) hf (fun cc210 hf => ?_) (fun cc210 hf => ?_)
                                                                                                                          ·
                                                                                                                            refine gw_iconst (v := 0) (pc := 799) hK dL_known_799 (by decide) ?_
                                                                                                                            exact gw_ret_z (pc := 800) hK dL_known_800 rfl (Option.some.inj hf)
                                                                                                                          ·
                                                                                                                            refine gw_aload_n (pc := 650) hK 0 dL_known_650 rfl rfl ?_
                                                                                                                            refine gw_iconst (v := 0) (pc := 651) hK dL_known_651 (by decide) ?_
                                                                                                                            refine gw_bipush (v := 6) (pc := 652) hK dL_known_652 (by decide) ?_
                                                                                                                            refine gv_L_25 (pc := 654) hK hc dL_known_654 (by decide) (Nat.le_of_ble_eq_true rfl) hf (fun r211 m212 hf => ?_)
                                                                                                                            refine gw_sipush (v := 998) (pc := 657) hK dL_known_657 (by decide) ?_
                                                                                                                            refine gw_icmp_ne (tgt := 799) (pc := 660) hK dL_known_660 (by decide) hf (fun cc213 hf => ?_) (fun cc213 hf => ?_)
                                                                                                                            ·
                                                                                                                              refine gw_iconst (v := 0) (pc := 799) hK dL_known_799 (by decide) ?_
                                                                                                                              exact gw_ret_z (pc := 800) hK dL_known_800 rfl (Option.some.inj hf)
                                                                                                                            ·
                                                                                                                              refine gw_aload_n (pc := 663) hK 0 dL_known_663 rfl rfl ?_
                                                                                                                              refine gw_iconst (v := 3) (pc := 664) hK dL_known_664 (by decide) ?_
                                                                                                                              refine gw_iconst (v := 1) (pc := 665) hK dL_known_665 (by decide) ?_
                                                                                                                              refine gv_L_96 (pc := 666) hK hc dL_known_666 (by decide) (Nat.le_of_ble_eq_true rfl) hf (fun r214 m215 hf => ?_)
                                                                                                                              refine gw_nrm hK hn hf (fun hf => ?_)
                                                                                                                              generalize gx_nf m215 = m216 at hf ⊢
                                                                                                                              refine gw_if_ne (tgt := 799) (pc := 669) hK dL_known_669 (by decide) hf (fun cc217 hf => ?_) (fun cc217 hf => ?_)
                                                                                                                              ·
                                                                                                                                refine gw_iconst (v := 0) (pc := 799) hK dL_known_799 (by decide) ?_
                                                                                                                                exact gw_ret_z (pc := 800) hK dL_known_800 rfl (Option.some.inj hf)
                                                                                                                              ·
                                                                                                                                refine gw_aload_n (pc := 672) hK 0 dL_known_672 rfl rfl ?_
                                                                                                                                refine gw_iconst (v := 1) (pc := 673) hK dL_known_673 (by decide) ?_
                                                                                                                                refine gv_L_99 (pc := 674) hK hc dL_known_674 (by decide) (Nat.le_of_ble_eq_true rfl) hf (fun r218 m219 hf => ?_)
                                                                                                                                refine gw_nrm hK hn hf (fun hf => ?_)
                                                                                                                                generalize gx_nf m219 = m220 at hf ⊢
                                                                                                                                refine gw_iconst (v := 1) (pc := 677) hK dL_known_677 (by decide) ?_
                                                                                                                                refine gw_icmp_ne (tgt := 799) (pc := 678) hK dL_known_678 (by decide) hf (fun cc221 hf => ?_) (fun cc221 hf => ?_)
                                                                                                                                ·
                                                                                                                                  refine gw_iconst (v := 0) (pc := 799) hK dL_known_799 (by decide) ?_
                                                                                                                                  exact gw_ret_z (pc := 800) hK dL_known_800 rfl (Option.some.inj hf)
                                                                                                                                ·
                                                                                                                                  refine gw_aload_n (pc := 681) hK 0 dL_known_681 rfl rfl ?_
                                                                                                                                  refine gw_iconst (v := 1) (pc := 682) hK dL_known_682 (by decide) ?_
                                                                                                                                  refine gw_iconst (v := 4) (pc := 683) hK dL_known_683 (by decide) ?_
                                                                                                                                  refine gv_L_29 (pc := 684) hK hc dL_known_684 (by decide) (Nat.le_of_ble_eq_true rfl) hf (fun r222 m223 hf => ?_)
                                                                                                                                  refine gw_if_ne (tgt := 799) (pc := 687) hK dL_known_687 (by decide) hf (fun cc224 hf => ?_) (fun cc224 hf => ?_)
                                                                                                                                  ·
                                                                                                                                    refine gw_iconst (v := 0) (pc := 799) hK dL_known_799 (by decide) ?_
                                                                                                                                    exact gw_ret_z (pc := 800) hK dL_known_800 rfl (Option.some.inj hf)
                                                                                                                                  ·
                                                                                                                                    refine gw_aload_n (pc := 690) hK 0 dL_known_690 rfl rfl ?_
                                                                                                                                    refine gw_iconst (v := 1) (pc := 691) hK dL_known_691 (by decide) ?_
                                                                                                                                    refine gw_iconst (v := 5) (pc := 692) hK dL_known_692 (by decide) ?_
                                                                                                                                    refine gv_L_29 (pc := 693) hK hc dL_known_693 (by decide) (Nat.le_of_ble_eq_true rfl) hf (fun r225 m226 hf => ?_)
                                                                                                                                    refine gw_bipush (v := (-2)) (pc := 696) hK dL_known_696 (by decide) ?_
                                                                                                                                    refine gw_icmp_ne (tgt := 799) (pc := 698) hK dL_known_698 (by decide) hf (fun cc227 hf => ?_) (fun cc227 hf => ?_)
                                                                                                                                    ·
                                                                                                                                      refine gw_iconst (v := 0) (pc := 799) hK dL_known_799 (by decide) ?_
                                                                                                                                      exact gw_ret_z (pc := 800) hK dL_known_800 rfl (Option.some.inj hf)
                                                                                                                                    ·
                                                                                                                                      refine gw_aload_n (pc := 701) hK 0 dL_known_701 rfl rfl ?_
                                                                                                                                      refine gw_iconst (v := 1) (pc := 702) hK dL_known_702 (by decide) ?_
                                                                                                                                      refine gw_bipush (v := 6) (pc := 703) hK dL_known_703 (by decide) ?_
                                                                                                                                      refine gv_L_29 (pc := 705) hK hc dL_known_705 (by decide) (Nat.le_of_ble_eq_true rfl) hf (fun r228 m229 hf => ?_)
                                                                                                                                      refine gw_iconst (v := 1) (pc := 708) hK dL_known_708 (by decide) ?_
                                                                                                                                      refine gw_icmp_ne (tgt := 799) (pc := 709) hK dL_known_709 (by decide) hf (fun cc230 hf => ?_) (fun cc230 hf => ?_)
                                                                                                                                      ·
                                                                                                                                        refine gw_iconst (v := 0) (pc := 799) hK dL_known_799 (by decide) ?_
                                                                                                                                        exact gw_ret_z (pc := 800) hK dL_known_800 rfl (Option.some.inj hf)
                                                                                                                                      ·
                                                                                                                                        refine gw_aload_n (pc := 712) hK 0 dL_known_712 rfl rfl ?_
                                                                                                                                        refine gw_bipush (v := 20) (pc := 713) hK dL_known_713 (by decide) ?_
                                                                                                                                        refine gv_L_13 (pc := 715) hK hc dL_known_715 (by decide) (Nat.le_of_ble_eq_true rfl) hf (fun r231 m232 hf => ?_)
                                                                                                                                        refine gw_bipush (v := 120) (pc := 718) hK dL_known_718 (by decide) ?_
                                                                                                                                        refine gw_icmp_ne (tgt := 799) (pc := 720) hK dL_known_720 (by decide) hf (fun cc233 hf => ?_) (fun cc233 hf => ?_)
                                                                                                                                        ·
                                                                                                                                          refine gw_iconst (v := 0) (pc := 799) hK dL_known_799 (by decide) ?_
                                                                                                                                          exact gw_ret_z (pc := 800) hK dL_known_800 rfl (Option.some.inj hf)
                                                                                                                                        ·
                                                                                                                                          refine gw_aload_n (pc := 723) hK 0 dL_known_723 rfl rfl ?_
                                                                                                                                          refine gw_bipush (v := 23) (pc := 724) hK dL_known_724 (by decide) ?_
                                                                                                                                          refine gv_L_13 (pc := 726) hK hc dL_known_726 (by decide) (Nat.le_of_ble_eq_true rfl) hf (fun r234 m235 hf => ?_)
                                                                                                                                          refine gw_bipush (v := 69) (pc := 729) hK dL_known_729 (by decide) ?_
                                                                                                                                          refine gw_icmp_ne (tgt := 799) (pc := 731) hK dL_known_731 (by decide) hf (fun cc236 hf => ?_) (fun cc236 hf => ?_)
                                                                                                                                          ·
                                                                                                                                            refine gw_iconst (v := 0) (pc := 799) hK dL_known_799 (by decide) ?_
                                                                                                                                            exact gw_ret_z (pc := 800) hK dL_known_800 rfl (Option.some.inj hf)
                                                                                                                                          ·
                                                                                                                                            refine gw_aload_n (pc := 734) hK 0 dL_known_734 rfl rfl ?_
                                                                                                                                            refine gw_iconst (v := 0) (pc := 735) hK dL_known_735 (by decide) ?_
                                                                                                                                            refine gv_L_75 (pc := 736) hK hc dL_known_736 (by decide) (Nat.le_of_ble_eq_true rfl) hf (fun r237 m238 hf => ?_)
                                                                                                                                            refine gw_if_ne (tgt := 799) (pc := 739) hK dL_known_739 (by decide) hf (fun cc239 hf => ?_) (fun cc239 hf => ?_)
                                                                                                                                            ·
                                                                                                                                              refine gw_iconst (v := 0) (pc := 799) hK dL_known_799 (by decide) ?_
                                                                                                                                              exact gw_ret_z (pc := 800) hK dL_known_800 rfl (Option.some.inj hf)
                                                                                                                                            ·
                                                                                                                                              refine gw_aload_n (pc := 742) hK 0 dL_known_742 rfl rfl ?_
                                                                                                                                              refine gw_iconst (v := 1) (pc := 743) hK dL_known_743 (by decide) ?_
                                                                                                                                              refine gv_L_75 (pc := 744) hK hc dL_known_744 (by decide) (Nat.le_of_ble_eq_true rfl) hf (fun r240 m241 hf => ?_)
                                                                                                                                              refine gw_iconst (v := 1) (pc := 747) hK dL_known_747 (by decide) ?_
                                                                                                                                              refine gw_icmp_ne (tgt := 799) (pc := 748) hK dL_known_748 (by decide) hf (fun cc242 hf => ?_) (fun cc242 hf => ?_)
                                                                                                                                              ·
                                                                                                                                                refine gw_iconst (v := 0) (pc := 799) hK dL_known_799 (by decide) ?_
                                                                                                                                                exact gw_ret_z (pc := 800) hK dL_known_800 rfl (Option.some.inj hf)
                                                                                                                                              ·
                                                                                                                                                refine gw_aload_n (pc := 751) hK 0 dL_known_751 rfl rfl ?_
                                                                                                                                                refine gw_iconst (v := 0) (pc := 752) hK dL_known_752 (by decide) ?_
                                                                                                                                                refine gw_iconst (v := 1) (pc := 753) hK dL_known_753 (by decide) ?_
                                                                                                                                                refine gw_sipush (v := (-1001)) (pc := 754) hK dL_known_754 (by decide) ?_
                                                                                                                                                refine gv_L_71 (pc := 757) hK hc dL_known_757 (by decide) (Nat.le_of_ble_eq_true rfl) hf (fun r243 m244 hf => ?_)
                                                                                                                                                refine gw_nrm hK hn hf (fun hf => ?_)
                                                                                                                                                generalize gx_nf m244 = m245 at hf ⊢
                                                                                                                                                refine gw_ldc (pc := 760) hK dL_known_760 kw_k_RL_84 ?_
                                                                                                                                                refine gw_icmp_ne (tgt := 799) (pc := 762) hK dL_known_762 (by decide) hf (fun cc246 hf => ?_) (fun cc246 hf => ?_)
                                                                                                                                                ·
                                                                                                                                                  refine gw_iconst (v := 0) (pc := 799) hK dL_known_799 (by decide) ?_
                                                                                                                                                  exact gw_ret_z (pc := 800) hK dL_known_800 rfl (Option.some.inj hf)
                                                                                                                                                ·
                                                                                                                                                  refine gw_aload_n (pc := 765) hK 0 dL_known_765 rfl rfl ?_
                                                                                                                                                  refine gw_iconst (v := 0) (pc := 766) hK dL_known_766 (by decide) ?_
                                                                                                                                                  refine gw_iconst (v := 1) (pc := 767) hK dL_known_767 (by decide) ?_
                                                                                                                                                  refine gw_iconst (v := 5) (pc := 768) hK dL_known_768 (by decide) ?_
                                                                                                                                                  refine gv_L_71 (pc := 769) hK hc dL_known_769 (by decide) (Nat.le_of_ble_eq_true rfl) hf (fun r247 m248 hf => ?_)
                                                                                                                                                  refine gw_nrm hK hn hf (fun hf => ?_)
                                                                                                                                                  generalize gx_nf m248 = m249 at hf ⊢
                                                                                                                                                  refine gw_iconst (v := 2) (pc := 772) hK dL_known_772 (by decide) ?_
                                                                                                                                                  refine gw_icmp_ne (tgt := 799) (pc := 773) hK dL_known_773 (by decide) hf (fun cc250 hf => ?_) (fun cc250 hf => ?_)
                                                                                                                                                  ·
                                                                                                                                                    refine gw_iconst (v := 0) (pc := 799) hK dL_known_799 (by decide) ?_
                                                                                                                                                    exact gw_ret_z (pc := 800) hK dL_known_800 rfl (Option.some.inj hf)
                                                                                                                                                  ·
                                                                                                                                                    refine gw_aload_n (pc := 776) hK 0 dL_known_776 rfl rfl ?_
                                                                                                                                                    refine gw_iconst (v := 1) (pc := 777) hK dL_known_777 (by decide) ?_
                                                                                                                                                    refine gw_iconst (v := 1) (pc := 778) hK dL_known_778 (by decide) ?_
                                                                                                                                                    refine gv_L_29 (pc := 779) hK hc dL_known_779 (by decide) (Nat.le_of_ble_eq_true rfl) hf (fun r251 m252 hf => ?_)
                                                                                                                                                    refine gw_sipush (v := 1005) (pc := 782) hK dL_known_782 (by decide) ?_
                                                                                                                                                    refine gw_icmp_ne (tgt := 799) (pc := 785) hK dL_known_785 (by decide) hf (fun cc253 hf => ?_) (fun cc253 hf => ?_)
                                                                                                                                                    ·
                                                                                                                                                      refine gw_iconst (v := 0) (pc := 799) hK dL_known_799 (by decide) ?_
                                                                                                                                                      exact gw_ret_z (pc := 800) hK dL_known_800 rfl (Option.some.inj hf)
                                                                                                                                                    ·
                                                                                                                                                      refine gw_aload_n (pc := 788) hK 0 dL_known_788 rfl rfl ?_
                                                                                                                                                      refine gw_iconst (v := 1) (pc := 789) hK dL_known_789 (by decide) ?_
                                                                                                                                                      refine gw_iconst (v := 5) (pc := 790) hK dL_known_790 (by decide) ?_
                                                                                                                                                      refine gv_L_29 (pc := 791) hK hc dL_known_791 (by decide) (Nat.le_of_ble_eq_true rfl) hf (fun r254 m255 hf => ?_)
                                                                                                                                                      refine gw_bipush (v := (-2)) (pc := 794) hK dL_known_794 (by decide) ?_
                                                                                                                                                      refine gw_icmp_eq (tgt := 801) (pc := 796) hK dL_known_796 (by decide) hf (fun cc256 hf => ?_) (fun cc256 hf => ?_)
                                                                                                                                                      ·
                                                                                                                                                        refine gw_aload_n (pc := 801) hK 0 dL_known_801 rfl rfl ?_
                                                                                                                                                        refine gv_L_65 (pc := 802) hK hc dL_known_802 (by decide) (Nat.le_of_ble_eq_true rfl) hf (fun r257 m258 hf => ?_)
                                                                                                                                                        refine gw_nrm hK hn hf (fun hf => ?_)
                                                                                                                                                        generalize gx_nf m258 = m259 at hf ⊢
                                                                                                                                                        refine gw_ldc (pc := 805) hK dL_known_805 kw_k_RL_60 ?_
                                                                                                                                                        refine gw_icmp_ne (tgt := 999) (pc := 807) hK dL_known_807 (by decide) hf (fun cc260 hf => ?_) (fun cc260 hf => ?_)
                                                                                                                                                        ·
                                                                                                                                                          refine gw_iconst (v := 0) (pc := 999) hK dL_known_999 (by decide) ?_
                                                                                                                                                          exact gw_ret_z (pc := 1000) hK dL_known_1000 rfl (Option.some.inj hf)
                                                                                                                                                        ·
                                                                                                                                                          refine gw_aload_n (pc := 810) hK 0 dL_known_810 rfl rfl ?_
                                                                                                                                                          refine gv_L_182 (pc := 811) hK hc dL_known_811 (by decide) (Nat.le_of_ble_eq_true rfl) hf (fun r261 m262 hf => ?_)
                                                                                                                                                          refine gw_nrm hK hn hf (fun hf => ?_)
                                                                                                                                                          generalize gx_nf m262 = m263 at hf ⊢
                                                                                                                                                          refine gw_iconst (v := 5) (pc := 814) hK dL_known_814 (by decide) ?_
                                                                                                                                                          refine gw_icmp_ne (tgt := 999) (pc := 815) hK dL_known_815 (by decide) hf (fun cc264 hf => ?_) (fun cc264 hf => ?_)
                                                                                                                                                          ·
                                                                                                                                                            refine gw_iconst (v := 0) (pc := 999) hK dL_known_999 (by decide) ?_
                                                                                                                                                            exact gw_ret_z (pc := 1000) hK dL_known_1000 rfl (Option.some.inj hf)
                                                                                                                                                          ·
                                                                                                                                                            refine gw_aload_n (pc := 818) hK 0 dL_known_818 rfl rfl ?_
                                                                                                                                                            refine gw_iconst (v := 0) (pc := 819) hK dL_known_819 (by decide) ?_
                                                                                                                                                            refine gv_L_13 (pc := 820) hK hc dL_known_820 (by decide) (Nat.le_of_ble_eq_true rfl) hf (fun r265 m266 hf => ?_)
                                                                                                                                                            refine gw_if_ne (tgt := 999) (pc := 823) hK dL_known_823 (by decide) hf (fun cc267 hf => ?_) (fun cc267 hf => ?_)
                                                                                                                                                            ·
                                                                                                                                                              refine gw_iconst (v := 0) (pc := 999) hK dL_known_999 (by decide) ?_
                                                                                                                                                              exact gw_ret_z (pc := 1000) hK dL_known_1000 rfl (Option.some.inj hf)
                                                                                                                                                            ·
                                                                                                                                                              refine gw_aload_n (pc := 826) hK 0 dL_known_826 rfl rfl ?_
                                                                                                                                                              refine gw_iconst (v := 0) (pc := 827) hK dL_known_827 (by decide) ?_
                                                                                                                                                              refine gw_iconst (v := 3) (pc := 828) hK dL_known_828 (by decide) ?_
                                                                                                                                                              refine gv_L_29 (pc := 829) hK hc dL_known_829 (by decide) (Nat.le_of_ble_eq_true rfl) hf (fun r268 m269 hf => ?_)
                                                                                                                                                              refine gw_if_ne (tgt := 999) (pc := 832) hK dL_known_832 (by decide) hf (fun cc270 hf => ?_) (fun cc270 hf => ?_)
                                                                                                                                                              ·
                                                                                                                                                                refine gw_iconst (v := 0) (pc := 999) hK dL_known_999 (by decide) ?_
                                                                                                                                                                exact gw_ret_z (pc := 1000) hK dL_known_1000 rfl (Option.some.inj hf)
                                                                                                                                                              ·
                                                                                                                                                                refine gw_aload_n (pc := 835) hK 0 dL_known_835 rfl rfl ?_
                                                                                                                                                                refine gw_iconst (v := 0) (pc := 836) hK dL_known_836 (by decide) ?_
                                                                                                                                                                refine gw_iconst (v := 4) (pc := 837) hK dL_known_837 (by decide) ?_
                                                                                                                                                                refine gv_L_29 (pc := 838) hK hc dL_known_838 (by decide) (Nat.le_of_ble_eq_true rfl) hf (fun r271 m272 hf => ?_)
                                                                                                                                                                refine gw_ldc (pc := 841) hK dL_known_841 kw_k_RL_60 ?_
                                                                                                                                                                refine gw_icmp_ne (tgt := 999) (pc := 843) hK dL_known_843 (by decide) hf (fun cc273 hf => ?_) (fun cc273 hf => ?_)
                                                                                                                                                                ·
                                                                                                                                                                  refine gw_iconst (v := 0) (pc := 999) hK dL_known_999 (by decide) ?_
                                                                                                                                                                  exact gw_ret_z (pc := 1000) hK dL_known_1000 rfl (Option.some.inj hf)
                                                                                                                                                                ·
                                                                                                                                                                  refine gw_aload_n (pc := 846) hK 0 dL_known_846 rfl rfl ?_
                                                                                                                                                                  refine gw_iconst (v := 0) (pc := 847) hK dL_known_847 (by decide) ?_
                                                                                                                                                                  refine gv_L_75 (pc := 848) hK hc dL_known_848 (by decide) (Nat.le_of_ble_eq_true rfl) hf (fun r274 m275 hf => ?_)
                                                                                                                                                                  refine gw_ldc (pc := 851) hK dL_known_851 kw_k_RL_60 ?_
                                                                                                                                                                  refine gw_icmp_ne (tgt := 999) (pc := 853) hK dL_known_853 (by decide) hf (fun cc276 hf => ?_) (fun cc276 hf => ?_)
                                                                                                                                                                  ·
                                                                                                                                                                    refine gw_iconst (v := 0) (pc := 999) hK dL_known_999 (by decide) ?_
                                                                                                                                                                    exact gw_ret_z (pc := 1000) hK dL_known_1000 rfl (Option.some.inj hf)
                                                                                                                                                                  ·
                                                                                                                                                                    refine gw_aload_n (pc := 856) hK 0 dL_known_856 rfl rfl ?_
                                                                                                                                                                    refine gw_iconst (v := 0) (pc := 857) hK dL_known_857 (by decide) ?_
                                                                                                                                                                    refine gw_iconst (v := 2) (pc := 858) hK dL_known_858 (by decide) ?_
                                                                                                                                                                    refine gv_L_96 (pc := 859) hK hc dL_known_859 (by decide) (Nat.le_of_ble_eq_true rfl) hf (fun r277 m278 hf => ?_)
                                                                                                                                                                    refine gw_nrm hK hn hf (fun hf => ?_)
                                                                                                                                                                    generalize gx_nf m278 = m279 at hf ⊢
                                                                                                                                                                    refine gw_bipush (v := 60) (pc := 862) hK dL_known_862 (by decide) ?_
                                                                                                                                                                    refine gw_icmp_ne (tgt := 999) (pc := 864) hK dL_known_864 (by decide) hf (fun cc280 hf => ?_) (fun cc280 hf => ?_)
                                                                                                                                                                    ·
                                                                                                                                                                      refine gw_iconst (v := 0) (pc := 999) hK dL_known_999 (by decide) ?_
                                                                                                                                                                      exact gw_ret_z (pc := 1000) hK dL_known_1000 rfl (Option.some.inj hf)
                                                                                                                                                                    ·
                                                                                                                                                                      refine gw_aload_n (pc := 867) hK 0 dL_known_867 rfl rfl ?_
                                                                                                                                                                      refine gw_iconst (v := 0) (pc := 868) hK dL_known_868 (by decide) ?_
                                                                                                                                                                      refine gw_iconst (v := 2) (pc := 869) hK dL_known_869 (by decide) ?_
                                                                                                                                                                      refine gv_L_57 (pc := 870) hK hc dL_known_870 (by decide) (Nat.le_of_ble_eq_true rfl) hf (fun r281 m282 hf => ?_)
                                                                                                                                                                      refine gw_nrm hK hn hf (fun hf => ?_)
                                                                                                                                                                      generalize gx_nf m282 = m283 at hf ⊢
                                                                                                                                                                      refine gw_sipush (v := 998) (pc := 873) hK dL_known_873 (by decide) ?_
                                                                                                                                                                      refine gw_icmp_ne (tgt := 999) (pc := 876) hK dL_known_876 (by decide) hf (fun cc284 hf => ?_) (fun cc284 hf => ?_)
                                                                                                                                                                      ·
                                                                                                                                                                        refine gw_iconst (v := 0) (pc := 999) hK dL_known_999 (by decide) ?_
                                                                                                                                                                        exact gw_ret_z (pc := 1000) hK dL_known_1000 rfl (Option.some.inj hf)
                                                                                                                                                                      ·
                                                                                                                                                                        refine gw_aload_n (pc := 879) hK 0 dL_known_879 rfl rfl ?_
                                                                                                                                                                        refine gw_iconst (v := 1) (pc := 880) hK dL_known_880 (by decide) ?_
                                                                                                                                                                        refine gw_sipush (v := 3600) (pc := 881) hK dL_known_881 (by decide) ?_
                                                                                                                                                                        refine gv_L_57 (pc := 884) hK hc dL_known_884 (by decide) (Nat.le_of_ble_eq_true rfl) hf (fun r285 m286 hf => ?_)
                                                                                                                                                                        refine gw_nrm hK hn hf (fun hf => ?_)
                                                                                                                                                                        generalize gx_nf m286 = m287 at hf ⊢
                                                                                                                                                                        refine gw_sipush (v := 2000) (pc := 887) hK dL_known_887 (by decide) ?_
                                                                                                                                                                        refine gw_icmp_ne (tgt := 999) (pc := 890) hK dL_known_890 (by decide) hf (fun cc288 hf => ?_) (fun cc288 hf => ?_)
                                                                                                                                                                        ·
                                                                                                                                                                          refine gw_iconst (v := 0) (pc := 999) hK dL_known_999 (by decide) ?_
                                                                                                                                                                          exact gw_ret_z (pc := 1000) hK dL_known_1000 rfl (Option.some.inj hf)
                                                                                                                                                                        ·
                                                                                                                                                                          refine gw_aload_n (pc := 893) hK 0 dL_known_893 rfl rfl ?_
                                                                                                                                                                          refine gw_iconst (v := 4) (pc := 894) hK dL_known_894 (by decide) ?_
                                                                                                                                                                          refine gv_L_99 (pc := 895) hK hc dL_known_895 (by decide) (Nat.le_of_ble_eq_true rfl) hf (fun r289 m290 hf => ?_)
                                                                                                                                                                          refine gw_nrm hK hn hf (fun hf => ?_)
                                                                                                                                                                          generalize gx_nf m290 = m291 at hf ⊢
                                                                                                                                                                          refine gw_iconst (v := 1) (pc := 898) hK dL_known_898 (by decide) ?_
                                                                                                                                                                          refine gw_icmp_ne (tgt := 999) (pc := 899) hK dL_known_899 (by decide) hf (fun cc292 hf => ?_) (fun cc292 hf => ?_)
                                                                                                                                                                          ·
                                                                                                                                                                            refine gw_iconst (v := 0) (pc := 999) hK dL_known_999 (by decide) ?_
                                                                                                                                                                            exact gw_ret_z (pc := 1000) hK dL_known_1000 rfl (Option.some.inj hf)
                                                                                                                                                                          ·
                                                                                                                                                                            refine gw_aload_n (pc := 902) hK 0 dL_known_902 rfl rfl ?_
                                                                                                                                                                            refine gw_iconst (v := 0) (pc := 903) hK dL_known_903 (by decide) ?_
                                                                                                                                                                            refine gw_iconst (v := 2) (pc := 904) hK dL_known_904 (by decide) ?_
                                                                                                                                                                            refine gv_L_25 (pc := 905) hK hc dL_known_905 (by decide) (Nat.le_of_ble_eq_true rfl) hf (fun r293 m294 hf => ?_)
                                                                                                                                                                            refine gw_bipush (v := 49) (pc := 908) hK dL_known_908 (by decide) ?_
                                                                                                                                                                            refine gw_icmp_ne (tgt := 999) (pc := 910) hK dL_known_910 (by decide) hf (fun cc295 hf => ?_) (fun cc295 hf => ?_)
                                                                                                                                                                            ·
                                                                                                                                                                              refine gw_iconst (v := 0) (pc := 999) hK dL_known_999 (by decide) ?_
                                                                                                                                                                              exact gw_ret_z (pc := 1000) hK dL_known_1000 rfl (Option.some.inj hf)
                                                                                                                                                                            ·
                                                                                                                                                                              refine gw_aload_n (pc := 913) hK 0 dL_known_913 rfl rfl ?_
                                                                                                                                                                              refine gw_bipush (v := 20) (pc := 914) hK dL_known_914 (by decide) ?_
                                                                                                                                                                              refine gv_L_13 (pc := 916) hK hc dL_known_916 (by decide) (Nat.le_of_ble_eq_true rfl) hf (fun r296 m297 hf => ?_)
                                                                                                                                                                              refine gw_sipush (v := 131) (pc := 919) hK dL_known_919 (by decide) ?_
                                                                                                                                                                              refine gw_icmp_ne (tgt := 999) (pc := 922) hK dL_known_922 (by decide) hf (fun cc298 hf => ?_) (fun cc298 hf => ?_)
                                                                                                                                                                              ·
                                                                                                                                                                                refine gw_iconst (v := 0) (pc := 999) hK dL_known_999 (by decide) ?_
                                                                                                                                                                                exact gw_ret_z (pc := 1000) hK dL_known_1000 rfl (Option.some.inj hf)
                                                                                                                                                                              ·
                                                                                                                                                                                refine gw_aload_n (pc := 925) hK 0 dL_known_925 rfl rfl ?_
                                                                                                                                                                                refine gw_bipush (v := 21) (pc := 926) hK dL_known_926 (by decide) ?_
                                                                                                                                                                                refine gv_L_13 (pc := 928) hK hc dL_known_928 (by decide) (Nat.le_of_ble_eq_true rfl) hf (fun r299 m300 hf => ?_)
                                                                                                                                                                                refine gw_bipush (v := 49) (pc := 931) hK dL_known_931 (by decide) ?_
                                                                                                                                                                                refine gw_icmp_ne (tgt := 999) (pc := 933) hK dL_known_933 (by decide) hf (fun cc301 hf => ?_) (fun cc301 hf => ?_)
                                                                                                                                                                                ·
                                                                                                                                                                                  refine gw_iconst (v := 0) (pc := 999) hK dL_known_999 (by decide) ?_
                                                                                                                                                                                  exact gw_ret_z (pc := 1000) hK dL_known_1000 rfl (Option.some.inj hf)
                                                                                                                                                                                ·
                                                                                                                                                                                  refine gw_aload_n (pc := 936) hK 0 dL_known_936 rfl rfl ?_
                                                                                                                                                                                  refine gw_bipush (v := 22) (pc := 937) hK dL_known_937 (by decide) ?_
                                                                                                                                                                                  refine gv_L_13 (pc := 939) hK hc dL_known_939 (by decide) (Nat.le_of_ble_eq_true rfl) hf (fun r302 m303 hf => ?_)
                                                                                                                                                                                  refine gw_iconst (v := 2) (pc := 942) hK dL_known_942 (by decide) ?_
                                                                                                                                                                                  refine gw_icmp_ne (tgt := 999) (pc := 943) hK dL_known_943 (by decide) hf (fun cc304 hf => ?_) (fun cc304 hf => ?_)
                                                                                                                                                                                  ·
                                                                                                                                                                                    refine gw_iconst (v := 0) (pc := 999) hK dL_known_999 (by decide) ?_
                                                                                                                                                                                    exact gw_ret_z (pc := 1000) hK dL_known_1000 rfl (Option.some.inj hf)
                                                                                                                                                                                  ·
                                                                                                                                                                                    refine gw_aload_n (pc := 946) hK 0 dL_known_946 rfl rfl ?_
                                                                                                                                                                                    refine gw_bipush (v := 23) (pc := 947) hK dL_known_947 (by decide) ?_
                                                                                                                                                                                    refine gv_L_13 (pc := 949) hK hc dL_known_949 (by decide) (Nat.le_of_ble_eq_true rfl) hf (fun r305 m306 hf => ?_)
                                                                                                                                                                                    refine gw_bipush (v := 79) (pc := 952) hK dL_known_952 (by decide) ?_
                                                                                                                                                                                    refine gw_icmp_ne (tgt := 999) (pc := 954) hK dL_known_954 (by decide) hf (fun cc307 hf => ?_) (fun cc307 hf => ?_)
                                                                                                                                                                                    ·
                                                                                                                                                                                      refine gw_iconst (v := 0) (pc := 999) hK dL_known_999 (by decide) ?_
                                                                                                                                                                                      exact gw_ret_z (pc := 1000) hK dL_known_1000 rfl (Option.some.inj hf)
                                                                                                                                                                                    ·
                                                                                                                                                                                      refine gw_aload_n (pc := 957) hK 0 dL_known_957 rfl rfl ?_
                                                                                                                                                                                      refine gw_iconst (v := 0) (pc := 958) hK dL_known_958 (by decide) ?_
                                                                                                                                                                                      refine gv_L_39 (pc := 959) hK hc dL_known_959 (by decide) (Nat.le_of_ble_eq_true rfl) hf (fun r308 m309 hf => ?_)
                                                                                                                                                                                      refine gw_nrm hK hn hf (fun hf => ?_)
                                                                                                                                                                                      generalize gx_nf m309 = m310 at hf ⊢
                                                                                                                                                                                      refine gw_iconst (v := 1) (pc := 962) hK dL_known_962 (by decide) ?_
                                                                                                                                                                                      refine gw_icmp_ne (tgt := 999) (pc := 963) hK dL_known_963 (by decide) hf (fun cc311 hf => ?_) (fun cc311 hf => ?_)
                                                                                                                                                                                      ·
                                                                                                                                                                                        refine gw_iconst (v := 0) (pc := 999) hK dL_known_999 (by decide) ?_
                                                                                                                                                                                        exact gw_ret_z (pc := 1000) hK dL_known_1000 rfl (Option.some.inj hf)
                                                                                                                                                                                      ·
                                                                                                                                                                                        refine gw_aload_n (pc := 966) hK 0 dL_known_966 rfl rfl ?_
                                                                                                                                                                                        refine gw_bipush (v := 24) (pc := 967) hK dL_known_967 (by decide) ?_
                                                                                                                                                                                        refine gv_L_13 (pc := 969) hK hc dL_known_969 (by decide) (Nat.le_of_ble_eq_true rfl) hf (fun r312 m313 hf => ?_)
                                                                                                                                                                                        refine gw_bipush (v := 50) (pc := 972) hK dL_known_972 (by decide) ?_
                                                                                                                                                                                        refine gw_icmp_ne (tgt := 999) (pc := 974) hK dL_known_974 (by decide) hf (fun cc314 hf => ?_) (fun cc314 hf => ?_)
                                                                                                                                                                                        ·
                                                                                                                                                                                          refine gw_iconst (v := 0) (pc := 999) hK dL_known_999 (by decide) ?_
                                                                                                                                                                                          exact gw_ret_z (pc := 1000) hK dL_known_1000 rfl (Option.some.inj hf)
                                                                                                                                                                                        ·
                                                                                                                                                                                          refine gw_aload_n (pc := 977) hK 0 dL_known_977 rfl rfl ?_
                                                                                                                                                                                          refine gw_iconst (v := 0) (pc := 978) hK dL_known_978 (by decide) ?_
                                                                                                                                                                                          refine gw_iconst (v := 4) (pc := 979) hK dL_known_979 (by decide) ?_
                                                                                                                                                                                          refine gv_L_29 (pc := 980) hK hc dL_known_980 (by decide) (Nat.le_of_ble_eq_true rfl) hf (fun r315 m316 hf => ?_)
                                                                                                                                                                                          refine gw_iconst (v := 1) (pc := 983) hK dL_known_983 (by decide) ?_
                                                                                                                                                                                          refine gw_icmp_ne (tgt := 999) (pc := 984) hK dL_known_984 (by decide) hf (fun cc317 hf => ?_) (fun cc317 hf => ?_)
                                                                                                                                                                                          ·
                                                                                                                                                                                            refine gw_iconst (v := 0) (pc := 999) hK dL_known_999 (by decide) ?_
                                                                                                                                                                                            exact gw_ret_z (pc := 1000) hK dL_known_1000 rfl (Option.some.inj hf)
                                                                                                                                                                                          ·
                                                                                                                                                                                            refine gw_aload_n (pc := 987) hK 0 dL_known_987 rfl rfl ?_
                                                                                                                                                                                            refine gw_iconst (v := 0) (pc := 988) hK dL_known_988 (by decide) ?_
                                                                                                                                                                                            refine gw_iconst (v := 0) (pc := 989) hK dL_known_989 (by decide) ?_
                                                                                                                                                                                            refine gv_L_25 (pc := 990) hK hc dL_known_990 (by decide) (Nat.le_of_ble_eq_true rfl) hf (fun r318 m319 hf => ?_)
                                                                                                                                                                                            refine gw_sipush (v := 2000) (pc := 993) hK dL_known_993 (by decide) ?_
                                                                                                                                                                                            refine gw_icmp_eq (tgt := 1001) (pc := 996) hK dL_known_996 (by decide) hf (fun cc320 hf => ?_) (fun cc320 hf => ?_)
                                                                                                                                                                                            ·
                                                                                                                                                                                              refine gw_aload_n (pc := 1001) hK 0 dL_known_1001 rfl rfl ?_
                                                                                                                                                                                              refine gw_iconst (v := 0) (pc := 1002) hK dL_known_1002 (by decide) ?_
                                                                                                                                                                                              refine gv_L_39 (pc := 1003) hK hc dL_known_1003 (by decide) (Nat.le_of_ble_eq_true rfl) hf (fun r321 m322 hf => ?_)
                                                                                                                                                                                              refine gw_nrm hK hn hf (fun hf => ?_)
                                                                                                                                                                                              generalize gx_nf m322 = m323 at hf ⊢
                                                                                                                                                                                              refine gw_if_ne (tgt := 1101) (pc := 1006) hK dL_known_1006 (by decide) hf (fun cc324 hf => ?_) (fun cc324 hf => ?_)
                                                                                                                                                                                              ·
                                                                                                                                                                                                refine gw_iconst (v := 0) (pc := 1101) hK dL_known_1101 (by decide) ?_
                                                                                                                                                                                                exact gw_ret_z (pc := 1102) hK dL_known_1102 rfl (Option.some.inj hf)
                                                                                                                                                                                              ·
                                                                                                                                                                                                refine gw_aload_n (pc := 1009) hK 0 dL_known_1009 rfl rfl ?_
                                                                                                                                                                                                refine gw_iconst (v := 1) (pc := 1010) hK dL_known_1010 (by decide) ?_
                                                                                                                                                                                                refine gv_L_81 (pc := 1011) hK hc dL_known_1011 (by decide) (Nat.le_of_ble_eq_true rfl) hf (fun r325 m326 hf => ?_)
                                                                                                                                                                                                refine gw_nrm hK hn hf (fun hf => ?_)
                                                                                                                                                                                                generalize gx_nf m326 = m327 at hf ⊢
                                                                                                                                                                                                refine gw_ldc (pc := 1014) hK dL_known_1014 kw_k_RL_60 ?_
                                                                                                                                                                                                refine gw_icmp_ne (tgt := 1101) (pc := 1016) hK dL_known_1016 (by decide) hf (fun cc328 hf => ?_) (fun cc328 hf => ?_)
                                                                                                                                                                                                ·
                                                                                                                                                                                                  refine gw_iconst (v := 0) (pc := 1101) hK dL_known_1101 (by decide) ?_
                                                                                                                                                                                                  exact gw_ret_z (pc := 1102) hK dL_known_1102 rfl (Option.some.inj hf)
                                                                                                                                                                                                ·
                                                                                                                                                                                                  refine gw_aload_n (pc := 1019) hK 0 dL_known_1019 rfl rfl ?_
                                                                                                                                                                                                  refine gw_iconst (v := 1) (pc := 1020) hK dL_known_1020 (by decide) ?_
                                                                                                                                                                                                  refine gv_L_99 (pc := 1021) hK hc dL_known_1021 (by decide) (Nat.le_of_ble_eq_true rfl) hf (fun r329 m330 hf => ?_)
                                                                                                                                                                                                  refine gw_nrm hK hn hf (fun hf => ?_)
                                                                                                                                                                                                  generalize gx_nf m330 = m331 at hf ⊢
                                                                                                                                                                                                  refine gw_iconst (v := 1) (pc := 1024) hK dL_known_1024 (by decide) ?_
                                                                                                                                                                                                  refine gw_icmp_ne (tgt := 1101) (pc := 1025) hK dL_known_1025 (by decide) hf (fun cc332 hf => ?_) (fun cc332 hf => ?_)
                                                                                                                                                                                                  ·
                                                                                                                                                                                                    refine gw_iconst (v := 0) (pc := 1101) hK dL_known_1101 (by decide) ?_
                                                                                                                                                                                                    exact gw_ret_z (pc := 1102) hK dL_known_1102 rfl (Option.some.inj hf)
                                                                                                                                                                                                  ·
                                                                                                                                                                                                    refine gw_aload_n (pc := 1028) hK 0 dL_known_1028 rfl rfl ?_
                                                                                                                                                                                                    refine gw_iconst (v := 1) (pc := 1029) hK dL_known_1029 (by decide) ?_
                                                                                                                                                                                                    refine gw_iconst (v := 3) (pc := 1030) hK dL_known_1030 (by decide) ?_
                                                                                                                                                                                                    refine gv_L_29 (pc := 1031) hK hc dL_known_1031 (by decide) (Nat.le_of_ble_eq_true rfl) hf (fun r333 m334 hf => ?_)
                                                                                                                                                                                                    refine gw_iconst (v := 1) (pc := 1034) hK dL_known_1034 (by decide) ?_
                                                                                                                                                                                                    refine gw_icmp_ne (tgt := 1101) (pc := 1035) hK dL_known_1035 (by decide) hf (fun cc335 hf => ?_) (fun cc335 hf => ?_)
                                                                                                                                                                                                    ·
                                                                                                                                                                                                      refine gw_iconst (v := 0) (pc := 1101) hK dL_known_1101 (by decide) ?_
                                                                                                                                                                                                      exact gw_ret_z (pc := 1102) hK dL_known_1102 rfl (Option.some.inj hf)
                                                                                                                                                                                                    ·
                                                                                                                                                                                                      refine gw_aload_n (pc := 1038) hK 0 dL_known_1038 rfl rfl ?_
                                                                                                                                                                                                      refine gw_iconst (v := 1) (pc := 1039) hK dL_known_1039 (by decide) ?_
                                                                                                                                                                                                      refine gw_iconst (v := 4) (pc := 1040) hK dL_known_1040 (by decide) ?_
                                                                                                                                                                                                      refine gv_L_29 (pc := 1041) hK hc dL_known_1041 (by decide) (Nat.le_of_ble_eq_true rfl) hf (fun r336 m337 hf => ?_)
                                                                                                                                                                                                      refine gw_ldc (pc := 1044) hK dL_known_1044 kw_k_RL_60 ?_
                                                                                                                                                                                                      refine gw_icmp_ne (tgt := 1101) (pc := 1046) hK dL_known_1046 (by decide) hf (fun cc338 hf => ?_) (fun cc338 hf => ?_)
                                                                                                                                                                                                      ·
                                                                                                                                                                                                        refine gw_iconst (v := 0) (pc := 1101) hK dL_known_1101 (by decide) ?_
                                                                                                                                                                                                        exact gw_ret_z (pc := 1102) hK dL_known_1102 rfl (Option.some.inj hf)
                                                                                                                                                                                                      ·
                                                                                                                                                                                                        refine gw_aload_n (pc := 1049) hK 0 dL_known_1049 rfl rfl ?_
                                                                                                                                                                                                        refine gw_iconst (v := 1) (pc := 1050) hK dL_known_1050 (by decide) ?_
                                                                                                                                                                                                        refine gw_iconst (v := 5) (pc := 1051) hK dL_known_1051 (by decide) ?_
                                                                                                                                                                                                        refine gv_L_29 (pc := 1052) hK hc dL_known_1052 (by decide) (Nat.le_of_ble_eq_true rfl) hf (fun r339 m340 hf => ?_)
                                                                                                                                                                                                        refine gw_ldc (pc := 1055) hK dL_known_1055 kw_k_RL_60 ?_
                                                                                                                                                                                                        refine gw_icmp_ne (tgt := 1101) (pc := 1057) hK dL_known_1057 (by decide) hf (fun cc341 hf => ?_) (fun cc341 hf => ?_)
                                                                                                                                                                                                        ·
                                                                                                                                                                                                          refine gw_iconst (v := 0) (pc := 1101) hK dL_known_1101 (by decide) ?_
                                                                                                                                                                                                          exact gw_ret_z (pc := 1102) hK dL_known_1102 rfl (Option.some.inj hf)
                                                                                                                                                                                                        ·
                                                                                                                                                                                                          refine gw_aload_n (pc := 1060) hK 0 dL_known_1060 rfl rfl ?_
                                                                                                                                                                                                          refine gw_iconst (v := 4) (pc := 1061) hK dL_known_1061 (by decide) ?_
                                                                                                                                                                                                          refine gv_L_13 (pc := 1062) hK hc dL_known_1062 (by decide) (Nat.le_of_ble_eq_true rfl) hf (fun r342 m343 hf => ?_)
                                                                                                                                                                                                          refine gw_iconst (v := 2) (pc := 1065) hK dL_known_1065 (by decide) ?_
                                                                                                                                                                                                          refine gw_icmp_ne (tgt := 1101) (pc := 1066) hK dL_known_1066 (by decide) hf (fun cc344 hf => ?_) (fun cc344 hf => ?_)
                                                                                                                                                                                                          ·
                                                                                                                                                                                                            refine gw_iconst (v := 0) (pc := 1101) hK dL_known_1101 (by decide) ?_
                                                                                                                                                                                                            exact gw_ret_z (pc := 1102) hK dL_known_1102 rfl (Option.some.inj hf)
                                                                                                                                                                                                          ·
                                                                                                                                                                                                            refine gw_aload_n (pc := 1069) hK 0 dL_known_1069 rfl rfl ?_
                                                                                                                                                                                                            refine gw_bipush (v := 6) (pc := 1070) hK dL_known_1070 (by decide) ?_
                                                                                                                                                                                                            refine gv_L_13 (pc := 1072) hK hc dL_known_1072 (by decide) (Nat.le_of_ble_eq_true rfl) hf (fun r345 m346 hf => ?_)
                                                                                                                                                                                                            refine gw_iconst (v := 1) (pc := 1075) hK dL_known_1075 (by decide) ?_
                                                                                                                                                                                                            refine gw_icmp_ne (tgt := 1101) (pc := 1076) hK dL_known_1076 (by decide) hf (fun cc347 hf => ?_) (fun cc347 hf => ?_)
                                                                                                                                                                                                            ·
                                                                                                                                                                                                              refine gw_iconst (v := 0) (pc := 1101) hK dL_known_1101 (by decide) ?_
                                                                                                                                                                                                              exact gw_ret_z (pc := 1102) hK dL_known_1102 rfl (Option.some.inj hf)
                                                                                                                                                                                                            ·
                                                                                                                                                                                                              refine gw_aload_n (pc := 1079) hK 0 dL_known_1079 rfl rfl ?_
                                                                                                                                                                                                              refine gw_iconst (v := 5) (pc := 1080) hK dL_known_1080 (by decide) ?_
                                                                                                                                                                                                              refine gv_L_13 (pc := 1081) hK hc dL_known_1081 (by decide) (Nat.le_of_ble_eq_true rfl) hf (fun r348 m349 hf => ?_)
                                                                                                                                                                                                              refine gw_if_ne (tgt := 1101) (pc := 1084) hK dL_known_1084 (by decide) hf (fun cc350 hf => ?_) (fun cc350 hf => ?_)
                                                                                                                                                                                                              ·
                                                                                                                                                                                                                refine gw_iconst (v := 0) (pc := 1101) hK dL_known_1101 (by decide) ?_
                                                                                                                                                                                                                exact gw_ret_z (pc := 1102) hK dL_known_1102 rfl (Option.some.inj hf)
                                                                                                                                                                                                              ·
                                                                                                                                                                                                                refine gw_aload_n (pc := 1087) hK 0 dL_known_1087 rfl rfl ?_
                                                                                                                                                                                                                refine gw_iconst (v := 0) (pc := 1088) hK dL_known_1088 (by decide) ?_
                                                                                                                                                                                                                refine gv_L_36 (pc := 1089) hK hc dL_known_1089 (by decide) (Nat.le_of_ble_eq_true rfl) hf (fun r351 m352 hf => ?_)
                                                                                                                                                                                                                refine gw_ldc (pc := 1092) hK dL_known_1092 kw_k_RL_60 ?_
                                                                                                                                                                                                                refine gw_icmp_ne (tgt := 1101) (pc := 1094) hK dL_known_1094 (by decide) hf (fun cc353 hf => ?_) (fun cc353 hf => ?_)
                                                                                                                                                                                                                ·
                                                                                                                                                                                                                  refine gw_iconst (v := 0) (pc := 1101) hK dL_known_1101 (by decide) ?_
                                                                                                                                                                                                                  exact gw_ret_z (pc := 1102) hK dL_known_1102 rfl (Option.some.inj hf)
                                                                                                                                                                                                                ·
                                                                                                                                                                                                                  refine gw_iconst (v := 1) (pc := 1097) hK dL_known_1097 (by decide) ?_
                                                                                                                                                                                                                  refine gw_goto (tgt := 1102) (pc := 1098) hK dL_known_1098 (by decide) ?_
                                                                                                                                                                                                                  exact gw_ret_z (pc := 1102) hK dL_known_1102 rfl (Option.some.inj hf)
                                                                                                                                                                                            ·
                                                                                                                                                                                              refine gw_iconst (v := 0) (pc := 999) hK dL_known_999 (by decide) ?_
                                                                                                                                                                                              exact gw_ret_z (pc := 1000) hK dL_known_1000 rfl (Option.some.inj hf)
                                                                                                                                                      ·
                                                                                                                                                        refine gw_iconst (v := 0) (pc := 799) hK dL_known_799 (by decide) ?_
                                                                                                                                                        exact gw_ret_z (pc := 800) hK dL_known_800 rfl (Option.some.inj hf)
                                                                                                                  ·
                                                                                                                    refine gw_iconst (v := 0) (pc := 608) hK dL_known_608 (by decide) ?_
                                                                                                                    exact gw_ret_z (pc := 609) hK dL_known_609 rfl (Option.some.inj hf)
                                                                      ·
                                                                        refine gw_iconst (v := 0) (pc := 396) hK dL_known_396 (by decide) ?_
                                                                        exact gw_ret_z (pc := 397) hK dL_known_397 rfl (Option.some.inj hf)
                                        ·
                                          refine gw_iconst (v := 0) (pc := 235) hK dL_known_235 (by decide) ?_
                                          exact gw_ret_z (pc := 236) hK dL_known_236 rfl (Option.some.inj hf)
