/-! ===== the law's body ===== -/
theorem gx_b_of {x : Option (Int32 × gx_M)} {r : Int32} {m : gx_M} (e : x = some (r, m)) : gx_b x (fun r m => some (r, m)) = some (r, m) := by rw [e]; rfl
theorem gx_bL_of {x : Option (Int64 × gx_M)} {r : Int64} {m : gx_M} (e : x = some (r, m)) : gx_bL x (fun r m => some (r, m)) = some (r, m) := by rw [e]; rfl
theorem gw_ghost {l : Launch} {own : String} {cc : ByteArray} {nL fr lo : Nat} {ret : Option FieldType} {Y : gx_Y} {Post : Value → gx_M → Prop} {K : gx_KT} {pc : Nat} {μ1 μ2 : gx_M} {L : List (Nat × Value)} {st : List Value} (hK : gx_K l own cc nL fr lo ret Y Post K) (ho : gy_o Y = 6) (f : ∀ a, 6 ≤ a → μ2 a = μ1 a) (kk : K μ2 pc L st) : K μ1 pc L st :=
  gw_same hK (fun c hcc j _ => by rw [f c (by rw [← ho]; exact hcc.1)]) kk
theorem i_le_lt {a b : Int32} (h : a ≤ b) (h2 : b < a) : False := Int32.not_lt.2 h h2
theorem i_neg {r : Int32} (h : r < -100000) (h2 : 0 ≤ r) : False := i_le_lt h2 (Int32.lt_trans h (by decide))
theorem i_big {r : Int32} (h : 0 ≤ r) (h2 : r ≤ -100000) : False := i_le_lt (Int32.le_trans h h2) (by decide)
set_option maxRecDepth 100000 in
set_option maxHeartbeats 40000000 in
theorem law_bowls {l : Launch} {Y : gx_Y} {K : gx_KT} (hK : gx_K l RL cL_law 9 12 450 (some .boolean) Y (fun v _ => v = .int 1) K) (hkd : gy_k Y = gl_kd) (ho : gy_o Y = 6) (hc : gk_bow Y 6) {b Ln : Nat} {xs : Nat → Int32} (htk : ∀ (μ : gx_M) (pc : Nat) (L : List (Nat × Value)) (st : List Value) (k : Nat), decode cL_law pc = .ok (.invokestatic 192, 3) → k < 1000 → (st.map fun v => v.category).sum ≤ 8 → K μ (pc + 3) L (.int (tk Ln xs k) :: st) → K μ pc L (.int (nI k) :: .ref b :: st))
    (fin : ∀ μ, LSt μ → μ 1 1 = nI 10 → μ 0 3 = nI 5 → K μ 73 [(0, .ref b), (1, .ref (gy_a Y 6))] []) : ∀ (m k : Nat) (μ : gx_M), k + m = 10 → LSt μ → μ 1 1 = nI k → μ 0 3 = nI (min k 5) → K μ 24 [(0, .ref b), (1, .ref (gy_a Y 6)), (2, .int (nI k))] [] := by
  intro m
  induction m with
  | zero =>
    intro k μ hk hL h1 h5
    have e : k = 10 := by omega
    subst e
    refine gw_iload_n (pc := 24) hK 2 dL_law_24 rfl rfl ?_
    refine gw_bipush (v := 10) (pc := 25) hK dL_law_25 (by decide) ?_
    refine gw_icmp_ge_c (tgt := 73) (pc := 27) hK dL_law_27 (by decide) (fun cc => ?_) (fun cc => absurd (show (10 : Int32) ≤ nI 10 by decide) cc)
    refine gw_sub (L' := [(0, .ref b), (1, .ref (gy_a Y 6))]) hK [0, 1] rfl ?_
    exact fin μ hL h1 h5
  | succ m ih =>
    intro k μ hk hL h1 h5
    obtain ⟨j1, hj1, e1⟩ := pt_in (tk Ln xs k) (n := 6001) (by decide) (by decide)
    obtain ⟨j2, hj2, e2⟩ := pt_in (tk Ln xs (10 + k)) (n := 2400) (by decide) (by decide)
    have e1 : pt (tk Ln xs k) 6001 = nI j1 := e1
    have e2 : pt (tk Ln xs (10 + k)) 2400 = nI j2 := e2
    obtain ⟨μ1, μ2, eb, f6, hL2, hp, h12⟩ := q_bowl (a1 := nI j1) (a2 := nI (1 + j2)) hL h1 (by omega) (by rw [show (0 : Int32) = nI 0 from rfl, show (6000 : Int32) = nI 6000 from rfl, pwi_t (by omega) (by omega) (by decide)]; decide) (by rw [show (1 : Int32) = nI 1 from rfl, show (2400 : Int32) = nI 2400 from rfl, pwi_t (by omega) (by omega) (by decide)]; decide)
    refine gw_iload_n (pc := 24) hK 2 dL_law_24 rfl rfl ?_
    refine gw_bipush (v := 10) (pc := 25) hK dL_law_25 (by decide) ?_
    refine gw_icmp_ge_c (tgt := 73) (pc := 27) hK dL_law_27 (by decide) (fun cc => absurd cc (nI_ge (b := 10) (by omega) (by decide))) (fun cc => ?_)
    refine gw_aload_n (pc := 30) hK 1 dL_law_30 rfl rfl ?_
    refine gw_aload_n (pc := 31) hK 0 dL_law_31 rfl rfl ?_
    refine gw_iload_n (pc := 32) hK 2 dL_law_32 rfl rfl ?_
    refine htk _ 33 _ _ (k) dL_law_33 (by omega) (Nat.le_of_ble_eq_true rfl) ?_
    refine gw_sipush (v := 6001) (pc := 36) hK dL_law_36 (by decide) ?_
    refine gv_L_196 (pc := 39) (k := fun r m => some (r, m)) (rr := (pt (tk Ln xs k) 6001, μ)) hK dL_law_39 (by decide) (Nat.le_of_ble_eq_true rfl) (gx_b_of (q_part (by decide))) (fun r9 m9 hh => ?_)
    cases hh
    refine gw_iconst (v := 1) (pc := 42) hK dL_law_42 (by decide) ?_
    refine gw_aload_n (pc := 43) hK 0 dL_law_43 rfl rfl ?_
    refine gw_bipush (v := 10) (pc := 44) hK dL_law_44 (by decide) ?_
    refine gw_iload_n (pc := 46) hK 2 dL_law_46 rfl rfl ?_
    refine gw_iadd (pc := 47) hK dL_law_47 ?_
    rw [show (10 : Int32) + nI k = nI (10 + k) from nI_add 10 k]
    refine htk _ 48 _ _ (10 + k) dL_law_48 (by omega) (Nat.le_of_ble_eq_true rfl) ?_
    refine gw_sipush (v := 2400) (pc := 51) hK dL_law_51 (by decide) ?_
    refine gv_L_196 (pc := 54) (k := fun r m => some (r, m)) (rr := (pt (tk Ln xs (10 + k)) 2400, μ)) hK dL_law_54 (by decide) (Nat.le_of_ble_eq_true rfl) (gx_b_of (q_part (by decide))) (fun r9 m9 hh => ?_)
    cases hh
    refine gw_iadd (pc := 57) hK dL_law_57 ?_
    rw [e1, e2, show (1 : Int32) + nI j2 = nI (1 + j2) from nI_add 1 j2]
    refine gv_L_32 (pc := 58) (k := fun r m => some (r, m)) (rr := (nI k, μ1)) hK hc dL_law_58 (by decide) (Nat.le_of_ble_eq_true rfl) (gx_b_of (by rw [hkd]; exact eb)) (fun r9 m9 hh => ?_)
    cases hh
    refine gw_ghost hK ho f6 ?_
    refine gw_iload_n (pc := 61) hK 2 dL_law_61 rfl rfl ?_
    refine gw_icmp_eq_c (tgt := 67) (pc := 62) hK dL_law_62 (by decide) (fun cc => ?_) (fun cc => absurd rfl cc)
    refine gw_iinc (v := nI (k + 1)) (L' := [(2, .int (nI (k + 1))), (0, .ref b), (1, .ref (gy_a Y 6))]) (pc := 67) hK 2 dL_law_67 rfl (nI_1 k) (by decide) rfl ?_
    refine gw_goto (tgt := 24) (pc := 70) hK dL_law_70 (by decide) ?_
    refine gw_sub (L' := [(0, .ref b), (1, .ref (gy_a Y 6)), (2, .int (nI (k + 1)))]) hK [1, 2, 0] rfl ?_
    exact ih (k + 1) μ2 (by omega) hL2 h12 (PUSH_n hp h5)
set_option maxRecDepth 100000 in
set_option maxHeartbeats 40000000 in
theorem law_notes {l : Launch} {Y : gx_Y} {K : gx_KT} (hK : gx_K l RL cL_law 9 12 450 (some .boolean) Y (fun v _ => v = .int 1) K) (hkd : gy_k Y = gl_kd) (ho : gy_o Y = 6) (hc : gk_bow Y 6) {b Ln : Nat} {xs : Nat → Int32} (htk : ∀ (μ : gx_M) (pc : Nat) (L : List (Nat × Value)) (st : List Value) (k : Nat), decode cL_law pc = .ok (.invokestatic 192, 3) → k < 1000 → (st.map fun v => v.category).sum ≤ 8 → K μ (pc + 3) L (.int (tk Ln xs k) :: st) → K μ pc L (.int (nI k) :: .ref b :: st))
    (fin : ∀ μ, LSt μ → μ 0 3 = nI 5 → K μ 144 [(0, .ref b), (1, .ref (gy_a Y 6))] []) : ∀ (m k : Nat) (μ : gx_M), k + m = 14 → LSt μ → μ 0 3 = nI 5 → K μ 99 [(0, .ref b), (1, .ref (gy_a Y 6)), (2, .int (nI k))] [] := by
  intro m
  induction m with
  | zero =>
    intro k μ hk hL h5
    have e : k = 14 := by omega
    subst e
    refine gw_iload_n (pc := 99) hK 2 dL_law_99 rfl rfl ?_
    refine gw_bipush (v := 14) (pc := 100) hK dL_law_100 (by decide) ?_
    refine gw_icmp_ge_c (tgt := 144) (pc := 102) hK dL_law_102 (by decide) (fun cc => ?_) (fun cc => absurd (show (14 : Int32) ≤ nI 14 by decide) cc)
    refine gw_sub (L' := [(0, .ref b), (1, .ref (gy_a Y 6))]) hK [0, 1] rfl ?_
    exact fin μ hL h5
  | succ m ih =>
    intro k μ hk hL h5
    obtain ⟨r, μ1, μ2, eb, hs, hkk⟩ := s_note (pt (tk Ln xs (20 + k)) 600) (pt (tk Ln xs (40 + k)) 6001) μ hL.1
    have eb : fn_X6_note gl_kd μ 6 (pt (tk Ln xs (20 + k)) 600) (pt (tk Ln xs (40 + k)) 6001) = some (r, μ1) := eb
    obtain ⟨hL2, hcs⟩ := LS_step hL hs hkk
    have h52 : μ2 0 3 = nI 5 := by
      rcases hcs with ⟨_, _, q⟩ | ⟨_, q⟩
      · rw [q]; exact h5
      · exact (PUSH_5 q h5).1
    refine gw_iload_n (pc := 99) hK 2 dL_law_99 rfl rfl ?_
    refine gw_bipush (v := 14) (pc := 100) hK dL_law_100 (by decide) ?_
    refine gw_icmp_ge_c (tgt := 144) (pc := 102) hK dL_law_102 (by decide) (fun cc => absurd cc (nI_ge (b := 14) (by omega) (by decide))) (fun cc => ?_)
    refine gw_aload_n (pc := 105) hK 1 dL_law_105 rfl rfl ?_
    refine gw_aload_n (pc := 106) hK 0 dL_law_106 rfl rfl ?_
    refine gw_bipush (v := 20) (pc := 107) hK dL_law_107 (by decide) ?_
    refine gw_iload_n (pc := 109) hK 2 dL_law_109 rfl rfl ?_
    refine gw_iadd (pc := 110) hK dL_law_110 ?_
    rw [show (20 : Int32) + nI k = nI (20 + k) from nI_add 20 k]
    refine htk _ 111 _ _ (20 + k) dL_law_111 (by omega) (Nat.le_of_ble_eq_true rfl) ?_
    refine gw_sipush (v := 600) (pc := 114) hK dL_law_114 (by decide) ?_
    refine gv_L_196 (pc := 117) (k := fun r m => some (r, m)) (rr := (pt (tk Ln xs (20 + k)) 600, μ)) hK dL_law_117 (by decide) (Nat.le_of_ble_eq_true rfl) (gx_b_of (q_part (by decide))) (fun r9 m9 hh => ?_)
    cases hh
    refine gw_aload_n (pc := 120) hK 0 dL_law_120 rfl rfl ?_
    refine gw_bipush (v := 40) (pc := 121) hK dL_law_121 (by decide) ?_
    refine gw_iload_n (pc := 123) hK 2 dL_law_123 rfl rfl ?_
    refine gw_iadd (pc := 124) hK dL_law_124 ?_
    rw [show (40 : Int32) + nI k = nI (40 + k) from nI_add 40 k]
    refine htk _ 125 _ _ (40 + k) dL_law_125 (by omega) (Nat.le_of_ble_eq_true rfl) ?_
    refine gw_sipush (v := 6001) (pc := 128) hK dL_law_128 (by decide) ?_
    refine gv_L_196 (pc := 131) (k := fun r m => some (r, m)) (rr := (pt (tk Ln xs (40 + k)) 6001, μ)) hK dL_law_131 (by decide) (Nat.le_of_ble_eq_true rfl) (gx_b_of (q_part (by decide))) (fun r9 m9 hh => ?_)
    cases hh
    refine gv_L_68 (pc := 134) (k := fun r m => some (r, m)) (rr := (r, μ1)) hK hc dL_law_134 (by decide) (Nat.le_of_ble_eq_true rfl) (gx_b_of (by rw [hkd]; exact eb)) (fun r9 m9 hh => ?_)
    cases hh
    refine gw_ghost hK ho hkk.1 ?_
    refine gw_istore_n (L' := [(3, .int r), (0, .ref b), (1, .ref (gy_a Y 6)), (2, .int (nI k))]) (pc := 137) hK dL_law_137 rfl (by decide) rfl ?_
    refine gw_iinc (v := nI (k + 1)) (L' := [(2, .int (nI (k + 1))), (3, .int r), (0, .ref b), (1, .ref (gy_a Y 6))]) (pc := 138) hK 3 dL_law_138 rfl (nI_1 k) (by decide) rfl ?_
    refine gw_goto (tgt := 99) (pc := 141) hK dL_law_141 (by decide) ?_
    refine gw_sub (L' := [(0, .ref b), (1, .ref (gy_a Y 6)), (2, .int (nI (k + 1)))]) hK [2, 3, 0] rfl ?_
    exact ih (k + 1) μ2 (by omega) hL2 h52
set_option maxRecDepth 100000 in
set_option maxHeartbeats 40000000 in
theorem law_B {l : Launch} {Y : gx_Y} {K : gx_KT} (hK : gx_K l RL cL_law 9 12 450 (some .boolean) Y (fun v _ => v = .int 1) K) (hkd : gy_k Y = gl_kd) (ho : gy_o Y = 6) (hc : gk_bow Y 6) {b Ln : Nat} {xs : Nat → Int32} (htk : ∀ (μ : gx_M) (pc : Nat) (L : List (Nat × Value)) (st : List Value) (k : Nat), decode cL_law pc = .ok (.invokestatic 192, 3) → k < 1000 → (st.map fun v => v.category).sum ≤ 8 → K μ (pc + 3) L (.int (tk Ln xs k) :: st) → K μ pc L (.int (nI k) :: .ref b :: st))
    (fin : ∀ μ, LSt μ → μ 0 3 = nI 5 → K μ 153 [(0, .ref b), (1, .ref (gy_a Y 6))] []) {μ : gx_M} (hL : LSt μ) (h1 : μ 1 1 = nI 0) (h5 : μ 0 3 = nI 0) : K μ 22 [(1, .ref (gy_a Y 6)), (0, .ref b)] [] := by
  refine gw_iconst (v := 0) (pc := 22) hK dL_law_22 (by decide) ?_
  refine gw_istore_n (L' := [(2, .int 0), (1, .ref (gy_a Y 6)), (0, .ref b)]) (pc := 23) hK dL_law_23 rfl (by decide) rfl ?_
  refine gw_sub (L' := [(0, .ref b), (1, .ref (gy_a Y 6)), (2, .int 0)]) hK [2, 1, 0] rfl ?_
  refine law_bowls hK hkd ho hc htk (fun μ hL h1 h5 => ?_) 10 0 μ (by omega) hL h1 h5
  obtain ⟨e1, e2⟩ := q_bowl10 hL h1
  refine gw_aload_n (pc := 73) hK 1 dL_law_73 rfl rfl ?_
  refine gw_iconst (v := 0) (pc := 74) hK dL_law_74 (by decide) ?_
  refine gw_iconst (v := 1) (pc := 75) hK dL_law_75 (by decide) ?_
  refine gv_L_32 (pc := 76) (k := fun r m => some (r, m)) (rr := (-100003, μ)) hK hc dL_law_76 (by decide) (Nat.le_of_ble_eq_true rfl) (gx_b_of (by rw [hkd]; exact e1)) (fun r9 m9 hh => ?_)
  cases hh
  refine gw_ldc (pc := 79) hK dL_law_79 kw_k_RL_175 ?_
  refine gw_icmp_ne_c (tgt := 95) (pc := 81) hK dL_law_81 (by decide) (fun cc => absurd rfl cc) (fun cc => ?_)
  refine gw_aload_n (pc := 84) hK 1 dL_law_84 rfl rfl ?_
  refine gw_iconst (v := 0) (pc := 85) hK dL_law_85 (by decide) ?_
  refine gw_iconst (v := 0) (pc := 86) hK dL_law_86 (by decide) ?_
  refine gv_L_32 (pc := 87) (k := fun r m => some (r, m)) (rr := (-100001, μ)) hK hc dL_law_87 (by decide) (Nat.le_of_ble_eq_true rfl) (gx_b_of (by rw [hkd]; exact e2)) (fun r9 m9 hh => ?_)
  cases hh
  refine gw_ldc (pc := 90) hK dL_law_90 kw_k_RL_35 ?_
  refine gw_icmp_eq_c (tgt := 97) (pc := 92) hK dL_law_92 (by decide) (fun cc => ?_) (fun cc => absurd rfl cc)
  refine gw_iconst (v := 0) (pc := 97) hK dL_law_97 (by decide) ?_
  refine gw_istore_n (L' := [(2, .int 0), (0, .ref b), (1, .ref (gy_a Y 6))]) (pc := 98) hK dL_law_98 rfl (by decide) rfl ?_
  refine gw_sub (L' := [(0, .ref b), (1, .ref (gy_a Y 6)), (2, .int 0)]) hK [1, 2, 0] rfl ?_
  refine law_notes hK hkd ho hc htk (fun μ hL h5 => ?_) 14 0 μ (by omega) hL h5
  obtain ⟨κ, e3, f3⟩ := q_refused hL.1.1
  refine gw_aload_n (pc := 144) hK 1 dL_law_144 rfl rfl ?_
  refine gv_L_176 (pc := 145) (k := fun r m => some (r, m)) (rr := (1, κ)) hK hc dL_law_145 (by decide) (Nat.le_of_ble_eq_true rfl) (gx_b_of (by rw [hkd]; exact e3)) (fun r9 m9 hh => ?_)
  cases hh
  refine gw_if_ne_c (tgt := 153) (pc := 148) hK dL_law_148 (by decide) (fun cc => ?_) (fun cc => absurd cc (by decide))
  exact fin κ (LS_q hL (fun a ha => f3 a (by omega))) (by rw [f3 0 (by decide)]; exact h5)
set_option maxRecDepth 100000 in
set_option maxHeartbeats 40000000 in
theorem law_changes {l : Launch} {Y : gx_Y} {K : gx_KT} (hK : gx_K l RL cL_law 9 12 450 (some .boolean) Y (fun v _ => v = .int 1) K) (hkd : gy_k Y = gl_kd) (ho : gy_o Y = 6) (hc : gk_bow Y 6) {b Ln : Nat} {xs : Nat → Int32} (hw : gk_o Y 187 10) (htk : ∀ (μ : gx_M) (pc : Nat) (L : List (Nat × Value)) (st : List Value) (k : Nat), decode cL_law pc = .ok (.invokestatic 192, 3) → k < 1000 → (st.map fun v => v.category).sum ≤ 8 → K μ (pc + 3) L (.int (tk Ln xs k) :: st) → K μ pc L (.int (nI k) :: .ref b :: st))
    (fin : ∀ μ c, c ≤ 24 → LSt μ → μ 0 3 = nI 5 → WAS μ c → K μ 551 [(0, .ref b), (1, .ref (gy_a Y 6)), (2, .ref (gy_a Y 187)), (3, .int (nI c))] []) : ∀ (m k c : Nat) (μ : gx_M), k + m = 24 → c ≤ k → LSt μ → μ 0 3 = nI 5 → WAS μ c → K μ 163 [(0, .ref b), (1, .ref (gy_a Y 6)), (2, .ref (gy_a Y 187)), (3, .int (nI c)), (4, .int (nI k))] [] := by
  intro m
  induction m with
  | zero =>
    intro k c μ hk hck hL h5 hW
    have e : k = 24 := by omega
    subst e
    refine gw_iload (pc := 163) hK 4 dL_law_163 rfl ?_
    refine gw_bipush (v := 24) (pc := 165) hK dL_law_165 (by decide) ?_
    refine gw_icmp_ge_c (tgt := 551) (pc := 167) hK dL_law_167 (by decide) (fun cc => ?_) (fun cc => absurd (show (24 : Int32) ≤ nI 24 by decide) cc)
    refine gw_sub (L' := [(0, .ref b), (1, .ref (gy_a Y 6)), (2, .ref (gy_a Y 187)), (3, .int (nI c))]) hK [0, 1, 2, 3] rfl ?_
    exact fin μ c hck hL h5 hW
  | succ m ih =>
    intro k c μ hk hck hL h5 hW
    have tail : ∀ (c' : Nat) (μ2 : gx_M), c' ≤ k + 1 → LSt μ2 → μ2 0 3 = nI 5 → WAS μ2 c' → K μ2 507 [(0, .ref b), (1, .ref (gy_a Y 6)), (2, .ref (gy_a Y 187)), (3, .int (nI c')), (4, .int (nI k))] [] := by
      intro c' μ2 hc' hL2 h52 hW2
      obtain ⟨a0, a1, a2, a3, a4, acc⟩ := q_acc hL2
      refine gw_aload_n (pc := 507) hK 1 dL_law_507 rfl rfl ?_
      refine gw_bipush (v := 20) (pc := 508) hK dL_law_508 (by decide) ?_
      refine gv_L_13 (pc := 510) (k := fun r m => some (r, m)) (rr := (μ2 1 3, μ2)) hK hc dL_law_510 (by decide) (Nat.le_of_ble_eq_true rfl) (gx_b_of (by rw [hkd]; exact a0)) (fun r9 m9 hh => ?_)
      cases hh
      refine gw_aload_n (pc := 513) hK 1 dL_law_513 rfl rfl ?_
      refine gw_bipush (v := 21) (pc := 514) hK dL_law_514 (by decide) ?_
      refine gv_L_13 (pc := 516) (k := fun r m => some (r, m)) (rr := (psf (fun b => μ2 1 (11 + 5 * b + 2)) 0 (μ2 1 1).toNatClampNeg, μ2)) hK hc dL_law_516 (by decide) (Nat.le_of_ble_eq_true rfl) (gx_b_of (by rw [hkd]; exact a1)) (fun r9 m9 hh => ?_)
      cases hh
      refine gw_aload_n (pc := 519) hK 1 dL_law_519 rfl rfl ?_
      refine gw_bipush (v := 22) (pc := 520) hK dL_law_520 (by decide) ?_
      refine gv_L_13 (pc := 522) (k := fun r m => some (r, m)) (rr := (μ2 1 4, μ2)) hK hc dL_law_522 (by decide) (Nat.le_of_ble_eq_true rfl) (gx_b_of (by rw [hkd]; exact a2)) (fun r9 m9 hh => ?_)
      cases hh
      refine gw_iadd (pc := 525) hK dL_law_525 ?_
      refine gw_aload_n (pc := 526) hK 1 dL_law_526 rfl rfl ?_
      refine gw_bipush (v := 23) (pc := 527) hK dL_law_527 (by decide) ?_
      refine gv_L_13 (pc := 529) (k := fun r m => some (r, m)) (rr := (μ2 1 5, μ2)) hK hc dL_law_529 (by decide) (Nat.le_of_ble_eq_true rfl) (gx_b_of (by rw [hkd]; exact a3)) (fun r9 m9 hh => ?_)
      cases hh
      refine gw_iadd (pc := 532) hK dL_law_532 ?_
      refine gw_aload_n (pc := 533) hK 1 dL_law_533 rfl rfl ?_
      refine gw_bipush (v := 24) (pc := 534) hK dL_law_534 (by decide) ?_
      refine gv_L_13 (pc := 536) (k := fun r m => some (r, m)) (rr := (μ2 1 6, μ2)) hK hc dL_law_536 (by decide) (Nat.le_of_ble_eq_true rfl) (gx_b_of (by rw [hkd]; exact a4)) (fun r9 m9 hh => ?_)
      cases hh
      refine gw_iadd (pc := 539) hK dL_law_539 ?_
      refine gw_icmp_eq_c (tgt := 545) (pc := 540) hK dL_law_540 (by decide) (fun cc => ?_) (fun cc => absurd acc cc)
      refine gw_iinc (v := nI (k + 1)) (L' := [(4, .int (nI (k + 1))), (0, .ref b), (1, .ref (gy_a Y 6)), (2, .ref (gy_a Y 187)), (3, .int (nI c'))]) (pc := 545) hK 4 dL_law_545 rfl (nI_1 k) (by decide) rfl ?_
      refine gw_goto (tgt := 163) (pc := 548) hK dL_law_548 (by decide) ?_
      refine gw_sub (L' := [(0, .ref b), (1, .ref (gy_a Y 6)), (2, .ref (gy_a Y 187)), (3, .int (nI c')), (4, .int (nI (k + 1)))]) hK [1, 2, 3, 4, 0] rfl ?_
      exact ih (k + 1) c' μ2 (by omega) hc' hL2 h52 hW2
    obtain ⟨V, hV⟩ : ∃ V, V = gx_ul μ 187 c (hv (cut (μ 1))) := ⟨_, rfl⟩
    have fV : ∀ a, a ≠ 187 → V a = μ a := fun a ha => by rw [hV]; exact gx_ul_n ha
    have hLV : LSt V := LS_q hL (fun a ha => fV a (by omega))
    have h5V : V 0 3 = nI 5 := by rw [fV 0 (by decide)]; exact h5
    have join : ∀ (r : Int32) (μ1 μ2 : gx_M), Sim μ2 → KD V r μ1 μ2 → K μ1 472 [(7, .int (pt (tk Ln xs (60 + k)) 12)), (6, .int (pt ((tk Ln xs (60 + k)) >>> (4 &&& 31)) 10)), (5, .int (tk Ln xs (60 + k))), (0, .ref b), (1, .ref (gy_a Y 6)), (2, .ref (gy_a Y 187)), (3, .int (nI c)), (4, .int (nI k))] [.int r] := by
      intro r μ1 μ2 hs hkk
      obtain ⟨hL2, hcs⟩ := LS_step hLV hs hkk
      refine gw_ghost hK ho hkk.1 ?_
      refine gw_istore (L' := [(8, .int r), (7, .int (pt (tk Ln xs (60 + k)) 12)), (6, .int (pt ((tk Ln xs (60 + k)) >>> (4 &&& 31)) 10)), (5, .int (tk Ln xs (60 + k))), (0, .ref b), (1, .ref (gy_a Y 6)), (2, .ref (gy_a Y 187)), (3, .int (nI c)), (4, .int (nI k))]) (pc := 472) hK dL_law_472 (by decide) rfl ?_
      refine gw_iload_n (pc := 474) hK 7 dL_law_474 rfl rfl ?_
      refine gw_iload (pc := 475) hK 0 dL_law_475 rfl ?_
      refine gw_ldc (pc := 477) hK dL_law_477 kw_k_RL_199 ?_
      rcases hcs with ⟨r1, _, q2⟩ | ⟨r1, q2⟩
      · subst q2
        refine gw_icmp_le_c (tgt := 486) (pc := 479) hK dL_law_479 (by decide) (fun cc => ?_) (fun cc => absurd (Int32.le_of_lt r1) cc)
        refine gw_iconst (v := 0) (pc := 486) hK dL_law_486 (by decide) ?_
        refine gw_iadd (pc := 487) hK dL_law_487 ?_
        refine gw_istore_n (L' := [(3, .int (nI c + 0)), (8, .int r), (7, .int (pt (tk Ln xs (60 + k)) 12)), (6, .int (pt ((tk Ln xs (60 + k)) >>> (4 &&& 31)) 10)), (5, .int (tk Ln xs (60 + k))), (0, .ref b), (1, .ref (gy_a Y 6)), (2, .ref (gy_a Y 187)), (4, .int (nI k))]) (pc := 488) hK dL_law_488 rfl (by decide) rfl ?_
        rw [Int32.add_zero]
        refine gw_iload (pc := 489) hK 1 dL_law_489 rfl ?_
        refine gw_ldc (pc := 491) hK dL_law_491 kw_k_RL_199 ?_
        refine gw_icmp_ge_c (tgt := 507) (pc := 493) hK dL_law_493 (by decide) (fun cc => (i_le_lt cc r1).elim) (fun cc => ?_)
        refine gw_aload_n (pc := 496) hK 6 dL_law_496 rfl rfl ?_
        refine gv_L_85 (pc := 497) (k := fun r m => some (r, m)) (rr := (hv (cut (μ2 1)), μ2)) hK hc dL_law_497 (by decide) (Nat.le_of_ble_eq_true rfl) (gx_bL_of (by rw [hkd]; exact q_stateC hL2)) (fun r9 m9 hh => ?_)
        cases hh
        refine gw_aload_n (pc := 500) hK 7 dL_law_500 rfl rfl ?_
        refine gw_iload_n (pc := 501) hK 0 dL_law_501 rfl rfl ?_
        refine gw_lald (pc := 502) (a := some ()) (rr := ()) hK hw dL_law_502 (if_pos (pg_ix (by omega) (by decide))) (fun _ => ?_)
        rw [nI_clamp (by omega)]
        refine gw_lcmp (pc := 503) hK dL_law_503 ?_
        have hz : lg_cmp (hv (cut (μ2 1))) (gx_lng (μ2 187) c) = 0 := by
            have q9 : gx_lng (μ2 187) c = hv (cut (μ2 1)) := by rw [fV 1 (by decide)]; rw [hV, lng_s]
            rw [q9]
            exact lg_cmp_self _
        refine gw_if_ne_c (tgt := 543) (pc := 504) hK dL_law_504 (by decide) (fun cc => absurd hz cc) (fun cc => ?_)
        refine gw_sub (L' := [(0, .ref b), (1, .ref (gy_a Y 6)), (2, .ref (gy_a Y 187)), (3, .int (nI c)), (4, .int (nI k))]) hK [5, 6, 7, 0, 8] rfl ?_
        exact tail c μ2 (by omega) hL2 h5V (by rw [hV]; exact WAS_err hW)
      · refine gw_icmp_le_c (tgt := 486) (pc := 479) hK dL_law_479 (by decide) (fun cc => (i_big r1 cc).elim) (fun cc => ?_)
        refine gw_iconst (v := 1) (pc := 482) hK dL_law_482 (by decide) ?_
        refine gw_goto (tgt := 487) (pc := 483) hK dL_law_483 (by decide) ?_
        refine gw_iadd (pc := 487) hK dL_law_487 ?_
        refine gw_istore_n (L' := [(3, .int (nI c + 1)), (8, .int r), (7, .int (pt (tk Ln xs (60 + k)) 12)), (6, .int (pt ((tk Ln xs (60 + k)) >>> (4 &&& 31)) 10)), (5, .int (tk Ln xs (60 + k))), (0, .ref b), (1, .ref (gy_a Y 6)), (2, .ref (gy_a Y 187)), (4, .int (nI k))]) (pc := 488) hK dL_law_488 rfl (by decide) rfl ?_
        rw [nI_1]
        refine gw_iload (pc := 489) hK 1 dL_law_489 rfl ?_
        refine gw_ldc (pc := 491) hK dL_law_491 kw_k_RL_199 ?_
        refine gw_icmp_ge_c (tgt := 507) (pc := 493) hK dL_law_493 (by decide) (fun cc => ?_) (fun cc => absurd (Int32.le_trans (by decide) r1) cc)
        refine gw_sub (L' := [(0, .ref b), (1, .ref (gy_a Y 6)), (2, .ref (gy_a Y 187)), (3, .int (nI (c + 1))), (4, .int (nI k))]) hK [5, 6, 7, 0, 8] rfl ?_
        exact tail (c + 1) μ2 (by omega) hL2 (PUSH_5 q2 h5V).1 (WAS_push hW (by rw [← hV]; exact q2) h5 (by rw [← hV, hkk.1 187 (by decide), hkk.2.1 187 (by decide)]))
    refine gw_iload (pc := 163) hK 4 dL_law_163 rfl ?_
    refine gw_bipush (v := 24) (pc := 165) hK dL_law_165 (by decide) ?_
    refine gw_icmp_ge_c (tgt := 551) (pc := 167) hK dL_law_167 (by decide) (fun cc => absurd cc (nI_ge (b := 24) (by omega) (by decide))) (fun cc => ?_)
    refine gw_aload_n (pc := 170) hK 0 dL_law_170 rfl rfl ?_
    refine gw_bipush (v := 60) (pc := 171) hK dL_law_171 (by decide) ?_
    refine gw_iload (pc := 173) hK 4 dL_law_173 rfl ?_
    refine gw_iadd (pc := 175) hK dL_law_175 ?_
    rw [show (60 : Int32) + nI k = nI (60 + k) from nI_add 60 k]
    refine htk _ 176 _ _ (60 + k) dL_law_176 (by omega) (Nat.le_of_ble_eq_true rfl) ?_
    refine gw_istore (L' := [(5, .int (tk Ln xs (60 + k))), (0, .ref b), (1, .ref (gy_a Y 6)), (2, .ref (gy_a Y 187)), (3, .int (nI c)), (4, .int (nI k))]) (pc := 179) hK dL_law_179 (by decide) rfl ?_
    refine gw_iload (pc := 181) hK 0 dL_law_181 rfl ?_
    refine gw_iconst (v := 4) (pc := 183) hK dL_law_183 (by decide) ?_
    refine gw_ishr (pc := 184) hK dL_law_184 ?_
    refine gw_bipush (v := 10) (pc := 185) hK dL_law_185 (by decide) ?_
    refine gv_L_196 (pc := 187) (k := fun r m => some (r, m)) (rr := (pt (tk Ln xs (60 + k) >>> (4 &&& 31)) 10, μ)) hK dL_law_187 (by decide) (Nat.le_of_ble_eq_true rfl) (gx_b_of (q_part (by decide))) (fun r9 m9 hh => ?_)
    cases hh
    refine gw_istore (L' := [(6, .int (pt (tk Ln xs (60 + k) >>> (4 &&& 31)) 10)), (5, .int (tk Ln xs (60 + k))), (0, .ref b), (1, .ref (gy_a Y 6)), (2, .ref (gy_a Y 187)), (3, .int (nI c)), (4, .int (nI k))]) (pc := 190) hK dL_law_190 (by decide) rfl ?_
    refine gw_iload (pc := 192) hK 1 dL_law_192 rfl ?_
    refine gw_bipush (v := 12) (pc := 194) hK dL_law_194 (by decide) ?_
    refine gv_L_196 (pc := 196) (k := fun r m => some (r, m)) (rr := (pt (tk Ln xs (60 + k)) 12, μ)) hK dL_law_196 (by decide) (Nat.le_of_ble_eq_true rfl) (gx_b_of (q_part (by decide))) (fun r9 m9 hh => ?_)
    cases hh
    refine gw_istore (L' := [(7, .int (pt (tk Ln xs (60 + k)) 12)), (6, .int (pt (tk Ln xs (60 + k) >>> (4 &&& 31)) 10)), (5, .int (tk Ln xs (60 + k))), (0, .ref b), (1, .ref (gy_a Y 6)), (2, .ref (gy_a Y 187)), (3, .int (nI c)), (4, .int (nI k))]) (pc := 199) hK dL_law_199 (by decide) rfl ?_
    refine gw_aload_n (pc := 201) hK 5 dL_law_201 rfl rfl ?_
    refine gw_iload_n (pc := 202) hK 6 dL_law_202 rfl rfl ?_
    refine gw_aload_n (pc := 203) hK 4 dL_law_203 rfl rfl ?_
    refine gv_L_85 (pc := 204) (k := fun r m => some (r, m)) (rr := (hv (cut (μ 1)), μ)) hK hc dL_law_204 (by decide) (Nat.le_of_ble_eq_true rfl) (gx_bL_of (by rw [hkd]; exact q_stateC hL)) (fun r9 m9 hh => ?_)
    cases hh
    refine gw_last (pc := 207) (a := some ()) (rr := ()) hK hw dL_law_207 (if_pos (pg_ix (by omega) (by decide))) (fun _ => ?_)
    rw [nI_clamp (by omega), ← hV]
    refine gw_iload (pc := 208) hK 0 dL_law_208 rfl ?_
    refine gw_iconst (v := 2) (pc := 210) hK dL_law_210 (by decide) ?_
    refine gw_icmp_ge_c (tgt := 236) (pc := 211) hK dL_law_211 (by decide) (fun cc => ?_) (fun cc => ?_)
    rotate_left
    · refine gw_aload_n (pc := 214) hK 4 dL_law_214 rfl rfl ?_
      refine gw_iload (pc := 215) hK 1 dL_law_215 rfl ?_
      refine gw_iconst (v := 1) (pc := 217) hK dL_law_217 (by decide) ?_
      refine gw_iload (pc := 218) hK 2 dL_law_218 rfl ?_
      refine gw_bipush (v := 7) (pc := 220) hK dL_law_220 (by decide) ?_
      refine gw_ishr (pc := 222) hK dL_law_222 ?_
      refine gw_sipush (v := 600) (pc := 223) hK dL_law_223 (by decide) ?_
      refine gv_L_196 (pc := 226) (k := fun r m => some (r, m)) (rr := (pt (tk Ln xs (60 + k) >>> (7 &&& 31)) 600, V)) hK dL_law_226 (by decide) (Nat.le_of_ble_eq_true rfl) (gx_b_of (q_part (by decide))) (fun r9 m9 hh => ?_)
      cases hh
      refine gw_iadd (pc := 229) hK dL_law_229 ?_
      obtain ⟨r, μ1, μ2, eb, hs, hkk⟩ := s_pour (pt (tk Ln xs (60 + k) >>> (4 &&& 31)) 10) ((1 : Int32) + pt (tk Ln xs (60 + k) >>> (7 &&& 31)) 600) V hLV.1
      have eb : fn_X6_pour gl_kd V 6 (pt (tk Ln xs (60 + k) >>> (4 &&& 31)) 10) ((1 : Int32) + pt (tk Ln xs (60 + k) >>> (7 &&& 31)) 600) = some (r, μ1) := eb
      refine gv_L_42 (pc := 230) (k := fun r m => some (r, m)) (rr := (r, μ1)) hK hc dL_law_230 (by decide) (Nat.le_of_ble_eq_true rfl) (gx_b_of (by rw [hkd]; exact eb)) (fun r9 m9 hh => ?_)
      cases hh
      refine gw_goto (tgt := 472) (pc := 233) hK dL_law_233 (by decide) ?_
      exact join r μ1 μ2 hs hkk
    refine gw_iload (pc := 236) hK 0 dL_law_236 rfl ?_
    refine gw_iconst (v := 2) (pc := 238) hK dL_law_238 (by decide) ?_
    refine gw_icmp_ne_c (tgt := 264) (pc := 239) hK dL_law_239 (by decide) (fun cc => ?_) (fun cc => ?_)
    rotate_left
    · refine gw_aload_n (pc := 242) hK 4 dL_law_242 rfl rfl ?_
      refine gw_iload (pc := 243) hK 1 dL_law_243 rfl ?_
      refine gw_iconst (v := 1) (pc := 245) hK dL_law_245 (by decide) ?_
      refine gw_iload (pc := 246) hK 2 dL_law_246 rfl ?_
      refine gw_bipush (v := 7) (pc := 248) hK dL_law_248 (by decide) ?_
      refine gw_ishr (pc := 250) hK dL_law_250 ?_
      refine gw_sipush (v := 300) (pc := 251) hK dL_law_251 (by decide) ?_
      refine gv_L_196 (pc := 254) (k := fun r m => some (r, m)) (rr := (pt (tk Ln xs (60 + k) >>> (7 &&& 31)) 300, V)) hK dL_law_254 (by decide) (Nat.le_of_ble_eq_true rfl) (gx_b_of (q_part (by decide))) (fun r9 m9 hh => ?_)
      cases hh
      refine gw_iadd (pc := 257) hK dL_law_257 ?_
      obtain ⟨r, μ1, μ2, eb, hs, hkk⟩ := s_spill (pt (tk Ln xs (60 + k) >>> (4 &&& 31)) 10) ((1 : Int32) + pt (tk Ln xs (60 + k) >>> (7 &&& 31)) 300) V hLV.1
      have eb : fn_X6_spill gl_kd V 6 (pt (tk Ln xs (60 + k) >>> (4 &&& 31)) 10) ((1 : Int32) + pt (tk Ln xs (60 + k) >>> (7 &&& 31)) 300) = some (r, μ1) := eb
      refine gv_L_45 (pc := 258) (k := fun r m => some (r, m)) (rr := (r, μ1)) hK hc dL_law_258 (by decide) (Nat.le_of_ble_eq_true rfl) (gx_b_of (by rw [hkd]; exact eb)) (fun r9 m9 hh => ?_)
      cases hh
      refine gw_goto (tgt := 472) (pc := 261) hK dL_law_261 (by decide) ?_
      exact join r μ1 μ2 hs hkk
    refine gw_iload (pc := 264) hK 0 dL_law_264 rfl ?_
    refine gw_iconst (v := 3) (pc := 266) hK dL_law_266 (by decide) ?_
    refine gw_icmp_ne_c (tgt := 290) (pc := 267) hK dL_law_267 (by decide) (fun cc => ?_) (fun cc => ?_)
    rotate_left
    · refine gw_aload_n (pc := 270) hK 4 dL_law_270 rfl rfl ?_
      refine gw_iload (pc := 271) hK 1 dL_law_271 rfl ?_
      refine gw_iload (pc := 273) hK 2 dL_law_273 rfl ?_
      refine gw_bipush (v := 7) (pc := 275) hK dL_law_275 (by decide) ?_
      refine gw_ishr (pc := 277) hK dL_law_277 ?_
      refine gw_sipush (v := 1001) (pc := 278) hK dL_law_278 (by decide) ?_
      refine gv_L_196 (pc := 281) (k := fun r m => some (r, m)) (rr := (pt (tk Ln xs (60 + k) >>> (7 &&& 31)) 1001, V)) hK dL_law_281 (by decide) (Nat.le_of_ble_eq_true rfl) (gx_b_of (q_part (by decide))) (fun r9 m9 hh => ?_)
      cases hh
      obtain ⟨r, μ1, μ2, eb, hs, hkk⟩ := s_crack (pt (tk Ln xs (60 + k) >>> (4 &&& 31)) 10) (pt (tk Ln xs (60 + k) >>> (7 &&& 31)) 1001) V hLV.1
      have eb : fn_X6_crack gl_kd V 6 (pt (tk Ln xs (60 + k) >>> (4 &&& 31)) 10) (pt (tk Ln xs (60 + k) >>> (7 &&& 31)) 1001) = some (r, μ1) := eb
      refine gv_L_48 (pc := 284) (k := fun r m => some (r, m)) (rr := (r, μ1)) hK hc dL_law_284 (by decide) (Nat.le_of_ble_eq_true rfl) (gx_b_of (by rw [hkd]; exact eb)) (fun r9 m9 hh => ?_)
      cases hh
      refine gw_goto (tgt := 472) (pc := 287) hK dL_law_287 (by decide) ?_
      exact join r μ1 μ2 hs hkk
    refine gw_iload (pc := 290) hK 0 dL_law_290 rfl ?_
    refine gw_iconst (v := 4) (pc := 292) hK dL_law_292 (by decide) ?_
    refine gw_icmp_ne_c (tgt := 316) (pc := 293) hK dL_law_293 (by decide) (fun cc => ?_) (fun cc => ?_)
    rotate_left
    · refine gw_aload_n (pc := 296) hK 4 dL_law_296 rfl rfl ?_
      refine gw_iload (pc := 297) hK 1 dL_law_297 rfl ?_
      refine gw_iload (pc := 299) hK 2 dL_law_299 rfl ?_
      refine gw_bipush (v := 7) (pc := 301) hK dL_law_301 (by decide) ?_
      refine gw_ishr (pc := 303) hK dL_law_303 ?_
      refine gw_sipush (v := 1001) (pc := 304) hK dL_law_304 (by decide) ?_
      refine gv_L_196 (pc := 307) (k := fun r m => some (r, m)) (rr := (pt (tk Ln xs (60 + k) >>> (7 &&& 31)) 1001, V)) hK dL_law_307 (by decide) (Nat.le_of_ble_eq_true rfl) (gx_b_of (q_part (by decide))) (fun r9 m9 hh => ?_)
      cases hh
      obtain ⟨r, μ1, μ2, eb, hs, hkk⟩ := s_mark (pt (tk Ln xs (60 + k) >>> (4 &&& 31)) 10) (pt (tk Ln xs (60 + k) >>> (7 &&& 31)) 1001) V hLV.1
      have eb : fn_X6_mark gl_kd V 6 (pt (tk Ln xs (60 + k) >>> (4 &&& 31)) 10) (pt (tk Ln xs (60 + k) >>> (7 &&& 31)) 1001) = some (r, μ1) := eb
      refine gv_L_51 (pc := 310) (k := fun r m => some (r, m)) (rr := (r, μ1)) hK hc dL_law_310 (by decide) (Nat.le_of_ble_eq_true rfl) (gx_b_of (by rw [hkd]; exact eb)) (fun r9 m9 hh => ?_)
      cases hh
      refine gw_goto (tgt := 472) (pc := 313) hK dL_law_313 (by decide) ?_
      exact join r μ1 μ2 hs hkk
    refine gw_iload (pc := 316) hK 0 dL_law_316 rfl ?_
    refine gw_iconst (v := 5) (pc := 318) hK dL_law_318 (by decide) ?_
    refine gw_icmp_ne_c (tgt := 343) (pc := 319) hK dL_law_319 (by decide) (fun cc => ?_) (fun cc => ?_)
    rotate_left
    · refine gw_aload_n (pc := 322) hK 4 dL_law_322 rfl rfl ?_
      refine gw_iload (pc := 323) hK 1 dL_law_323 rfl ?_
      refine gw_iconst (v := 4) (pc := 325) hK dL_law_325 (by decide) ?_
      refine gw_irem (pc := 326) hK dL_law_326 (by decide) ?_
      refine gw_iload (pc := 327) hK 2 dL_law_327 rfl ?_
      refine gw_bipush (v := 7) (pc := 329) hK dL_law_329 (by decide) ?_
      refine gw_ishr (pc := 331) hK dL_law_331 ?_
      refine gw_bipush (v := 30) (pc := 332) hK dL_law_332 (by decide) ?_
      refine gv_L_196 (pc := 334) (k := fun r m => some (r, m)) (rr := (pt (tk Ln xs (60 + k) >>> (7 &&& 31)) 30, V)) hK dL_law_334 (by decide) (Nat.le_of_ble_eq_true rfl) (gx_b_of (q_part (by decide))) (fun r9 m9 hh => ?_)
      cases hh
      obtain ⟨r, μ1, μ2, eb, hs, hkk⟩ := s_set (pt (tk Ln xs (60 + k) >>> (4 &&& 31)) 10 - pt (tk Ln xs (60 + k) >>> (4 &&& 31)) 10 / 4 * 4) (pt (tk Ln xs (60 + k) >>> (7 &&& 31)) 30) V hLV.1
      have eb : fn_X6_set gl_kd V 6 (pt (tk Ln xs (60 + k) >>> (4 &&& 31)) 10 - pt (tk Ln xs (60 + k) >>> (4 &&& 31)) 10 / 4 * 4) (pt (tk Ln xs (60 + k) >>> (7 &&& 31)) 30) = some (r, μ1) := eb
      refine gv_L_96 (pc := 337) (k := fun r m => some (r, m)) (rr := (r, μ1)) hK hc dL_law_337 (by decide) (Nat.le_of_ble_eq_true rfl) (gx_b_of (by rw [hkd]; exact eb)) (fun r9 m9 hh => ?_)
      cases hh
      refine gw_goto (tgt := 472) (pc := 340) hK dL_law_340 (by decide) ?_
      exact join r μ1 μ2 hs hkk
    refine gw_iload (pc := 343) hK 0 dL_law_343 rfl ?_
    refine gw_bipush (v := 6) (pc := 345) hK dL_law_345 (by decide) ?_
    refine gw_icmp_ne_c (tgt := 379) (pc := 347) hK dL_law_347 (by decide) (fun cc => ?_) (fun cc => ?_)
    rotate_left
    · refine gw_aload_n (pc := 350) hK 4 dL_law_350 rfl rfl ?_
      refine gw_iload (pc := 351) hK 2 dL_law_351 rfl ?_
      refine gw_bipush (v := 7) (pc := 353) hK dL_law_353 (by decide) ?_
      refine gw_ishr (pc := 355) hK dL_law_355 ?_
      refine gw_sipush (v := 3601) (pc := 356) hK dL_law_356 (by decide) ?_
      refine gv_L_196 (pc := 359) (k := fun r m => some (r, m)) (rr := (pt (tk Ln xs (60 + k) >>> (7 &&& 31)) 3601, V)) hK dL_law_359 (by decide) (Nat.le_of_ble_eq_true rfl) (gx_b_of (q_part (by decide))) (fun r9 m9 hh => ?_)
      cases hh
      refine gw_iload (pc := 362) hK 2 dL_law_362 rfl ?_
      refine gw_bipush (v := 8) (pc := 364) hK dL_law_364 (by decide) ?_
      refine gw_ishr (pc := 366) hK dL_law_366 ?_
      refine gw_sipush (v := 6001) (pc := 367) hK dL_law_367 (by decide) ?_
      refine gv_L_196 (pc := 370) (k := fun r m => some (r, m)) (rr := (pt (tk Ln xs (60 + k) >>> (8 &&& 31)) 6001, V)) hK dL_law_370 (by decide) (Nat.le_of_ble_eq_true rfl) (gx_b_of (q_part (by decide))) (fun r9 m9 hh => ?_)
      cases hh
      obtain ⟨r, μ1, μ2, eb, hs, hkk⟩ := s_note (pt (tk Ln xs (60 + k) >>> (7 &&& 31)) 3601) (pt (tk Ln xs (60 + k) >>> (8 &&& 31)) 6001) V hLV.1
      have eb : fn_X6_note gl_kd V 6 (pt (tk Ln xs (60 + k) >>> (7 &&& 31)) 3601) (pt (tk Ln xs (60 + k) >>> (8 &&& 31)) 6001) = some (r, μ1) := eb
      refine gv_L_68 (pc := 373) (k := fun r m => some (r, m)) (rr := (r, μ1)) hK hc dL_law_373 (by decide) (Nat.le_of_ble_eq_true rfl) (gx_b_of (by rw [hkd]; exact eb)) (fun r9 m9 hh => ?_)
      cases hh
      refine gw_goto (tgt := 472) (pc := 376) hK dL_law_376 (by decide) ?_
      exact join r μ1 μ2 hs hkk
    refine gw_iload (pc := 379) hK 0 dL_law_379 rfl ?_
    refine gw_bipush (v := 7) (pc := 381) hK dL_law_381 (by decide) ?_
    refine gw_icmp_ne_c (tgt := 395) (pc := 383) hK dL_law_383 (by decide) (fun cc => ?_) (fun cc => ?_)
    rotate_left
    · refine gw_aload_n (pc := 386) hK 4 dL_law_386 rfl rfl ?_
      refine gw_iload (pc := 387) hK 1 dL_law_387 rfl ?_
      obtain ⟨r, μ1, μ2, eb, hs, hkk⟩ := s_drop (pt (tk Ln xs (60 + k) >>> (4 &&& 31)) 10) V hLV.1
      have eb : fn_X6_drop gl_kd V 6 (pt (tk Ln xs (60 + k) >>> (4 &&& 31)) 10) = some (r, μ1) := eb
      refine gv_L_78 (pc := 389) (k := fun r m => some (r, m)) (rr := (r, μ1)) hK hc dL_law_389 (by decide) (Nat.le_of_ble_eq_true rfl) (gx_b_of (by rw [hkd]; exact eb)) (fun r9 m9 hh => ?_)
      cases hh
      refine gw_goto (tgt := 472) (pc := 392) hK dL_law_392 (by decide) ?_
      exact join r μ1 μ2 hs hkk
    refine gw_iload (pc := 395) hK 0 dL_law_395 rfl ?_
    refine gw_bipush (v := 8) (pc := 397) hK dL_law_397 (by decide) ?_
    refine gw_icmp_ne_c (tgt := 425) (pc := 399) hK dL_law_399 (by decide) (fun cc => ?_) (fun cc => ?_)
    rotate_left
    · refine gw_aload_n (pc := 402) hK 4 dL_law_402 rfl rfl ?_
      refine gw_iconst (v := 0) (pc := 403) hK dL_law_403 (by decide) ?_
      refine gw_iload (pc := 404) hK 1 dL_law_404 rfl ?_
      refine gw_iconst (v := 1) (pc := 406) hK dL_law_406 (by decide) ?_
      refine gw_iload (pc := 407) hK 2 dL_law_407 rfl ?_
      refine gw_bipush (v := 7) (pc := 409) hK dL_law_409 (by decide) ?_
      refine gw_ishr (pc := 411) hK dL_law_411 ?_
      refine gw_sipush (v := 200) (pc := 412) hK dL_law_412 (by decide) ?_
      refine gv_L_196 (pc := 415) (k := fun r m => some (r, m)) (rr := (pt (tk Ln xs (60 + k) >>> (7 &&& 31)) 200, V)) hK dL_law_415 (by decide) (Nat.le_of_ble_eq_true rfl) (gx_b_of (q_part (by decide))) (fun r9 m9 hh => ?_)
      cases hh
      refine gw_isub (pc := 418) hK dL_law_418 ?_
      obtain ⟨r, μ1, μ2, eb, hs, hkk⟩ := s_transpose 0 (pt (tk Ln xs (60 + k) >>> (4 &&& 31)) 10) ((1 : Int32) - pt (tk Ln xs (60 + k) >>> (7 &&& 31)) 200) V hLV.1
      have eb : fn_X6_transpose gl_kd V 6 0 (pt (tk Ln xs (60 + k) >>> (4 &&& 31)) 10) ((1 : Int32) - pt (tk Ln xs (60 + k) >>> (7 &&& 31)) 200) = some (r, μ1) := eb
      refine gv_L_71 (pc := 419) (k := fun r m => some (r, m)) (rr := (r, μ1)) hK hc dL_law_419 (by decide) (Nat.le_of_ble_eq_true rfl) (gx_b_of (by rw [hkd]; exact eb)) (fun r9 m9 hh => ?_)
      cases hh
      refine gw_goto (tgt := 472) (pc := 422) hK dL_law_422 (by decide) ?_
      exact join r μ1 μ2 hs hkk
    refine gw_iload (pc := 425) hK 0 dL_law_425 rfl ?_
    refine gw_bipush (v := 9) (pc := 427) hK dL_law_427 (by decide) ?_
    refine gw_icmp_ne_c (tgt := 439) (pc := 429) hK dL_law_429 (by decide) (fun cc => ?_) (fun cc => ?_)
    rotate_left
    · refine gw_aload_n (pc := 432) hK 4 dL_law_432 rfl rfl ?_
      obtain ⟨r, μ1, μ2, eb, hs, hkk⟩ := s_rewind V hLV.1
      have eb : fn_X6_rewind gl_kd V 6 = some (r, μ1) := eb
      refine gv_L_182 (pc := 433) (k := fun r m => some (r, m)) (rr := (r, μ1)) hK hc dL_law_433 (by decide) (Nat.le_of_ble_eq_true rfl) (gx_b_of (by rw [hkd]; exact eb)) (fun r9 m9 hh => ?_)
      cases hh
      refine gw_goto (tgt := 472) (pc := 436) hK dL_law_436 (by decide) ?_
      exact join r μ1 μ2 hs hkk
    refine gw_iload (pc := 439) hK 0 dL_law_439 rfl ?_
    refine gw_bipush (v := 10) (pc := 441) hK dL_law_441 (by decide) ?_
    refine gw_icmp_ne_c (tgt := 455) (pc := 443) hK dL_law_443 (by decide) (fun cc => ?_) (fun cc => ?_)
    rotate_left
    · refine gw_aload_n (pc := 446) hK 4 dL_law_446 rfl rfl ?_
      refine gw_iload (pc := 447) hK 1 dL_law_447 rfl ?_
      obtain ⟨r, μ1, μ2, eb, hs, hkk⟩ := s_remove (pt (tk Ln xs (60 + k) >>> (4 &&& 31)) 10) V hLV.1
      have eb : fn_X6_remove gl_kd V 6 (pt (tk Ln xs (60 + k) >>> (4 &&& 31)) 10) = some (r, μ1) := eb
      refine gv_L_39 (pc := 449) (k := fun r m => some (r, m)) (rr := (r, μ1)) hK hc dL_law_449 (by decide) (Nat.le_of_ble_eq_true rfl) (gx_b_of (by rw [hkd]; exact eb)) (fun r9 m9 hh => ?_)
      cases hh
      refine gw_goto (tgt := 472) (pc := 452) hK dL_law_452 (by decide) ?_
      exact join r μ1 μ2 hs hkk
    refine gw_aload_n (pc := 455) hK 4 dL_law_455 rfl rfl ?_
    refine gw_iconst (v := 1) (pc := 456) hK dL_law_456 (by decide) ?_
    refine gw_iload (pc := 457) hK 2 dL_law_457 rfl ?_
    refine gw_bipush (v := 7) (pc := 459) hK dL_law_459 (by decide) ?_
    refine gw_ishr (pc := 461) hK dL_law_461 ?_
    refine gw_sipush (v := 200) (pc := 462) hK dL_law_462 (by decide) ?_
    refine gv_L_196 (pc := 465) (k := fun r m => some (r, m)) (rr := (pt (tk Ln xs (60 + k) >>> (7 &&& 31)) 200, V)) hK dL_law_465 (by decide) (Nat.le_of_ble_eq_true rfl) (gx_b_of (q_part (by decide))) (fun r9 m9 hh => ?_)
    cases hh
    refine gw_iadd (pc := 468) hK dL_law_468 ?_
    obtain ⟨r, μ1, μ2, eb, hs, hkk⟩ := s_run ((1 : Int32) + pt (tk Ln xs (60 + k) >>> (7 &&& 31)) 200) V hLV.1
    have eb : fn_X6_run gl_kd V 6 ((1 : Int32) + pt (tk Ln xs (60 + k) >>> (7 &&& 31)) 200) = some (r, μ1) := eb
    refine gv_L_99 (pc := 469) (k := fun r m => some (r, m)) (rr := (r, μ1)) hK hc dL_law_469 (by decide) (Nat.le_of_ble_eq_true rfl) (gx_b_of (by rw [hkd]; exact eb)) (fun r9 m9 hh => ?_)
    cases hh
    exact join r μ1 μ2 hs hkk
set_option maxRecDepth 100000 in
set_option maxHeartbeats 40000000 in
theorem law_undo {l : Launch} {Y : gx_Y} {K : gx_KT} (hK : gx_K l RL cL_law 9 12 450 (some .boolean) Y (fun v _ => v = .int 1) K) (hkd : gy_k Y = gl_kd) (ho : gy_o Y = 6) (hc : gk_bow Y 6) {b Ln : Nat} {xs : Nat → Int32} (hw : gk_o Y 187 10) {c : Nat} (hc24 : c ≤ 24)
    (fin : ∀ μ, Sim μ → (4 < c → μ 0 3 = nI 0) → K μ 622 [(0, .ref b), (1, .ref (gy_a Y 6)), (2, .ref (gy_a Y 187)), (3, .int (nI c))] []) : ∀ (m k : Nat) (μ : gx_M), k + m = 6 → 1 ≤ k → k ≤ c + 1 → Sim μ → μ 0 3 = nI (6 - k) → (∀ j, k ≤ j → j ≤ 5 → j ≤ c → gx_lng (μ 187) (c - j) = hv (cut (fun q => μ 2 (301 * (5 - j) + q)))) → K μ 563 [(0, .ref b), (1, .ref (gy_a Y 6)), (2, .ref (gy_a Y 187)), (3, .int (nI c)), (4, .int (nI k))] [] := by
  intro m
  induction m with
  | zero =>
    intro k μ hk h1 hkc hL h5 hW
    have e : k = 6 := by omega
    subst e
    refine gw_iload (pc := 563) hK 4 dL_law_563 rfl ?_
    refine gw_iconst (v := 5) (pc := 565) hK dL_law_565 (by decide) ?_
    refine gw_icmp_gt_c (tgt := 622) (pc := 566) hK dL_law_566 (by decide) (fun cc => ?_) (fun cc => absurd (show (5 : Int32) < nI 6 by decide) cc)
    refine gw_sub (L' := [(0, .ref b), (1, .ref (gy_a Y 6)), (2, .ref (gy_a Y 187)), (3, .int (nI c))]) hK [0, 1, 2, 3] rfl ?_
    exact fin μ hL (fun _ => h5)
  | succ m ih =>
    intro k μ hk h1 hkc hL h5 hW
    refine gw_iload (pc := 563) hK 4 dL_law_563 rfl ?_
    refine gw_iconst (v := 5) (pc := 565) hK dL_law_565 (by decide) ?_
    refine gw_icmp_gt_c (tgt := 622) (pc := 566) hK dL_law_566 (by decide) (fun cc => absurd cc (nI_nlt (a := 5) (by omega) (by omega))) (fun cc => ?_)
    refine gw_iload (pc := 569) hK 4 dL_law_569 rfl ?_
    refine gw_iload_n (pc := 571) hK 3 dL_law_571 rfl rfl ?_
    by_cases hgt : c < k
    · refine gw_icmp_gt_c (tgt := 622) (pc := 572) hK dL_law_572 (by decide) (fun cc => ?_) (fun cc => absurd (nI_lt hgt (by omega)) cc)
      refine gw_sub (L' := [(0, .ref b), (1, .ref (gy_a Y 6)), (2, .ref (gy_a Y 187)), (3, .int (nI c))]) hK [0, 1, 2, 3] rfl ?_
      exact fin μ hL (fun q => absurd q (by omega))
    · refine gw_icmp_gt_c (tgt := 622) (pc := 572) hK dL_law_572 (by decide) (fun cc => absurd cc (nI_nlt (by omega) (by omega))) (fun cc => ?_)
      rcases s_undo hL with ⟨z, _⟩ | ⟨hs, μ1, μ2, z1, z2, eb, f6, f187, z3, z4, z5, hsim⟩
      · exact absurd (h5.symm.trans z) (nI_ne0 (by omega) (by omega))
      have ehs : hs = 5 - k := by
        have := (nI_eq (by omega) (by omega)).1 (z2.symm.trans h5)
        omega
      subst ehs
      -- the row that is restored was a state of the same kind
      have hW1 := hW k (Nat.le_refl _) (by omega) (by omega)
      have hst : fn_L_state gl_kd μ2 6 = some (hv (cut (μ2 1)), μ2) := q_state (RT_cut hsim.1)
      have hrow : hv (cut (μ2 1)) = gx_lng (μ2 187) (c - k) := by
        rw [f6 187 (by decide), f187 187 (by decide), hW1]
        exact congrArg hv (cut_e (fun q hq => z5 q hq))
      refine gw_aload_n (pc := 575) hK 1 dL_law_575 rfl rfl ?_
      refine gv_L_179 (pc := 576) (k := fun r m => some (r, m)) (rr := (nI (5 - k), μ1)) hK hc dL_law_576 (by decide) (Nat.le_of_ble_eq_true rfl) (gx_b_of (by rw [hkd]; exact eb)) (fun r9 m9 hh => ?_)
      cases hh
      refine gw_ghost hK ho f6 ?_
      refine gw_istore (L' := [(5, .int (nI (5 - k))), (0, .ref b), (1, .ref (gy_a Y 6)), (2, .ref (gy_a Y 187)), (3, .int (nI c)), (4, .int (nI k))]) (pc := 579) hK dL_law_579 (by decide) rfl ?_
      refine gw_iload (pc := 581) hK 0 dL_law_581 rfl ?_
      refine gw_if_lt_c (tgt := 614) (pc := 583) hK dL_law_583 (by decide) (fun cc => absurd cc (nI_pos (by omega))) (fun cc => ?_)
      refine gw_aload_n (pc := 586) hK 2 dL_law_586 rfl rfl ?_
      refine gv_L_85 (pc := 587) (k := fun r m => some (r, m)) (rr := (hv (cut (μ2 1)), μ2)) hK hc dL_law_587 (by decide) (Nat.le_of_ble_eq_true rfl) (gx_bL_of (by rw [hkd]; exact hst)) (fun r9 m9 hh => ?_)
      cases hh
      refine gw_aload_n (pc := 590) hK 3 dL_law_590 rfl rfl ?_
      refine gw_iload_n (pc := 591) hK 4 dL_law_591 rfl rfl ?_
      refine gw_iload (pc := 592) hK 5 dL_law_592 rfl ?_
      refine gw_isub (pc := 594) hK dL_law_594 ?_
      rw [pk_sub (show k ≤ c by omega)]
      refine gw_lald (pc := 595) (a := some ()) (rr := ()) hK hw dL_law_595 (if_pos (pg_ix (by omega) (by decide))) (fun _ => ?_)
      rw [nI_clamp (by omega)]
      refine gw_lcmp (pc := 596) hK dL_law_596 ?_
      have hz : lg_cmp (hv (cut (μ2 1))) (gx_lng (μ2 187) (c - k)) = 0 := by rw [hrow]; exact lg_cmp_self _
      refine gw_if_ne_c (tgt := 614) (pc := 597) hK dL_law_597 (by decide) (fun cc => absurd hz cc) (fun cc => ?_)
      refine gw_iload_n (pc := 600) hK 4 dL_law_600 rfl rfl ?_
      refine gw_iconst (v := 4) (pc := 601) hK dL_law_601 (by decide) ?_
      have goon : K μ2 616 [(5, .int (nI (5 - k))), (0, .ref b), (1, .ref (gy_a Y 6)), (2, .ref (gy_a Y 187)), (3, .int (nI c)), (4, .int (nI k))] [] := by
        refine gw_iinc (v := nI (k + 1)) (L' := [(4, .int (nI (k + 1))), (5, .int (nI (5 - k))), (0, .ref b), (1, .ref (gy_a Y 6)), (2, .ref (gy_a Y 187)), (3, .int (nI c))]) (pc := 616) hK 5 dL_law_616 rfl (nI_1 k) (by decide) rfl ?_
        refine gw_goto (tgt := 563) (pc := 619) hK dL_law_619 (by decide) ?_
        refine gw_sub (L' := [(0, .ref b), (1, .ref (gy_a Y 6)), (2, .ref (gy_a Y 187)), (3, .int (nI c)), (4, .int (nI (k + 1)))]) hK [2, 3, 4, 5, 0] rfl ?_
        exact ih (k + 1) μ2 (by omega) (by omega) (by omega) hsim (by rw [z3, show 6 - (k + 1) = 5 - k by omega]) (fun j j1 j2 j3 => by rw [f6 187 (by decide), f187 187 (by decide), hW j (by omega) j2 j3, z4])
      refine gw_icmp_le_c (tgt := 616) (pc := 602) hK dL_law_602 (by decide) (fun cc => goon) (fun cc => ?_)
      refine gw_iload (pc := 605) hK 0 dL_law_605 rfl ?_
      refine gw_iconst (v := 5) (pc := 607) hK dL_law_607 (by decide) ?_
      refine gw_iload (pc := 608) hK 5 dL_law_608 rfl ?_
      refine gw_isub (pc := 610) hK dL_law_610 ?_
      rw [show (5 : Int32) - nI k = nI (5 - k) from pk_sub (a := 5) (by omega)]
      refine gw_icmp_eq_c (tgt := 616) (pc := 611) hK dL_law_611 (by decide) (fun cc => goon) (fun cc => absurd rfl cc)
set_option maxRecDepth 100000 in
set_option maxHeartbeats 40000000 in
theorem law_C {l : Launch} {Y : gx_Y} {K : gx_KT} (hK : gx_K l RL cL_law 9 12 450 (some .boolean) Y (fun v _ => v = .int 1) K) (hkd : gy_k Y = gl_kd) (ho : gy_o Y = 6) (hc : gk_bow Y 6) {b Ln : Nat} {xs : Nat → Int32} (hw : gk_o Y 187 10) (htk : ∀ (μ : gx_M) (pc : Nat) (L : List (Nat × Value)) (st : List Value) (k : Nat), decode cL_law pc = .ok (.invokestatic 192, 3) → k < 1000 → (st.map fun v => v.category).sum ≤ 8 → K μ (pc + 3) L (.int (tk Ln xs k) :: st) → K μ pc L (.int (nI k) :: .ref b :: st))
    (fin : ∀ μ, K μ 638 [] []) {μ : gx_M} (hL : LSt μ) (h5 : μ 0 3 = nI 5) : K μ 158 [(2, .ref (gy_a Y 187)), (0, .ref b), (1, .ref (gy_a Y 6))] [] := by
  refine gw_iconst (v := 0) (pc := 158) hK dL_law_158 (by decide) ?_
  refine gw_istore_n (L' := [(3, .int 0), (2, .ref (gy_a Y 187)), (0, .ref b), (1, .ref (gy_a Y 6))]) (pc := 159) hK dL_law_159 rfl (by decide) rfl ?_
  refine gw_iconst (v := 0) (pc := 160) hK dL_law_160 (by decide) ?_
  refine gw_istore (L' := [(4, .int 0), (3, .int 0), (2, .ref (gy_a Y 187)), (0, .ref b), (1, .ref (gy_a Y 6))]) (pc := 161) hK dL_law_161 (by decide) rfl ?_
  refine gw_sub (L' := [(0, .ref b), (1, .ref (gy_a Y 6)), (2, .ref (gy_a Y 187)), (3, .int 0), (4, .int 0)]) hK [3, 4, 2, 1, 0] rfl ?_
  refine law_changes hK hkd ho hc hw htk (fun μ c hc24 hL h5 hW => ?_) 24 0 0 μ (by omega) (Nat.le_refl _) hL h5 (fun j j1 _ j3 => absurd j3 (by omega))
  obtain ⟨κ, e3, f3⟩ := q_refused hL.1.1
  refine gw_aload_n (pc := 551) hK 1 dL_law_551 rfl rfl ?_
  refine gv_L_176 (pc := 552) (k := fun r m => some (r, m)) (rr := (1, κ)) hK hc dL_law_552 (by decide) (Nat.le_of_ble_eq_true rfl) (gx_b_of (by rw [hkd]; exact e3)) (fun r9 m9 hh => ?_)
  cases hh
  refine gw_if_ne_c (tgt := 560) (pc := 555) hK dL_law_555 (by decide) (fun cc => ?_) (fun cc => absurd cc (by decide))
  refine gw_iconst (v := 1) (pc := 560) hK dL_law_560 (by decide) ?_
  refine gw_istore (L' := [(4, .int 1), (0, .ref b), (1, .ref (gy_a Y 6)), (2, .ref (gy_a Y 187)), (3, .int (nI c))]) (pc := 561) hK dL_law_561 (by decide) rfl ?_
  refine gw_sub (L' := [(0, .ref b), (1, .ref (gy_a Y 6)), (2, .ref (gy_a Y 187)), (3, .int (nI c)), (4, .int 1)]) hK [1, 2, 3, 4, 0] rfl ?_
  refine law_undo (Ln := Ln) (xs := xs) hK hkd ho hc hw hc24 (fun μ hL h0 => ?_) 5 1 κ (by omega) (Nat.le_refl _) (by omega) (Sim_q hL.1 (fun a ha => f3 a (by omega))) (by rw [f3 0 (by decide)]; exact h5) (fun j j1 j2 j3 => by rw [f3 187 (by decide), f3 2 (by decide)]; exact hW j j1 j2 j3)
  refine gw_iload_n (pc := 622) hK 3 dL_law_622 rfl rfl ?_
  refine gw_iconst (v := 4) (pc := 623) hK dL_law_623 (by decide) ?_
  by_cases h4 : 4 < c
  · refine gw_icmp_le_c (tgt := 638) (pc := 624) hK dL_law_624 (by decide) (fun cc => absurd cc (nI_ge (a := 4) h4 (by omega))) (fun cc => ?_)
    rcases s_undo hL with ⟨_, eb⟩ | ⟨hs, _, _, z1, z2, _⟩
    rotate_left
    · exact absurd ((h0 h4).symm.trans z2) (fun q => absurd ((nI_eq (by decide) (by omega)).1 q) (by omega))
    refine gw_aload_n (pc := 627) hK 1 dL_law_627 rfl rfl ?_
    refine gv_L_179 (pc := 628) (k := fun r m => some (r, m)) (rr := (-100002, μ)) hK hc dL_law_628 (by decide) (Nat.le_of_ble_eq_true rfl) (gx_b_of (by rw [hkd]; exact eb)) (fun r9 m9 hh => ?_)
    cases hh
    refine gw_ldc (pc := 631) hK dL_law_631 kw_k_RL_84 ?_
    refine gw_icmp_eq_c (tgt := 638) (pc := 633) hK dL_law_633 (by decide) (fun cc => ?_) (fun cc => absurd rfl cc)
    refine gw_sub (L' := []) hK [] rfl ?_
    exact fin μ
  · refine gw_icmp_le_c (tgt := 638) (pc := 624) hK dL_law_624 (by decide) (fun cc => ?_) (fun cc => absurd (nI_le (b := 4) (by omega) (by decide)) cc)
    refine gw_sub (L' := []) hK [] rfl ?_
    exact fin μ
