/-! ===== the law ===== -/
abbrev kd_all : List Nat := kd_mod ++ kd_bow
def gl_kd : Nat → Nat := fun j => kd_all.getD j 0
/-- a pair of calls, the class's and the reference's: both answer, the same, and Sim holds behind them -/
def gl_ok (Sim : gx_M → Prop) (fx fm : gx_M → Option (Int32 × gx_M)) : Prop := ∀ μ, Sim μ → ∃ r μ1 μ2, fx μ = some (r, μ1) ∧ fm μ1 = some (r, μ2) ∧ Sim μ2
theorem gv_L_13 {l : Launch} {cc : ByteArray} {nL fr lo : Nat} {ret : Option FieldType} {Y : gx_Y} {Post : Int32 → gx_M → Prop} {K : gx_KT} {pc : Nat} {μ : gx_M} {L : List (Nat × Value)} {st : List Value} (h : gx_K l RL cc nL fr lo ret Y Post K) {c : Nat} {p1 : Int32} {p2 : Int32} {r : Int32} {m : gx_M} (hc : gk_bow Y c) (d : decode cc pc = .ok (.invokevirtual 13, 3)) (hR : 5 + 1 ≤ fr ∧ 147 ≤ lo) (hst : (st.map fun v => v.category).sum ≤ 8) (e : fn_X6_bowl (gy_k Y) μ c p1 p2 = some (r, m)) (kk : K m (pc + 3) L (.int r :: st)) : K μ pc L (.int p2 :: .int p1 :: .ref (gy_a Y c) :: st) :=
  gw_callV (As := [.int p1, .int p2]) (q := (r, m)) h hc.1 (by decide) rfl (by refine ⟨rfl, by decide, by decide, (show (parseMethodDescriptor yX6_bowl.desc).map (fun d => d.parameters.length) = some 2 by decide +kernel)⟩) kw_ml_RL_13 kw_im_X6_bowl kw_se_X6_bowl kw_in_RX6 kw_co_X6_bowl hR hst d (ct_X6_bowl l Y μ c p1 p2 (r, m) hc e) kk
theorem gv_L_17 {l : Launch} {cc : ByteArray} {nL fr lo : Nat} {ret : Option FieldType} {Y : gx_Y} {Post : Int32 → gx_M → Prop} {K : gx_KT} {pc : Nat} {μ : gx_M} {L : List (Nat × Value)} {st : List Value} (h : gx_K l RL cc nL fr lo ret Y Post K) {c : Nat} {p1 : Int32} {p2 : Int32} {r : Int32} {m : gx_M} (hc : gk_mod Y c) (d : decode cc pc = .ok (.invokevirtual 17, 3)) (hR : 1 + 1 ≤ fr ∧ 46 ≤ lo) (hst : (st.map fun v => v.category).sum ≤ 8) (e : fn_X7_bowl (gy_k Y) μ c p1 p2 = some (r, m)) (kk : K m (pc + 3) L (.int r :: st)) : K μ pc L (.int p2 :: .int p1 :: .ref (gy_a Y c) :: st) :=
  gw_callV (As := [.int p1, .int p2]) (q := (r, m)) h hc.1 (by decide) rfl (by refine ⟨rfl, by decide, by decide, (show (parseMethodDescriptor yX7_bowl.desc).map (fun d => d.parameters.length) = some 2 by decide +kernel)⟩) kw_ml_RL_17 kw_im_X7_bowl kw_se_X7_bowl kw_in_RX7 kw_co_X7_bowl hR hst d (ct_X7_bowl l Y μ c p1 p2 (r, m) hc e) kk
theorem gv_L_18 {l : Launch} {cc : ByteArray} {nL fr lo : Nat} {ret : Option FieldType} {Y : gx_Y} {Post : Int32 → gx_M → Prop} {K : gx_KT} {pc : Nat} {μ : gx_M} {L : List (Nat × Value)} {st : List Value} (h : gx_K l RL cc nL fr lo ret Y Post K) {c : Nat} {p1 : Int32} {r : Int32} {m : gx_M} (hc : gk_bow Y c) (d : decode cc pc = .ok (.invokevirtual 18, 3)) (hR : 5 + 1 ≤ fr ∧ 146 ≤ lo) (hst : (st.map fun v => v.category).sum ≤ 8) (e : fn_X6_remove (gy_k Y) μ c p1 = some (r, m)) (kk : K m (pc + 3) L (.int r :: st)) : K μ pc L (.int p1 :: .ref (gy_a Y c) :: st) :=
  gw_callV (As := [.int p1]) (q := (r, m)) h hc.1 (by decide) rfl (by refine ⟨rfl, by decide, by decide, (show (parseMethodDescriptor yX6_remove.desc).map (fun d => d.parameters.length) = some 1 by decide +kernel)⟩) kw_ml_RL_18 kw_im_X6_remove kw_se_X6_remove kw_in_RX6 kw_co_X6_remove hR hst d (ct_X6_remove l Y μ c p1 (r, m) hc e) kk
theorem gv_L_22 {l : Launch} {cc : ByteArray} {nL fr lo : Nat} {ret : Option FieldType} {Y : gx_Y} {Post : Int32 → gx_M → Prop} {K : gx_KT} {pc : Nat} {μ : gx_M} {L : List (Nat × Value)} {st : List Value} (h : gx_K l RL cc nL fr lo ret Y Post K) {c : Nat} {p1 : Int32} {r : Int32} {m : gx_M} (hc : gk_mod Y c) (d : decode cc pc = .ok (.invokevirtual 22, 3)) (hR : 2 + 1 ≤ fr ∧ 65 ≤ lo) (hst : (st.map fun v => v.category).sum ≤ 8) (e : fn_X7_remove (gy_k Y) μ c p1 = some (r, m)) (kk : K m (pc + 3) L (.int r :: st)) : K μ pc L (.int p1 :: .ref (gy_a Y c) :: st) :=
  gw_callV (As := [.int p1]) (q := (r, m)) h hc.1 (by decide) rfl (by refine ⟨rfl, by decide, by decide, (show (parseMethodDescriptor yX7_remove.desc).map (fun d => d.parameters.length) = some 1 by decide +kernel)⟩) kw_ml_RL_22 kw_im_X7_remove kw_se_X7_remove kw_in_RX7 kw_co_X7_remove hR hst d (ct_X7_remove l Y μ c p1 (r, m) hc e) kk
theorem gv_L_23 {l : Launch} {cc : ByteArray} {nL fr lo : Nat} {ret : Option FieldType} {Y : gx_Y} {Post : Int32 → gx_M → Prop} {K : gx_KT} {pc : Nat} {μ : gx_M} {L : List (Nat × Value)} {st : List Value} (h : gx_K l RL cc nL fr lo ret Y Post K) {c : Nat} {p1 : Int32} {p2 : Int32} {r : Int32} {m : gx_M} (hc : gk_bow Y c) (d : decode cc pc = .ok (.invokevirtual 23, 3)) (hR : 5 + 1 ≤ fr ∧ 147 ≤ lo) (hst : (st.map fun v => v.category).sum ≤ 8) (e : fn_X6_pour (gy_k Y) μ c p1 p2 = some (r, m)) (kk : K m (pc + 3) L (.int r :: st)) : K μ pc L (.int p2 :: .int p1 :: .ref (gy_a Y c) :: st) :=
  gw_callV (As := [.int p1, .int p2]) (q := (r, m)) h hc.1 (by decide) rfl (by refine ⟨rfl, by decide, by decide, (show (parseMethodDescriptor yX6_pour.desc).map (fun d => d.parameters.length) = some 2 by decide +kernel)⟩) kw_ml_RL_23 kw_im_X6_pour kw_se_X6_pour kw_in_RX6 kw_co_X6_pour hR hst d (ct_X6_pour l Y μ c p1 p2 (r, m) hc e) kk
theorem gv_L_26 {l : Launch} {cc : ByteArray} {nL fr lo : Nat} {ret : Option FieldType} {Y : gx_Y} {Post : Int32 → gx_M → Prop} {K : gx_KT} {pc : Nat} {μ : gx_M} {L : List (Nat × Value)} {st : List Value} (h : gx_K l RL cc nL fr lo ret Y Post K) {c : Nat} {p1 : Int32} {p2 : Int32} {r : Int32} {m : gx_M} (hc : gk_mod Y c) (d : decode cc pc = .ok (.invokevirtual 26, 3)) (hR : 3 + 1 ≤ fr ∧ 90 ≤ lo) (hst : (st.map fun v => v.category).sum ≤ 8) (e : fn_X7_pour (gy_k Y) μ c p1 p2 = some (r, m)) (kk : K m (pc + 3) L (.int r :: st)) : K μ pc L (.int p2 :: .int p1 :: .ref (gy_a Y c) :: st) :=
  gw_callV (As := [.int p1, .int p2]) (q := (r, m)) h hc.1 (by decide) rfl (by refine ⟨rfl, by decide, by decide, (show (parseMethodDescriptor yX7_pour.desc).map (fun d => d.parameters.length) = some 2 by decide +kernel)⟩) kw_ml_RL_26 kw_im_X7_pour kw_se_X7_pour kw_in_RX7 kw_co_X7_pour hR hst d (ct_X7_pour l Y μ c p1 p2 (r, m) hc e) kk
theorem gv_L_27 {l : Launch} {cc : ByteArray} {nL fr lo : Nat} {ret : Option FieldType} {Y : gx_Y} {Post : Int32 → gx_M → Prop} {K : gx_KT} {pc : Nat} {μ : gx_M} {L : List (Nat × Value)} {st : List Value} (h : gx_K l RL cc nL fr lo ret Y Post K) {c : Nat} {p1 : Int32} {p2 : Int32} {r : Int32} {m : gx_M} (hc : gk_bow Y c) (d : decode cc pc = .ok (.invokevirtual 27, 3)) (hR : 5 + 1 ≤ fr ∧ 147 ≤ lo) (hst : (st.map fun v => v.category).sum ≤ 8) (e : fn_X6_spill (gy_k Y) μ c p1 p2 = some (r, m)) (kk : K m (pc + 3) L (.int r :: st)) : K μ pc L (.int p2 :: .int p1 :: .ref (gy_a Y c) :: st) :=
  gw_callV (As := [.int p1, .int p2]) (q := (r, m)) h hc.1 (by decide) rfl (by refine ⟨rfl, by decide, by decide, (show (parseMethodDescriptor yX6_spill.desc).map (fun d => d.parameters.length) = some 2 by decide +kernel)⟩) kw_ml_RL_27 kw_im_X6_spill kw_se_X6_spill kw_in_RX6 kw_co_X6_spill hR hst d (ct_X6_spill l Y μ c p1 p2 (r, m) hc e) kk
theorem gv_L_30 {l : Launch} {cc : ByteArray} {nL fr lo : Nat} {ret : Option FieldType} {Y : gx_Y} {Post : Int32 → gx_M → Prop} {K : gx_KT} {pc : Nat} {μ : gx_M} {L : List (Nat × Value)} {st : List Value} (h : gx_K l RL cc nL fr lo ret Y Post K) {c : Nat} {p1 : Int32} {p2 : Int32} {r : Int32} {m : gx_M} (hc : gk_mod Y c) (d : decode cc pc = .ok (.invokevirtual 30, 3)) (hR : 2 + 1 ≤ fr ∧ 65 ≤ lo) (hst : (st.map fun v => v.category).sum ≤ 8) (e : fn_X7_spill (gy_k Y) μ c p1 p2 = some (r, m)) (kk : K m (pc + 3) L (.int r :: st)) : K μ pc L (.int p2 :: .int p1 :: .ref (gy_a Y c) :: st) :=
  gw_callV (As := [.int p1, .int p2]) (q := (r, m)) h hc.1 (by decide) rfl (by refine ⟨rfl, by decide, by decide, (show (parseMethodDescriptor yX7_spill.desc).map (fun d => d.parameters.length) = some 2 by decide +kernel)⟩) kw_ml_RL_30 kw_im_X7_spill kw_se_X7_spill kw_in_RX7 kw_co_X7_spill hR hst d (ct_X7_spill l Y μ c p1 p2 (r, m) hc e) kk
theorem gv_L_31 {l : Launch} {cc : ByteArray} {nL fr lo : Nat} {ret : Option FieldType} {Y : gx_Y} {Post : Int32 → gx_M → Prop} {K : gx_KT} {pc : Nat} {μ : gx_M} {L : List (Nat × Value)} {st : List Value} (h : gx_K l RL cc nL fr lo ret Y Post K) {c : Nat} {p1 : Int32} {p2 : Int32} {r : Int32} {m : gx_M} (hc : gk_bow Y c) (d : decode cc pc = .ok (.invokevirtual 31, 3)) (hR : 5 + 1 ≤ fr ∧ 148 ≤ lo) (hst : (st.map fun v => v.category).sum ≤ 8) (e : fn_X6_crack (gy_k Y) μ c p1 p2 = some (r, m)) (kk : K m (pc + 3) L (.int r :: st)) : K μ pc L (.int p2 :: .int p1 :: .ref (gy_a Y c) :: st) :=
  gw_callV (As := [.int p1, .int p2]) (q := (r, m)) h hc.1 (by decide) rfl (by refine ⟨rfl, by decide, by decide, (show (parseMethodDescriptor yX6_crack.desc).map (fun d => d.parameters.length) = some 2 by decide +kernel)⟩) kw_ml_RL_31 kw_im_X6_crack kw_se_X6_crack kw_in_RX6 kw_co_X6_crack hR hst d (ct_X6_crack l Y μ c p1 p2 (r, m) hc e) kk
theorem gv_L_34 {l : Launch} {cc : ByteArray} {nL fr lo : Nat} {ret : Option FieldType} {Y : gx_Y} {Post : Int32 → gx_M → Prop} {K : gx_KT} {pc : Nat} {μ : gx_M} {L : List (Nat × Value)} {st : List Value} (h : gx_K l RL cc nL fr lo ret Y Post K) {c : Nat} {p1 : Int32} {p2 : Int32} {r : Int32} {m : gx_M} (hc : gk_mod Y c) (d : decode cc pc = .ok (.invokevirtual 34, 3)) (hR : 2 + 1 ≤ fr ∧ 67 ≤ lo) (hst : (st.map fun v => v.category).sum ≤ 8) (e : fn_X7_crack (gy_k Y) μ c p1 p2 = some (r, m)) (kk : K m (pc + 3) L (.int r :: st)) : K μ pc L (.int p2 :: .int p1 :: .ref (gy_a Y c) :: st) :=
  gw_callV (As := [.int p1, .int p2]) (q := (r, m)) h hc.1 (by decide) rfl (by refine ⟨rfl, by decide, by decide, (show (parseMethodDescriptor yX7_crack.desc).map (fun d => d.parameters.length) = some 2 by decide +kernel)⟩) kw_ml_RL_34 kw_im_X7_crack kw_se_X7_crack kw_in_RX7 kw_co_X7_crack hR hst d (ct_X7_crack l Y μ c p1 p2 (r, m) hc e) kk
theorem gv_L_35 {l : Launch} {cc : ByteArray} {nL fr lo : Nat} {ret : Option FieldType} {Y : gx_Y} {Post : Int32 → gx_M → Prop} {K : gx_KT} {pc : Nat} {μ : gx_M} {L : List (Nat × Value)} {st : List Value} (h : gx_K l RL cc nL fr lo ret Y Post K) {c : Nat} {p1 : Int32} {p2 : Int32} {r : Int32} {m : gx_M} (hc : gk_bow Y c) (d : decode cc pc = .ok (.invokevirtual 35, 3)) (hR : 5 + 1 ≤ fr ∧ 147 ≤ lo) (hst : (st.map fun v => v.category).sum ≤ 8) (e : fn_X6_mark (gy_k Y) μ c p1 p2 = some (r, m)) (kk : K m (pc + 3) L (.int r :: st)) : K μ pc L (.int p2 :: .int p1 :: .ref (gy_a Y c) :: st) :=
  gw_callV (As := [.int p1, .int p2]) (q := (r, m)) h hc.1 (by decide) rfl (by refine ⟨rfl, by decide, by decide, (show (parseMethodDescriptor yX6_mark.desc).map (fun d => d.parameters.length) = some 2 by decide +kernel)⟩) kw_ml_RL_35 kw_im_X6_mark kw_se_X6_mark kw_in_RX6 kw_co_X6_mark hR hst d (ct_X6_mark l Y μ c p1 p2 (r, m) hc e) kk
theorem gv_L_38 {l : Launch} {cc : ByteArray} {nL fr lo : Nat} {ret : Option FieldType} {Y : gx_Y} {Post : Int32 → gx_M → Prop} {K : gx_KT} {pc : Nat} {μ : gx_M} {L : List (Nat × Value)} {st : List Value} (h : gx_K l RL cc nL fr lo ret Y Post K) {c : Nat} {p1 : Int32} {p2 : Int32} {r : Int32} {m : gx_M} (hc : gk_mod Y c) (d : decode cc pc = .ok (.invokevirtual 38, 3)) (hR : 2 + 1 ≤ fr ∧ 66 ≤ lo) (hst : (st.map fun v => v.category).sum ≤ 8) (e : fn_X7_mark (gy_k Y) μ c p1 p2 = some (r, m)) (kk : K m (pc + 3) L (.int r :: st)) : K μ pc L (.int p2 :: .int p1 :: .ref (gy_a Y c) :: st) :=
  gw_callV (As := [.int p1, .int p2]) (q := (r, m)) h hc.1 (by decide) rfl (by refine ⟨rfl, by decide, by decide, (show (parseMethodDescriptor yX7_mark.desc).map (fun d => d.parameters.length) = some 2 by decide +kernel)⟩) kw_ml_RL_38 kw_im_X7_mark kw_se_X7_mark kw_in_RX7 kw_co_X7_mark hR hst d (ct_X7_mark l Y μ c p1 p2 (r, m) hc e) kk
theorem gv_L_39 {l : Launch} {cc : ByteArray} {nL fr lo : Nat} {ret : Option FieldType} {Y : gx_Y} {Post : Int32 → gx_M → Prop} {K : gx_KT} {pc : Nat} {μ : gx_M} {L : List (Nat × Value)} {st : List Value} (h : gx_K l RL cc nL fr lo ret Y Post K) {c : Nat} {p1 : Int32} {p2 : Int32} {r : Int32} {m : gx_M} (hc : gk_bow Y c) (d : decode cc pc = .ok (.invokevirtual 39, 3)) (hR : 4 + 1 ≤ fr ∧ 110 ≤ lo) (hst : (st.map fun v => v.category).sum ≤ 8) (e : fn_X6_bowlOf (gy_k Y) μ c p1 p2 = some (r, m)) (kk : K m (pc + 3) L (.int r :: st)) : K μ pc L (.int p2 :: .int p1 :: .ref (gy_a Y c) :: st) :=
  gw_callV (As := [.int p1, .int p2]) (q := (r, m)) h hc.1 (by decide) rfl (by refine ⟨rfl, by decide, by decide, (show (parseMethodDescriptor yX6_bowlOf.desc).map (fun d => d.parameters.length) = some 2 by decide +kernel)⟩) kw_ml_RL_39 kw_im_X6_bowlOf kw_se_X6_bowlOf kw_in_RX6 kw_co_X6_bowlOf hR hst d (ct_X6_bowlOf l Y μ c p1 p2 (r, m) hc e) kk
theorem gv_L_42 {l : Launch} {cc : ByteArray} {nL fr lo : Nat} {ret : Option FieldType} {Y : gx_Y} {Post : Int32 → gx_M → Prop} {K : gx_KT} {pc : Nat} {μ : gx_M} {L : List (Nat × Value)} {st : List Value} (h : gx_K l RL cc nL fr lo ret Y Post K) {c : Nat} {p1 : Int32} {p2 : Int32} {r : Int32} {m : gx_M} (hc : gk_mod Y c) (d : decode cc pc = .ok (.invokevirtual 42, 3)) (hR : 3 + 1 ≤ fr ∧ 88 ≤ lo) (hst : (st.map fun v => v.category).sum ≤ 8) (e : fn_X7_bowlOf (gy_k Y) μ c p1 p2 = some (r, m)) (kk : K m (pc + 3) L (.int r :: st)) : K μ pc L (.int p2 :: .int p1 :: .ref (gy_a Y c) :: st) :=
  gw_callV (As := [.int p1, .int p2]) (q := (r, m)) h hc.1 (by decide) rfl (by refine ⟨rfl, by decide, by decide, (show (parseMethodDescriptor yX7_bowlOf.desc).map (fun d => d.parameters.length) = some 2 by decide +kernel)⟩) kw_ml_RL_42 kw_im_X7_bowlOf kw_se_X7_bowlOf kw_in_RX7 kw_co_X7_bowlOf hR hst d (ct_X7_bowlOf l Y μ c p1 p2 (r, m) hc e) kk
theorem gv_L_43 {l : Launch} {cc : ByteArray} {nL fr lo : Nat} {ret : Option FieldType} {Y : gx_Y} {Post : Int32 → gx_M → Prop} {K : gx_KT} {pc : Nat} {μ : gx_M} {L : List (Nat × Value)} {st : List Value} (h : gx_K l RL cc nL fr lo ret Y Post K) {c : Nat} {p1 : Int32} {p2 : Int32} {r : Int32} {m : gx_M} (hc : gk_bow Y c) (d : decode cc pc = .ok (.invokevirtual 43, 3)) (hR : 3 + 1 ≤ fr ∧ 94 ≤ lo) (hst : (st.map fun v => v.category).sum ≤ 8) (e : fn_X6_levelFor (gy_k Y) μ c p1 p2 = some (r, m)) (kk : K m (pc + 3) L (.int r :: st)) : K μ pc L (.int p2 :: .int p1 :: .ref (gy_a Y c) :: st) :=
  gw_callV (As := [.int p1, .int p2]) (q := (r, m)) h hc.1 (by decide) rfl (by refine ⟨rfl, by decide, by decide, (show (parseMethodDescriptor yX6_levelFor.desc).map (fun d => d.parameters.length) = some 2 by decide +kernel)⟩) kw_ml_RL_43 kw_im_X6_levelFor kw_se_X6_levelFor kw_in_RX6 kw_co_X6_levelFor hR hst d (ct_X6_levelFor l Y μ c p1 p2 (r, m) hc e) kk
theorem gv_L_46 {l : Launch} {cc : ByteArray} {nL fr lo : Nat} {ret : Option FieldType} {Y : gx_Y} {Post : Int32 → gx_M → Prop} {K : gx_KT} {pc : Nat} {μ : gx_M} {L : List (Nat × Value)} {st : List Value} (h : gx_K l RL cc nL fr lo ret Y Post K) {c : Nat} {p1 : Int32} {p2 : Int32} {r : Int32} {m : gx_M} (hc : gk_mod Y c) (d : decode cc pc = .ok (.invokevirtual 46, 3)) (hR : 2 + 1 ≤ fr ∧ 68 ≤ lo) (hst : (st.map fun v => v.category).sum ≤ 8) (e : fn_X7_levelFor (gy_k Y) μ c p1 p2 = some (r, m)) (kk : K m (pc + 3) L (.int r :: st)) : K μ pc L (.int p2 :: .int p1 :: .ref (gy_a Y c) :: st) :=
  gw_callV (As := [.int p1, .int p2]) (q := (r, m)) h hc.1 (by decide) rfl (by refine ⟨rfl, by decide, by decide, (show (parseMethodDescriptor yX7_levelFor.desc).map (fun d => d.parameters.length) = some 2 by decide +kernel)⟩) kw_ml_RL_46 kw_im_X7_levelFor kw_se_X7_levelFor kw_in_RX7 kw_co_X7_levelFor hR hst d (ct_X7_levelFor l Y μ c p1 p2 (r, m) hc e) kk
theorem gv_L_47 {l : Launch} {cc : ByteArray} {nL fr lo : Nat} {ret : Option FieldType} {Y : gx_Y} {Post : Int32 → gx_M → Prop} {K : gx_KT} {pc : Nat} {μ : gx_M} {L : List (Nat × Value)} {st : List Value} (h : gx_K l RL cc nL fr lo ret Y Post K) {c : Nat} {p1 : Int32} {r : Int32} {m : gx_M} (hc : gk_bow Y c) (d : decode cc pc = .ok (.invokevirtual 47, 3)) (hR : 3 + 1 ≤ fr ∧ 91 ≤ lo) (hst : (st.map fun v => v.category).sum ≤ 8) (e : fn_X6_nearest (gy_k Y) μ c p1 = some (r, m)) (kk : K m (pc + 3) L (.int r :: st)) : K μ pc L (.int p1 :: .ref (gy_a Y c) :: st) :=
  gw_callV (As := [.int p1]) (q := (r, m)) h hc.1 (by decide) rfl (by refine ⟨rfl, by decide, by decide, (show (parseMethodDescriptor yX6_nearest.desc).map (fun d => d.parameters.length) = some 1 by decide +kernel)⟩) kw_ml_RL_47 kw_im_X6_nearest kw_se_X6_nearest kw_in_RX6 kw_co_X6_nearest hR hst d (ct_X6_nearest l Y μ c p1 (r, m) hc e) kk
theorem gv_L_50 {l : Launch} {cc : ByteArray} {nL fr lo : Nat} {ret : Option FieldType} {Y : gx_Y} {Post : Int32 → gx_M → Prop} {K : gx_KT} {pc : Nat} {μ : gx_M} {L : List (Nat × Value)} {st : List Value} (h : gx_K l RL cc nL fr lo ret Y Post K) {c : Nat} {p1 : Int32} {r : Int32} {m : gx_M} (hc : gk_mod Y c) (d : decode cc pc = .ok (.invokevirtual 50, 3)) (hR : 4 + 1 ≤ fr ∧ 109 ≤ lo) (hst : (st.map fun v => v.category).sum ≤ 8) (e : fn_X7_nearest (gy_k Y) μ c p1 = some (r, m)) (kk : K m (pc + 3) L (.int r :: st)) : K μ pc L (.int p1 :: .ref (gy_a Y c) :: st) :=
  gw_callV (As := [.int p1]) (q := (r, m)) h hc.1 (by decide) rfl (by refine ⟨rfl, by decide, by decide, (show (parseMethodDescriptor yX7_nearest.desc).map (fun d => d.parameters.length) = some 1 by decide +kernel)⟩) kw_ml_RL_50 kw_im_X7_nearest kw_se_X7_nearest kw_in_RX7 kw_co_X7_nearest hR hst d (ct_X7_nearest l Y μ c p1 (r, m) hc e) kk
theorem gv_L_51 {l : Launch} {cc : ByteArray} {nL fr lo : Nat} {ret : Option FieldType} {Y : gx_Y} {Post : Int32 → gx_M → Prop} {K : gx_KT} {pc : Nat} {μ : gx_M} {L : List (Nat × Value)} {st : List Value} (h : gx_K l RL cc nL fr lo ret Y Post K) {c : Nat} {p1 : Int32} {p2 : Int32} {r : Int32} {m : gx_M} (hc : gk_bow Y c) (d : decode cc pc = .ok (.invokevirtual 51, 3)) (hR : 5 + 1 ≤ fr ∧ 147 ≤ lo) (hst : (st.map fun v => v.category).sum ≤ 8) (e : fn_X6_set (gy_k Y) μ c p1 p2 = some (r, m)) (kk : K m (pc + 3) L (.int r :: st)) : K μ pc L (.int p2 :: .int p1 :: .ref (gy_a Y c) :: st) :=
  gw_callV (As := [.int p1, .int p2]) (q := (r, m)) h hc.1 (by decide) rfl (by refine ⟨rfl, by decide, by decide, (show (parseMethodDescriptor yX6_set.desc).map (fun d => d.parameters.length) = some 2 by decide +kernel)⟩) kw_ml_RL_51 kw_im_X6_set kw_se_X6_set kw_in_RX6 kw_co_X6_set hR hst d (ct_X6_set l Y μ c p1 p2 (r, m) hc e) kk
theorem gv_L_54 {l : Launch} {cc : ByteArray} {nL fr lo : Nat} {ret : Option FieldType} {Y : gx_Y} {Post : Int32 → gx_M → Prop} {K : gx_KT} {pc : Nat} {μ : gx_M} {L : List (Nat × Value)} {st : List Value} (h : gx_K l RL cc nL fr lo ret Y Post K) {c : Nat} {p1 : Int32} {p2 : Int32} {r : Int32} {m : gx_M} (hc : gk_mod Y c) (d : decode cc pc = .ok (.invokevirtual 54, 3)) (hR : 2 + 1 ≤ fr ∧ 66 ≤ lo) (hst : (st.map fun v => v.category).sum ≤ 8) (e : fn_X7_set (gy_k Y) μ c p1 p2 = some (r, m)) (kk : K m (pc + 3) L (.int r :: st)) : K μ pc L (.int p2 :: .int p1 :: .ref (gy_a Y c) :: st) :=
  gw_callV (As := [.int p1, .int p2]) (q := (r, m)) h hc.1 (by decide) rfl (by refine ⟨rfl, by decide, by decide, (show (parseMethodDescriptor yX7_set.desc).map (fun d => d.parameters.length) = some 2 by decide +kernel)⟩) kw_ml_RL_54 kw_im_X7_set kw_se_X7_set kw_in_RX7 kw_co_X7_set hR hst d (ct_X7_set l Y μ c p1 p2 (r, m) hc e) kk
theorem gv_L_55 {l : Launch} {cc : ByteArray} {nL fr lo : Nat} {ret : Option FieldType} {Y : gx_Y} {Post : Int32 → gx_M → Prop} {K : gx_KT} {pc : Nat} {μ : gx_M} {L : List (Nat × Value)} {st : List Value} (h : gx_K l RL cc nL fr lo ret Y Post K) {c : Nat} {p1 : Int32} {r : Int32} {m : gx_M} (hc : gk_bow Y c) (d : decode cc pc = .ok (.invokevirtual 55, 3)) (hR : 4 + 1 ≤ fr ∧ 109 ≤ lo) (hst : (st.map fun v => v.category).sum ≤ 8) (e : fn_X6_count (gy_k Y) μ c p1 = some (r, m)) (kk : K m (pc + 3) L (.int r :: st)) : K μ pc L (.int p1 :: .ref (gy_a Y c) :: st) :=
  gw_callV (As := [.int p1]) (q := (r, m)) h hc.1 (by decide) rfl (by refine ⟨rfl, by decide, by decide, (show (parseMethodDescriptor yX6_count.desc).map (fun d => d.parameters.length) = some 1 by decide +kernel)⟩) kw_ml_RL_55 kw_im_X6_count kw_se_X6_count kw_in_RX6 kw_co_X6_count hR hst d (ct_X6_count l Y μ c p1 (r, m) hc e) kk
theorem gv_L_58 {l : Launch} {cc : ByteArray} {nL fr lo : Nat} {ret : Option FieldType} {Y : gx_Y} {Post : Int32 → gx_M → Prop} {K : gx_KT} {pc : Nat} {μ : gx_M} {L : List (Nat × Value)} {st : List Value} (h : gx_K l RL cc nL fr lo ret Y Post K) {c : Nat} {p1 : Int32} {r : Int32} {m : gx_M} (hc : gk_mod Y c) (d : decode cc pc = .ok (.invokevirtual 58, 3)) (hR : 3 + 1 ≤ fr ∧ 87 ≤ lo) (hst : (st.map fun v => v.category).sum ≤ 8) (e : fn_X7_count (gy_k Y) μ c p1 = some (r, m)) (kk : K m (pc + 3) L (.int r :: st)) : K μ pc L (.int p1 :: .ref (gy_a Y c) :: st) :=
  gw_callV (As := [.int p1]) (q := (r, m)) h hc.1 (by decide) rfl (by refine ⟨rfl, by decide, by decide, (show (parseMethodDescriptor yX7_count.desc).map (fun d => d.parameters.length) = some 1 by decide +kernel)⟩) kw_ml_RL_58 kw_im_X7_count kw_se_X7_count kw_in_RX7 kw_co_X7_count hR hst d (ct_X7_count l Y μ c p1 (r, m) hc e) kk
theorem gv_L_59 {l : Launch} {cc : ByteArray} {nL fr lo : Nat} {ret : Option FieldType} {Y : gx_Y} {Post : Int32 → gx_M → Prop} {K : gx_KT} {pc : Nat} {μ : gx_M} {L : List (Nat × Value)} {st : List Value} (h : gx_K l RL cc nL fr lo ret Y Post K) {c : Nat} {r : Int32} {m : gx_M} (hc : gk_bow Y c) (d : decode cc pc = .ok (.invokevirtual 59, 3)) (hR : 5 + 1 ≤ fr ∧ 144 ≤ lo) (hst : (st.map fun v => v.category).sum ≤ 8) (e : fn_X6_undo (gy_k Y) μ c = some (r, m)) (kk : K m (pc + 3) L (.int r :: st)) : K μ pc L (.ref (gy_a Y c) :: st) :=
  gw_callV (As := []) (q := (r, m)) h hc.1 (by decide) rfl (by refine ⟨rfl, by decide, by decide, (show (parseMethodDescriptor yX6_undo.desc).map (fun d => d.parameters.length) = some 0 by decide +kernel)⟩) kw_ml_RL_59 kw_im_X6_undo kw_se_X6_undo kw_in_RX6 kw_co_X6_undo hR hst d (ct_X6_undo l Y μ c (r, m) hc e) kk
theorem gv_L_63 {l : Launch} {cc : ByteArray} {nL fr lo : Nat} {ret : Option FieldType} {Y : gx_Y} {Post : Int32 → gx_M → Prop} {K : gx_KT} {pc : Nat} {μ : gx_M} {L : List (Nat × Value)} {st : List Value} (h : gx_K l RL cc nL fr lo ret Y Post K) {c : Nat} {r : Int32} {m : gx_M} (hc : gk_mod Y c) (d : decode cc pc = .ok (.invokevirtual 63, 3)) (hR : 0 + 1 ≤ fr ∧ 21 ≤ lo) (hst : (st.map fun v => v.category).sum ≤ 8) (e : fn_X7_undo (gy_k Y) μ c = some (r, m)) (kk : K m (pc + 3) L (.int r :: st)) : K μ pc L (.ref (gy_a Y c) :: st) :=
  gw_callV (As := []) (q := (r, m)) h hc.1 (by decide) rfl (by refine ⟨rfl, by decide, by decide, (show (parseMethodDescriptor yX7_undo.desc).map (fun d => d.parameters.length) = some 0 by decide +kernel)⟩) kw_ml_RL_63 kw_im_X7_undo kw_se_X7_undo kw_in_RX7 kw_co_X7_undo hR hst d (ct_X7_undo l Y μ c (r, m) hc e) kk
theorem gv_L_64 {l : Launch} {cc : ByteArray} {nL fr lo : Nat} {ret : Option FieldType} {Y : gx_Y} {Post : Int32 → gx_M → Prop} {K : gx_KT} {pc : Nat} {μ : gx_M} {L : List (Nat × Value)} {st : List Value} (h : gx_K l RL cc nL fr lo ret Y Post K) {c : Nat} {p1 : Int32} {p2 : Int32} {r : Int32} {m : gx_M} (hc : gk_bow Y c) (d : decode cc pc = .ok (.invokevirtual 64, 3)) (hR : 5 + 1 ≤ fr ∧ 147 ≤ lo) (hst : (st.map fun v => v.category).sum ≤ 8) (e : fn_X6_note (gy_k Y) μ c p1 p2 = some (r, m)) (kk : K m (pc + 3) L (.int r :: st)) : K μ pc L (.int p2 :: .int p1 :: .ref (gy_a Y c) :: st) :=
  gw_callV (As := [.int p1, .int p2]) (q := (r, m)) h hc.1 (by decide) rfl (by refine ⟨rfl, by decide, by decide, (show (parseMethodDescriptor yX6_note.desc).map (fun d => d.parameters.length) = some 2 by decide +kernel)⟩) kw_ml_RL_64 kw_im_X6_note kw_se_X6_note kw_in_RX6 kw_co_X6_note hR hst d (ct_X6_note l Y μ c p1 p2 (r, m) hc e) kk
theorem gv_L_67 {l : Launch} {cc : ByteArray} {nL fr lo : Nat} {ret : Option FieldType} {Y : gx_Y} {Post : Int32 → gx_M → Prop} {K : gx_KT} {pc : Nat} {μ : gx_M} {L : List (Nat × Value)} {st : List Value} (h : gx_K l RL cc nL fr lo ret Y Post K) {c : Nat} {p1 : Int32} {p2 : Int32} {r : Int32} {m : gx_M} (hc : gk_mod Y c) (d : decode cc pc = .ok (.invokevirtual 67, 3)) (hR : 2 + 1 ≤ fr ∧ 69 ≤ lo) (hst : (st.map fun v => v.category).sum ≤ 8) (e : fn_X7_note (gy_k Y) μ c p1 p2 = some (r, m)) (kk : K m (pc + 3) L (.int r :: st)) : K μ pc L (.int p2 :: .int p1 :: .ref (gy_a Y c) :: st) :=
  gw_callV (As := [.int p1, .int p2]) (q := (r, m)) h hc.1 (by decide) rfl (by refine ⟨rfl, by decide, by decide, (show (parseMethodDescriptor yX7_note.desc).map (fun d => d.parameters.length) = some 2 by decide +kernel)⟩) kw_ml_RL_67 kw_im_X7_note kw_se_X7_note kw_in_RX7 kw_co_X7_note hR hst d (ct_X7_note l Y μ c p1 p2 (r, m) hc e) kk
theorem gv_L_68 {l : Launch} {cc : ByteArray} {nL fr lo : Nat} {ret : Option FieldType} {Y : gx_Y} {Post : Int32 → gx_M → Prop} {K : gx_KT} {pc : Nat} {μ : gx_M} {L : List (Nat × Value)} {st : List Value} (h : gx_K l RL cc nL fr lo ret Y Post K) {c : Nat} {p1 : Int32} {r : Int32} {m : gx_M} (hc : gk_bow Y c) (d : decode cc pc = .ok (.invokevirtual 68, 3)) (hR : 5 + 1 ≤ fr ∧ 146 ≤ lo) (hst : (st.map fun v => v.category).sum ≤ 8) (e : fn_X6_drop (gy_k Y) μ c p1 = some (r, m)) (kk : K m (pc + 3) L (.int r :: st)) : K μ pc L (.int p1 :: .ref (gy_a Y c) :: st) :=
  gw_callV (As := [.int p1]) (q := (r, m)) h hc.1 (by decide) rfl (by refine ⟨rfl, by decide, by decide, (show (parseMethodDescriptor yX6_drop.desc).map (fun d => d.parameters.length) = some 1 by decide +kernel)⟩) kw_ml_RL_68 kw_im_X6_drop kw_se_X6_drop kw_in_RX6 kw_co_X6_drop hR hst d (ct_X6_drop l Y μ c p1 (r, m) hc e) kk
theorem gv_L_71 {l : Launch} {cc : ByteArray} {nL fr lo : Nat} {ret : Option FieldType} {Y : gx_Y} {Post : Int32 → gx_M → Prop} {K : gx_KT} {pc : Nat} {μ : gx_M} {L : List (Nat × Value)} {st : List Value} (h : gx_K l RL cc nL fr lo ret Y Post K) {c : Nat} {p1 : Int32} {r : Int32} {m : gx_M} (hc : gk_mod Y c) (d : decode cc pc = .ok (.invokevirtual 71, 3)) (hR : 2 + 1 ≤ fr ∧ 65 ≤ lo) (hst : (st.map fun v => v.category).sum ≤ 8) (e : fn_X7_drop (gy_k Y) μ c p1 = some (r, m)) (kk : K m (pc + 3) L (.int r :: st)) : K μ pc L (.int p1 :: .ref (gy_a Y c) :: st) :=
  gw_callV (As := [.int p1]) (q := (r, m)) h hc.1 (by decide) rfl (by refine ⟨rfl, by decide, by decide, (show (parseMethodDescriptor yX7_drop.desc).map (fun d => d.parameters.length) = some 1 by decide +kernel)⟩) kw_ml_RL_71 kw_im_X7_drop kw_se_X7_drop kw_in_RX7 kw_co_X7_drop hR hst d (ct_X7_drop l Y μ c p1 (r, m) hc e) kk
theorem gv_L_72 {l : Launch} {cc : ByteArray} {nL fr lo : Nat} {ret : Option FieldType} {Y : gx_Y} {Post : Int32 → gx_M → Prop} {K : gx_KT} {pc : Nat} {μ : gx_M} {L : List (Nat × Value)} {st : List Value} (h : gx_K l RL cc nL fr lo ret Y Post K) {c : Nat} {p1 : Int32} {p2 : Int32} {p3 : Int32} {r : Int32} {m : gx_M} (hc : gk_bow Y c) (d : decode cc pc = .ok (.invokevirtual 72, 3)) (hR : 5 + 1 ≤ fr ∧ 148 ≤ lo) (hst : (st.map fun v => v.category).sum ≤ 8) (e : fn_X6_transpose (gy_k Y) μ c p1 p2 p3 = some (r, m)) (kk : K m (pc + 3) L (.int r :: st)) : K μ pc L (.int p3 :: .int p2 :: .int p1 :: .ref (gy_a Y c) :: st) :=
  gw_callV (As := [.int p1, .int p2, .int p3]) (q := (r, m)) h hc.1 (by decide) rfl (by refine ⟨rfl, by decide, by decide, (show (parseMethodDescriptor yX6_transpose.desc).map (fun d => d.parameters.length) = some 3 by decide +kernel)⟩) kw_ml_RL_72 kw_im_X6_transpose kw_se_X6_transpose kw_in_RX6 kw_co_X6_transpose hR hst d (ct_X6_transpose l Y μ c p1 p2 p3 (r, m) hc e) kk
theorem gv_L_76 {l : Launch} {cc : ByteArray} {nL fr lo : Nat} {ret : Option FieldType} {Y : gx_Y} {Post : Int32 → gx_M → Prop} {K : gx_KT} {pc : Nat} {μ : gx_M} {L : List (Nat × Value)} {st : List Value} (h : gx_K l RL cc nL fr lo ret Y Post K) {c : Nat} {p1 : Int32} {p2 : Int32} {p3 : Int32} {r : Int32} {m : gx_M} (hc : gk_mod Y c) (d : decode cc pc = .ok (.invokevirtual 76, 3)) (hR : 2 + 1 ≤ fr ∧ 67 ≤ lo) (hst : (st.map fun v => v.category).sum ≤ 8) (e : fn_X7_transpose (gy_k Y) μ c p1 p2 p3 = some (r, m)) (kk : K m (pc + 3) L (.int r :: st)) : K μ pc L (.int p3 :: .int p2 :: .int p1 :: .ref (gy_a Y c) :: st) :=
  gw_callV (As := [.int p1, .int p2, .int p3]) (q := (r, m)) h hc.1 (by decide) rfl (by refine ⟨rfl, by decide, by decide, (show (parseMethodDescriptor yX7_transpose.desc).map (fun d => d.parameters.length) = some 3 by decide +kernel)⟩) kw_ml_RL_76 kw_im_X7_transpose kw_se_X7_transpose kw_in_RX7 kw_co_X7_transpose hR hst d (ct_X7_transpose l Y μ c p1 p2 p3 (r, m) hc e) kk
theorem gv_L_77 {l : Launch} {cc : ByteArray} {nL fr lo : Nat} {ret : Option FieldType} {Y : gx_Y} {Post : Int32 → gx_M → Prop} {K : gx_KT} {pc : Nat} {μ : gx_M} {L : List (Nat × Value)} {st : List Value} (h : gx_K l RL cc nL fr lo ret Y Post K) {c : Nat} {p1 : Int32} {p2 : Int32} {r : Int32} {m : gx_M} (hc : gk_bow Y c) (d : decode cc pc = .ok (.invokevirtual 77, 3)) (hR : 4 + 1 ≤ fr ∧ 112 ≤ lo) (hst : (st.map fun v => v.category).sum ≤ 8) (e : fn_X6_noteOf (gy_k Y) μ c p1 p2 = some (r, m)) (kk : K m (pc + 3) L (.int r :: st)) : K μ pc L (.int p2 :: .int p1 :: .ref (gy_a Y c) :: st) :=
  gw_callV (As := [.int p1, .int p2]) (q := (r, m)) h hc.1 (by decide) rfl (by refine ⟨rfl, by decide, by decide, (show (parseMethodDescriptor yX6_noteOf.desc).map (fun d => d.parameters.length) = some 2 by decide +kernel)⟩) kw_ml_RL_77 kw_im_X6_noteOf kw_se_X6_noteOf kw_in_RX6 kw_co_X6_noteOf hR hst d (ct_X6_noteOf l Y μ c p1 p2 (r, m) hc e) kk
theorem gv_L_80 {l : Launch} {cc : ByteArray} {nL fr lo : Nat} {ret : Option FieldType} {Y : gx_Y} {Post : Int32 → gx_M → Prop} {K : gx_KT} {pc : Nat} {μ : gx_M} {L : List (Nat × Value)} {st : List Value} (h : gx_K l RL cc nL fr lo ret Y Post K) {c : Nat} {p1 : Int32} {p2 : Int32} {r : Int32} {m : gx_M} (hc : gk_mod Y c) (d : decode cc pc = .ok (.invokevirtual 80, 3)) (hR : 3 + 1 ≤ fr ∧ 89 ≤ lo) (hst : (st.map fun v => v.category).sum ≤ 8) (e : fn_X7_noteOf (gy_k Y) μ c p1 p2 = some (r, m)) (kk : K m (pc + 3) L (.int r :: st)) : K μ pc L (.int p2 :: .int p1 :: .ref (gy_a Y c) :: st) :=
  gw_callV (As := [.int p1, .int p2]) (q := (r, m)) h hc.1 (by decide) rfl (by refine ⟨rfl, by decide, by decide, (show (parseMethodDescriptor yX7_noteOf.desc).map (fun d => d.parameters.length) = some 2 by decide +kernel)⟩) kw_ml_RL_80 kw_im_X7_noteOf kw_se_X7_noteOf kw_in_RX7 kw_co_X7_noteOf hR hst d (ct_X7_noteOf l Y μ c p1 p2 (r, m) hc e) kk
theorem gv_L_81 {l : Launch} {cc : ByteArray} {nL fr lo : Nat} {ret : Option FieldType} {Y : gx_Y} {Post : Int32 → gx_M → Prop} {K : gx_KT} {pc : Nat} {μ : gx_M} {L : List (Nat × Value)} {st : List Value} (h : gx_K l RL cc nL fr lo ret Y Post K) {c : Nat} {p1 : Int32} {r : Int32} {m : gx_M} (hc : gk_bow Y c) (d : decode cc pc = .ok (.invokevirtual 81, 3)) (hR : 5 + 1 ≤ fr ∧ 147 ≤ lo) (hst : (st.map fun v => v.category).sum ≤ 8) (e : fn_X6_run (gy_k Y) μ c p1 = some (r, m)) (kk : K m (pc + 3) L (.int r :: st)) : K μ pc L (.int p1 :: .ref (gy_a Y c) :: st) :=
  gw_callV (As := [.int p1]) (q := (r, m)) h hc.1 (by decide) rfl (by refine ⟨rfl, by decide, by decide, (show (parseMethodDescriptor yX6_run.desc).map (fun d => d.parameters.length) = some 1 by decide +kernel)⟩) kw_ml_RL_81 kw_im_X6_run kw_se_X6_run kw_in_RX6 kw_co_X6_run hR hst d (ct_X6_run l Y μ c p1 (r, m) hc e) kk
theorem gv_L_84 {l : Launch} {cc : ByteArray} {nL fr lo : Nat} {ret : Option FieldType} {Y : gx_Y} {Post : Int32 → gx_M → Prop} {K : gx_KT} {pc : Nat} {μ : gx_M} {L : List (Nat × Value)} {st : List Value} (h : gx_K l RL cc nL fr lo ret Y Post K) {c : Nat} {p1 : Int32} {r : Int32} {m : gx_M} (hc : gk_mod Y c) (d : decode cc pc = .ok (.invokevirtual 84, 3)) (hR : 6 + 1 ≤ fr ∧ 156 ≤ lo) (hst : (st.map fun v => v.category).sum ≤ 8) (e : fn_X7_run (gy_k Y) μ c p1 = some (r, m)) (kk : K m (pc + 3) L (.int r :: st)) : K μ pc L (.int p1 :: .ref (gy_a Y c) :: st) :=
  gw_callV (As := [.int p1]) (q := (r, m)) h hc.1 (by decide) rfl (by refine ⟨rfl, by decide, by decide, (show (parseMethodDescriptor yX7_run.desc).map (fun d => d.parameters.length) = some 1 by decide +kernel)⟩) kw_ml_RL_84 kw_im_X7_run kw_se_X7_run kw_in_RX7 kw_co_X7_run hR hst d (ct_X7_run l Y μ c p1 (r, m) hc e) kk
theorem gv_L_85 {l : Launch} {cc : ByteArray} {nL fr lo : Nat} {ret : Option FieldType} {Y : gx_Y} {Post : Int32 → gx_M → Prop} {K : gx_KT} {pc : Nat} {μ : gx_M} {L : List (Nat × Value)} {st : List Value} (h : gx_K l RL cc nL fr lo ret Y Post K) {c : Nat} {r : Int32} {m : gx_M} (hc : gk_bow Y c) (d : decode cc pc = .ok (.invokevirtual 85, 3)) (hR : 5 + 1 ≤ fr ∧ 146 ≤ lo) (hst : (st.map fun v => v.category).sum ≤ 8) (e : fn_X6_rewind (gy_k Y) μ c = some (r, m)) (kk : K m (pc + 3) L (.int r :: st)) : K μ pc L (.ref (gy_a Y c) :: st) :=
  gw_callV (As := []) (q := (r, m)) h hc.1 (by decide) rfl (by refine ⟨rfl, by decide, by decide, (show (parseMethodDescriptor yX6_rewind.desc).map (fun d => d.parameters.length) = some 0 by decide +kernel)⟩) kw_ml_RL_85 kw_im_X6_rewind kw_se_X6_rewind kw_in_RX6 kw_co_X6_rewind hR hst d (ct_X6_rewind l Y μ c (r, m) hc e) kk
theorem gv_L_88 {l : Launch} {cc : ByteArray} {nL fr lo : Nat} {ret : Option FieldType} {Y : gx_Y} {Post : Int32 → gx_M → Prop} {K : gx_KT} {pc : Nat} {μ : gx_M} {L : List (Nat × Value)} {st : List Value} (h : gx_K l RL cc nL fr lo ret Y Post K) {c : Nat} {r : Int32} {m : gx_M} (hc : gk_mod Y c) (d : decode cc pc = .ok (.invokevirtual 88, 3)) (hR : 1 + 1 ≤ fr ∧ 45 ≤ lo) (hst : (st.map fun v => v.category).sum ≤ 8) (e : fn_X7_rewind (gy_k Y) μ c = some (r, m)) (kk : K m (pc + 3) L (.int r :: st)) : K μ pc L (.ref (gy_a Y c) :: st) :=
  gw_callV (As := []) (q := (r, m)) h hc.1 (by decide) rfl (by refine ⟨rfl, by decide, by decide, (show (parseMethodDescriptor yX7_rewind.desc).map (fun d => d.parameters.length) = some 0 by decide +kernel)⟩) kw_ml_RL_88 kw_im_X7_rewind kw_se_X7_rewind kw_in_RX7 kw_co_X7_rewind hR hst d (ct_X7_rewind l Y μ c (r, m) hc e) kk
theorem gv_L_89 {l : Launch} {cc : ByteArray} {nL fr lo : Nat} {ret : Option FieldType} {Y : gx_Y} {Post : Int32 → gx_M → Prop} {K : gx_KT} {pc : Nat} {μ : gx_M} {L : List (Nat × Value)} {st : List Value} (h : gx_K l RL cc nL fr lo ret Y Post K) {c : Nat} {p1 : Int32} {r : Int32} {m : gx_M} (hc : gk_bow Y c) (d : decode cc pc = .ok (.invokevirtual 89, 3)) (hR : 4 + 1 ≤ fr ∧ 110 ≤ lo) (hst : (st.map fun v => v.category).sum ≤ 8) (e : fn_X6_worst (gy_k Y) μ c p1 = some (r, m)) (kk : K m (pc + 3) L (.int r :: st)) : K μ pc L (.int p1 :: .ref (gy_a Y c) :: st) :=
  gw_callV (As := [.int p1]) (q := (r, m)) h hc.1 (by decide) rfl (by refine ⟨rfl, by decide, by decide, (show (parseMethodDescriptor yX6_worst.desc).map (fun d => d.parameters.length) = some 1 by decide +kernel)⟩) kw_ml_RL_89 kw_im_X6_worst kw_se_X6_worst kw_in_RX6 kw_co_X6_worst hR hst d (ct_X6_worst l Y μ c p1 (r, m) hc e) kk
theorem gv_L_92 {l : Launch} {cc : ByteArray} {nL fr lo : Nat} {ret : Option FieldType} {Y : gx_Y} {Post : Int32 → gx_M → Prop} {K : gx_KT} {pc : Nat} {μ : gx_M} {L : List (Nat × Value)} {st : List Value} (h : gx_K l RL cc nL fr lo ret Y Post K) {c : Nat} {p1 : Int32} {r : Int32} {m : gx_M} (hc : gk_mod Y c) (d : decode cc pc = .ok (.invokevirtual 92, 3)) (hR : 3 + 1 ≤ fr ∧ 89 ≤ lo) (hst : (st.map fun v => v.category).sum ≤ 8) (e : fn_X7_worst (gy_k Y) μ c p1 = some (r, m)) (kk : K m (pc + 3) L (.int r :: st)) : K μ pc L (.int p1 :: .ref (gy_a Y c) :: st) :=
  gw_callV (As := [.int p1]) (q := (r, m)) h hc.1 (by decide) rfl (by refine ⟨rfl, by decide, by decide, (show (parseMethodDescriptor yX7_worst.desc).map (fun d => d.parameters.length) = some 1 by decide +kernel)⟩) kw_ml_RL_92 kw_im_X7_worst kw_se_X7_worst kw_in_RX7 kw_co_X7_worst hR hst d (ct_X7_worst l Y μ c p1 (r, m) hc e) kk
theorem gv_L_93 {l : Launch} {cc : ByteArray} {nL fr lo : Nat} {ret : Option FieldType} {Y : gx_Y} {Post : Int32 → gx_M → Prop} {K : gx_KT} {pc : Nat} {μ : gx_M} {L : List (Nat × Value)} {st : List Value} (h : gx_K l RL cc nL fr lo ret Y Post K) {c : Nat} {p1 : Int32} {r : Int32} {m : gx_M} (hc : gk_bow Y c) (d : decode cc pc = .ok (.invokevirtual 93, 3)) (hR : 6 + 1 ≤ fr ∧ 160 ≤ lo) (hst : (st.map fun v => v.category).sum ≤ 8) (e : fn_X6_wouldBe (gy_k Y) μ c p1 = some (r, m)) (kk : K m (pc + 3) L (.int r :: st)) : K μ pc L (.int p1 :: .ref (gy_a Y c) :: st) :=
  gw_callV (As := [.int p1]) (q := (r, m)) h hc.1 (by decide) rfl (by refine ⟨rfl, by decide, by decide, (show (parseMethodDescriptor yX6_wouldBe.desc).map (fun d => d.parameters.length) = some 1 by decide +kernel)⟩) kw_ml_RL_93 kw_im_X6_wouldBe kw_se_X6_wouldBe kw_in_RX6 kw_co_X6_wouldBe hR hst d (ct_X6_wouldBe l Y μ c p1 (r, m) hc e) kk
theorem gv_L_96 {l : Launch} {cc : ByteArray} {nL fr lo : Nat} {ret : Option FieldType} {Y : gx_Y} {Post : Int32 → gx_M → Prop} {K : gx_KT} {pc : Nat} {μ : gx_M} {L : List (Nat × Value)} {st : List Value} (h : gx_K l RL cc nL fr lo ret Y Post K) {c : Nat} {p1 : Int32} {r : Int32} {m : gx_M} (hc : gk_mod Y c) (d : decode cc pc = .ok (.invokevirtual 96, 3)) (hR : 7 + 1 ≤ fr ∧ 177 ≤ lo) (hst : (st.map fun v => v.category).sum ≤ 8) (e : fn_X7_wouldBe (gy_k Y) μ c p1 = some (r, m)) (kk : K m (pc + 3) L (.int r :: st)) : K μ pc L (.int p1 :: .ref (gy_a Y c) :: st) :=
  gw_callV (As := [.int p1]) (q := (r, m)) h hc.1 (by decide) rfl (by refine ⟨rfl, by decide, by decide, (show (parseMethodDescriptor yX7_wouldBe.desc).map (fun d => d.parameters.length) = some 1 by decide +kernel)⟩) kw_ml_RL_96 kw_im_X7_wouldBe kw_se_X7_wouldBe kw_in_RX7 kw_co_X7_wouldBe hR hst d (ct_X7_wouldBe l Y μ c p1 (r, m) hc e) kk
theorem gv_L_97 {l : Launch} {cc : ByteArray} {nL fr lo : Nat} {ret : Option FieldType} {Y : gx_Y} {Post : Int32 → gx_M → Prop} {K : gx_KT} {pc : Nat} {μ : gx_M} {L : List (Nat × Value)} {st : List Value} (h : gx_K l RL cc nL fr lo ret Y Post K) {c : Nat} {r : Int32} {m : gx_M} (hc : gk_bow Y c) (d : decode cc pc = .ok (.invokevirtual 97, 3)) (hR : 6 + 1 ≤ fr ∧ 158 ≤ lo) (hst : (st.map fun v => v.category).sum ≤ 8) (e : fn_X6_firstFalse (gy_k Y) μ c = some (r, m)) (kk : K m (pc + 3) L (.int r :: st)) : K μ pc L (.ref (gy_a Y c) :: st) :=
  gw_callV (As := []) (q := (r, m)) h hc.1 (by decide) rfl (by refine ⟨rfl, by decide, by decide, (show (parseMethodDescriptor yX6_firstFalse.desc).map (fun d => d.parameters.length) = some 0 by decide +kernel)⟩) kw_ml_RL_97 kw_im_X6_firstFalse kw_se_X6_firstFalse kw_in_RX6 kw_co_X6_firstFalse hR hst d (ct_X6_firstFalse l Y μ c (r, m) hc e) kk
theorem gv_L_100 {l : Launch} {cc : ByteArray} {nL fr lo : Nat} {ret : Option FieldType} {Y : gx_Y} {Post : Int32 → gx_M → Prop} {K : gx_KT} {pc : Nat} {μ : gx_M} {L : List (Nat × Value)} {st : List Value} (h : gx_K l RL cc nL fr lo ret Y Post K) {c : Nat} {r : Int32} {m : gx_M} (hc : gk_mod Y c) (d : decode cc pc = .ok (.invokevirtual 100, 3)) (hR : 6 + 1 ≤ fr ∧ 155 ≤ lo) (hst : (st.map fun v => v.category).sum ≤ 8) (e : fn_X7_firstFalse (gy_k Y) μ c = some (r, m)) (kk : K m (pc + 3) L (.int r :: st)) : K μ pc L (.ref (gy_a Y c) :: st) :=
  gw_callV (As := []) (q := (r, m)) h hc.1 (by decide) rfl (by refine ⟨rfl, by decide, by decide, (show (parseMethodDescriptor yX7_firstFalse.desc).map (fun d => d.parameters.length) = some 0 by decide +kernel)⟩) kw_ml_RL_100 kw_im_X7_firstFalse kw_se_X7_firstFalse kw_in_RX7 kw_co_X7_firstFalse hR hst d (ct_X7_firstFalse l Y μ c (r, m) hc e) kk
theorem gv_L_101 {l : Launch} {cc : ByteArray} {nL fr lo : Nat} {ret : Option FieldType} {Y : gx_Y} {Post : Int32 → gx_M → Prop} {K : gx_KT} {pc : Nat} {μ : gx_M} {L : List (Nat × Value)} {st : List Value} (h : gx_K l RL cc nL fr lo ret Y Post K) {c : Nat} {r : Int32} {m : gx_M} (hc : gk_bow Y c) (d : decode cc pc = .ok (.invokevirtual 101, 3)) (hR : 6 + 1 ≤ fr ∧ 158 ≤ lo) (hst : (st.map fun v => v.category).sum ≤ 8) (e : fn_X6_leastTolerance (gy_k Y) μ c = some (r, m)) (kk : K m (pc + 3) L (.int r :: st)) : K μ pc L (.ref (gy_a Y c) :: st) :=
  gw_callV (As := []) (q := (r, m)) h hc.1 (by decide) rfl (by refine ⟨rfl, by decide, by decide, (show (parseMethodDescriptor yX6_leastTolerance.desc).map (fun d => d.parameters.length) = some 0 by decide +kernel)⟩) kw_ml_RL_101 kw_im_X6_leastTolerance kw_se_X6_leastTolerance kw_in_RX6 kw_co_X6_leastTolerance hR hst d (ct_X6_leastTolerance l Y μ c (r, m) hc e) kk
theorem gv_L_104 {l : Launch} {cc : ByteArray} {nL fr lo : Nat} {ret : Option FieldType} {Y : gx_Y} {Post : Int32 → gx_M → Prop} {K : gx_KT} {pc : Nat} {μ : gx_M} {L : List (Nat × Value)} {st : List Value} (h : gx_K l RL cc nL fr lo ret Y Post K) {c : Nat} {r : Int32} {m : gx_M} (hc : gk_mod Y c) (d : decode cc pc = .ok (.invokevirtual 104, 3)) (hR : 6 + 1 ≤ fr ∧ 155 ≤ lo) (hst : (st.map fun v => v.category).sum ≤ 8) (e : fn_X7_leastTolerance (gy_k Y) μ c = some (r, m)) (kk : K m (pc + 3) L (.int r :: st)) : K μ pc L (.ref (gy_a Y c) :: st) :=
  gw_callV (As := []) (q := (r, m)) h hc.1 (by decide) rfl (by refine ⟨rfl, by decide, by decide, (show (parseMethodDescriptor yX7_leastTolerance.desc).map (fun d => d.parameters.length) = some 0 by decide +kernel)⟩) kw_ml_RL_104 kw_im_X7_leastTolerance kw_se_X7_leastTolerance kw_in_RX7 kw_co_X7_leastTolerance hR hst d (ct_X7_leastTolerance l Y μ c (r, m) hc e) kk
theorem gv_L_105 {l : Launch} {cc : ByteArray} {nL fr lo : Nat} {ret : Option FieldType} {Y : gx_Y} {Post : Int32 → gx_M → Prop} {K : gx_KT} {pc : Nat} {μ : gx_M} {L : List (Nat × Value)} {st : List Value} (h : gx_K l RL cc nL fr lo ret Y Post K) {c : Nat} {p1 : Int32} {p2 : Int32} {r : Int32} {m : gx_M} (hc : gk_bow Y c) (d : decode cc pc = .ok (.invokevirtual 105, 3)) (hR : 6 + 1 ≤ fr ∧ 160 ≤ lo) (hst : (st.map fun v => v.category).sum ≤ 8) (e : fn_X6_pitchAt (gy_k Y) μ c p1 p2 = some (r, m)) (kk : K m (pc + 3) L (.int r :: st)) : K μ pc L (.int p2 :: .int p1 :: .ref (gy_a Y c) :: st) :=
  gw_callV (As := [.int p1, .int p2]) (q := (r, m)) h hc.1 (by decide) rfl (by refine ⟨rfl, by decide, by decide, (show (parseMethodDescriptor yX6_pitchAt.desc).map (fun d => d.parameters.length) = some 2 by decide +kernel)⟩) kw_ml_RL_105 kw_im_X6_pitchAt kw_se_X6_pitchAt kw_in_RX6 kw_co_X6_pitchAt hR hst d (ct_X6_pitchAt l Y μ c p1 p2 (r, m) hc e) kk
theorem gv_L_108 {l : Launch} {cc : ByteArray} {nL fr lo : Nat} {ret : Option FieldType} {Y : gx_Y} {Post : Int32 → gx_M → Prop} {K : gx_KT} {pc : Nat} {μ : gx_M} {L : List (Nat × Value)} {st : List Value} (h : gx_K l RL cc nL fr lo ret Y Post K) {c : Nat} {p1 : Int32} {p2 : Int32} {r : Int32} {m : gx_M} (hc : gk_mod Y c) (d : decode cc pc = .ok (.invokevirtual 108, 3)) (hR : 7 + 1 ≤ fr ∧ 178 ≤ lo) (hst : (st.map fun v => v.category).sum ≤ 8) (e : fn_X7_pitchAt (gy_k Y) μ c p1 p2 = some (r, m)) (kk : K m (pc + 3) L (.int r :: st)) : K μ pc L (.int p2 :: .int p1 :: .ref (gy_a Y c) :: st) :=
  gw_callV (As := [.int p1, .int p2]) (q := (r, m)) h hc.1 (by decide) rfl (by refine ⟨rfl, by decide, by decide, (show (parseMethodDescriptor yX7_pitchAt.desc).map (fun d => d.parameters.length) = some 2 by decide +kernel)⟩) kw_ml_RL_108 kw_im_X7_pitchAt kw_se_X7_pitchAt kw_in_RX7 kw_co_X7_pitchAt hR hst d (ct_X7_pitchAt l Y μ c p1 p2 (r, m) hc e) kk
theorem gv_L_109 {l : Launch} {cc : ByteArray} {nL fr lo : Nat} {ret : Option FieldType} {Y : gx_Y} {Post : Int32 → gx_M → Prop} {K : gx_KT} {pc : Nat} {μ : gx_M} {L : List (Nat × Value)} {st : List Value} (h : gx_K l RL cc nL fr lo ret Y Post K) {c : Nat} {p1 : Int32} {r : Int32} {m : gx_M} (hc : gk_bow Y c) (d : decode cc pc = .ok (.invokevirtual 109, 3)) (hR : 2 + 1 ≤ fr ∧ 64 ≤ lo) (hst : (st.map fun v => v.category).sum ≤ 8) (e : fn_X6_type (gy_k Y) μ c p1 = some (r, m)) (kk : K m (pc + 3) L (.int r :: st)) : K μ pc L (.int p1 :: .ref (gy_a Y c) :: st) :=
  gw_callV (As := [.int p1]) (q := (r, m)) h hc.1 (by decide) rfl (by refine ⟨rfl, by decide, by decide, (show (parseMethodDescriptor yX6_type.desc).map (fun d => d.parameters.length) = some 1 by decide +kernel)⟩) kw_ml_RL_109 kw_im_X6_type kw_se_X6_type kw_in_RX6 kw_co_X6_type hR hst d (ct_X6_type l Y μ c p1 (r, m) hc e) kk
theorem gv_L_112 {l : Launch} {cc : ByteArray} {nL fr lo : Nat} {ret : Option FieldType} {Y : gx_Y} {Post : Int32 → gx_M → Prop} {K : gx_KT} {pc : Nat} {μ : gx_M} {L : List (Nat × Value)} {st : List Value} (h : gx_K l RL cc nL fr lo ret Y Post K) {c : Nat} {p1 : Int32} {r : Int32} {m : gx_M} (hc : gk_mod Y c) (d : decode cc pc = .ok (.invokevirtual 112, 3)) (hR : 1 + 1 ≤ fr ∧ 43 ≤ lo) (hst : (st.map fun v => v.category).sum ≤ 8) (e : fn_X7_type (gy_k Y) μ c p1 = some (r, m)) (kk : K m (pc + 3) L (.int r :: st)) : K μ pc L (.int p1 :: .ref (gy_a Y c) :: st) :=
  gw_callV (As := [.int p1]) (q := (r, m)) h hc.1 (by decide) rfl (by refine ⟨rfl, by decide, by decide, (show (parseMethodDescriptor yX7_type.desc).map (fun d => d.parameters.length) = some 1 by decide +kernel)⟩) kw_ml_RL_112 kw_im_X7_type kw_se_X7_type kw_in_RX7 kw_co_X7_type hR hst d (ct_X7_type l Y μ c p1 (r, m) hc e) kk
theorem gv_L_113 {l : Launch} {cc : ByteArray} {nL fr lo : Nat} {ret : Option FieldType} {Y : gx_Y} {Post : Int32 → gx_M → Prop} {K : gx_KT} {pc : Nat} {μ : gx_M} {L : List (Nat × Value)} {st : List Value} (h : gx_K l RL cc nL fr lo ret Y Post K) {c : Nat} {r : Int32} {m : gx_M} (hc : gk_bow Y c) (d : decode cc pc = .ok (.invokevirtual 113, 3)) (hR : 2 + 1 ≤ fr ∧ 64 ≤ lo) (hst : (st.map fun v => v.category).sum ≤ 8) (e : fn_X6_clearText (gy_k Y) μ c = some (r, m)) (kk : K m (pc + 3) L (.int r :: st)) : K μ pc L (.ref (gy_a Y c) :: st) :=
  gw_callV (As := []) (q := (r, m)) h hc.1 (by decide) rfl (by refine ⟨rfl, by decide, by decide, (show (parseMethodDescriptor yX6_clearText.desc).map (fun d => d.parameters.length) = some 0 by decide +kernel)⟩) kw_ml_RL_113 kw_im_X6_clearText kw_se_X6_clearText kw_in_RX6 kw_co_X6_clearText hR hst d (ct_X6_clearText l Y μ c (r, m) hc e) kk
theorem gv_L_116 {l : Launch} {cc : ByteArray} {nL fr lo : Nat} {ret : Option FieldType} {Y : gx_Y} {Post : Int32 → gx_M → Prop} {K : gx_KT} {pc : Nat} {μ : gx_M} {L : List (Nat × Value)} {st : List Value} (h : gx_K l RL cc nL fr lo ret Y Post K) {c : Nat} {r : Int32} {m : gx_M} (hc : gk_mod Y c) (d : decode cc pc = .ok (.invokevirtual 116, 3)) (hR : 0 + 1 ≤ fr ∧ 21 ≤ lo) (hst : (st.map fun v => v.category).sum ≤ 8) (e : fn_X7_clearText (gy_k Y) μ c = some (r, m)) (kk : K m (pc + 3) L (.int r :: st)) : K μ pc L (.ref (gy_a Y c) :: st) :=
  gw_callV (As := []) (q := (r, m)) h hc.1 (by decide) rfl (by refine ⟨rfl, by decide, by decide, (show (parseMethodDescriptor yX7_clearText.desc).map (fun d => d.parameters.length) = some 0 by decide +kernel)⟩) kw_ml_RL_116 kw_im_X7_clearText kw_se_X7_clearText kw_in_RX7 kw_co_X7_clearText hR hst d (ct_X7_clearText l Y μ c (r, m) hc e) kk
theorem gv_L_117 {l : Launch} {cc : ByteArray} {nL fr lo : Nat} {ret : Option FieldType} {Y : gx_Y} {Post : Int32 → gx_M → Prop} {K : gx_KT} {pc : Nat} {μ : gx_M} {L : List (Nat × Value)} {st : List Value} (h : gx_K l RL cc nL fr lo ret Y Post K) {c : Nat} {p1 : Int32} {r : Int32} {m : gx_M} (hc : gk_bow Y c) (d : decode cc pc = .ok (.invokevirtual 117, 3)) (hR : 6 + 1 ≤ fr ∧ 149 ≤ lo) (hst : (st.map fun v => v.category).sum ≤ 8) (e : fn_X6_fault (gy_k Y) μ c p1 = some (r, m)) (kk : K m (pc + 3) L (.int r :: st)) : K μ pc L (.int p1 :: .ref (gy_a Y c) :: st) :=
  gw_callV (As := [.int p1]) (q := (r, m)) h hc.1 (by decide) rfl (by refine ⟨rfl, by decide, by decide, (show (parseMethodDescriptor yX6_fault.desc).map (fun d => d.parameters.length) = some 1 by decide +kernel)⟩) kw_ml_RL_117 kw_im_X6_fault kw_se_X6_fault kw_in_RX6 kw_co_X6_fault hR hst d (ct_X6_fault l Y μ c p1 (r, m) hc e) kk
theorem gv_L_120 {l : Launch} {cc : ByteArray} {nL fr lo : Nat} {ret : Option FieldType} {Y : gx_Y} {Post : Int32 → gx_M → Prop} {K : gx_KT} {pc : Nat} {μ : gx_M} {L : List (Nat × Value)} {st : List Value} (h : gx_K l RL cc nL fr lo ret Y Post K) {c : Nat} {p1 : Int32} {r : Int32} {m : gx_M} (hc : gk_mod Y c) (d : decode cc pc = .ok (.invokevirtual 120, 3)) (hR : 4 + 1 ≤ fr ∧ 110 ≤ lo) (hst : (st.map fun v => v.category).sum ≤ 8) (e : fn_X7_fault (gy_k Y) μ c p1 = some (r, m)) (kk : K m (pc + 3) L (.int r :: st)) : K μ pc L (.int p1 :: .ref (gy_a Y c) :: st) :=
  gw_callV (As := [.int p1]) (q := (r, m)) h hc.1 (by decide) rfl (by refine ⟨rfl, by decide, by decide, (show (parseMethodDescriptor yX7_fault.desc).map (fun d => d.parameters.length) = some 1 by decide +kernel)⟩) kw_ml_RL_120 kw_im_X7_fault kw_se_X7_fault kw_in_RX7 kw_co_X7_fault hR hst d (ct_X7_fault l Y μ c p1 (r, m) hc e) kk
theorem gv_L_121 {l : Launch} {cc : ByteArray} {nL fr lo : Nat} {ret : Option FieldType} {Y : gx_Y} {Post : Int32 → gx_M → Prop} {K : gx_KT} {pc : Nat} {μ : gx_M} {L : List (Nat × Value)} {st : List Value} (h : gx_K l RL cc nL fr lo ret Y Post K) {c : Nat} {r : Int32} {m : gx_M} (hc : gk_bow Y c) (d : decode cc pc = .ok (.invokevirtual 121, 3)) (hR : 6 + 1 ≤ fr ∧ 148 ≤ lo) (hst : (st.map fun v => v.category).sum ≤ 8) (e : fn_X6_enter (gy_k Y) μ c = some (r, m)) (kk : K m (pc + 3) L (.int r :: st)) : K μ pc L (.ref (gy_a Y c) :: st) :=
  gw_callV (As := []) (q := (r, m)) h hc.1 (by decide) rfl (by refine ⟨rfl, by decide, by decide, (show (parseMethodDescriptor yX6_enter.desc).map (fun d => d.parameters.length) = some 0 by decide +kernel)⟩) kw_ml_RL_121 kw_im_X6_enter kw_se_X6_enter kw_in_RX6 kw_co_X6_enter hR hst d (ct_X6_enter l Y μ c (r, m) hc e) kk
theorem gv_L_124 {l : Launch} {cc : ByteArray} {nL fr lo : Nat} {ret : Option FieldType} {Y : gx_Y} {Post : Int32 → gx_M → Prop} {K : gx_KT} {pc : Nat} {μ : gx_M} {L : List (Nat × Value)} {st : List Value} (h : gx_K l RL cc nL fr lo ret Y Post K) {c : Nat} {r : Int32} {m : gx_M} (hc : gk_mod Y c) (d : decode cc pc = .ok (.invokevirtual 124, 3)) (hR : 4 + 1 ≤ fr ∧ 110 ≤ lo) (hst : (st.map fun v => v.category).sum ≤ 8) (e : fn_X7_enter (gy_k Y) μ c = some (r, m)) (kk : K m (pc + 3) L (.int r :: st)) : K μ pc L (.ref (gy_a Y c) :: st) :=
  gw_callV (As := []) (q := (r, m)) h hc.1 (by decide) rfl (by refine ⟨rfl, by decide, by decide, (show (parseMethodDescriptor yX7_enter.desc).map (fun d => d.parameters.length) = some 0 by decide +kernel)⟩) kw_ml_RL_124 kw_im_X7_enter kw_se_X7_enter kw_in_RX7 kw_co_X7_enter hR hst d (ct_X7_enter l Y μ c (r, m) hc e) kk
/-- what is owed of the two classes for the law -/
abbrev gl_Sims (Sim : gx_M → Prop) : Prop :=
  (∀ a1 a2, gl_ok Sim (fun μ => fn_X6_bowl gl_kd μ 6 a1 a2) (fun μ => fn_X7_bowl gl_kd μ 0 a1 a2)) ∧
  (∀ a1, gl_ok Sim (fun μ => fn_X6_remove gl_kd μ 6 a1) (fun μ => fn_X7_remove gl_kd μ 0 a1)) ∧
  (∀ a1 a2, gl_ok Sim (fun μ => fn_X6_pour gl_kd μ 6 a1 a2) (fun μ => fn_X7_pour gl_kd μ 0 a1 a2)) ∧
  (∀ a1 a2, gl_ok Sim (fun μ => fn_X6_spill gl_kd μ 6 a1 a2) (fun μ => fn_X7_spill gl_kd μ 0 a1 a2)) ∧
  (∀ a1 a2, gl_ok Sim (fun μ => fn_X6_crack gl_kd μ 6 a1 a2) (fun μ => fn_X7_crack gl_kd μ 0 a1 a2)) ∧
  (∀ a1 a2, gl_ok Sim (fun μ => fn_X6_mark gl_kd μ 6 a1 a2) (fun μ => fn_X7_mark gl_kd μ 0 a1 a2)) ∧
  (∀ a1 a2, gl_ok Sim (fun μ => fn_X6_bowlOf gl_kd μ 6 a1 a2) (fun μ => fn_X7_bowlOf gl_kd μ 0 a1 a2)) ∧
  (∀ a1 a2, gl_ok Sim (fun μ => fn_X6_levelFor gl_kd μ 6 a1 a2) (fun μ => fn_X7_levelFor gl_kd μ 0 a1 a2)) ∧
  (∀ a1, gl_ok Sim (fun μ => fn_X6_nearest gl_kd μ 6 a1) (fun μ => fn_X7_nearest gl_kd μ 0 a1)) ∧
  (∀ a1 a2, gl_ok Sim (fun μ => fn_X6_set gl_kd μ 6 a1 a2) (fun μ => fn_X7_set gl_kd μ 0 a1 a2)) ∧
  (∀ a1, gl_ok Sim (fun μ => fn_X6_count gl_kd μ 6 a1) (fun μ => fn_X7_count gl_kd μ 0 a1)) ∧
  (gl_ok Sim (fun μ => fn_X6_undo gl_kd μ 6) (fun μ => fn_X7_undo gl_kd μ 0)) ∧
  (∀ a1 a2, gl_ok Sim (fun μ => fn_X6_note gl_kd μ 6 a1 a2) (fun μ => fn_X7_note gl_kd μ 0 a1 a2)) ∧
  (∀ a1, gl_ok Sim (fun μ => fn_X6_drop gl_kd μ 6 a1) (fun μ => fn_X7_drop gl_kd μ 0 a1)) ∧
  (∀ a1 a2 a3, gl_ok Sim (fun μ => fn_X6_transpose gl_kd μ 6 a1 a2 a3) (fun μ => fn_X7_transpose gl_kd μ 0 a1 a2 a3)) ∧
  (∀ a1 a2, gl_ok Sim (fun μ => fn_X6_noteOf gl_kd μ 6 a1 a2) (fun μ => fn_X7_noteOf gl_kd μ 0 a1 a2)) ∧
  (∀ a1, gl_ok Sim (fun μ => fn_X6_run gl_kd μ 6 a1) (fun μ => fn_X7_run gl_kd μ 0 a1)) ∧
  (gl_ok Sim (fun μ => fn_X6_rewind gl_kd μ 6) (fun μ => fn_X7_rewind gl_kd μ 0)) ∧
  (∀ a1, gl_ok Sim (fun μ => fn_X6_worst gl_kd μ 6 a1) (fun μ => fn_X7_worst gl_kd μ 0 a1)) ∧
  (∀ a1, gl_ok Sim (fun μ => fn_X6_wouldBe gl_kd μ 6 a1) (fun μ => fn_X7_wouldBe gl_kd μ 0 a1)) ∧
  (gl_ok Sim (fun μ => fn_X6_firstFalse gl_kd μ 6) (fun μ => fn_X7_firstFalse gl_kd μ 0)) ∧
  (gl_ok Sim (fun μ => fn_X6_leastTolerance gl_kd μ 6) (fun μ => fn_X7_leastTolerance gl_kd μ 0)) ∧
  (∀ a1 a2, gl_ok Sim (fun μ => fn_X6_pitchAt gl_kd μ 6 a1 a2) (fun μ => fn_X7_pitchAt gl_kd μ 0 a1 a2)) ∧
  (∀ a1, gl_ok Sim (fun μ => fn_X6_type gl_kd μ 6 a1) (fun μ => fn_X7_type gl_kd μ 0 a1)) ∧
  (gl_ok Sim (fun μ => fn_X6_clearText gl_kd μ 6) (fun μ => fn_X7_clearText gl_kd μ 0)) ∧
  (∀ a1, gl_ok Sim (fun μ => fn_X6_fault gl_kd μ 6 a1) (fun μ => fn_X7_fault gl_kd μ 0 a1)) ∧
  (gl_ok Sim (fun μ => fn_X6_enter gl_kd μ 6) (fun μ => fn_X7_enter gl_kd μ 0))
theorem gl_le {L j : Nat} (hL : L ≤ 2048) (hj : j < 2 ^ 31) (h : ¬ (nI L - 4 < nI j)) : j + 4 ≤ L := by
  have h1 : (nI L - 4).toInt = (L : Int) - 4 := by
    rw [Int32.toInt_sub, nI_toInt (by omega), show (4 : Int32).toInt = 4 by decide]
    rw [Int.bmod_eq_of_le (by omega) (by omega)]
  rw [Int32.lt_iff_toInt_lt, h1, nI_toInt hj] at h
  omega
set_option maxRecDepth 100000 in
set_option maxHeartbeats 40000000 in
theorem gl_loop {l : Launch} {Y : gx_Y} {K : gx_KT} (hK : gx_K l RL cL_law 4 10 356 (some .boolean) Y (fun v _ => v = 1) K) (hkd : gy_k Y = gl_kd) (hcx : gk_bow Y 6) (hcm : gk_mod Y 0) {b Ln : Nat} {xs : Nat → Int32} (hL : Ln ≤ 2048)
    (hsl : ∀ {μ : gx_M} {pc : Nat} {L : List (Nat × Value)} {st : List Value} {i : Int32}, decode cL_law pc = .ok (.iaload, 1) → vp_in i Ln → K μ (pc + 1) L (.int (xs i.toNatClampNeg) :: st) → K μ pc L (.int i :: .ref b :: st))
    (hsn : ∀ {μ : gx_M} {pc : Nat} {L : List (Nat × Value)} {st : List Value}, decode cL_law pc = .ok (.arraylength, 1) → K μ (pc + 1) L (.int (nI Ln) :: st) → K μ pc L (.ref b :: st))
    {Sim : gx_M → Prop} (hS : gl_Sims Sim) :
    ∀ (n j : Nat) (μ : gx_M), Ln + 1 ≤ j + n → j ≤ Ln + 4 → Sim μ → K μ 18 [(0, .ref b), (1, .ref (gy_a Y 6)), (2, .ref (gy_a Y 0)), (3, .int (nI j))] [] := by
  obtain ⟨hq0, hq1, hq2, hq3, hq4, hq5, hq6, hq7, hq8, hq9, hq10, hq11, hq12, hq13, hq14, hq15, hq16, hq17, hq18, hq19, hq20, hq21, hq22, hq23, hq24, hq25, hq26⟩ := hS
  intro n
  induction n with
  | zero =>
    intro j μ h1 h2 hs
    refine gw_iload_n (pc := 18) hK 3 dL_law_18 rfl rfl ?_
    refine gw_aload_n (pc := 19) hK 0 dL_law_19 rfl rfl ?_
    refine hsn (pc := 20) dL_law_20 ?_
    refine gw_iconst (v := 4) (pc := 21) hK dL_law_21 (by decide) ?_
    refine gw_isub (pc := 22) hK dL_law_22 ?_
    refine gw_icmp_gt_c (tgt := 853) (pc := 23) hK dL_law_23 (by decide) (fun _ => ?_) (fun c => absurd (gl_le hL (by omega) c) (by omega))
    refine gw_iconst (v := 1) (pc := 853) hK dL_law_853 (by decide) ?_
    exact gw_ret_z (pc := 854) hK dL_law_854 rfl rfl
  | succ n ih =>
    intro j μ h1 h2 hs
    have next : ∀ (μ : gx_M), Sim μ → j + 4 ≤ Ln → K μ 847 [(0, .ref b), (1, .ref (gy_a Y 6)), (2, .ref (gy_a Y 0)), (3, .int (nI j))] [] := by
      intro μ hs hj
      refine gw_iinc (v := nI (j + 4)) (L' := [(3, .int (nI (j + 4))), (0, .ref b), (1, .ref (gy_a Y 6)), (2, .ref (gy_a Y 0))]) (pc := 847) hK 3 dL_law_847 rfl (by rw [← nI_add]; rfl) (by decide) rfl ?_
      refine gw_goto (tgt := 18) (pc := 850) hK dL_law_850 (by decide) ?_
      exact gw_sub (L' := [(0, .ref b), (1, .ref (gy_a Y 6)), (2, .ref (gy_a Y 0)), (3, .int (nI (j + 4)))]) hK [1, 2, 3, 0] rfl (ih (j + 4) μ (by omega) (by omega) hs)
    refine gw_iload_n (pc := 18) hK 3 dL_law_18 rfl rfl ?_
    refine gw_aload_n (pc := 19) hK 0 dL_law_19 rfl rfl ?_
    refine hsn (pc := 20) dL_law_20 ?_
    refine gw_iconst (v := 4) (pc := 21) hK dL_law_21 (by decide) ?_
    refine gw_isub (pc := 22) hK dL_law_22 ?_
    refine gw_icmp_gt_c (tgt := 853) (pc := 23) hK dL_law_23 (by decide) (fun _ => ?_) (fun cj => ?_)
    · refine gw_iconst (v := 1) (pc := 853) hK dL_law_853 (by decide) ?_
      exact gw_ret_z (pc := 854) hK dL_law_854 rfl rfl
    have hj := gl_le hL (by omega) cj
    have v0 : vp_in (nI j) Ln := vp_in_nI (by omega) (by omega)
    have v1 : vp_in (nI j + 1) Ln := by rw [show nI j + 1 = nI (j + 1) from nI_1 j]; exact vp_in_nI (by omega) (by omega)
    have v2 : vp_in (nI j + 2) Ln := by rw [show nI j + 2 = nI (j + 2) from nI_add j 2]; exact vp_in_nI (by omega) (by omega)
    have v3 : vp_in (nI j + 3) Ln := by rw [show nI j + 3 = nI (j + 3) from nI_add j 3]; exact vp_in_nI (by omega) (by omega)
    refine gw_aload_n (pc := 26) hK 0 dL_law_26 rfl rfl ?_
    refine gw_iload_n (pc := 27) hK 3 dL_law_27 rfl rfl ?_
    refine hsl (pc := 28) dL_law_28 v0 ?_
    refine gw_bipush (v := 31) (pc := 29) hK dL_law_29 (by decide) ?_
    refine gw_iand (pc := 31) hK dL_law_31 ?_
    generalize xs (nI j).toNatClampNeg &&& 31 = op
    by_cases e0 : op = 0
    · refine gw_tblIn (tgt := 156) (pc := 32) hK dL_law_32 (by rw [e0]; decide) (by rw [e0]; decide) (by rw [e0]; rfl) (by decide) ?_
      obtain ⟨r, μ1, μ2, f1, f2, hs2⟩ := hq0 (xs (nI j + 1).toNatClampNeg) (xs (nI j + 2).toNatClampNeg) μ hs
      rw [← hkd] at f1 f2
      refine gw_aload_n (pc := 156) hK 1 dL_law_156 rfl rfl ?_
      refine gw_aload_n (pc := 157) hK 0 dL_law_157 rfl rfl ?_
      refine gw_iload_n (pc := 158) hK 3 dL_law_158 rfl rfl ?_
      refine gw_iconst (v := 1) (pc := 159) hK dL_law_159 (by decide) ?_
      refine gw_iadd (pc := 160) hK dL_law_160 ?_
      refine hsl (pc := 161) dL_law_161 v1 ?_
      refine gw_aload_n (pc := 162) hK 0 dL_law_162 rfl rfl ?_
      refine gw_iload_n (pc := 163) hK 3 dL_law_163 rfl rfl ?_
      refine gw_iconst (v := 2) (pc := 164) hK dL_law_164 (by decide) ?_
      refine gw_iadd (pc := 165) hK dL_law_165 ?_
      refine hsl (pc := 166) dL_law_166 v2 ?_
      refine gv_L_13 (pc := 167) hK hcx dL_law_167 (by decide) (Nat.le_of_ble_eq_true rfl) f1 ?_
      refine gw_aload_n (pc := 170) hK 2 dL_law_170 rfl rfl ?_
      refine gw_aload_n (pc := 171) hK 0 dL_law_171 rfl rfl ?_
      refine gw_iload_n (pc := 172) hK 3 dL_law_172 rfl rfl ?_
      refine gw_iconst (v := 1) (pc := 173) hK dL_law_173 (by decide) ?_
      refine gw_iadd (pc := 174) hK dL_law_174 ?_
      refine hsl (pc := 175) dL_law_175 v1 ?_
      refine gw_aload_n (pc := 176) hK 0 dL_law_176 rfl rfl ?_
      refine gw_iload_n (pc := 177) hK 3 dL_law_177 rfl rfl ?_
      refine gw_iconst (v := 2) (pc := 178) hK dL_law_178 (by decide) ?_
      refine gw_iadd (pc := 179) hK dL_law_179 ?_
      refine hsl (pc := 180) dL_law_180 v2 ?_
      refine gv_L_17 (pc := 181) hK hcm dL_law_181 (by decide) (Nat.le_of_ble_eq_true rfl) f2 ?_
      exact gw_icmp_eq_c (tgt := 847) (pc := 184) hK dL_law_184 (by decide) (fun _ => next _ hs2 hj) (fun c => absurd rfl c)
    by_cases e1 : op = 1
    · refine gw_tblIn (tgt := 189) (pc := 32) hK dL_law_32 (by rw [e1]; decide) (by rw [e1]; decide) (by rw [e1]; rfl) (by decide) ?_
      obtain ⟨r, μ1, μ2, f1, f2, hs2⟩ := hq1 (xs (nI j + 1).toNatClampNeg) μ hs
      rw [← hkd] at f1 f2
      refine gw_aload_n (pc := 189) hK 1 dL_law_189 rfl rfl ?_
      refine gw_aload_n (pc := 190) hK 0 dL_law_190 rfl rfl ?_
      refine gw_iload_n (pc := 191) hK 3 dL_law_191 rfl rfl ?_
      refine gw_iconst (v := 1) (pc := 192) hK dL_law_192 (by decide) ?_
      refine gw_iadd (pc := 193) hK dL_law_193 ?_
      refine hsl (pc := 194) dL_law_194 v1 ?_
      refine gv_L_18 (pc := 195) hK hcx dL_law_195 (by decide) (Nat.le_of_ble_eq_true rfl) f1 ?_
      refine gw_aload_n (pc := 198) hK 2 dL_law_198 rfl rfl ?_
      refine gw_aload_n (pc := 199) hK 0 dL_law_199 rfl rfl ?_
      refine gw_iload_n (pc := 200) hK 3 dL_law_200 rfl rfl ?_
      refine gw_iconst (v := 1) (pc := 201) hK dL_law_201 (by decide) ?_
      refine gw_iadd (pc := 202) hK dL_law_202 ?_
      refine hsl (pc := 203) dL_law_203 v1 ?_
      refine gv_L_22 (pc := 204) hK hcm dL_law_204 (by decide) (Nat.le_of_ble_eq_true rfl) f2 ?_
      exact gw_icmp_eq_c (tgt := 847) (pc := 207) hK dL_law_207 (by decide) (fun _ => next _ hs2 hj) (fun c => absurd rfl c)
    by_cases e2 : op = 2
    · refine gw_tblIn (tgt := 212) (pc := 32) hK dL_law_32 (by rw [e2]; decide) (by rw [e2]; decide) (by rw [e2]; rfl) (by decide) ?_
      obtain ⟨r, μ1, μ2, f1, f2, hs2⟩ := hq2 (xs (nI j + 1).toNatClampNeg) (xs (nI j + 2).toNatClampNeg) μ hs
      rw [← hkd] at f1 f2
      refine gw_aload_n (pc := 212) hK 1 dL_law_212 rfl rfl ?_
      refine gw_aload_n (pc := 213) hK 0 dL_law_213 rfl rfl ?_
      refine gw_iload_n (pc := 214) hK 3 dL_law_214 rfl rfl ?_
      refine gw_iconst (v := 1) (pc := 215) hK dL_law_215 (by decide) ?_
      refine gw_iadd (pc := 216) hK dL_law_216 ?_
      refine hsl (pc := 217) dL_law_217 v1 ?_
      refine gw_aload_n (pc := 218) hK 0 dL_law_218 rfl rfl ?_
      refine gw_iload_n (pc := 219) hK 3 dL_law_219 rfl rfl ?_
      refine gw_iconst (v := 2) (pc := 220) hK dL_law_220 (by decide) ?_
      refine gw_iadd (pc := 221) hK dL_law_221 ?_
      refine hsl (pc := 222) dL_law_222 v2 ?_
      refine gv_L_23 (pc := 223) hK hcx dL_law_223 (by decide) (Nat.le_of_ble_eq_true rfl) f1 ?_
      refine gw_aload_n (pc := 226) hK 2 dL_law_226 rfl rfl ?_
      refine gw_aload_n (pc := 227) hK 0 dL_law_227 rfl rfl ?_
      refine gw_iload_n (pc := 228) hK 3 dL_law_228 rfl rfl ?_
      refine gw_iconst (v := 1) (pc := 229) hK dL_law_229 (by decide) ?_
      refine gw_iadd (pc := 230) hK dL_law_230 ?_
      refine hsl (pc := 231) dL_law_231 v1 ?_
      refine gw_aload_n (pc := 232) hK 0 dL_law_232 rfl rfl ?_
      refine gw_iload_n (pc := 233) hK 3 dL_law_233 rfl rfl ?_
      refine gw_iconst (v := 2) (pc := 234) hK dL_law_234 (by decide) ?_
      refine gw_iadd (pc := 235) hK dL_law_235 ?_
      refine hsl (pc := 236) dL_law_236 v2 ?_
      refine gv_L_26 (pc := 237) hK hcm dL_law_237 (by decide) (Nat.le_of_ble_eq_true rfl) f2 ?_
      exact gw_icmp_eq_c (tgt := 847) (pc := 240) hK dL_law_240 (by decide) (fun _ => next _ hs2 hj) (fun c => absurd rfl c)
    by_cases e3 : op = 3
    · refine gw_tblIn (tgt := 245) (pc := 32) hK dL_law_32 (by rw [e3]; decide) (by rw [e3]; decide) (by rw [e3]; rfl) (by decide) ?_
      obtain ⟨r, μ1, μ2, f1, f2, hs2⟩ := hq3 (xs (nI j + 1).toNatClampNeg) (xs (nI j + 2).toNatClampNeg) μ hs
      rw [← hkd] at f1 f2
      refine gw_aload_n (pc := 245) hK 1 dL_law_245 rfl rfl ?_
      refine gw_aload_n (pc := 246) hK 0 dL_law_246 rfl rfl ?_
      refine gw_iload_n (pc := 247) hK 3 dL_law_247 rfl rfl ?_
      refine gw_iconst (v := 1) (pc := 248) hK dL_law_248 (by decide) ?_
      refine gw_iadd (pc := 249) hK dL_law_249 ?_
      refine hsl (pc := 250) dL_law_250 v1 ?_
      refine gw_aload_n (pc := 251) hK 0 dL_law_251 rfl rfl ?_
      refine gw_iload_n (pc := 252) hK 3 dL_law_252 rfl rfl ?_
      refine gw_iconst (v := 2) (pc := 253) hK dL_law_253 (by decide) ?_
      refine gw_iadd (pc := 254) hK dL_law_254 ?_
      refine hsl (pc := 255) dL_law_255 v2 ?_
      refine gv_L_27 (pc := 256) hK hcx dL_law_256 (by decide) (Nat.le_of_ble_eq_true rfl) f1 ?_
      refine gw_aload_n (pc := 259) hK 2 dL_law_259 rfl rfl ?_
      refine gw_aload_n (pc := 260) hK 0 dL_law_260 rfl rfl ?_
      refine gw_iload_n (pc := 261) hK 3 dL_law_261 rfl rfl ?_
      refine gw_iconst (v := 1) (pc := 262) hK dL_law_262 (by decide) ?_
      refine gw_iadd (pc := 263) hK dL_law_263 ?_
      refine hsl (pc := 264) dL_law_264 v1 ?_
      refine gw_aload_n (pc := 265) hK 0 dL_law_265 rfl rfl ?_
      refine gw_iload_n (pc := 266) hK 3 dL_law_266 rfl rfl ?_
      refine gw_iconst (v := 2) (pc := 267) hK dL_law_267 (by decide) ?_
      refine gw_iadd (pc := 268) hK dL_law_268 ?_
      refine hsl (pc := 269) dL_law_269 v2 ?_
      refine gv_L_30 (pc := 270) hK hcm dL_law_270 (by decide) (Nat.le_of_ble_eq_true rfl) f2 ?_
      exact gw_icmp_eq_c (tgt := 847) (pc := 273) hK dL_law_273 (by decide) (fun _ => next _ hs2 hj) (fun c => absurd rfl c)
    by_cases e4 : op = 4
    · refine gw_tblIn (tgt := 278) (pc := 32) hK dL_law_32 (by rw [e4]; decide) (by rw [e4]; decide) (by rw [e4]; rfl) (by decide) ?_
      obtain ⟨r, μ1, μ2, f1, f2, hs2⟩ := hq4 (xs (nI j + 1).toNatClampNeg) (xs (nI j + 2).toNatClampNeg) μ hs
      rw [← hkd] at f1 f2
      refine gw_aload_n (pc := 278) hK 1 dL_law_278 rfl rfl ?_
      refine gw_aload_n (pc := 279) hK 0 dL_law_279 rfl rfl ?_
      refine gw_iload_n (pc := 280) hK 3 dL_law_280 rfl rfl ?_
      refine gw_iconst (v := 1) (pc := 281) hK dL_law_281 (by decide) ?_
      refine gw_iadd (pc := 282) hK dL_law_282 ?_
      refine hsl (pc := 283) dL_law_283 v1 ?_
      refine gw_aload_n (pc := 284) hK 0 dL_law_284 rfl rfl ?_
      refine gw_iload_n (pc := 285) hK 3 dL_law_285 rfl rfl ?_
      refine gw_iconst (v := 2) (pc := 286) hK dL_law_286 (by decide) ?_
      refine gw_iadd (pc := 287) hK dL_law_287 ?_
      refine hsl (pc := 288) dL_law_288 v2 ?_
      refine gv_L_31 (pc := 289) hK hcx dL_law_289 (by decide) (Nat.le_of_ble_eq_true rfl) f1 ?_
      refine gw_aload_n (pc := 292) hK 2 dL_law_292 rfl rfl ?_
      refine gw_aload_n (pc := 293) hK 0 dL_law_293 rfl rfl ?_
      refine gw_iload_n (pc := 294) hK 3 dL_law_294 rfl rfl ?_
      refine gw_iconst (v := 1) (pc := 295) hK dL_law_295 (by decide) ?_
      refine gw_iadd (pc := 296) hK dL_law_296 ?_
      refine hsl (pc := 297) dL_law_297 v1 ?_
      refine gw_aload_n (pc := 298) hK 0 dL_law_298 rfl rfl ?_
      refine gw_iload_n (pc := 299) hK 3 dL_law_299 rfl rfl ?_
      refine gw_iconst (v := 2) (pc := 300) hK dL_law_300 (by decide) ?_
      refine gw_iadd (pc := 301) hK dL_law_301 ?_
      refine hsl (pc := 302) dL_law_302 v2 ?_
      refine gv_L_34 (pc := 303) hK hcm dL_law_303 (by decide) (Nat.le_of_ble_eq_true rfl) f2 ?_
      exact gw_icmp_eq_c (tgt := 847) (pc := 306) hK dL_law_306 (by decide) (fun _ => next _ hs2 hj) (fun c => absurd rfl c)
    by_cases e5 : op = 5
    · refine gw_tblIn (tgt := 311) (pc := 32) hK dL_law_32 (by rw [e5]; decide) (by rw [e5]; decide) (by rw [e5]; rfl) (by decide) ?_
      obtain ⟨r, μ1, μ2, f1, f2, hs2⟩ := hq5 (xs (nI j + 1).toNatClampNeg) (xs (nI j + 2).toNatClampNeg) μ hs
      rw [← hkd] at f1 f2
      refine gw_aload_n (pc := 311) hK 1 dL_law_311 rfl rfl ?_
      refine gw_aload_n (pc := 312) hK 0 dL_law_312 rfl rfl ?_
      refine gw_iload_n (pc := 313) hK 3 dL_law_313 rfl rfl ?_
      refine gw_iconst (v := 1) (pc := 314) hK dL_law_314 (by decide) ?_
      refine gw_iadd (pc := 315) hK dL_law_315 ?_
      refine hsl (pc := 316) dL_law_316 v1 ?_
      refine gw_aload_n (pc := 317) hK 0 dL_law_317 rfl rfl ?_
      refine gw_iload_n (pc := 318) hK 3 dL_law_318 rfl rfl ?_
      refine gw_iconst (v := 2) (pc := 319) hK dL_law_319 (by decide) ?_
      refine gw_iadd (pc := 320) hK dL_law_320 ?_
      refine hsl (pc := 321) dL_law_321 v2 ?_
      refine gv_L_35 (pc := 322) hK hcx dL_law_322 (by decide) (Nat.le_of_ble_eq_true rfl) f1 ?_
      refine gw_aload_n (pc := 325) hK 2 dL_law_325 rfl rfl ?_
      refine gw_aload_n (pc := 326) hK 0 dL_law_326 rfl rfl ?_
      refine gw_iload_n (pc := 327) hK 3 dL_law_327 rfl rfl ?_
      refine gw_iconst (v := 1) (pc := 328) hK dL_law_328 (by decide) ?_
      refine gw_iadd (pc := 329) hK dL_law_329 ?_
      refine hsl (pc := 330) dL_law_330 v1 ?_
      refine gw_aload_n (pc := 331) hK 0 dL_law_331 rfl rfl ?_
      refine gw_iload_n (pc := 332) hK 3 dL_law_332 rfl rfl ?_
      refine gw_iconst (v := 2) (pc := 333) hK dL_law_333 (by decide) ?_
      refine gw_iadd (pc := 334) hK dL_law_334 ?_
      refine hsl (pc := 335) dL_law_335 v2 ?_
      refine gv_L_38 (pc := 336) hK hcm dL_law_336 (by decide) (Nat.le_of_ble_eq_true rfl) f2 ?_
      exact gw_icmp_eq_c (tgt := 847) (pc := 339) hK dL_law_339 (by decide) (fun _ => next _ hs2 hj) (fun c => absurd rfl c)
    by_cases e6 : op = 6
    · refine gw_tblIn (tgt := 344) (pc := 32) hK dL_law_32 (by rw [e6]; decide) (by rw [e6]; decide) (by rw [e6]; rfl) (by decide) ?_
      obtain ⟨r, μ1, μ2, f1, f2, hs2⟩ := hq6 (xs (nI j + 1).toNatClampNeg) (xs (nI j + 2).toNatClampNeg) μ hs
      rw [← hkd] at f1 f2
      refine gw_aload_n (pc := 344) hK 1 dL_law_344 rfl rfl ?_
      refine gw_aload_n (pc := 345) hK 0 dL_law_345 rfl rfl ?_
      refine gw_iload_n (pc := 346) hK 3 dL_law_346 rfl rfl ?_
      refine gw_iconst (v := 1) (pc := 347) hK dL_law_347 (by decide) ?_
      refine gw_iadd (pc := 348) hK dL_law_348 ?_
      refine hsl (pc := 349) dL_law_349 v1 ?_
      refine gw_aload_n (pc := 350) hK 0 dL_law_350 rfl rfl ?_
      refine gw_iload_n (pc := 351) hK 3 dL_law_351 rfl rfl ?_
      refine gw_iconst (v := 2) (pc := 352) hK dL_law_352 (by decide) ?_
      refine gw_iadd (pc := 353) hK dL_law_353 ?_
      refine hsl (pc := 354) dL_law_354 v2 ?_
      refine gv_L_39 (pc := 355) hK hcx dL_law_355 (by decide) (Nat.le_of_ble_eq_true rfl) f1 ?_
      refine gw_aload_n (pc := 358) hK 2 dL_law_358 rfl rfl ?_
      refine gw_aload_n (pc := 359) hK 0 dL_law_359 rfl rfl ?_
      refine gw_iload_n (pc := 360) hK 3 dL_law_360 rfl rfl ?_
      refine gw_iconst (v := 1) (pc := 361) hK dL_law_361 (by decide) ?_
      refine gw_iadd (pc := 362) hK dL_law_362 ?_
      refine hsl (pc := 363) dL_law_363 v1 ?_
      refine gw_aload_n (pc := 364) hK 0 dL_law_364 rfl rfl ?_
      refine gw_iload_n (pc := 365) hK 3 dL_law_365 rfl rfl ?_
      refine gw_iconst (v := 2) (pc := 366) hK dL_law_366 (by decide) ?_
      refine gw_iadd (pc := 367) hK dL_law_367 ?_
      refine hsl (pc := 368) dL_law_368 v2 ?_
      refine gv_L_42 (pc := 369) hK hcm dL_law_369 (by decide) (Nat.le_of_ble_eq_true rfl) f2 ?_
      exact gw_icmp_eq_c (tgt := 847) (pc := 372) hK dL_law_372 (by decide) (fun _ => next _ hs2 hj) (fun c => absurd rfl c)
    by_cases e7 : op = 7
    · refine gw_tblIn (tgt := 377) (pc := 32) hK dL_law_32 (by rw [e7]; decide) (by rw [e7]; decide) (by rw [e7]; rfl) (by decide) ?_
      obtain ⟨r, μ1, μ2, f1, f2, hs2⟩ := hq7 (xs (nI j + 1).toNatClampNeg) (xs (nI j + 2).toNatClampNeg) μ hs
      rw [← hkd] at f1 f2
      refine gw_aload_n (pc := 377) hK 1 dL_law_377 rfl rfl ?_
      refine gw_aload_n (pc := 378) hK 0 dL_law_378 rfl rfl ?_
      refine gw_iload_n (pc := 379) hK 3 dL_law_379 rfl rfl ?_
      refine gw_iconst (v := 1) (pc := 380) hK dL_law_380 (by decide) ?_
      refine gw_iadd (pc := 381) hK dL_law_381 ?_
      refine hsl (pc := 382) dL_law_382 v1 ?_
      refine gw_aload_n (pc := 383) hK 0 dL_law_383 rfl rfl ?_
      refine gw_iload_n (pc := 384) hK 3 dL_law_384 rfl rfl ?_
      refine gw_iconst (v := 2) (pc := 385) hK dL_law_385 (by decide) ?_
      refine gw_iadd (pc := 386) hK dL_law_386 ?_
      refine hsl (pc := 387) dL_law_387 v2 ?_
      refine gv_L_43 (pc := 388) hK hcx dL_law_388 (by decide) (Nat.le_of_ble_eq_true rfl) f1 ?_
      refine gw_aload_n (pc := 391) hK 2 dL_law_391 rfl rfl ?_
      refine gw_aload_n (pc := 392) hK 0 dL_law_392 rfl rfl ?_
      refine gw_iload_n (pc := 393) hK 3 dL_law_393 rfl rfl ?_
      refine gw_iconst (v := 1) (pc := 394) hK dL_law_394 (by decide) ?_
      refine gw_iadd (pc := 395) hK dL_law_395 ?_
      refine hsl (pc := 396) dL_law_396 v1 ?_
      refine gw_aload_n (pc := 397) hK 0 dL_law_397 rfl rfl ?_
      refine gw_iload_n (pc := 398) hK 3 dL_law_398 rfl rfl ?_
      refine gw_iconst (v := 2) (pc := 399) hK dL_law_399 (by decide) ?_
      refine gw_iadd (pc := 400) hK dL_law_400 ?_
      refine hsl (pc := 401) dL_law_401 v2 ?_
      refine gv_L_46 (pc := 402) hK hcm dL_law_402 (by decide) (Nat.le_of_ble_eq_true rfl) f2 ?_
      exact gw_icmp_eq_c (tgt := 847) (pc := 405) hK dL_law_405 (by decide) (fun _ => next _ hs2 hj) (fun c => absurd rfl c)
    by_cases e8 : op = 8
    · refine gw_tblIn (tgt := 410) (pc := 32) hK dL_law_32 (by rw [e8]; decide) (by rw [e8]; decide) (by rw [e8]; rfl) (by decide) ?_
      obtain ⟨r, μ1, μ2, f1, f2, hs2⟩ := hq8 (xs (nI j + 1).toNatClampNeg) μ hs
      rw [← hkd] at f1 f2
      refine gw_aload_n (pc := 410) hK 1 dL_law_410 rfl rfl ?_
      refine gw_aload_n (pc := 411) hK 0 dL_law_411 rfl rfl ?_
      refine gw_iload_n (pc := 412) hK 3 dL_law_412 rfl rfl ?_
      refine gw_iconst (v := 1) (pc := 413) hK dL_law_413 (by decide) ?_
      refine gw_iadd (pc := 414) hK dL_law_414 ?_
      refine hsl (pc := 415) dL_law_415 v1 ?_
      refine gv_L_47 (pc := 416) hK hcx dL_law_416 (by decide) (Nat.le_of_ble_eq_true rfl) f1 ?_
      refine gw_aload_n (pc := 419) hK 2 dL_law_419 rfl rfl ?_
      refine gw_aload_n (pc := 420) hK 0 dL_law_420 rfl rfl ?_
      refine gw_iload_n (pc := 421) hK 3 dL_law_421 rfl rfl ?_
      refine gw_iconst (v := 1) (pc := 422) hK dL_law_422 (by decide) ?_
      refine gw_iadd (pc := 423) hK dL_law_423 ?_
      refine hsl (pc := 424) dL_law_424 v1 ?_
      refine gv_L_50 (pc := 425) hK hcm dL_law_425 (by decide) (Nat.le_of_ble_eq_true rfl) f2 ?_
      exact gw_icmp_eq_c (tgt := 847) (pc := 428) hK dL_law_428 (by decide) (fun _ => next _ hs2 hj) (fun c => absurd rfl c)
    by_cases e9 : op = 9
    · refine gw_tblIn (tgt := 433) (pc := 32) hK dL_law_32 (by rw [e9]; decide) (by rw [e9]; decide) (by rw [e9]; rfl) (by decide) ?_
      obtain ⟨r, μ1, μ2, f1, f2, hs2⟩ := hq9 (xs (nI j + 1).toNatClampNeg) (xs (nI j + 2).toNatClampNeg) μ hs
      rw [← hkd] at f1 f2
      refine gw_aload_n (pc := 433) hK 1 dL_law_433 rfl rfl ?_
      refine gw_aload_n (pc := 434) hK 0 dL_law_434 rfl rfl ?_
      refine gw_iload_n (pc := 435) hK 3 dL_law_435 rfl rfl ?_
      refine gw_iconst (v := 1) (pc := 436) hK dL_law_436 (by decide) ?_
      refine gw_iadd (pc := 437) hK dL_law_437 ?_
      refine hsl (pc := 438) dL_law_438 v1 ?_
      refine gw_aload_n (pc := 439) hK 0 dL_law_439 rfl rfl ?_
      refine gw_iload_n (pc := 440) hK 3 dL_law_440 rfl rfl ?_
      refine gw_iconst (v := 2) (pc := 441) hK dL_law_441 (by decide) ?_
      refine gw_iadd (pc := 442) hK dL_law_442 ?_
      refine hsl (pc := 443) dL_law_443 v2 ?_
      refine gv_L_51 (pc := 444) hK hcx dL_law_444 (by decide) (Nat.le_of_ble_eq_true rfl) f1 ?_
      refine gw_aload_n (pc := 447) hK 2 dL_law_447 rfl rfl ?_
      refine gw_aload_n (pc := 448) hK 0 dL_law_448 rfl rfl ?_
      refine gw_iload_n (pc := 449) hK 3 dL_law_449 rfl rfl ?_
      refine gw_iconst (v := 1) (pc := 450) hK dL_law_450 (by decide) ?_
      refine gw_iadd (pc := 451) hK dL_law_451 ?_
      refine hsl (pc := 452) dL_law_452 v1 ?_
      refine gw_aload_n (pc := 453) hK 0 dL_law_453 rfl rfl ?_
      refine gw_iload_n (pc := 454) hK 3 dL_law_454 rfl rfl ?_
      refine gw_iconst (v := 2) (pc := 455) hK dL_law_455 (by decide) ?_
      refine gw_iadd (pc := 456) hK dL_law_456 ?_
      refine hsl (pc := 457) dL_law_457 v2 ?_
      refine gv_L_54 (pc := 458) hK hcm dL_law_458 (by decide) (Nat.le_of_ble_eq_true rfl) f2 ?_
      exact gw_icmp_eq_c (tgt := 847) (pc := 461) hK dL_law_461 (by decide) (fun _ => next _ hs2 hj) (fun c => absurd rfl c)
    by_cases e10 : op = 10
    · refine gw_tblIn (tgt := 466) (pc := 32) hK dL_law_32 (by rw [e10]; decide) (by rw [e10]; decide) (by rw [e10]; rfl) (by decide) ?_
      obtain ⟨r, μ1, μ2, f1, f2, hs2⟩ := hq10 (xs (nI j + 1).toNatClampNeg) μ hs
      rw [← hkd] at f1 f2
      refine gw_aload_n (pc := 466) hK 1 dL_law_466 rfl rfl ?_
      refine gw_aload_n (pc := 467) hK 0 dL_law_467 rfl rfl ?_
      refine gw_iload_n (pc := 468) hK 3 dL_law_468 rfl rfl ?_
      refine gw_iconst (v := 1) (pc := 469) hK dL_law_469 (by decide) ?_
      refine gw_iadd (pc := 470) hK dL_law_470 ?_
      refine hsl (pc := 471) dL_law_471 v1 ?_
      refine gv_L_55 (pc := 472) hK hcx dL_law_472 (by decide) (Nat.le_of_ble_eq_true rfl) f1 ?_
      refine gw_aload_n (pc := 475) hK 2 dL_law_475 rfl rfl ?_
      refine gw_aload_n (pc := 476) hK 0 dL_law_476 rfl rfl ?_
      refine gw_iload_n (pc := 477) hK 3 dL_law_477 rfl rfl ?_
      refine gw_iconst (v := 1) (pc := 478) hK dL_law_478 (by decide) ?_
      refine gw_iadd (pc := 479) hK dL_law_479 ?_
      refine hsl (pc := 480) dL_law_480 v1 ?_
      refine gv_L_58 (pc := 481) hK hcm dL_law_481 (by decide) (Nat.le_of_ble_eq_true rfl) f2 ?_
      exact gw_icmp_eq_c (tgt := 847) (pc := 484) hK dL_law_484 (by decide) (fun _ => next _ hs2 hj) (fun c => absurd rfl c)
    by_cases e11 : op = 11
    · refine gw_tblIn (tgt := 489) (pc := 32) hK dL_law_32 (by rw [e11]; decide) (by rw [e11]; decide) (by rw [e11]; rfl) (by decide) ?_
      obtain ⟨r, μ1, μ2, f1, f2, hs2⟩ := hq11  μ hs
      rw [← hkd] at f1 f2
      refine gw_aload_n (pc := 489) hK 1 dL_law_489 rfl rfl ?_
      refine gv_L_59 (pc := 490) hK hcx dL_law_490 (by decide) (Nat.le_of_ble_eq_true rfl) f1 ?_
      refine gw_aload_n (pc := 493) hK 2 dL_law_493 rfl rfl ?_
      refine gv_L_63 (pc := 494) hK hcm dL_law_494 (by decide) (Nat.le_of_ble_eq_true rfl) f2 ?_
      exact gw_icmp_eq_c (tgt := 847) (pc := 497) hK dL_law_497 (by decide) (fun _ => next _ hs2 hj) (fun c => absurd rfl c)
    by_cases e12 : op = 12
    · refine gw_tblIn (tgt := 502) (pc := 32) hK dL_law_32 (by rw [e12]; decide) (by rw [e12]; decide) (by rw [e12]; rfl) (by decide) ?_
      obtain ⟨r, μ1, μ2, f1, f2, hs2⟩ := hq12 (xs (nI j + 1).toNatClampNeg) (xs (nI j + 2).toNatClampNeg) μ hs
      rw [← hkd] at f1 f2
      refine gw_aload_n (pc := 502) hK 1 dL_law_502 rfl rfl ?_
      refine gw_aload_n (pc := 503) hK 0 dL_law_503 rfl rfl ?_
      refine gw_iload_n (pc := 504) hK 3 dL_law_504 rfl rfl ?_
      refine gw_iconst (v := 1) (pc := 505) hK dL_law_505 (by decide) ?_
      refine gw_iadd (pc := 506) hK dL_law_506 ?_
      refine hsl (pc := 507) dL_law_507 v1 ?_
      refine gw_aload_n (pc := 508) hK 0 dL_law_508 rfl rfl ?_
      refine gw_iload_n (pc := 509) hK 3 dL_law_509 rfl rfl ?_
      refine gw_iconst (v := 2) (pc := 510) hK dL_law_510 (by decide) ?_
      refine gw_iadd (pc := 511) hK dL_law_511 ?_
      refine hsl (pc := 512) dL_law_512 v2 ?_
      refine gv_L_64 (pc := 513) hK hcx dL_law_513 (by decide) (Nat.le_of_ble_eq_true rfl) f1 ?_
      refine gw_aload_n (pc := 516) hK 2 dL_law_516 rfl rfl ?_
      refine gw_aload_n (pc := 517) hK 0 dL_law_517 rfl rfl ?_
      refine gw_iload_n (pc := 518) hK 3 dL_law_518 rfl rfl ?_
      refine gw_iconst (v := 1) (pc := 519) hK dL_law_519 (by decide) ?_
      refine gw_iadd (pc := 520) hK dL_law_520 ?_
      refine hsl (pc := 521) dL_law_521 v1 ?_
      refine gw_aload_n (pc := 522) hK 0 dL_law_522 rfl rfl ?_
      refine gw_iload_n (pc := 523) hK 3 dL_law_523 rfl rfl ?_
      refine gw_iconst (v := 2) (pc := 524) hK dL_law_524 (by decide) ?_
      refine gw_iadd (pc := 525) hK dL_law_525 ?_
      refine hsl (pc := 526) dL_law_526 v2 ?_
      refine gv_L_67 (pc := 527) hK hcm dL_law_527 (by decide) (Nat.le_of_ble_eq_true rfl) f2 ?_
      exact gw_icmp_eq_c (tgt := 847) (pc := 530) hK dL_law_530 (by decide) (fun _ => next _ hs2 hj) (fun c => absurd rfl c)
    by_cases e13 : op = 13
    · refine gw_tblIn (tgt := 535) (pc := 32) hK dL_law_32 (by rw [e13]; decide) (by rw [e13]; decide) (by rw [e13]; rfl) (by decide) ?_
      obtain ⟨r, μ1, μ2, f1, f2, hs2⟩ := hq13 (xs (nI j + 1).toNatClampNeg) μ hs
      rw [← hkd] at f1 f2
      refine gw_aload_n (pc := 535) hK 1 dL_law_535 rfl rfl ?_
      refine gw_aload_n (pc := 536) hK 0 dL_law_536 rfl rfl ?_
      refine gw_iload_n (pc := 537) hK 3 dL_law_537 rfl rfl ?_
      refine gw_iconst (v := 1) (pc := 538) hK dL_law_538 (by decide) ?_
      refine gw_iadd (pc := 539) hK dL_law_539 ?_
      refine hsl (pc := 540) dL_law_540 v1 ?_
      refine gv_L_68 (pc := 541) hK hcx dL_law_541 (by decide) (Nat.le_of_ble_eq_true rfl) f1 ?_
      refine gw_aload_n (pc := 544) hK 2 dL_law_544 rfl rfl ?_
      refine gw_aload_n (pc := 545) hK 0 dL_law_545 rfl rfl ?_
      refine gw_iload_n (pc := 546) hK 3 dL_law_546 rfl rfl ?_
      refine gw_iconst (v := 1) (pc := 547) hK dL_law_547 (by decide) ?_
      refine gw_iadd (pc := 548) hK dL_law_548 ?_
      refine hsl (pc := 549) dL_law_549 v1 ?_
      refine gv_L_71 (pc := 550) hK hcm dL_law_550 (by decide) (Nat.le_of_ble_eq_true rfl) f2 ?_
      exact gw_icmp_eq_c (tgt := 847) (pc := 553) hK dL_law_553 (by decide) (fun _ => next _ hs2 hj) (fun c => absurd rfl c)
    by_cases e14 : op = 14
    · refine gw_tblIn (tgt := 558) (pc := 32) hK dL_law_32 (by rw [e14]; decide) (by rw [e14]; decide) (by rw [e14]; rfl) (by decide) ?_
      obtain ⟨r, μ1, μ2, f1, f2, hs2⟩ := hq14 (xs (nI j + 1).toNatClampNeg) (xs (nI j + 2).toNatClampNeg) (xs (nI j + 3).toNatClampNeg) μ hs
      rw [← hkd] at f1 f2
      refine gw_aload_n (pc := 558) hK 1 dL_law_558 rfl rfl ?_
      refine gw_aload_n (pc := 559) hK 0 dL_law_559 rfl rfl ?_
      refine gw_iload_n (pc := 560) hK 3 dL_law_560 rfl rfl ?_
      refine gw_iconst (v := 1) (pc := 561) hK dL_law_561 (by decide) ?_
      refine gw_iadd (pc := 562) hK dL_law_562 ?_
      refine hsl (pc := 563) dL_law_563 v1 ?_
      refine gw_aload_n (pc := 564) hK 0 dL_law_564 rfl rfl ?_
      refine gw_iload_n (pc := 565) hK 3 dL_law_565 rfl rfl ?_
      refine gw_iconst (v := 2) (pc := 566) hK dL_law_566 (by decide) ?_
      refine gw_iadd (pc := 567) hK dL_law_567 ?_
      refine hsl (pc := 568) dL_law_568 v2 ?_
      refine gw_aload_n (pc := 569) hK 0 dL_law_569 rfl rfl ?_
      refine gw_iload_n (pc := 570) hK 3 dL_law_570 rfl rfl ?_
      refine gw_iconst (v := 3) (pc := 571) hK dL_law_571 (by decide) ?_
      refine gw_iadd (pc := 572) hK dL_law_572 ?_
      refine hsl (pc := 573) dL_law_573 v3 ?_
      refine gv_L_72 (pc := 574) hK hcx dL_law_574 (by decide) (Nat.le_of_ble_eq_true rfl) f1 ?_
      refine gw_aload_n (pc := 577) hK 2 dL_law_577 rfl rfl ?_
      refine gw_aload_n (pc := 578) hK 0 dL_law_578 rfl rfl ?_
      refine gw_iload_n (pc := 579) hK 3 dL_law_579 rfl rfl ?_
      refine gw_iconst (v := 1) (pc := 580) hK dL_law_580 (by decide) ?_
      refine gw_iadd (pc := 581) hK dL_law_581 ?_
      refine hsl (pc := 582) dL_law_582 v1 ?_
      refine gw_aload_n (pc := 583) hK 0 dL_law_583 rfl rfl ?_
      refine gw_iload_n (pc := 584) hK 3 dL_law_584 rfl rfl ?_
      refine gw_iconst (v := 2) (pc := 585) hK dL_law_585 (by decide) ?_
      refine gw_iadd (pc := 586) hK dL_law_586 ?_
      refine hsl (pc := 587) dL_law_587 v2 ?_
      refine gw_aload_n (pc := 588) hK 0 dL_law_588 rfl rfl ?_
      refine gw_iload_n (pc := 589) hK 3 dL_law_589 rfl rfl ?_
      refine gw_iconst (v := 3) (pc := 590) hK dL_law_590 (by decide) ?_
      refine gw_iadd (pc := 591) hK dL_law_591 ?_
      refine hsl (pc := 592) dL_law_592 v3 ?_
      refine gv_L_76 (pc := 593) hK hcm dL_law_593 (by decide) (Nat.le_of_ble_eq_true rfl) f2 ?_
      exact gw_icmp_eq_c (tgt := 847) (pc := 596) hK dL_law_596 (by decide) (fun _ => next _ hs2 hj) (fun c => absurd rfl c)
    by_cases e15 : op = 15
    · refine gw_tblIn (tgt := 601) (pc := 32) hK dL_law_32 (by rw [e15]; decide) (by rw [e15]; decide) (by rw [e15]; rfl) (by decide) ?_
      obtain ⟨r, μ1, μ2, f1, f2, hs2⟩ := hq15 (xs (nI j + 1).toNatClampNeg) (xs (nI j + 2).toNatClampNeg) μ hs
      rw [← hkd] at f1 f2
      refine gw_aload_n (pc := 601) hK 1 dL_law_601 rfl rfl ?_
      refine gw_aload_n (pc := 602) hK 0 dL_law_602 rfl rfl ?_
      refine gw_iload_n (pc := 603) hK 3 dL_law_603 rfl rfl ?_
      refine gw_iconst (v := 1) (pc := 604) hK dL_law_604 (by decide) ?_
      refine gw_iadd (pc := 605) hK dL_law_605 ?_
      refine hsl (pc := 606) dL_law_606 v1 ?_
      refine gw_aload_n (pc := 607) hK 0 dL_law_607 rfl rfl ?_
      refine gw_iload_n (pc := 608) hK 3 dL_law_608 rfl rfl ?_
      refine gw_iconst (v := 2) (pc := 609) hK dL_law_609 (by decide) ?_
      refine gw_iadd (pc := 610) hK dL_law_610 ?_
      refine hsl (pc := 611) dL_law_611 v2 ?_
      refine gv_L_77 (pc := 612) hK hcx dL_law_612 (by decide) (Nat.le_of_ble_eq_true rfl) f1 ?_
      refine gw_aload_n (pc := 615) hK 2 dL_law_615 rfl rfl ?_
      refine gw_aload_n (pc := 616) hK 0 dL_law_616 rfl rfl ?_
      refine gw_iload_n (pc := 617) hK 3 dL_law_617 rfl rfl ?_
      refine gw_iconst (v := 1) (pc := 618) hK dL_law_618 (by decide) ?_
      refine gw_iadd (pc := 619) hK dL_law_619 ?_
      refine hsl (pc := 620) dL_law_620 v1 ?_
      refine gw_aload_n (pc := 621) hK 0 dL_law_621 rfl rfl ?_
      refine gw_iload_n (pc := 622) hK 3 dL_law_622 rfl rfl ?_
      refine gw_iconst (v := 2) (pc := 623) hK dL_law_623 (by decide) ?_
      refine gw_iadd (pc := 624) hK dL_law_624 ?_
      refine hsl (pc := 625) dL_law_625 v2 ?_
      refine gv_L_80 (pc := 626) hK hcm dL_law_626 (by decide) (Nat.le_of_ble_eq_true rfl) f2 ?_
      exact gw_icmp_eq_c (tgt := 847) (pc := 629) hK dL_law_629 (by decide) (fun _ => next _ hs2 hj) (fun c => absurd rfl c)
    by_cases e16 : op = 16
    · refine gw_tblIn (tgt := 634) (pc := 32) hK dL_law_32 (by rw [e16]; decide) (by rw [e16]; decide) (by rw [e16]; rfl) (by decide) ?_
      obtain ⟨r, μ1, μ2, f1, f2, hs2⟩ := hq16 (xs (nI j + 1).toNatClampNeg) μ hs
      rw [← hkd] at f1 f2
      refine gw_aload_n (pc := 634) hK 1 dL_law_634 rfl rfl ?_
      refine gw_aload_n (pc := 635) hK 0 dL_law_635 rfl rfl ?_
      refine gw_iload_n (pc := 636) hK 3 dL_law_636 rfl rfl ?_
      refine gw_iconst (v := 1) (pc := 637) hK dL_law_637 (by decide) ?_
      refine gw_iadd (pc := 638) hK dL_law_638 ?_
      refine hsl (pc := 639) dL_law_639 v1 ?_
      refine gv_L_81 (pc := 640) hK hcx dL_law_640 (by decide) (Nat.le_of_ble_eq_true rfl) f1 ?_
      refine gw_aload_n (pc := 643) hK 2 dL_law_643 rfl rfl ?_
      refine gw_aload_n (pc := 644) hK 0 dL_law_644 rfl rfl ?_
      refine gw_iload_n (pc := 645) hK 3 dL_law_645 rfl rfl ?_
      refine gw_iconst (v := 1) (pc := 646) hK dL_law_646 (by decide) ?_
      refine gw_iadd (pc := 647) hK dL_law_647 ?_
      refine hsl (pc := 648) dL_law_648 v1 ?_
      refine gv_L_84 (pc := 649) hK hcm dL_law_649 (by decide) (Nat.le_of_ble_eq_true rfl) f2 ?_
      exact gw_icmp_eq_c (tgt := 847) (pc := 652) hK dL_law_652 (by decide) (fun _ => next _ hs2 hj) (fun c => absurd rfl c)
    by_cases e17 : op = 17
    · refine gw_tblIn (tgt := 657) (pc := 32) hK dL_law_32 (by rw [e17]; decide) (by rw [e17]; decide) (by rw [e17]; rfl) (by decide) ?_
      obtain ⟨r, μ1, μ2, f1, f2, hs2⟩ := hq17  μ hs
      rw [← hkd] at f1 f2
      refine gw_aload_n (pc := 657) hK 1 dL_law_657 rfl rfl ?_
      refine gv_L_85 (pc := 658) hK hcx dL_law_658 (by decide) (Nat.le_of_ble_eq_true rfl) f1 ?_
      refine gw_aload_n (pc := 661) hK 2 dL_law_661 rfl rfl ?_
      refine gv_L_88 (pc := 662) hK hcm dL_law_662 (by decide) (Nat.le_of_ble_eq_true rfl) f2 ?_
      exact gw_icmp_eq_c (tgt := 847) (pc := 665) hK dL_law_665 (by decide) (fun _ => next _ hs2 hj) (fun c => absurd rfl c)
    by_cases e18 : op = 18
    · refine gw_tblIn (tgt := 670) (pc := 32) hK dL_law_32 (by rw [e18]; decide) (by rw [e18]; decide) (by rw [e18]; rfl) (by decide) ?_
      obtain ⟨r, μ1, μ2, f1, f2, hs2⟩ := hq18 (xs (nI j + 1).toNatClampNeg) μ hs
      rw [← hkd] at f1 f2
      refine gw_aload_n (pc := 670) hK 1 dL_law_670 rfl rfl ?_
      refine gw_aload_n (pc := 671) hK 0 dL_law_671 rfl rfl ?_
      refine gw_iload_n (pc := 672) hK 3 dL_law_672 rfl rfl ?_
      refine gw_iconst (v := 1) (pc := 673) hK dL_law_673 (by decide) ?_
      refine gw_iadd (pc := 674) hK dL_law_674 ?_
      refine hsl (pc := 675) dL_law_675 v1 ?_
      refine gv_L_89 (pc := 676) hK hcx dL_law_676 (by decide) (Nat.le_of_ble_eq_true rfl) f1 ?_
      refine gw_aload_n (pc := 679) hK 2 dL_law_679 rfl rfl ?_
      refine gw_aload_n (pc := 680) hK 0 dL_law_680 rfl rfl ?_
      refine gw_iload_n (pc := 681) hK 3 dL_law_681 rfl rfl ?_
      refine gw_iconst (v := 1) (pc := 682) hK dL_law_682 (by decide) ?_
      refine gw_iadd (pc := 683) hK dL_law_683 ?_
      refine hsl (pc := 684) dL_law_684 v1 ?_
      refine gv_L_92 (pc := 685) hK hcm dL_law_685 (by decide) (Nat.le_of_ble_eq_true rfl) f2 ?_
      exact gw_icmp_eq_c (tgt := 847) (pc := 688) hK dL_law_688 (by decide) (fun _ => next _ hs2 hj) (fun c => absurd rfl c)
    by_cases e19 : op = 19
    · refine gw_tblIn (tgt := 693) (pc := 32) hK dL_law_32 (by rw [e19]; decide) (by rw [e19]; decide) (by rw [e19]; rfl) (by decide) ?_
      obtain ⟨r, μ1, μ2, f1, f2, hs2⟩ := hq19 (xs (nI j + 1).toNatClampNeg) μ hs
      rw [← hkd] at f1 f2
      refine gw_aload_n (pc := 693) hK 1 dL_law_693 rfl rfl ?_
      refine gw_aload_n (pc := 694) hK 0 dL_law_694 rfl rfl ?_
      refine gw_iload_n (pc := 695) hK 3 dL_law_695 rfl rfl ?_
      refine gw_iconst (v := 1) (pc := 696) hK dL_law_696 (by decide) ?_
      refine gw_iadd (pc := 697) hK dL_law_697 ?_
      refine hsl (pc := 698) dL_law_698 v1 ?_
      refine gv_L_93 (pc := 699) hK hcx dL_law_699 (by decide) (Nat.le_of_ble_eq_true rfl) f1 ?_
      refine gw_aload_n (pc := 702) hK 2 dL_law_702 rfl rfl ?_
      refine gw_aload_n (pc := 703) hK 0 dL_law_703 rfl rfl ?_
      refine gw_iload_n (pc := 704) hK 3 dL_law_704 rfl rfl ?_
      refine gw_iconst (v := 1) (pc := 705) hK dL_law_705 (by decide) ?_
      refine gw_iadd (pc := 706) hK dL_law_706 ?_
      refine hsl (pc := 707) dL_law_707 v1 ?_
      refine gv_L_96 (pc := 708) hK hcm dL_law_708 (by decide) (Nat.le_of_ble_eq_true rfl) f2 ?_
      exact gw_icmp_eq_c (tgt := 847) (pc := 711) hK dL_law_711 (by decide) (fun _ => next _ hs2 hj) (fun c => absurd rfl c)
    by_cases e20 : op = 20
    · refine gw_tblIn (tgt := 716) (pc := 32) hK dL_law_32 (by rw [e20]; decide) (by rw [e20]; decide) (by rw [e20]; rfl) (by decide) ?_
      obtain ⟨r, μ1, μ2, f1, f2, hs2⟩ := hq20  μ hs
      rw [← hkd] at f1 f2
      refine gw_aload_n (pc := 716) hK 1 dL_law_716 rfl rfl ?_
      refine gv_L_97 (pc := 717) hK hcx dL_law_717 (by decide) (Nat.le_of_ble_eq_true rfl) f1 ?_
      refine gw_aload_n (pc := 720) hK 2 dL_law_720 rfl rfl ?_
      refine gv_L_100 (pc := 721) hK hcm dL_law_721 (by decide) (Nat.le_of_ble_eq_true rfl) f2 ?_
      exact gw_icmp_eq_c (tgt := 847) (pc := 724) hK dL_law_724 (by decide) (fun _ => next _ hs2 hj) (fun c => absurd rfl c)
    by_cases e21 : op = 21
    · refine gw_tblIn (tgt := 729) (pc := 32) hK dL_law_32 (by rw [e21]; decide) (by rw [e21]; decide) (by rw [e21]; rfl) (by decide) ?_
      obtain ⟨r, μ1, μ2, f1, f2, hs2⟩ := hq21  μ hs
      rw [← hkd] at f1 f2
      refine gw_aload_n (pc := 729) hK 1 dL_law_729 rfl rfl ?_
      refine gv_L_101 (pc := 730) hK hcx dL_law_730 (by decide) (Nat.le_of_ble_eq_true rfl) f1 ?_
      refine gw_aload_n (pc := 733) hK 2 dL_law_733 rfl rfl ?_
      refine gv_L_104 (pc := 734) hK hcm dL_law_734 (by decide) (Nat.le_of_ble_eq_true rfl) f2 ?_
      exact gw_icmp_eq_c (tgt := 847) (pc := 737) hK dL_law_737 (by decide) (fun _ => next _ hs2 hj) (fun c => absurd rfl c)
    by_cases e22 : op = 22
    · refine gw_tblIn (tgt := 742) (pc := 32) hK dL_law_32 (by rw [e22]; decide) (by rw [e22]; decide) (by rw [e22]; rfl) (by decide) ?_
      obtain ⟨r, μ1, μ2, f1, f2, hs2⟩ := hq22 (xs (nI j + 1).toNatClampNeg) (xs (nI j + 2).toNatClampNeg) μ hs
      rw [← hkd] at f1 f2
      refine gw_aload_n (pc := 742) hK 1 dL_law_742 rfl rfl ?_
      refine gw_aload_n (pc := 743) hK 0 dL_law_743 rfl rfl ?_
      refine gw_iload_n (pc := 744) hK 3 dL_law_744 rfl rfl ?_
      refine gw_iconst (v := 1) (pc := 745) hK dL_law_745 (by decide) ?_
      refine gw_iadd (pc := 746) hK dL_law_746 ?_
      refine hsl (pc := 747) dL_law_747 v1 ?_
      refine gw_aload_n (pc := 748) hK 0 dL_law_748 rfl rfl ?_
      refine gw_iload_n (pc := 749) hK 3 dL_law_749 rfl rfl ?_
      refine gw_iconst (v := 2) (pc := 750) hK dL_law_750 (by decide) ?_
      refine gw_iadd (pc := 751) hK dL_law_751 ?_
      refine hsl (pc := 752) dL_law_752 v2 ?_
      refine gv_L_105 (pc := 753) hK hcx dL_law_753 (by decide) (Nat.le_of_ble_eq_true rfl) f1 ?_
      refine gw_aload_n (pc := 756) hK 2 dL_law_756 rfl rfl ?_
      refine gw_aload_n (pc := 757) hK 0 dL_law_757 rfl rfl ?_
      refine gw_iload_n (pc := 758) hK 3 dL_law_758 rfl rfl ?_
      refine gw_iconst (v := 1) (pc := 759) hK dL_law_759 (by decide) ?_
      refine gw_iadd (pc := 760) hK dL_law_760 ?_
      refine hsl (pc := 761) dL_law_761 v1 ?_
      refine gw_aload_n (pc := 762) hK 0 dL_law_762 rfl rfl ?_
      refine gw_iload_n (pc := 763) hK 3 dL_law_763 rfl rfl ?_
      refine gw_iconst (v := 2) (pc := 764) hK dL_law_764 (by decide) ?_
      refine gw_iadd (pc := 765) hK dL_law_765 ?_
      refine hsl (pc := 766) dL_law_766 v2 ?_
      refine gv_L_108 (pc := 767) hK hcm dL_law_767 (by decide) (Nat.le_of_ble_eq_true rfl) f2 ?_
      exact gw_icmp_eq_c (tgt := 847) (pc := 770) hK dL_law_770 (by decide) (fun _ => next _ hs2 hj) (fun c => absurd rfl c)
    by_cases e23 : op = 23
    · refine gw_tblIn (tgt := 775) (pc := 32) hK dL_law_32 (by rw [e23]; decide) (by rw [e23]; decide) (by rw [e23]; rfl) (by decide) ?_
      obtain ⟨r, μ1, μ2, f1, f2, hs2⟩ := hq23 (xs (nI j + 1).toNatClampNeg) μ hs
      rw [← hkd] at f1 f2
      refine gw_aload_n (pc := 775) hK 1 dL_law_775 rfl rfl ?_
      refine gw_aload_n (pc := 776) hK 0 dL_law_776 rfl rfl ?_
      refine gw_iload_n (pc := 777) hK 3 dL_law_777 rfl rfl ?_
      refine gw_iconst (v := 1) (pc := 778) hK dL_law_778 (by decide) ?_
      refine gw_iadd (pc := 779) hK dL_law_779 ?_
      refine hsl (pc := 780) dL_law_780 v1 ?_
      refine gv_L_109 (pc := 781) hK hcx dL_law_781 (by decide) (Nat.le_of_ble_eq_true rfl) f1 ?_
      refine gw_aload_n (pc := 784) hK 2 dL_law_784 rfl rfl ?_
      refine gw_aload_n (pc := 785) hK 0 dL_law_785 rfl rfl ?_
      refine gw_iload_n (pc := 786) hK 3 dL_law_786 rfl rfl ?_
      refine gw_iconst (v := 1) (pc := 787) hK dL_law_787 (by decide) ?_
      refine gw_iadd (pc := 788) hK dL_law_788 ?_
      refine hsl (pc := 789) dL_law_789 v1 ?_
      refine gv_L_112 (pc := 790) hK hcm dL_law_790 (by decide) (Nat.le_of_ble_eq_true rfl) f2 ?_
      exact gw_icmp_eq_c (tgt := 847) (pc := 793) hK dL_law_793 (by decide) (fun _ => next _ hs2 hj) (fun c => absurd rfl c)
    by_cases e24 : op = 24
    · refine gw_tblIn (tgt := 798) (pc := 32) hK dL_law_32 (by rw [e24]; decide) (by rw [e24]; decide) (by rw [e24]; rfl) (by decide) ?_
      obtain ⟨r, μ1, μ2, f1, f2, hs2⟩ := hq24  μ hs
      rw [← hkd] at f1 f2
      refine gw_aload_n (pc := 798) hK 1 dL_law_798 rfl rfl ?_
      refine gv_L_113 (pc := 799) hK hcx dL_law_799 (by decide) (Nat.le_of_ble_eq_true rfl) f1 ?_
      refine gw_aload_n (pc := 802) hK 2 dL_law_802 rfl rfl ?_
      refine gv_L_116 (pc := 803) hK hcm dL_law_803 (by decide) (Nat.le_of_ble_eq_true rfl) f2 ?_
      exact gw_icmp_eq_c (tgt := 847) (pc := 806) hK dL_law_806 (by decide) (fun _ => next _ hs2 hj) (fun c => absurd rfl c)
    by_cases e25 : op = 25
    · refine gw_tblIn (tgt := 811) (pc := 32) hK dL_law_32 (by rw [e25]; decide) (by rw [e25]; decide) (by rw [e25]; rfl) (by decide) ?_
      obtain ⟨r, μ1, μ2, f1, f2, hs2⟩ := hq25 (xs (nI j + 1).toNatClampNeg) μ hs
      rw [← hkd] at f1 f2
      refine gw_aload_n (pc := 811) hK 1 dL_law_811 rfl rfl ?_
      refine gw_aload_n (pc := 812) hK 0 dL_law_812 rfl rfl ?_
      refine gw_iload_n (pc := 813) hK 3 dL_law_813 rfl rfl ?_
      refine gw_iconst (v := 1) (pc := 814) hK dL_law_814 (by decide) ?_
      refine gw_iadd (pc := 815) hK dL_law_815 ?_
      refine hsl (pc := 816) dL_law_816 v1 ?_
      refine gv_L_117 (pc := 817) hK hcx dL_law_817 (by decide) (Nat.le_of_ble_eq_true rfl) f1 ?_
      refine gw_aload_n (pc := 820) hK 2 dL_law_820 rfl rfl ?_
      refine gw_aload_n (pc := 821) hK 0 dL_law_821 rfl rfl ?_
      refine gw_iload_n (pc := 822) hK 3 dL_law_822 rfl rfl ?_
      refine gw_iconst (v := 1) (pc := 823) hK dL_law_823 (by decide) ?_
      refine gw_iadd (pc := 824) hK dL_law_824 ?_
      refine hsl (pc := 825) dL_law_825 v1 ?_
      refine gv_L_120 (pc := 826) hK hcm dL_law_826 (by decide) (Nat.le_of_ble_eq_true rfl) f2 ?_
      exact gw_icmp_eq_c (tgt := 847) (pc := 829) hK dL_law_829 (by decide) (fun _ => next _ hs2 hj) (fun c => absurd rfl c)
    by_cases e26 : op = 26
    · refine gw_tblIn (tgt := 834) (pc := 32) hK dL_law_32 (by rw [e26]; decide) (by rw [e26]; decide) (by rw [e26]; rfl) (by decide) ?_
      obtain ⟨r, μ1, μ2, f1, f2, hs2⟩ := hq26  μ hs
      rw [← hkd] at f1 f2
      refine gw_aload_n (pc := 834) hK 1 dL_law_834 rfl rfl ?_
      refine gv_L_121 (pc := 835) hK hcx dL_law_835 (by decide) (Nat.le_of_ble_eq_true rfl) f1 ?_
      refine gw_aload_n (pc := 838) hK 2 dL_law_838 rfl rfl ?_
      refine gv_L_124 (pc := 839) hK hcm dL_law_839 (by decide) (Nat.le_of_ble_eq_true rfl) f2 ?_
      exact gw_icmp_eq_c (tgt := 847) (pc := 842) hK dL_law_842 (by decide) (fun _ => next _ hs2 hj) (fun c => absurd rfl c)
    have n0 := lv_neT e0 (a := 0) (by decide)
    have n1 := lv_neT e1 (a := 1) (by decide)
    have n2 := lv_neT e2 (a := 2) (by decide)
    have n3 := lv_neT e3 (a := 3) (by decide)
    have n4 := lv_neT e4 (a := 4) (by decide)
    have n5 := lv_neT e5 (a := 5) (by decide)
    have n6 := lv_neT e6 (a := 6) (by decide)
    have n7 := lv_neT e7 (a := 7) (by decide)
    have n8 := lv_neT e8 (a := 8) (by decide)
    have n9 := lv_neT e9 (a := 9) (by decide)
    have n10 := lv_neT e10 (a := 10) (by decide)
    have n11 := lv_neT e11 (a := 11) (by decide)
    have n12 := lv_neT e12 (a := 12) (by decide)
    have n13 := lv_neT e13 (a := 13) (by decide)
    have n14 := lv_neT e14 (a := 14) (by decide)
    have n15 := lv_neT e15 (a := 15) (by decide)
    have n16 := lv_neT e16 (a := 16) (by decide)
    have n17 := lv_neT e17 (a := 17) (by decide)
    have n18 := lv_neT e18 (a := 18) (by decide)
    have n19 := lv_neT e19 (a := 19) (by decide)
    have n20 := lv_neT e20 (a := 20) (by decide)
    have n21 := lv_neT e21 (a := 21) (by decide)
    have n22 := lv_neT e22 (a := 22) (by decide)
    have n23 := lv_neT e23 (a := 23) (by decide)
    have n24 := lv_neT e24 (a := 24) (by decide)
    have n25 := lv_neT e25 (a := 25) (by decide)
    have n26 := lv_neT e26 (a := 26) (by decide)
    refine gw_tblOut (tgt := 847) (pc := 32) hK dL_law_32 (by omega) (by decide) ?_
    exact next _ hs hj
