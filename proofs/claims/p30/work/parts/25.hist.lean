/-! History.stateAt: a row that answers with a cell (by hand; in range alone) -/
theorem gx_ConR_of {l : Launch} {own name desc : String} {cc : ByteArray} {nL fr lo : Nat} {n9 : String} {Y : gx_Y} {As : List Value} {L0 : List (Nat × Value)} {μ : gx_M} {a9 : Nat} (hp : plainName own = true) (hsz : (lg_sl As).length ≤ nL) (hL : lv_args 0 As = L0)
    (body : ∀ K : gx_KT, gx_K l own cc nL fr lo (some (.object n9)) Y (fun _ _ => False) K → (∀ pc L, decode cc pc = .ok (.areturn, 1) → K μ pc L [.ref a9]) → K μ 0 L0 []) :
    Met l ⟨own, name, desc⟩ (gx_Ws ⟨own, name, desc⟩ cc nL (some (.object n9))) { frames := fr, cells := 0, slots := 0, locals := lo } (va_Pc As (gx_W Y μ)) (va_Qr (fun _ : Unit => True) (fun _ a t => a = a9 ∧ gx_W Y μ t) (gx_A Y)) 0 0 (gx_A Y) := by
  refine Met.ofW (cc := cc) (maxL := nL) (ret := some (.object n9)) hp rfl ?_
  intro p e s m args below meth c s₁ B hml hv
  obtain ⟨rfl, hP, hK, hI, hN⟩ := hv
  have hts0 := atoms_spec (ws := gx_Ws ⟨own, name, desc⟩ cc nL (some (.object n9))) B.pre
  have hts : ∀ w ∈ gWs, w.before As.toArray s = true := fun w hw => hts0 w (List.mem_cons_of_mem _ hw)
  have hown : s.vm.findClass own = some m.cls := findClass_of_methodNamed B.named
  have hx := B.exec
  have hb := B.bytes
  have hr := B.returns
  have hlocks := B.notSynchronized
  rw [lg_entry_eq]
  have hl := lv_entry As (n := nL) hsz
  rw [hL] at hl
  refine body _ ⟨p, e, s, m, As.toArray, below, meth, c, MQ below (va_Qr (fun _ : Unit => True) (fun _ a t => a = a9 ∧ gx_W Y μ t) (gx_A Y)) As.toArray s 0 0 (gx_A Y), gx_A Y, 0, 0, 0, 0, hx, hb, hml, hown, hts, hK, hI, hN, fun _ h => h, Nat.le_refl _, Nat.le_refl _, rfl, fun _ _ _ _ _ _ _ _ h => h.elim, fun _ _ _ _ _ h => h.elim, fun _ _ _ _ _ _ h => h.elim⟩ ?_ s.heap [] _ hP va_S.rf hl
  intro pc L d H locs ls hP1 hS hl1
  exact W.aret hx hb hr (Or.inl ⟨n9, rfl⟩) (Or.inr ⟨a9, rfl⟩) (fun t ht hW => ⟨⟨(), a9, rfl, trivial, rfl, by rw [ht]; exact hP1, va_K.moved hW.alike hK, hI, gx_nest_warm hW hN⟩, hS.F ht⟩) hS.2.2 d
theorem gx_in5 {i : Int32} (h : vp_in i 5) : ¬ i < 0 ∧ ¬ (5 : Int32) ≤ i := by
  have h1 := vp_in_iff.mp h
  constructor
  · rw [Int32.lt_iff_toInt_lt, Int32.toInt_zero]; omega
  · rw [Int32.le_iff_toInt_le, show (5 : Int32).toInt = 5 by decide]; omega
set_option maxRecDepth 100000 in
set_option maxHeartbeats 4000000 in
theorem ct_X1_stateAt (l : Launch) (Y : gx_Y) (μ : gx_M) (c : Nat) (i : Int32) (hc : gk_hist Y c) (hin : vp_in i 5) :
    Met l yX1_stateAt (gx_Ws yX1_stateAt cX1_stateAt 2 (some (.object "GlassBowls$Table"))) { frames := 0, cells := 0, slots := 0, locals := 0 } (va_Pc [.ref (gy_a Y c), .int i] (gx_W Y μ)) (va_Qr (fun _ : Unit => True) (fun _ a t => a = gy_a Y (c + 1 + 1 + 25 * i.toNatClampNeg) ∧ gx_W Y μ t) (gx_A Y)) 0 0 (gx_A Y) := by
  refine gx_ConR_of (L0 := [(0, .ref (gy_a Y c)), (1, .int i)]) (by decide) (Nat.le_of_ble_eq_true rfl) rfl (fun K hK hra => ?_)
  refine gw_iload_n (pc := 0) hK 1 dX1_stateAt_0 rfl rfl ?_
  refine gw_if_lt_c (tgt := 22) (pc := 1) hK dX1_stateAt_1 (by decide) (fun q => absurd q (gx_in5 hin).1) (fun _ => ?_)
  refine gw_iload_n (pc := 4) hK 1 dX1_stateAt_4 rfl rfl ?_
  refine gw_aload_n (pc := 5) hK 0 dX1_stateAt_5 rfl rfl ?_
  refine gf_X1_11 (pc := 6) hK hc.1 dX1_stateAt_6 ?_
  refine gw_tlen (pc := 9) hK hc.2.1 dX1_stateAt_9 ?_
  refine gw_icmp_ge_c (tgt := 22) (pc := 10) hK dX1_stateAt_10 (by decide) (fun q => absurd q (gx_in5 hin).2) (fun _ => ?_)
  refine gw_aload_n (pc := 13) hK 0 dX1_stateAt_13 rfl rfl ?_
  refine gf_X1_11 (pc := 14) hK hc.1 dX1_stateAt_14 ?_
  refine gw_iload_n (pc := 17) hK 1 dX1_stateAt_17 rfl rfl ?_
  refine gw_tald (pc := 18) hK hc.2.1 hin dX1_stateAt_18 ?_
  refine gw_goto (tgt := 23) (pc := 19) hK dX1_stateAt_19 (by decide) ?_
  exact hra 23 _ dX1_stateAt_23
set_option maxHeartbeats 4000000 in
theorem gv_X1_stateAt {l : Launch} {cc : ByteArray} {nL fr lo : Nat} {ret : Option FieldType} {Y : gx_Y} {Post : Value → gx_M → Prop} {K : gx_KT} {pc : Nat} {μ : gx_M} {L : List (Nat × Value)} {st : List Value} (h : gx_K l RX1 cc nL fr lo ret Y Post K) {idx c : Nat} {i : Int32} (hc : gk_hist Y c) (hin : vp_in i 5) (k1 : Cond.methodLink RX1 idx yX1_stateAt ∈ gWs) (hst : (st.map fun v => v.category).sum ≤ 8) (hR : 0 + 1 ≤ fr ∧ 8 + (2 + 11) + 0 ≤ lo) (d : decode cc pc = .ok (.invokevirtual idx, 3)) (kk : K μ (pc + 3) L (.ref (gy_a Y (c + 1 + 1 + 25 * i.toNatClampNeg)) :: st)) : K μ pc L (.int i :: .ref (gy_a Y c) :: st) := by
  have hM := ct_X1_stateAt l Y μ c i hc hin
  have hc := hc.1
  obtain ⟨p, e, s, m, args, below, meth, c0, Q, A0, cells, slots, cR, sR, hx, hb, hml, hown, hts, hK, hI, hN, hA, hcs, hss, rfl, hri, hrv, hrl⟩ := h
  intro H locs ls hP hS hl
  have he : (gx_ws Y μ)[c - gy_o Y]? = some (gy_a Y c, .inr (gx_Ci 6, gx_fs 6 (gy_a Y) c (μ c))) := by rw [gx_ws_get hc.1, gx_cell_o hc.2 (by decide)]
  have hG : GoodIn gWs (wsV RX1 idx RX1 yX1_stateAt (gx_Ws yX1_stateAt cX1_stateAt 2 (some (.object "GlassBowls$Table")))) := gWs_self (fun w hw => by
    simp only [wsV, gx_Ws, List.cons_append, List.nil_append, List.mem_cons] at hw
    rcases hw with rfl | rfl | rfl | rfl | rfl | hw
    · exact k1
    · exact kw_im_X1_stateAt
    · exact kw_se_X1_stateAt
    · exact kw_in_RX1
    · exact kw_co_X1_stateAt
    · exact hw)
  have hrun := va_runV (l := l) (R := { frames := fr, cells := cR, slots := sR, locals := lo }) (below := below) (meth := meth) (e := e) (locs := locs) (cells := cells) (slots := slots) (g := F0 m pc ls ([Value.int i].reverse ++ .ref (gy_a Y c) :: st)) (As := [.int i]) (rest := st) ⟨hx, hb, hml, hown, hts⟩ hM (cwV 1 hts hG rfl rfl rfl (by refine ⟨rfl, by decide, by decide, (show (parseMethodDescriptor yX1_stateAt.desc).map (fun d => d.parameters.length) = some 1 by decide +kernel)⟩) hR) ⟨gx_W_blind, va_recv hK hP (ci := gx_Ci 6) rfl he, fun U hU hW => ⟨rfl, by rw [hU]; exact hP, va_K.moved hW.alike hK, hI, gx_nest_warm hW hN⟩⟩ rfl rfl hl.1 rfl (lv_room (pc := pc) (m := m) (ls := ls) (rest := [Value.int i].reverse ++ .ref (gy_a Y c) :: st) hst) d ⟨hcs, hss⟩
  exact va_callr (post := fun _ : Unit => True) (B := fun _ a t => a = gy_a Y (c + 1 + 1 + 25 * i.toNatClampNeg) ∧ gx_W Y μ t) (A1 := gx_A Y) (a := (Value.ref (gy_a Y c) :: [Value.int i]).toArray) hrun hS (fun q _ hq => hA q hq) hA (fun u ra t H1 locs1 ht hvm hw hB hz1 hk1 hS1 => by rw [hB.1]; exact kk H1 locs1 ls (by rw [← ht]; exact hB.2.1) hS1 hl)
def fn_X1_record (kd : Nat → Nat) (μ : gx_M) (c : Nat) (c1 : Nat) : Option (Int32 × gx_M) :=
  (if gx_ix (μ c 1) 5 = true then gx_b (fn_X4_copyFrom kd μ (c + 1 + 1 + 25 * (Int32.toNatClampNeg (μ c 1))) c1) (fun _ m3 =>
some (0, (gx_u (gx_u m3 c 1 ((m3 c 1 + 1) - (m3 c 1 + 1) / 5 * 5)) c 2 (if 5 < ((gx_u m3 c 1 ((m3 c 1 + 1) - (m3 c 1 + 1) / 5 * 5)) c 2 + 1) then 5 else ((gx_u m3 c 1 ((m3 c 1 + 1) - (m3 c 1 + 1) / 5 * 5)) c 2 + 1))))) else none)
set_option maxRecDepth 100000 in
set_option maxHeartbeats 4000000 in
theorem ct_X1_record (l : Launch) (Y : gx_Y) (μ : gx_M) (c : Nat) (c1 : Nat) (rr : Int32 × gx_M) (hc : gk_hist Y c) (hc1 : gk_tab Y c1) (hf : fn_X1_record (gy_k Y) μ c c1 = some rr) : gx_Con l yX1_record cX1_record 3 none 4 103 Y [.ref (gy_a Y c), .ref (gy_a Y c1)] μ rr := by
  refine gx_Con_of (L0 := [(0, .ref (gy_a Y c)), (1, .ref (gy_a Y c1))]) (by decide) (Nat.le_of_ble_eq_true rfl) rfl (fun K hK => ?_)
  unfold fn_X1_record at hf
  refine gw_aload_n (pc := 0) hK 0 dX1_record_0 rfl rfl ?_
  refine gw_aload_n (pc := 1) hK 0 dX1_record_1 rfl rfl ?_
  refine gf_X1_17 (pc := 2) hK hc.1 dX1_record_2 ?_
  obtain ⟨hi1, hf⟩ := gx_must hf
  refine gv_X1_stateAt (idx := 25) (pc := 5) hK hc (gx_ix_in hi1) kw_ml_RX1_25 (Nat.le_of_ble_eq_true rfl) (by decide) dX1_record_5 ?_
  refine gw_astore_n (L' := [(2, .ref (gy_a Y (c + 1 + 1 + 25 * (Int32.toNatClampNeg (μ c 1))))), (0, .ref (gy_a Y c)), (1, .ref (gy_a Y c1))]) (pc := 8) hK dX1_record_8 rfl (by decide) rfl ?_
  refine gw_aload_n (pc := 9) hK 0 dX1_record_9 rfl rfl ?_
  refine gw_ifnull (pc := 10) hK dX1_record_10 ?_
  refine gw_aload_n (pc := 13) hK 0 dX1_record_13 rfl rfl ?_
  refine gw_aload_n (pc := 14) hK 2 dX1_record_14 rfl rfl ?_
  refine gv_X1_29 (pc := 15) hK (hc.2.2 (Int32.toNatClampNeg (μ c 1)) (gx_lt5 hi1)) hc1 dX1_record_15 (by decide) (Nat.le_of_ble_eq_true rfl) hf (fun _ m3 hf => ?_)
  refine gw_aload_n (pc := 18) hK 1 dX1_record_18 rfl rfl ?_
  refine gw_aload_n (pc := 19) hK 1 dX1_record_19 rfl rfl ?_
  refine gf_X1_17 (pc := 20) hK hc.1 dX1_record_20 ?_
  refine gw_iconst (v := 1) (pc := 23) hK dX1_record_23 (by decide) ?_
  refine gw_iadd (pc := 24) hK dX1_record_24 ?_
  refine gw_iconst (v := 5) (pc := 25) hK dX1_record_25 (by decide) ?_
  refine gw_irem (pc := 26) hK dX1_record_26 (by decide) ?_
  refine gp_X1_17 (pc := 27) hK hc.1 dX1_record_27 ?_
  refine gw_aload_n (pc := 30) hK 1 dX1_record_30 rfl rfl ?_
  refine gw_aload_n (pc := 31) hK 1 dX1_record_31 rfl rfl ?_
  refine gf_X1_21 (pc := 32) hK hc.1 dX1_record_32 ?_
  refine gw_iconst (v := 1) (pc := 35) hK dX1_record_35 (by decide) ?_
  refine gw_iadd (pc := 36) hK dX1_record_36 ?_
  refine gw_iconst (v := 5) (pc := 37) hK dX1_record_37 (by decide) ?_
  refine gw_mmin (pc := 38) hK kw_ml_RX1_33 dX1_record_38 (Nat.le_of_ble_eq_true rfl) (Nat.le_of_ble_eq_true rfl) ?_
  refine gp_X1_21 (pc := 41) hK hc.1 dX1_record_41 ?_
  exact gw_ret_v (pc := 44) hK dX1_record_44 (Option.some.inj hf)
theorem gv_X6_49 {l : Launch} {cc : ByteArray} {nL fr lo : Nat} {ret : Option FieldType} {Y : gx_Y} {Post : Value → gx_M → Prop} {K : gx_KT} {pc : Nat} {μ : gx_M} {L : List (Nat × Value)} {st : List Value} {α : Type} {rr : α} (h : gx_K l RX6 cc nL fr lo ret Y Post K) {c : Nat} {c1 : Nat} (hc : gk_hist Y c) (hc1 : gk_tab Y c1) (d : decode cc pc = .ok (.invokevirtual 49, 3)) (hR : 4 + 1 ≤ fr ∧ 125 ≤ lo) (hst : (st.map fun v => v.category).sum ≤ 8) {k : Int32 → gx_M → Option α} (hf : gx_b (fn_X1_record (gy_k Y) μ c c1) k = some rr) (kk : ∀ (r : Int32) (m : gx_M), k r m = some rr → K m (pc + 3) L (st)) : K μ pc L (.ref (gy_a Y c1) :: .ref (gy_a Y c) :: st) := by
  obtain ⟨r, m, e, hk⟩ := gx_b_some hf
  exact gw_callV (As := [.ref (gy_a Y c1)]) (q := (r, m)) h hc.1 (by decide) rfl (by refine ⟨rfl, by decide, by decide, (show (parseMethodDescriptor yX1_record.desc).map (fun d => d.parameters.length) = some 1 by decide +kernel)⟩) kw_ml_RX6_49 kw_im_X1_record kw_se_X1_record kw_in_RX1 kw_co_X1_record hR hst d (ct_X1_record l Y μ c c1 (r, m) hc hc1 e) (kk r m hk)
def fn_X1_size (kd : Nat → Nat) (μ : gx_M) (c : Nat) : Option (Int32 × gx_M) :=
  some (μ c 2, μ)
set_option maxRecDepth 100000 in
set_option maxHeartbeats 4000000 in
theorem ct_X1_size (l : Launch) (Y : gx_Y) (μ : gx_M) (c : Nat) (rr : Int32 × gx_M) (hc : gk_hist Y c) (hf : fn_X1_size (gy_k Y) μ c = some rr) : gx_Con l yX1_size cX1_size 1 (some .int) 0 0 Y [.ref (gy_a Y c)] μ rr := by
  refine gx_Con_of (L0 := [(0, .ref (gy_a Y c))]) (by decide) (Nat.le_of_ble_eq_true rfl) rfl (fun K hK => ?_)
  unfold fn_X1_size at hf
  refine gw_aload_n (pc := 0) hK 0 dX1_size_0 rfl rfl ?_
  refine gf_X1_21 (pc := 1) hK hc.1 dX1_size_1 ?_
  exact gw_ret_i (pc := 4) hK dX1_size_4 (Option.some.inj hf)
theorem gv_X6_127 {l : Launch} {cc : ByteArray} {nL fr lo : Nat} {ret : Option FieldType} {Y : gx_Y} {Post : Value → gx_M → Prop} {K : gx_KT} {pc : Nat} {μ : gx_M} {L : List (Nat × Value)} {st : List Value} {α : Type} {rr : α} (h : gx_K l RX6 cc nL fr lo ret Y Post K) {c : Nat} (hc : gk_hist Y c) (d : decode cc pc = .ok (.invokevirtual 127, 3)) (hR : 0 + 1 ≤ fr ∧ 20 ≤ lo) (hst : (st.map fun v => v.category).sum ≤ 8) {k : Int32 → gx_M → Option α} (hf : gx_b (fn_X1_size (gy_k Y) μ c) k = some rr) (kk : ∀ (r : Int32) (m : gx_M), k r m = some rr → K m (pc + 3) L (.int r :: st)) : K μ pc L (.ref (gy_a Y c) :: st) := by
  obtain ⟨r, m, e, hk⟩ := gx_b_some hf
  exact gw_callV (As := []) (q := (r, m)) h hc.1 (by decide) rfl (by refine ⟨rfl, by decide, by decide, (show (parseMethodDescriptor yX1_size.desc).map (fun d => d.parameters.length) = some 0 by decide +kernel)⟩) kw_ml_RX6_127 kw_im_X1_size kw_se_X1_size kw_in_RX1 kw_co_X1_size hR hst d (ct_X1_size l Y μ c (r, m) hc e) (kk r m hk)
def fn_X1_restore (kd : Nat → Nat) (μ : gx_M) (c : Nat) (c1 : Nat) : Option (Int32 × gx_M) :=
  (if gx_ix ((gx_u (gx_u μ c 1 (((μ c 1 + 5) - 1) - ((μ c 1 + 5) - 1) / 5 * 5)) c 2 (if ((gx_u μ c 1 (((μ c 1 + 5) - 1) - ((μ c 1 + 5) - 1) / 5 * 5)) c 2 - 1) < 0 then 0 else ((gx_u μ c 1 (((μ c 1 + 5) - 1) - ((μ c 1 + 5) - 1) / 5 * 5)) c 2 - 1))) c 1) 5 = true then gx_b (fn_X4_copyFrom kd (gx_u (gx_u μ c 1 (((μ c 1 + 5) - 1) - ((μ c 1 + 5) - 1) / 5 * 5)) c 2 (if ((gx_u μ c 1 (((μ c 1 + 5) - 1) - ((μ c 1 + 5) - 1) / 5 * 5)) c 2 - 1) < 0 then 0 else ((gx_u μ c 1 (((μ c 1 + 5) - 1) - ((μ c 1 + 5) - 1) / 5 * 5)) c 2 - 1))) c1 (c + 1 + 1 + 25 * (Int32.toNatClampNeg ((gx_u (gx_u μ c 1 (((μ c 1 + 5) - 1) - ((μ c 1 + 5) - 1) / 5 * 5)) c 2 (if ((gx_u μ c 1 (((μ c 1 + 5) - 1) - ((μ c 1 + 5) - 1) / 5 * 5)) c 2 - 1) < 0 then 0 else ((gx_u μ c 1 (((μ c 1 + 5) - 1) - ((μ c 1 + 5) - 1) / 5 * 5)) c 2 - 1))) c 1)))) (fun _ m3 =>
some (0, m3)) else none)
set_option maxRecDepth 100000 in
set_option maxHeartbeats 4000000 in
theorem ct_X1_restore (l : Launch) (Y : gx_Y) (μ : gx_M) (c : Nat) (c1 : Nat) (rr : Int32 × gx_M) (hc : gk_hist Y c) (hc1 : gk_tab Y c1) (hf : fn_X1_restore (gy_k Y) μ c c1 = some rr) : gx_Con l yX1_restore cX1_restore 2 none 4 103 Y [.ref (gy_a Y c), .ref (gy_a Y c1)] μ rr := by
  refine gx_Con_of (L0 := [(0, .ref (gy_a Y c)), (1, .ref (gy_a Y c1))]) (by decide) (Nat.le_of_ble_eq_true rfl) rfl (fun K hK => ?_)
  unfold fn_X1_restore at hf
  refine gw_aload_n (pc := 0) hK 0 dX1_restore_0 rfl rfl ?_
  refine gw_aload_n (pc := 1) hK 0 dX1_restore_1 rfl rfl ?_
  refine gf_X1_17 (pc := 2) hK hc.1 dX1_restore_2 ?_
  refine gw_iconst (v := 5) (pc := 5) hK dX1_restore_5 (by decide) ?_
  refine gw_iadd (pc := 6) hK dX1_restore_6 ?_
  refine gw_iconst (v := 1) (pc := 7) hK dX1_restore_7 (by decide) ?_
  refine gw_isub (pc := 8) hK dX1_restore_8 ?_
  refine gw_iconst (v := 5) (pc := 9) hK dX1_restore_9 (by decide) ?_
  refine gw_irem (pc := 10) hK dX1_restore_10 (by decide) ?_
  refine gp_X1_17 (pc := 11) hK hc.1 dX1_restore_11 ?_
  refine gw_aload_n (pc := 14) hK 0 dX1_restore_14 rfl rfl ?_
  refine gw_aload_n (pc := 15) hK 0 dX1_restore_15 rfl rfl ?_
  refine gf_X1_21 (pc := 16) hK hc.1 dX1_restore_16 ?_
  refine gw_iconst (v := 1) (pc := 19) hK dX1_restore_19 (by decide) ?_
  refine gw_isub (pc := 20) hK dX1_restore_20 ?_
  refine gw_iconst (v := 0) (pc := 21) hK dX1_restore_21 (by decide) ?_
  refine gw_mmax (pc := 22) hK kw_ml_RX1_39 dX1_restore_22 (Nat.le_of_ble_eq_true rfl) (Nat.le_of_ble_eq_true rfl) ?_
  refine gp_X1_21 (pc := 25) hK hc.1 dX1_restore_25 ?_
  refine gw_aload_n (pc := 28) hK 1 dX1_restore_28 rfl rfl ?_
  refine gw_ifnull (pc := 29) hK dX1_restore_29 ?_
  refine gw_aload_n (pc := 32) hK 1 dX1_restore_32 rfl rfl ?_
  refine gw_aload_n (pc := 33) hK 0 dX1_restore_33 rfl rfl ?_
  refine gw_aload_n (pc := 34) hK 0 dX1_restore_34 rfl rfl ?_
  refine gf_X1_17 (pc := 35) hK hc.1 dX1_restore_35 ?_
  obtain ⟨hi1, hf⟩ := gx_must hf
  refine gv_X1_stateAt (idx := 25) (pc := 38) hK hc (gx_ix_in hi1) kw_ml_RX1_25 (Nat.le_of_ble_eq_true rfl) (by decide) dX1_restore_38 ?_
  refine gv_X1_29 (pc := 41) hK hc1 (hc.2.2 (Int32.toNatClampNeg ((gx_u (gx_u μ c 1 (((μ c 1 + 5) - 1) - ((μ c 1 + 5) - 1) / 5 * 5)) c 2 (if ((gx_u μ c 1 (((μ c 1 + 5) - 1) - ((μ c 1 + 5) - 1) / 5 * 5)) c 2 - 1) < 0 then 0 else ((gx_u μ c 1 (((μ c 1 + 5) - 1) - ((μ c 1 + 5) - 1) / 5 * 5)) c 2 - 1))) c 1)) (gx_lt5 hi1)) dX1_restore_41 (by decide) (Nat.le_of_ble_eq_true rfl) hf (fun _ m3 hf => ?_)
  exact gw_ret_v (pc := 44) hK dX1_restore_44 (Option.some.inj hf)
theorem gv_X6_131 {l : Launch} {cc : ByteArray} {nL fr lo : Nat} {ret : Option FieldType} {Y : gx_Y} {Post : Value → gx_M → Prop} {K : gx_KT} {pc : Nat} {μ : gx_M} {L : List (Nat × Value)} {st : List Value} {α : Type} {rr : α} (h : gx_K l RX6 cc nL fr lo ret Y Post K) {c : Nat} {c1 : Nat} (hc : gk_hist Y c) (hc1 : gk_tab Y c1) (d : decode cc pc = .ok (.invokevirtual 131, 3)) (hR : 4 + 1 ≤ fr ∧ 124 ≤ lo) (hst : (st.map fun v => v.category).sum ≤ 8) {k : Int32 → gx_M → Option α} (hf : gx_b (fn_X1_restore (gy_k Y) μ c c1) k = some rr) (kk : ∀ (r : Int32) (m : gx_M), k r m = some rr → K m (pc + 3) L (st)) : K μ pc L (.ref (gy_a Y c1) :: .ref (gy_a Y c) :: st) := by
  obtain ⟨r, m, e, hk⟩ := gx_b_some hf
  exact gw_callV (As := [.ref (gy_a Y c1)]) (q := (r, m)) h hc.1 (by decide) rfl (by refine ⟨rfl, by decide, by decide, (show (parseMethodDescriptor yX1_restore.desc).map (fun d => d.parameters.length) = some 1 by decide +kernel)⟩) kw_ml_RX6_131 kw_im_X1_restore kw_se_X1_restore kw_in_RX1 kw_co_X1_restore hR hst d (ct_X1_restore l Y μ c c1 (r, m) hc hc1 e) (kk r m hk)
