def gz_tab : gx_M := gx_u (gx_u (gx_u (gx_u gz_0 24 0 60) 24 1 10) 24 2 10) 24 3 0
theorem gz_putE {kd : Nat → Nat} {μ : gx_M} {c : Nat} {i v : Int32} (n : Nat) (hk : kd (c + 1) = 100 + n) (h0 : ¬ i < 0) (h1 : ¬ nI n ≤ i) (h2 : gx_ix i n = true) : fn_X3_put kd μ c i v = some (0, gx_u μ (c + 1) (Int32.toNatClampNeg i) v) := by
  unfold fn_X3_put
  rw [hk, show 100 + n - 100 = n by omega, if_neg h0, if_neg h1, if_pos h2]
theorem gz_tabK (D : va_G) (cI cT : ClassId) (t : Nat → Nat) : gk_tab (gz_Y D cI cT kd_tab t) 0 := by
  (repeat' apply And.intro) <;> first | rfl | exact Nat.le_of_ble_eq_true rfl
theorem gz_snd {m m1 : gx_M} (h : some ((0 : Int32), m) = some ((0 : Int32), m1)) : m = m1 := congrArg Prod.snd (Option.some.inj h)
set_option maxRecDepth 100000 in
set_option maxHeartbeats 4000000 in
theorem ct_X4_init (l : Launch) (D : va_G) (cI cT : ClassId) : gz_Con l yX4_init cX4_init 1 3 62 24 281 D cI cT [] 4 [.null, .null, .null, .int 0] (gz_R D cI cT kd_tab gz_tab) := by
  refine gz_Con_of (by decide) rfl (fun h0 K h => ⟨Nat.le_of_ble_eq_true rfl, ?_⟩)
  show K [(h0, .inr (4, [.null, .null, .null, .int 0]))] 0 [(0, .ref h0)] [] 0 0
  refine gz_aload_n (pc := 0) h 0 dX4_init_0 rfl rfl ?_
  refine gz_objInit (pc := 1) h kw_ml_RX4_3 dX4_init_1 (Nat.le_of_ble_eq_true rfl) (Nat.le_of_ble_eq_true rfl) ?_
  refine gz_aload_n (pc := 4) h 0 dX4_init_4 rfl rfl ?_
  refine gz_new (pc := 5) (ci := 0) (fs := [.null, .null, .null, .null, .null, .int 0, .int 0, .int 0, .int 0, .int 0]) h inX0 tyX0 tyX0_ok kw_cl_RX4_9 kw_it_RX0 kw_in_RX0 rfl (fun j hj => by rcases (show j = 0 ∨ j = 1 ∨ j = 2 ∨ j = 3 ∨ j = 4 ∨ j = 5 ∨ j = 6 ∨ j = 7 ∨ j = 8 ∨ j = 9 by omega) with rfl | rfl | rfl | rfl | rfl | rfl | rfl | rfl | rfl | rfl <;> rfl) (Nat.le_of_ble_eq_true rfl) (Nat.le_of_ble_eq_true rfl) dX4_init_5 (fun q1 => ?_)
  refine gz_dup (pc := 8) h dX4_init_8 rfl ?_
  refine gz_initN (pc := 9) (host := RX6) (ws := [(h0, .inr (4, [.null, .null, .null, .int 0]))]) (As := []) h (ct_X0_init l D cI cT) rfl ⟨by decide, by decide, (show (parseMethodDescriptor yX0_init.desc).map (fun d => d.parameters.length) = some 0 by decide +kernel)⟩ kw_im_X0_init kw_in_RX0 kw_co_X0_init ⟨Nat.le_of_ble_eq_true rfl, Nat.le_of_ble_eq_true rfl⟩ (Nat.le_of_ble_eq_true rfl) ⟨Nat.le_of_ble_eq_true rfl, Nat.le_of_ble_eq_true rfl⟩ dX4_init_9 ?_ (List.mem_of_getElem? (i := 0) rfl)
  rintro wn ⟨t1, ht1, rfl⟩
  subst ht1
  refine gz_putF (pc := 12) (ws' := [(h0, .inr (4, [.ref (t1 0), .null, .null, .int 0]))] ++ gx_ws (gz_Y D cI cT kd_bowls t1) gz_0) (v := .ref (t1 0)) h 0 0 rfl rfl inX4 (by decide) kw_fl_RX4_12 tyX4 tyX4_ok nmX4 (ty := .object "GlassBowls$Bowls") (by decide +kernel) rfl rfl (Nat.le_of_ble_eq_true rfl) rfl rfl rfl (by decide) dX4_init_12 ?_
  refine gz_aload_n (pc := 15) h 0 dX4_init_15 rfl rfl ?_
  refine gz_new (pc := 16) (ci := 2) (fs := [.null, .null, .null, .null, .null, .int 0]) h inX2 tyX2 tyX2_ok kw_cl_RX4_18 kw_it_RX2 kw_in_RX2 rfl (fun j hj => by rcases (show j = 0 ∨ j = 1 ∨ j = 2 ∨ j = 3 ∨ j = 4 ∨ j = 5 by omega) with rfl | rfl | rfl | rfl | rfl | rfl <;> rfl) (Nat.le_of_ble_eq_true rfl) (Nat.le_of_ble_eq_true rfl) dX4_init_16 (fun q2 => ?_)
  refine gz_dup (pc := 19) h dX4_init_19 rfl ?_
  refine gz_initN (pc := 20) (cells := 12) (slots := 71) (st := [.ref q2, .ref h0]) (host := RX6) (ws := [(h0, .inr (4, [.ref (t1 0), .null, .null, .int 0]))] ++ gx_ws (gz_Y D cI cT kd_bowls t1) gz_0) (As := []) h (ct_X2_init l D cI cT) rfl ⟨by decide, by decide, (show (parseMethodDescriptor yX2_init.desc).map (fun d => d.parameters.length) = some 0 by decide +kernel)⟩ kw_im_X2_init kw_in_RX2 kw_co_X2_init ⟨Nat.le_of_ble_eq_true rfl, Nat.le_of_ble_eq_true rfl⟩ (Nat.le_of_ble_eq_true rfl) ⟨Nat.le_of_ble_eq_true rfl, Nat.le_of_ble_eq_true rfl⟩ dX4_init_20 ?_ (List.mem_of_getElem? (i := 1) rfl)
  rintro wn ⟨t2, ht2, rfl⟩
  subst ht2
  refine gz_putF (pc := 23) (ws' := [(h0, .inr (4, [.ref (t1 0), .ref (t2 0), .null, .int 0]))] ++ gx_ws (gz_Y D cI cT kd_bowls t1) gz_0 ++ gx_ws (gz_Y D cI cT kd_piece t2) gz_0) (v := .ref (t2 0)) h 0 1 rfl rfl inX4 (by decide) kw_fl_RX4_21 tyX4 tyX4_ok nmX4 (ty := .object "GlassBowls$Piece") (by decide +kernel) rfl rfl (Nat.le_of_ble_eq_true rfl) rfl rfl rfl (by decide) dX4_init_23 ?_
  refine gz_aload_n (pc := 26) h 0 dX4_init_26 rfl rfl ?_
  refine gz_new (pc := 27) (ci := 3) (fs := [.null]) h inX3 tyX3 tyX3_ok kw_cl_RX4_25 kw_it_RX3 kw_in_RX3 rfl (fun j hj => by rcases (show j = 0 by omega) with rfl; rfl) (Nat.le_of_ble_eq_true rfl) (Nat.le_of_ble_eq_true rfl) dX4_init_27 (fun q3 => ?_)
  refine gz_dup (pc := 30) h dX4_init_30 rfl ?_
  refine gz_iconst (v := 4) (pc := 31) h dX4_init_31 (by decide) ?_
  refine gz_init (pc := 32) (cells := 23) (slots := 277) (st := [.ref q3, .ref h0]) (ws := [(h0, .inr (4, [.ref (t1 0), .ref (t2 0), .null, .int 0]))] ++ gx_ws (gz_Y D cI cT kd_bowls t1) gz_0 ++ gx_ws (gz_Y D cI cT kd_piece t2) gz_0) (As := [.int 4]) h (ct_X3_init l D cI cT 4 4 (by decide) (by decide) (by decide)) rfl ⟨by decide, by decide, (show (parseMethodDescriptor yX3_init.desc).map (fun d => d.parameters.length) = some 1 by decide +kernel)⟩ kw_im_X3_init kw_in_RX3 kw_co_X3_init ⟨Nat.le_of_ble_eq_true rfl, Nat.le_of_ble_eq_true rfl⟩ (Nat.le_of_ble_eq_true rfl) ⟨Nat.le_of_ble_eq_true rfl, Nat.le_of_ble_eq_true rfl⟩ dX4_init_32 ?_ kw_ml_RX4_27
  rintro wn ⟨t3, ht3, rfl⟩
  subst ht3
  refine gz_putF (pc := 35) (ws' := [(h0, .inr (4, [.ref (t1 0), .ref (t2 0), .ref (t3 0), .int 0]))] ++ gx_ws (gz_Y D cI cT kd_bowls t1) gz_0 ++ gx_ws (gz_Y D cI cT kd_piece t2) gz_0 ++ gx_ws (gz_Y D cI cT (kd_row 4) t3) gz_0) (v := .ref (t3 0)) h 0 2 rfl rfl inX4 (by decide) kw_fl_RX4_30 tyX4 tyX4_ok nmX4 (ty := .object "GlassBowls$Row") (by decide +kernel) rfl rfl (Nat.le_of_ble_eq_true rfl) rfl rfl rfl (by decide) dX4_init_35 ?_
  refine gz_aload_n (pc := 38) h 0 dX4_init_38 rfl rfl ?_
  refine gz_iconst (v := 0) (pc := 39) h dX4_init_39 (by decide) ?_
  refine gz_put (pc := 40) (ws' := gx_ws (gz_Y D cI cT kd_tab (fun j => if j = 0 then h0 else if j < 12 then t1 (j - 1) else if j < 23 then t2 (j - 12) else t3 (j - 23))) gz_0) (v := .int 0) h 0 3 rfl rfl inX4 (by decide) kw_fl_RX4_34 tyX4 tyX4_ok nmX4 (ty := .int) (by decide +kernel) rfl rfl (Nat.le_of_ble_eq_true rfl) rfl rfl dX4_init_40 ?_
  generalize htt : (fun j => if j = 0 then h0 else if j < 12 then t1 (j - 1) else if j < 23 then t2 (j - 12) else t3 (j - 23) : Nat → Nat) = tt
  have ht0 : tt 0 = h0 := by rw [← htt]; rfl
  subst ht0
  refine gz_toK (pc := 43) h ⟨rfl, rfl, rfl⟩ (fun K' hK => ?_)
  have hc := gz_tabK D cI cT tt
  generalize hY : gz_Y D cI cT kd_tab tt = Y at hK hc
  have hk : gy_k Y (0 + 23 + 1) = 100 + 4 := by rw [← hY]; rfl
  have hr : tt = gy_a Y := by rw [← hY]; rfl
  rw [hr]
  have s1 := fun (μ : gx_M) (i v : Int32) => gz_putE (μ := μ) (c := 0 + 23) (i := i) (v := v) 4 hk
  refine gw_aload_n (pc := 43) hK 0 dX4_init_43 rfl rfl ?_
  refine gf_X4_30 (pc := 44) hK hc.1 dX4_init_44 ?_
  refine gw_iconst (v := 0) (pc := 47) hK dX4_init_47 (by decide) ?_
  refine gw_bipush (v := 60) (pc := 48) hK dX4_init_48 (by decide) ?_
  refine gv_X4_38 (pc := 50) (rr := ((0 : Int32), (gx_u gz_0 24 0 60))) (k := fun _ m => some ((0 : Int32), m)) hK hc.2.2.2 dX4_init_50 (by decide) (Nat.le_of_ble_eq_true rfl) (by rw [s1 gz_0 0 60 (by decide) (by decide) (by decide)]; rfl) (fun r m hm => ?_)
  obtain rfl := gz_snd hm
  refine gw_aload_n (pc := 53) hK 0 dX4_init_53 rfl rfl ?_
  refine gf_X4_30 (pc := 54) hK hc.1 dX4_init_54 ?_
  refine gw_iconst (v := 1) (pc := 57) hK dX4_init_57 (by decide) ?_
  refine gw_bipush (v := 10) (pc := 58) hK dX4_init_58 (by decide) ?_
  refine gv_X4_38 (pc := 60) (rr := ((0 : Int32), (gx_u (gx_u gz_0 24 0 60) 24 1 10))) (k := fun _ m => some ((0 : Int32), m)) hK hc.2.2.2 dX4_init_60 (by decide) (Nat.le_of_ble_eq_true rfl) (by rw [s1 (gx_u gz_0 24 0 60) 1 10 (by decide) (by decide) (by decide)]; rfl) (fun r m hm => ?_)
  obtain rfl := gz_snd hm
  refine gw_aload_n (pc := 63) hK 0 dX4_init_63 rfl rfl ?_
  refine gf_X4_30 (pc := 64) hK hc.1 dX4_init_64 ?_
  refine gw_iconst (v := 2) (pc := 67) hK dX4_init_67 (by decide) ?_
  refine gw_bipush (v := 10) (pc := 68) hK dX4_init_68 (by decide) ?_
  refine gv_X4_38 (pc := 70) (rr := ((0 : Int32), (gx_u (gx_u (gx_u gz_0 24 0 60) 24 1 10) 24 2 10))) (k := fun _ m => some ((0 : Int32), m)) hK hc.2.2.2 dX4_init_70 (by decide) (Nat.le_of_ble_eq_true rfl) (by rw [s1 (gx_u (gx_u gz_0 24 0 60) 24 1 10) 2 10 (by decide) (by decide) (by decide)]; rfl) (fun r m hm => ?_)
  obtain rfl := gz_snd hm
  refine gw_aload_n (pc := 73) hK 0 dX4_init_73 rfl rfl ?_
  refine gf_X4_30 (pc := 74) hK hc.1 dX4_init_74 ?_
  refine gw_iconst (v := 3) (pc := 77) hK dX4_init_77 (by decide) ?_
  refine gw_iconst (v := 0) (pc := 78) hK dX4_init_78 (by decide) ?_
  refine gv_X4_38 (pc := 79) (rr := ((0 : Int32), (gx_u (gx_u (gx_u (gx_u gz_0 24 0 60) 24 1 10) 24 2 10) 24 3 0))) (k := fun _ m => some ((0 : Int32), m)) hK hc.2.2.2 dX4_init_79 (by decide) (Nat.le_of_ble_eq_true rfl) (by rw [s1 (gx_u (gx_u (gx_u gz_0 24 0 60) 24 1 10) 24 2 10) 3 0 (by decide) (by decide) (by decide)]; rfl) (fun r m hm => ?_)
  obtain rfl := gz_snd hm
  exact gw_ret_v (pc := 82) hK dX4_init_82 ⟨tt, by rw [hr], by rw [hY]; rfl⟩
def gz_mod : gx_M := gx_u (gx_u (gx_u gz_0 1 7 60) 1 8 10) 1 9 10
