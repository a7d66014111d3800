/-! ===== the constructors' contracts ===== -/
def gz_Y (D : va_G) (cI cT : ClassId) (kdl : List Nat) (t : Nat → Nat) : gx_Y := (0, kdl.length, fun j => kdl.getD j 0, t, cI, cT, D)
theorem gz_ws_get {D : va_G} {cI cT : ClassId} {kdl : List Nat} {t : Nat → Nat} {μ : gx_M} {c : Nat} (h : c < kdl.length) : (gx_ws (gz_Y D cI cT kdl t) μ)[c]? = some (t c, gx_cell (gz_Y D cI cT kdl t) μ c) := gx_ws_at (Y := gz_Y D cI cT kdl t) h
theorem gz_in {D : va_G} {cI cT : ClassId} {kdl : List Nat} {t : Nat → Nat} {c : Nat} (h : c < kdl.length) : gy_in (gz_Y D cI cT kdl t) c := ⟨Nat.zero_le _, by show c < 0 + kdl.length; omega⟩
abbrev kd_row (n : Nat) : List Nat := [4, 100 + n]
abbrev kd_bowls : List Nat := [2, 4, 110, 4, 110, 4, 110, 4, 110, 4, 110]
abbrev kd_piece : List Nat := [3, 4, 140, 4, 140, 4, 140, 4, 140, 4, 140]
abbrev kd_tab : List Nat := [1, 2, 4, 110, 4, 110, 4, 110, 4, 110, 4, 110, 3, 4, 140, 4, 140, 4, 140, 4, 140, 4, 140, 4, 104]
abbrev kd_text : List Nat := [5, 4, 200]
abbrev kd_hist : List Nat := [6, 9] ++ kd_tab ++ kd_tab ++ kd_tab ++ kd_tab ++ kd_tab
abbrev kd_bow : List Nat := [7] ++ kd_tab ++ kd_tab ++ kd_hist ++ kd_text
abbrev kd_mod : List Nat := [8, 401, 1605, 401, 200, 125]
def gz_0 : gx_M := fun _ _ => 0
def gz_R (D : va_G) (cI cT : ClassId) (kdl : List Nat) (μ : gx_M) (h0 : Nat) (ws : va_W) : Prop := ∃ t : Nat → Nat, t 0 = h0 ∧ ws = gx_ws (gz_Y D cI cT kdl t) μ
theorem gz_row_ws (D : va_G) (cI cT : ClassId) (n : Nat) (t : Nat → Nat) (μ : gx_M) : gx_ws (gz_Y D cI cT (kd_row n) t) μ = [(t 0, .inr (3, [.ref (t 1)])), (t 1, .inl (cI, (n, .inl (μ 1))))] := by
  have e : gx_ws (gz_Y D cI cT (kd_row n) t) μ = [(t 0, gx_cell (gz_Y D cI cT (kd_row n) t) μ 0), (t 1, gx_cell (gz_Y D cI cT (kd_row n) t) μ 1)] := rfl
  rw [e, gx_cell_a (Y := gz_Y D cI cT (kd_row n) t) (c := 1) (show 100 ≤ 100 + n by omega)]
  show [_, (t 1, Sum.inl (cI, (100 + n - 100, Sum.inl (μ 1))))] = _
  rw [show 100 + n - 100 = n by omega]
  rfl
set_option maxRecDepth 100000 in
set_option maxHeartbeats 4000000 in
theorem ct_X3_init (l : Launch) (D : va_G) (cI cT : ClassId) (n : Int32) (N : Nat) (hn : ¬ n < 0) (hN : n.toNatClampNeg = N) (hb : N * 4 ≤ 536870912) : gz_Con l yX3_init cX3_init 2 1 21 1 N D cI cT [.int n] 3 [.null] (gz_R D cI cT (kd_row N) gz_0) := by
  refine gz_Con_of (by decide) rfl (fun h0 K h => ⟨Nat.le_of_ble_eq_true rfl, ?_⟩)
  show K [(h0, .inr (3, [.null]))] 0 [(0, .ref h0), (1, .int n)] [] 0 0
  refine gz_aload_n (pc := 0) h 0 dX3_init_0 rfl rfl ?_
  refine gz_objInit (pc := 1) h kw_ml_RX3_1 dX3_init_1 (Nat.le_of_ble_eq_true rfl) (Nat.le_of_ble_eq_true rfl) ?_
  refine gz_aload_n (pc := 4) h 0 dX3_init_4 rfl rfl ?_
  refine gz_iload_n (pc := 5) h 1 dX3_init_5 rfl rfl ?_
  refine gz_iconst (v := 0) (pc := 6) h dX3_init_6 (by decide) ?_
  refine gz_mmax (pc := 7) h kw_ml_RX3_7 dX3_init_7 (Nat.le_of_ble_eq_true rfl) (Nat.le_of_ble_eq_true rfl) (Nat.zero_le _) (Nat.zero_le _) ?_
  rw [if_neg hn]
  refine gz_newa (pc := 10) h hn hN hb (Nat.le_of_ble_eq_true rfl) (by omega) dX3_init_10 (fun q => ?_)
  refine gz_putF (pc := 12) (ws' := [(h0, .inr (3, [.ref q])), (q, .inl (cI, (N, .inl (fun _ => 0))))]) (v := .ref q) h 0 0 rfl rfl inX3 (by decide) kw_fl_RX3_13 tyX3 tyX3_ok nmX3 (ty := .array .int) (by decide +kernel) rfl rfl (Nat.le_of_ble_eq_true rfl) rfl rfl rfl (by decide) dX3_init_12 ?_
  rw [show 0 + N = N from Nat.zero_add N]
  refine gz_ret (pc := 15) h dX3_init_15 ⟨fun j => if j = 0 then h0 else q, rfl, ?_⟩
  rw [gz_row_ws]
  rfl
set_option maxRecDepth 100000 in
set_option maxHeartbeats 4000000 in
theorem ct_X0_init (l : Launch) (D : va_G) (cI cT : ClassId) : gz_Con l yX0_init cX0_init 1 2 42 10 55 D cI cT [] 0 [.null, .null, .null, .null, .null, .int 0, .int 0, .int 0, .int 0, .int 0] (gz_R D cI cT kd_bowls gz_0) := by
  refine gz_Con_of (by decide) rfl (fun h0 K h => ⟨Nat.le_of_ble_eq_true rfl, ?_⟩)
  show K [(h0, .inr (0, [.null, .null, .null, .null, .null, .int 0, .int 0, .int 0, .int 0, .int 0]))] 0 [(0, .ref h0)] [] 0 0
  refine gz_aload_n (pc := 0) h 0 dX0_init_0 rfl rfl ?_
  refine gz_objInit (pc := 1) h kw_ml_RX0_3 dX0_init_1 (Nat.le_of_ble_eq_true rfl) (Nat.le_of_ble_eq_true rfl) ?_
  refine gz_aload_n (pc := 4) h 0 dX0_init_4 rfl rfl ?_
  refine gz_new (pc := 5) (ci := 3) (fs := [.null]) h inX3 tyX3 tyX3_ok kw_cl_RX0_9 kw_it_RX3 kw_in_RX3 rfl (fun j hj => by rcases (show j = 0 by omega) with rfl; rfl) (Nat.le_of_ble_eq_true rfl) (Nat.le_of_ble_eq_true rfl) dX0_init_5 (fun q1 => ?_)
  refine gz_dup (pc := 8) h dX0_init_8 rfl ?_
  refine gz_bipush (v := 10) (pc := 9) h dX0_init_9 (by decide) ?_
  refine gz_init (pc := 11) (ws := [(h0, .inr (0, [.null, .null, .null, .null, .null, .int 0, .int 0, .int 0, .int 0, .int 0]))]) (As := [.int 10]) h (ct_X3_init l D cI cT 10 10 (by decide) (by decide) (by decide)) rfl ⟨by decide, by decide, (show (parseMethodDescriptor yX3_init.desc).map (fun d => d.parameters.length) = some 1 by decide +kernel)⟩ kw_im_X3_init kw_in_RX3 kw_co_X3_init ⟨Nat.le_of_ble_eq_true rfl, Nat.le_of_ble_eq_true rfl⟩ (Nat.le_of_ble_eq_true rfl) ⟨Nat.le_of_ble_eq_true rfl, Nat.le_of_ble_eq_true rfl⟩ dX0_init_11 ?_ kw_ml_RX0_11
  rintro wn ⟨t1, ht1, rfl⟩
  subst ht1
  rw [gz_row_ws]
  refine gz_putF (pc := 14) (ws' := [(h0, .inr (0, [.ref (t1 0), .null, .null, .null, .null, .int 0, .int 0, .int 0, .int 0, .int 0])), (t1 0, .inr (3, [.ref (t1 1)])), (t1 1, .inl (cI, (10, .inl (gz_0 1))))]) (v := .ref (t1 0)) h 0 0 rfl rfl inX0 (by decide) kw_fl_RX0_14 tyX0 tyX0_ok nmX0 (ty := .object "GlassBowls$Row") (by decide +kernel) rfl rfl (Nat.le_of_ble_eq_true rfl) rfl rfl rfl (by decide) dX0_init_14 ?_
  refine gz_aload_n (pc := 17) h 0 dX0_init_17 rfl rfl ?_
  refine gz_new (pc := 18) (ci := 3) (fs := [.null]) h inX3 tyX3 tyX3_ok kw_cl_RX0_9 kw_it_RX3 kw_in_RX3 rfl (fun j hj => by rcases (show j = 0 by omega) with rfl; rfl) (Nat.le_of_ble_eq_true rfl) (Nat.le_of_ble_eq_true rfl) dX0_init_18 (fun q2 => ?_)
  refine gz_dup (pc := 21) h dX0_init_21 rfl ?_
  refine gz_bipush (v := 10) (pc := 22) h dX0_init_22 (by decide) ?_
  refine gz_init (pc := 24) (ws := [(h0, .inr (0, [.ref (t1 0), .null, .null, .null, .null, .int 0, .int 0, .int 0, .int 0, .int 0])), (t1 0, .inr (3, [.ref (t1 1)])), (t1 1, .inl (cI, (10, .inl (gz_0 1))))]) (As := [.int 10]) h (ct_X3_init l D cI cT 10 10 (by decide) (by decide) (by decide)) rfl ⟨by decide, by decide, (show (parseMethodDescriptor yX3_init.desc).map (fun d => d.parameters.length) = some 1 by decide +kernel)⟩ kw_im_X3_init kw_in_RX3 kw_co_X3_init ⟨Nat.le_of_ble_eq_true rfl, Nat.le_of_ble_eq_true rfl⟩ (Nat.le_of_ble_eq_true rfl) ⟨Nat.le_of_ble_eq_true rfl, Nat.le_of_ble_eq_true rfl⟩ dX0_init_24 ?_ kw_ml_RX0_11
  rintro wn ⟨t2, ht2, rfl⟩
  subst ht2
  rw [gz_row_ws]
  refine gz_putF (pc := 27) (ws' := [(h0, .inr (0, [.ref (t1 0), .ref (t2 0), .null, .null, .null, .int 0, .int 0, .int 0, .int 0, .int 0])), (t1 0, .inr (3, [.ref (t1 1)])), (t1 1, .inl (cI, (10, .inl (gz_0 1)))), (t2 0, .inr (3, [.ref (t2 1)])), (t2 1, .inl (cI, (10, .inl (gz_0 1))))]) (v := .ref (t2 0)) h 0 1 rfl rfl inX0 (by decide) kw_fl_RX0_20 tyX0 tyX0_ok nmX0 (ty := .object "GlassBowls$Row") (by decide +kernel) rfl rfl (Nat.le_of_ble_eq_true rfl) rfl rfl rfl (by decide) dX0_init_27 ?_
  refine gz_aload_n (pc := 30) h 0 dX0_init_30 rfl rfl ?_
  refine gz_new (pc := 31) (ci := 3) (fs := [.null]) h inX3 tyX3 tyX3_ok kw_cl_RX0_9 kw_it_RX3 kw_in_RX3 rfl (fun j hj => by rcases (show j = 0 by omega) with rfl; rfl) (Nat.le_of_ble_eq_true rfl) (Nat.le_of_ble_eq_true rfl) dX0_init_31 (fun q3 => ?_)
  refine gz_dup (pc := 34) h dX0_init_34 rfl ?_
  refine gz_bipush (v := 10) (pc := 35) h dX0_init_35 (by decide) ?_
  refine gz_init (pc := 37) (ws := [(h0, .inr (0, [.ref (t1 0), .ref (t2 0), .null, .null, .null, .int 0, .int 0, .int 0, .int 0, .int 0])), (t1 0, .inr (3, [.ref (t1 1)])), (t1 1, .inl (cI, (10, .inl (gz_0 1)))), (t2 0, .inr (3, [.ref (t2 1)])), (t2 1, .inl (cI, (10, .inl (gz_0 1))))]) (As := [.int 10]) h (ct_X3_init l D cI cT 10 10 (by decide) (by decide) (by decide)) rfl ⟨by decide, by decide, (show (parseMethodDescriptor yX3_init.desc).map (fun d => d.parameters.length) = some 1 by decide +kernel)⟩ kw_im_X3_init kw_in_RX3 kw_co_X3_init ⟨Nat.le_of_ble_eq_true rfl, Nat.le_of_ble_eq_true rfl⟩ (Nat.le_of_ble_eq_true rfl) ⟨Nat.le_of_ble_eq_true rfl, Nat.le_of_ble_eq_true rfl⟩ dX0_init_37 ?_ kw_ml_RX0_11
  rintro wn ⟨t3, ht3, rfl⟩
  subst ht3
  rw [gz_row_ws]
  refine gz_putF (pc := 40) (ws' := [(h0, .inr (0, [.ref (t1 0), .ref (t2 0), .ref (t3 0), .null, .null, .int 0, .int 0, .int 0, .int 0, .int 0])), (t1 0, .inr (3, [.ref (t1 1)])), (t1 1, .inl (cI, (10, .inl (gz_0 1)))), (t2 0, .inr (3, [.ref (t2 1)])), (t2 1, .inl (cI, (10, .inl (gz_0 1)))), (t3 0, .inr (3, [.ref (t3 1)])), (t3 1, .inl (cI, (10, .inl (gz_0 1))))]) (v := .ref (t3 0)) h 0 2 rfl rfl inX0 (by decide) kw_fl_RX0_23 tyX0 tyX0_ok nmX0 (ty := .object "GlassBowls$Row") (by decide +kernel) rfl rfl (Nat.le_of_ble_eq_true rfl) rfl rfl rfl (by decide) dX0_init_40 ?_
  refine gz_aload_n (pc := 43) h 0 dX0_init_43 rfl rfl ?_
  refine gz_new (pc := 44) (ci := 3) (fs := [.null]) h inX3 tyX3 tyX3_ok kw_cl_RX0_9 kw_it_RX3 kw_in_RX3 rfl (fun j hj => by rcases (show j = 0 by omega) with rfl; rfl) (Nat.le_of_ble_eq_true rfl) (Nat.le_of_ble_eq_true rfl) dX0_init_44 (fun q4 => ?_)
  refine gz_dup (pc := 47) h dX0_init_47 rfl ?_
  refine gz_bipush (v := 10) (pc := 48) h dX0_init_48 (by decide) ?_
  refine gz_init (pc := 50) (ws := [(h0, .inr (0, [.ref (t1 0), .ref (t2 0), .ref (t3 0), .null, .null, .int 0, .int 0, .int 0, .int 0, .int 0])), (t1 0, .inr (3, [.ref (t1 1)])), (t1 1, .inl (cI, (10, .inl (gz_0 1)))), (t2 0, .inr (3, [.ref (t2 1)])), (t2 1, .inl (cI, (10, .inl (gz_0 1)))), (t3 0, .inr (3, [.ref (t3 1)])), (t3 1, .inl (cI, (10, .inl (gz_0 1))))]) (As := [.int 10]) h (ct_X3_init l D cI cT 10 10 (by decide) (by decide) (by decide)) rfl ⟨by decide, by decide, (show (parseMethodDescriptor yX3_init.desc).map (fun d => d.parameters.length) = some 1 by decide +kernel)⟩ kw_im_X3_init kw_in_RX3 kw_co_X3_init ⟨Nat.le_of_ble_eq_true rfl, Nat.le_of_ble_eq_true rfl⟩ (Nat.le_of_ble_eq_true rfl) ⟨Nat.le_of_ble_eq_true rfl, Nat.le_of_ble_eq_true rfl⟩ dX0_init_50 ?_ kw_ml_RX0_11
  rintro wn ⟨t4, ht4, rfl⟩
  subst ht4
  rw [gz_row_ws]
  refine gz_putF (pc := 53) (ws' := [(h0, .inr (0, [.ref (t1 0), .ref (t2 0), .ref (t3 0), .ref (t4 0), .null, .int 0, .int 0, .int 0, .int 0, .int 0])), (t1 0, .inr (3, [.ref (t1 1)])), (t1 1, .inl (cI, (10, .inl (gz_0 1)))), (t2 0, .inr (3, [.ref (t2 1)])), (t2 1, .inl (cI, (10, .inl (gz_0 1)))), (t3 0, .inr (3, [.ref (t3 1)])), (t3 1, .inl (cI, (10, .inl (gz_0 1)))), (t4 0, .inr (3, [.ref (t4 1)])), (t4 1, .inl (cI, (10, .inl (gz_0 1))))]) (v := .ref (t4 0)) h 0 3 rfl rfl inX0 (by decide) kw_fl_RX0_26 tyX0 tyX0_ok nmX0 (ty := .object "GlassBowls$Row") (by decide +kernel) rfl rfl (Nat.le_of_ble_eq_true rfl) rfl rfl rfl (by decide) dX0_init_53 ?_
  refine gz_aload_n (pc := 56) h 0 dX0_init_56 rfl rfl ?_
  refine gz_new (pc := 57) (ci := 3) (fs := [.null]) h inX3 tyX3 tyX3_ok kw_cl_RX0_9 kw_it_RX3 kw_in_RX3 rfl (fun j hj => by rcases (show j = 0 by omega) with rfl; rfl) (Nat.le_of_ble_eq_true rfl) (Nat.le_of_ble_eq_true rfl) dX0_init_57 (fun q5 => ?_)
  refine gz_dup (pc := 60) h dX0_init_60 rfl ?_
  refine gz_bipush (v := 10) (pc := 61) h dX0_init_61 (by decide) ?_
  refine gz_init (pc := 63) (ws := [(h0, .inr (0, [.ref (t1 0), .ref (t2 0), .ref (t3 0), .ref (t4 0), .null, .int 0, .int 0, .int 0, .int 0, .int 0])), (t1 0, .inr (3, [.ref (t1 1)])), (t1 1, .inl (cI, (10, .inl (gz_0 1)))), (t2 0, .inr (3, [.ref (t2 1)])), (t2 1, .inl (cI, (10, .inl (gz_0 1)))), (t3 0, .inr (3, [.ref (t3 1)])), (t3 1, .inl (cI, (10, .inl (gz_0 1)))), (t4 0, .inr (3, [.ref (t4 1)])), (t4 1, .inl (cI, (10, .inl (gz_0 1))))]) (As := [.int 10]) h (ct_X3_init l D cI cT 10 10 (by decide) (by decide) (by decide)) rfl ⟨by decide, by decide, (show (parseMethodDescriptor yX3_init.desc).map (fun d => d.parameters.length) = some 1 by decide +kernel)⟩ kw_im_X3_init kw_in_RX3 kw_co_X3_init ⟨Nat.le_of_ble_eq_true rfl, Nat.le_of_ble_eq_true rfl⟩ (Nat.le_of_ble_eq_true rfl) ⟨Nat.le_of_ble_eq_true rfl, Nat.le_of_ble_eq_true rfl⟩ dX0_init_63 ?_ kw_ml_RX0_11
  rintro wn ⟨t5, ht5, rfl⟩
  subst ht5
  rw [gz_row_ws]
  refine gz_putF (pc := 66) (ws' := [(h0, .inr (0, [.ref (t1 0), .ref (t2 0), .ref (t3 0), .ref (t4 0), .ref (t5 0), .int 0, .int 0, .int 0, .int 0, .int 0])), (t1 0, .inr (3, [.ref (t1 1)])), (t1 1, .inl (cI, (10, .inl (gz_0 1)))), (t2 0, .inr (3, [.ref (t2 1)])), (t2 1, .inl (cI, (10, .inl (gz_0 1)))), (t3 0, .inr (3, [.ref (t3 1)])), (t3 1, .inl (cI, (10, .inl (gz_0 1)))), (t4 0, .inr (3, [.ref (t4 1)])), (t4 1, .inl (cI, (10, .inl (gz_0 1)))), (t5 0, .inr (3, [.ref (t5 1)])), (t5 1, .inl (cI, (10, .inl (gz_0 1))))]) (v := .ref (t5 0)) h 0 4 rfl rfl inX0 (by decide) kw_fl_RX0_29 tyX0 tyX0_ok nmX0 (ty := .object "GlassBowls$Row") (by decide +kernel) rfl rfl (Nat.le_of_ble_eq_true rfl) rfl rfl rfl (by decide) dX0_init_66 ?_
  refine gz_aload_n (pc := 69) h 0 dX0_init_69 rfl rfl ?_
  refine gz_iconst (v := 0) (pc := 70) h dX0_init_70 (by decide) ?_
  refine gz_put (pc := 71) (ws' := [(h0, .inr (0, [.ref (t1 0), .ref (t2 0), .ref (t3 0), .ref (t4 0), .ref (t5 0), .int 0, .int 0, .int 0, .int 0, .int 0])), (t1 0, .inr (3, [.ref (t1 1)])), (t1 1, .inl (cI, (10, .inl (gz_0 1)))), (t2 0, .inr (3, [.ref (t2 1)])), (t2 1, .inl (cI, (10, .inl (gz_0 1)))), (t3 0, .inr (3, [.ref (t3 1)])), (t3 1, .inl (cI, (10, .inl (gz_0 1)))), (t4 0, .inr (3, [.ref (t4 1)])), (t4 1, .inl (cI, (10, .inl (gz_0 1)))), (t5 0, .inr (3, [.ref (t5 1)])), (t5 1, .inl (cI, (10, .inl (gz_0 1))))]) (v := .int 0) h 0 5 rfl rfl inX0 (by decide) kw_fl_RX0_32 tyX0 tyX0_ok nmX0 (ty := .int) (by decide +kernel) rfl rfl (Nat.le_of_ble_eq_true rfl) rfl rfl dX0_init_71 ?_
  refine gz_aload_n (pc := 74) h 0 dX0_init_74 rfl rfl ?_
  refine gz_iconst (v := 0) (pc := 75) h dX0_init_75 (by decide) ?_
  refine gz_put (pc := 76) (ws' := [(h0, .inr (0, [.ref (t1 0), .ref (t2 0), .ref (t3 0), .ref (t4 0), .ref (t5 0), .int 0, .int 0, .int 0, .int 0, .int 0])), (t1 0, .inr (3, [.ref (t1 1)])), (t1 1, .inl (cI, (10, .inl (gz_0 1)))), (t2 0, .inr (3, [.ref (t2 1)])), (t2 1, .inl (cI, (10, .inl (gz_0 1)))), (t3 0, .inr (3, [.ref (t3 1)])), (t3 1, .inl (cI, (10, .inl (gz_0 1)))), (t4 0, .inr (3, [.ref (t4 1)])), (t4 1, .inl (cI, (10, .inl (gz_0 1)))), (t5 0, .inr (3, [.ref (t5 1)])), (t5 1, .inl (cI, (10, .inl (gz_0 1))))]) (v := .int 0) h 0 6 rfl rfl inX0 (by decide) kw_fl_RX0_36 tyX0 tyX0_ok nmX0 (ty := .int) (by decide +kernel) rfl rfl (Nat.le_of_ble_eq_true rfl) rfl rfl dX0_init_76 ?_
  refine gz_aload_n (pc := 79) h 0 dX0_init_79 rfl rfl ?_
  refine gz_iconst (v := 0) (pc := 80) h dX0_init_80 (by decide) ?_
  refine gz_put (pc := 81) (ws' := [(h0, .inr (0, [.ref (t1 0), .ref (t2 0), .ref (t3 0), .ref (t4 0), .ref (t5 0), .int 0, .int 0, .int 0, .int 0, .int 0])), (t1 0, .inr (3, [.ref (t1 1)])), (t1 1, .inl (cI, (10, .inl (gz_0 1)))), (t2 0, .inr (3, [.ref (t2 1)])), (t2 1, .inl (cI, (10, .inl (gz_0 1)))), (t3 0, .inr (3, [.ref (t3 1)])), (t3 1, .inl (cI, (10, .inl (gz_0 1)))), (t4 0, .inr (3, [.ref (t4 1)])), (t4 1, .inl (cI, (10, .inl (gz_0 1)))), (t5 0, .inr (3, [.ref (t5 1)])), (t5 1, .inl (cI, (10, .inl (gz_0 1))))]) (v := .int 0) h 0 7 rfl rfl inX0 (by decide) kw_fl_RX0_39 tyX0 tyX0_ok nmX0 (ty := .int) (by decide +kernel) rfl rfl (Nat.le_of_ble_eq_true rfl) rfl rfl dX0_init_81 ?_
  refine gz_aload_n (pc := 84) h 0 dX0_init_84 rfl rfl ?_
  refine gz_iconst (v := 0) (pc := 85) h dX0_init_85 (by decide) ?_
  refine gz_put (pc := 86) (ws' := [(h0, .inr (0, [.ref (t1 0), .ref (t2 0), .ref (t3 0), .ref (t4 0), .ref (t5 0), .int 0, .int 0, .int 0, .int 0, .int 0])), (t1 0, .inr (3, [.ref (t1 1)])), (t1 1, .inl (cI, (10, .inl (gz_0 1)))), (t2 0, .inr (3, [.ref (t2 1)])), (t2 1, .inl (cI, (10, .inl (gz_0 1)))), (t3 0, .inr (3, [.ref (t3 1)])), (t3 1, .inl (cI, (10, .inl (gz_0 1)))), (t4 0, .inr (3, [.ref (t4 1)])), (t4 1, .inl (cI, (10, .inl (gz_0 1)))), (t5 0, .inr (3, [.ref (t5 1)])), (t5 1, .inl (cI, (10, .inl (gz_0 1))))]) (v := .int 0) h 0 8 rfl rfl inX0 (by decide) kw_fl_RX0_42 tyX0 tyX0_ok nmX0 (ty := .int) (by decide +kernel) rfl rfl (Nat.le_of_ble_eq_true rfl) rfl rfl dX0_init_86 ?_
  refine gz_aload_n (pc := 89) h 0 dX0_init_89 rfl rfl ?_
  refine gz_iconst (v := 0) (pc := 90) h dX0_init_90 (by decide) ?_
  refine gz_put (pc := 91) (ws' := [(h0, .inr (0, [.ref (t1 0), .ref (t2 0), .ref (t3 0), .ref (t4 0), .ref (t5 0), .int 0, .int 0, .int 0, .int 0, .int 0])), (t1 0, .inr (3, [.ref (t1 1)])), (t1 1, .inl (cI, (10, .inl (gz_0 1)))), (t2 0, .inr (3, [.ref (t2 1)])), (t2 1, .inl (cI, (10, .inl (gz_0 1)))), (t3 0, .inr (3, [.ref (t3 1)])), (t3 1, .inl (cI, (10, .inl (gz_0 1)))), (t4 0, .inr (3, [.ref (t4 1)])), (t4 1, .inl (cI, (10, .inl (gz_0 1)))), (t5 0, .inr (3, [.ref (t5 1)])), (t5 1, .inl (cI, (10, .inl (gz_0 1))))]) (v := .int 0) h 0 9 rfl rfl inX0 (by decide) kw_fl_RX0_45 tyX0 tyX0_ok nmX0 (ty := .int) (by decide +kernel) rfl rfl (Nat.le_of_ble_eq_true rfl) rfl rfl dX0_init_91 ?_
  exact gz_ret (pc := 94) h dX0_init_94 ⟨fun j => ([h0, t1 0, t1 1, t2 0, t2 1, t3 0, t3 1, t4 0, t4 1, t5 0, t5 1] : List Nat).getD j 0, rfl, rfl⟩
set_option maxRecDepth 100000 in
set_option maxHeartbeats 4000000 in
theorem ct_X2_init (l : Launch) (D : va_G) (cI cT : ClassId) : gz_Con l yX2_init cX2_init 1 2 42 10 205 D cI cT [] 2 [.null, .null, .null, .null, .null, .int 0] (gz_R D cI cT kd_piece gz_0) := by
  refine gz_Con_of (by decide) rfl (fun h0 K h => ⟨Nat.le_of_ble_eq_true rfl, ?_⟩)
  show K [(h0, .inr (2, [.null, .null, .null, .null, .null, .int 0]))] 0 [(0, .ref h0)] [] 0 0
  refine gz_aload_n (pc := 0) h 0 dX2_init_0 rfl rfl ?_
  refine gz_objInit (pc := 1) h kw_ml_RX2_3 dX2_init_1 (Nat.le_of_ble_eq_true rfl) (Nat.le_of_ble_eq_true rfl) ?_
  refine gz_aload_n (pc := 4) h 0 dX2_init_4 rfl rfl ?_
  refine gz_new (pc := 5) (ci := 3) (fs := [.null]) h inX3 tyX3 tyX3_ok kw_cl_RX2_9 kw_it_RX3 kw_in_RX3 rfl (fun j hj => by rcases (show j = 0 by omega) with rfl; rfl) (Nat.le_of_ble_eq_true rfl) (Nat.le_of_ble_eq_true rfl) dX2_init_5 (fun q1 => ?_)
  refine gz_dup (pc := 8) h dX2_init_8 rfl ?_
  refine gz_bipush (v := 40) (pc := 9) h dX2_init_9 (by decide) ?_
  refine gz_init (pc := 11) (ws := [(h0, .inr (2, [.null, .null, .null, .null, .null, .int 0]))]) (As := [.int 40]) h (ct_X3_init l D cI cT 40 40 (by decide) (by decide) (by decide)) rfl ⟨by decide, by decide, (show (parseMethodDescriptor yX3_init.desc).map (fun d => d.parameters.length) = some 1 by decide +kernel)⟩ kw_im_X3_init kw_in_RX3 kw_co_X3_init ⟨Nat.le_of_ble_eq_true rfl, Nat.le_of_ble_eq_true rfl⟩ (Nat.le_of_ble_eq_true rfl) ⟨Nat.le_of_ble_eq_true rfl, Nat.le_of_ble_eq_true rfl⟩ dX2_init_11 ?_ kw_ml_RX2_11
  rintro wn ⟨t1, ht1, rfl⟩
  subst ht1
  rw [gz_row_ws]
  refine gz_putF (pc := 14) (ws' := [(h0, .inr (2, [.ref (t1 0), .null, .null, .null, .null, .int 0])), (t1 0, .inr (3, [.ref (t1 1)])), (t1 1, .inl (cI, (40, .inl (gz_0 1))))]) (v := .ref (t1 0)) h 0 0 rfl rfl inX2 (by decide) kw_fl_RX2_14 tyX2 tyX2_ok nmX2 (ty := .object "GlassBowls$Row") (by decide +kernel) rfl rfl (Nat.le_of_ble_eq_true rfl) rfl rfl rfl (by decide) dX2_init_14 ?_
  refine gz_aload_n (pc := 17) h 0 dX2_init_17 rfl rfl ?_
  refine gz_new (pc := 18) (ci := 3) (fs := [.null]) h inX3 tyX3 tyX3_ok kw_cl_RX2_9 kw_it_RX3 kw_in_RX3 rfl (fun j hj => by rcases (show j = 0 by omega) with rfl; rfl) (Nat.le_of_ble_eq_true rfl) (Nat.le_of_ble_eq_true rfl) dX2_init_18 (fun q2 => ?_)
  refine gz_dup (pc := 21) h dX2_init_21 rfl ?_
  refine gz_bipush (v := 40) (pc := 22) h dX2_init_22 (by decide) ?_
  refine gz_init (pc := 24) (ws := [(h0, .inr (2, [.ref (t1 0), .null, .null, .null, .null, .int 0])), (t1 0, .inr (3, [.ref (t1 1)])), (t1 1, .inl (cI, (40, .inl (gz_0 1))))]) (As := [.int 40]) h (ct_X3_init l D cI cT 40 40 (by decide) (by decide) (by decide)) rfl ⟨by decide, by decide, (show (parseMethodDescriptor yX3_init.desc).map (fun d => d.parameters.length) = some 1 by decide +kernel)⟩ kw_im_X3_init kw_in_RX3 kw_co_X3_init ⟨Nat.le_of_ble_eq_true rfl, Nat.le_of_ble_eq_true rfl⟩ (Nat.le_of_ble_eq_true rfl) ⟨Nat.le_of_ble_eq_true rfl, Nat.le_of_ble_eq_true rfl⟩ dX2_init_24 ?_ kw_ml_RX2_11
  rintro wn ⟨t2, ht2, rfl⟩
  subst ht2
  rw [gz_row_ws]
  refine gz_putF (pc := 27) (ws' := [(h0, .inr (2, [.ref (t1 0), .ref (t2 0), .null, .null, .null, .int 0])), (t1 0, .inr (3, [.ref (t1 1)])), (t1 1, .inl (cI, (40, .inl (gz_0 1)))), (t2 0, .inr (3, [.ref (t2 1)])), (t2 1, .inl (cI, (40, .inl (gz_0 1))))]) (v := .ref (t2 0)) h 0 1 rfl rfl inX2 (by decide) kw_fl_RX2_20 tyX2 tyX2_ok nmX2 (ty := .object "GlassBowls$Row") (by decide +kernel) rfl rfl (Nat.le_of_ble_eq_true rfl) rfl rfl rfl (by decide) dX2_init_27 ?_
  refine gz_aload_n (pc := 30) h 0 dX2_init_30 rfl rfl ?_
  refine gz_new (pc := 31) (ci := 3) (fs := [.null]) h inX3 tyX3 tyX3_ok kw_cl_RX2_9 kw_it_RX3 kw_in_RX3 rfl (fun j hj => by rcases (show j = 0 by omega) with rfl; rfl) (Nat.le_of_ble_eq_true rfl) (Nat.le_of_ble_eq_true rfl) dX2_init_31 (fun q3 => ?_)
  refine gz_dup (pc := 34) h dX2_init_34 rfl ?_
  refine gz_bipush (v := 40) (pc := 35) h dX2_init_35 (by decide) ?_
  refine gz_init (pc := 37) (ws := [(h0, .inr (2, [.ref (t1 0), .ref (t2 0), .null, .null, .null, .int 0])), (t1 0, .inr (3, [.ref (t1 1)])), (t1 1, .inl (cI, (40, .inl (gz_0 1)))), (t2 0, .inr (3, [.ref (t2 1)])), (t2 1, .inl (cI, (40, .inl (gz_0 1))))]) (As := [.int 40]) h (ct_X3_init l D cI cT 40 40 (by decide) (by decide) (by decide)) rfl ⟨by decide, by decide, (show (parseMethodDescriptor yX3_init.desc).map (fun d => d.parameters.length) = some 1 by decide +kernel)⟩ kw_im_X3_init kw_in_RX3 kw_co_X3_init ⟨Nat.le_of_ble_eq_true rfl, Nat.le_of_ble_eq_true rfl⟩ (Nat.le_of_ble_eq_true rfl) ⟨Nat.le_of_ble_eq_true rfl, Nat.le_of_ble_eq_true rfl⟩ dX2_init_37 ?_ kw_ml_RX2_11
  rintro wn ⟨t3, ht3, rfl⟩
  subst ht3
  rw [gz_row_ws]
  refine gz_putF (pc := 40) (ws' := [(h0, .inr (2, [.ref (t1 0), .ref (t2 0), .ref (t3 0), .null, .null, .int 0])), (t1 0, .inr (3, [.ref (t1 1)])), (t1 1, .inl (cI, (40, .inl (gz_0 1)))), (t2 0, .inr (3, [.ref (t2 1)])), (t2 1, .inl (cI, (40, .inl (gz_0 1)))), (t3 0, .inr (3, [.ref (t3 1)])), (t3 1, .inl (cI, (40, .inl (gz_0 1))))]) (v := .ref (t3 0)) h 0 2 rfl rfl inX2 (by decide) kw_fl_RX2_23 tyX2 tyX2_ok nmX2 (ty := .object "GlassBowls$Row") (by decide +kernel) rfl rfl (Nat.le_of_ble_eq_true rfl) rfl rfl rfl (by decide) dX2_init_40 ?_
  refine gz_aload_n (pc := 43) h 0 dX2_init_43 rfl rfl ?_
  refine gz_new (pc := 44) (ci := 3) (fs := [.null]) h inX3 tyX3 tyX3_ok kw_cl_RX2_9 kw_it_RX3 kw_in_RX3 rfl (fun j hj => by rcases (show j = 0 by omega) with rfl; rfl) (Nat.le_of_ble_eq_true rfl) (Nat.le_of_ble_eq_true rfl) dX2_init_44 (fun q4 => ?_)
  refine gz_dup (pc := 47) h dX2_init_47 rfl ?_
  refine gz_bipush (v := 40) (pc := 48) h dX2_init_48 (by decide) ?_
  refine gz_init (pc := 50) (ws := [(h0, .inr (2, [.ref (t1 0), .ref (t2 0), .ref (t3 0), .null, .null, .int 0])), (t1 0, .inr (3, [.ref (t1 1)])), (t1 1, .inl (cI, (40, .inl (gz_0 1)))), (t2 0, .inr (3, [.ref (t2 1)])), (t2 1, .inl (cI, (40, .inl (gz_0 1)))), (t3 0, .inr (3, [.ref (t3 1)])), (t3 1, .inl (cI, (40, .inl (gz_0 1))))]) (As := [.int 40]) h (ct_X3_init l D cI cT 40 40 (by decide) (by decide) (by decide)) rfl ⟨by decide, by decide, (show (parseMethodDescriptor yX3_init.desc).map (fun d => d.parameters.length) = some 1 by decide +kernel)⟩ kw_im_X3_init kw_in_RX3 kw_co_X3_init ⟨Nat.le_of_ble_eq_true rfl, Nat.le_of_ble_eq_true rfl⟩ (Nat.le_of_ble_eq_true rfl) ⟨Nat.le_of_ble_eq_true rfl, Nat.le_of_ble_eq_true rfl⟩ dX2_init_50 ?_ kw_ml_RX2_11
  rintro wn ⟨t4, ht4, rfl⟩
  subst ht4
  rw [gz_row_ws]
  refine gz_putF (pc := 53) (ws' := [(h0, .inr (2, [.ref (t1 0), .ref (t2 0), .ref (t3 0), .ref (t4 0), .null, .int 0])), (t1 0, .inr (3, [.ref (t1 1)])), (t1 1, .inl (cI, (40, .inl (gz_0 1)))), (t2 0, .inr (3, [.ref (t2 1)])), (t2 1, .inl (cI, (40, .inl (gz_0 1)))), (t3 0, .inr (3, [.ref (t3 1)])), (t3 1, .inl (cI, (40, .inl (gz_0 1)))), (t4 0, .inr (3, [.ref (t4 1)])), (t4 1, .inl (cI, (40, .inl (gz_0 1))))]) (v := .ref (t4 0)) h 0 3 rfl rfl inX2 (by decide) kw_fl_RX2_26 tyX2 tyX2_ok nmX2 (ty := .object "GlassBowls$Row") (by decide +kernel) rfl rfl (Nat.le_of_ble_eq_true rfl) rfl rfl rfl (by decide) dX2_init_53 ?_
  refine gz_aload_n (pc := 56) h 0 dX2_init_56 rfl rfl ?_
  refine gz_new (pc := 57) (ci := 3) (fs := [.null]) h inX3 tyX3 tyX3_ok kw_cl_RX2_9 kw_it_RX3 kw_in_RX3 rfl (fun j hj => by rcases (show j = 0 by omega) with rfl; rfl) (Nat.le_of_ble_eq_true rfl) (Nat.le_of_ble_eq_true rfl) dX2_init_57 (fun q5 => ?_)
  refine gz_dup (pc := 60) h dX2_init_60 rfl ?_
  refine gz_bipush (v := 40) (pc := 61) h dX2_init_61 (by decide) ?_
  refine gz_init (pc := 63) (ws := [(h0, .inr (2, [.ref (t1 0), .ref (t2 0), .ref (t3 0), .ref (t4 0), .null, .int 0])), (t1 0, .inr (3, [.ref (t1 1)])), (t1 1, .inl (cI, (40, .inl (gz_0 1)))), (t2 0, .inr (3, [.ref (t2 1)])), (t2 1, .inl (cI, (40, .inl (gz_0 1)))), (t3 0, .inr (3, [.ref (t3 1)])), (t3 1, .inl (cI, (40, .inl (gz_0 1)))), (t4 0, .inr (3, [.ref (t4 1)])), (t4 1, .inl (cI, (40, .inl (gz_0 1))))]) (As := [.int 40]) h (ct_X3_init l D cI cT 40 40 (by decide) (by decide) (by decide)) rfl ⟨by decide, by decide, (show (parseMethodDescriptor yX3_init.desc).map (fun d => d.parameters.length) = some 1 by decide +kernel)⟩ kw_im_X3_init kw_in_RX3 kw_co_X3_init ⟨Nat.le_of_ble_eq_true rfl, Nat.le_of_ble_eq_true rfl⟩ (Nat.le_of_ble_eq_true rfl) ⟨Nat.le_of_ble_eq_true rfl, Nat.le_of_ble_eq_true rfl⟩ dX2_init_63 ?_ kw_ml_RX2_11
  rintro wn ⟨t5, ht5, rfl⟩
  subst ht5
  rw [gz_row_ws]
  refine gz_putF (pc := 66) (ws' := [(h0, .inr (2, [.ref (t1 0), .ref (t2 0), .ref (t3 0), .ref (t4 0), .ref (t5 0), .int 0])), (t1 0, .inr (3, [.ref (t1 1)])), (t1 1, .inl (cI, (40, .inl (gz_0 1)))), (t2 0, .inr (3, [.ref (t2 1)])), (t2 1, .inl (cI, (40, .inl (gz_0 1)))), (t3 0, .inr (3, [.ref (t3 1)])), (t3 1, .inl (cI, (40, .inl (gz_0 1)))), (t4 0, .inr (3, [.ref (t4 1)])), (t4 1, .inl (cI, (40, .inl (gz_0 1)))), (t5 0, .inr (3, [.ref (t5 1)])), (t5 1, .inl (cI, (40, .inl (gz_0 1))))]) (v := .ref (t5 0)) h 0 4 rfl rfl inX2 (by decide) kw_fl_RX2_29 tyX2 tyX2_ok nmX2 (ty := .object "GlassBowls$Row") (by decide +kernel) rfl rfl (Nat.le_of_ble_eq_true rfl) rfl rfl rfl (by decide) dX2_init_66 ?_
  refine gz_aload_n (pc := 69) h 0 dX2_init_69 rfl rfl ?_
  refine gz_iconst (v := 0) (pc := 70) h dX2_init_70 (by decide) ?_
  refine gz_put (pc := 71) (ws' := [(h0, .inr (2, [.ref (t1 0), .ref (t2 0), .ref (t3 0), .ref (t4 0), .ref (t5 0), .int 0])), (t1 0, .inr (3, [.ref (t1 1)])), (t1 1, .inl (cI, (40, .inl (gz_0 1)))), (t2 0, .inr (3, [.ref (t2 1)])), (t2 1, .inl (cI, (40, .inl (gz_0 1)))), (t3 0, .inr (3, [.ref (t3 1)])), (t3 1, .inl (cI, (40, .inl (gz_0 1)))), (t4 0, .inr (3, [.ref (t4 1)])), (t4 1, .inl (cI, (40, .inl (gz_0 1)))), (t5 0, .inr (3, [.ref (t5 1)])), (t5 1, .inl (cI, (40, .inl (gz_0 1))))]) (v := .int 0) h 0 5 rfl rfl inX2 (by decide) kw_fl_RX2_32 tyX2 tyX2_ok nmX2 (ty := .int) (by decide +kernel) rfl rfl (Nat.le_of_ble_eq_true rfl) rfl rfl dX2_init_71 ?_
  exact gz_ret (pc := 74) h dX2_init_74 ⟨fun j => ([h0, t1 0, t1 1, t2 0, t2 1, t3 0, t3 1, t4 0, t4 1, t5 0, t5 1] : List Nat).getD j 0, rfl, rfl⟩
set_option maxRecDepth 100000 in
set_option maxHeartbeats 4000000 in
theorem ct_X5_init (l : Launch) (D : va_G) (cI cT : ClassId) : gz_Con l yX5_init cX5_init 1 2 42 2 101 D cI cT [] 5 [.null, .int 0, .int 0, .int 0, .int 0, .int 0, .int 0, .int 0] (gz_R D cI cT kd_text gz_0) := by
  refine gz_Con_of (by decide) rfl (fun h0 K h => ⟨Nat.le_of_ble_eq_true rfl, ?_⟩)
  show K [(h0, .inr (5, [.null, .int 0, .int 0, .int 0, .int 0, .int 0, .int 0, .int 0]))] 0 [(0, .ref h0)] [] 0 0
  refine gz_aload_n (pc := 0) h 0 dX5_init_0 rfl rfl ?_
  refine gz_objInit (pc := 1) h kw_ml_RX5_3 dX5_init_1 (Nat.le_of_ble_eq_true rfl) (Nat.le_of_ble_eq_true rfl) ?_
  refine gz_aload_n (pc := 4) h 0 dX5_init_4 rfl rfl ?_
  refine gz_new (pc := 5) (ci := 3) (fs := [.null]) h inX3 tyX3 tyX3_ok kw_cl_RX5_9 kw_it_RX3 kw_in_RX3 rfl (fun j hj => by rcases (show j = 0 by omega) with rfl; rfl) (Nat.le_of_ble_eq_true rfl) (Nat.le_of_ble_eq_true rfl) dX5_init_5 (fun q1 => ?_)
  refine gz_dup (pc := 8) h dX5_init_8 rfl ?_
  refine gz_bipush (v := 100) (pc := 9) h dX5_init_9 (by decide) ?_
  refine gz_init (pc := 11) (ws := [(h0, .inr (5, [.null, .int 0, .int 0, .int 0, .int 0, .int 0, .int 0, .int 0]))]) (As := [.int 100]) h (ct_X3_init l D cI cT 100 100 (by decide) (by decide) (by decide)) rfl ⟨by decide, by decide, (show (parseMethodDescriptor yX3_init.desc).map (fun d => d.parameters.length) = some 1 by decide +kernel)⟩ kw_im_X3_init kw_in_RX3 kw_co_X3_init ⟨Nat.le_of_ble_eq_true rfl, Nat.le_of_ble_eq_true rfl⟩ (Nat.le_of_ble_eq_true rfl) ⟨Nat.le_of_ble_eq_true rfl, Nat.le_of_ble_eq_true rfl⟩ dX5_init_11 ?_ kw_ml_RX5_11
  rintro wn ⟨t1, ht1, rfl⟩
  subst ht1
  rw [gz_row_ws]
  refine gz_putF (pc := 14) (ws' := [(h0, .inr (5, [.ref (t1 0), .int 0, .int 0, .int 0, .int 0, .int 0, .int 0, .int 0])), (t1 0, .inr (3, [.ref (t1 1)])), (t1 1, .inl (cI, (100, .inl (gz_0 1))))]) (v := .ref (t1 0)) h 0 0 rfl rfl inX5 (by decide) kw_fl_RX5_14 tyX5 tyX5_ok nmX5 (ty := .object "GlassBowls$Row") (by decide +kernel) rfl rfl (Nat.le_of_ble_eq_true rfl) rfl rfl rfl (by decide) dX5_init_14 ?_
  refine gz_aload_n (pc := 17) h 0 dX5_init_17 rfl rfl ?_
  refine gz_iconst (v := 0) (pc := 18) h dX5_init_18 (by decide) ?_
  refine gz_put (pc := 19) (ws' := [(h0, .inr (5, [.ref (t1 0), .int 0, .int 0, .int 0, .int 0, .int 0, .int 0, .int 0])), (t1 0, .inr (3, [.ref (t1 1)])), (t1 1, .inl (cI, (100, .inl (gz_0 1))))]) (v := .int 0) h 0 1 rfl rfl inX5 (by decide) kw_fl_RX5_20 tyX5 tyX5_ok nmX5 (ty := .int) (by decide +kernel) rfl rfl (Nat.le_of_ble_eq_true rfl) rfl rfl dX5_init_19 ?_
  refine gz_aload_n (pc := 22) h 0 dX5_init_22 rfl rfl ?_
  refine gz_iconst (v := 0) (pc := 23) h dX5_init_23 (by decide) ?_
  refine gz_put (pc := 24) (ws' := [(h0, .inr (5, [.ref (t1 0), .int 0, .int 0, .int 0, .int 0, .int 0, .int 0, .int 0])), (t1 0, .inr (3, [.ref (t1 1)])), (t1 1, .inl (cI, (100, .inl (gz_0 1))))]) (v := .int 0) h 0 2 rfl rfl inX5 (by decide) kw_fl_RX5_24 tyX5 tyX5_ok nmX5 (ty := .int) (by decide +kernel) rfl rfl (Nat.le_of_ble_eq_true rfl) rfl rfl dX5_init_24 ?_
  refine gz_aload_n (pc := 27) h 0 dX5_init_27 rfl rfl ?_
  refine gz_iconst (v := 0) (pc := 28) h dX5_init_28 (by decide) ?_
  refine gz_put (pc := 29) (ws' := [(h0, .inr (5, [.ref (t1 0), .int 0, .int 0, .int 0, .int 0, .int 0, .int 0, .int 0])), (t1 0, .inr (3, [.ref (t1 1)])), (t1 1, .inl (cI, (100, .inl (gz_0 1))))]) (v := .int 0) h 0 3 rfl rfl inX5 (by decide) kw_fl_RX5_27 tyX5 tyX5_ok nmX5 (ty := .int) (by decide +kernel) rfl rfl (Nat.le_of_ble_eq_true rfl) rfl rfl dX5_init_29 ?_
  refine gz_aload_n (pc := 32) h 0 dX5_init_32 rfl rfl ?_
  refine gz_iconst (v := 0) (pc := 33) h dX5_init_33 (by decide) ?_
  refine gz_put (pc := 34) (ws' := [(h0, .inr (5, [.ref (t1 0), .int 0, .int 0, .int 0, .int 0, .int 0, .int 0, .int 0])), (t1 0, .inr (3, [.ref (t1 1)])), (t1 1, .inl (cI, (100, .inl (gz_0 1))))]) (v := .int 0) h 0 4 rfl rfl inX5 (by decide) kw_fl_RX5_30 tyX5 tyX5_ok nmX5 (ty := .int) (by decide +kernel) rfl rfl (Nat.le_of_ble_eq_true rfl) rfl rfl dX5_init_34 ?_
  refine gz_aload_n (pc := 37) h 0 dX5_init_37 rfl rfl ?_
  refine gz_iconst (v := 0) (pc := 38) h dX5_init_38 (by decide) ?_
  refine gz_put (pc := 39) (ws' := [(h0, .inr (5, [.ref (t1 0), .int 0, .int 0, .int 0, .int 0, .int 0, .int 0, .int 0])), (t1 0, .inr (3, [.ref (t1 1)])), (t1 1, .inl (cI, (100, .inl (gz_0 1))))]) (v := .int 0) h 0 5 rfl rfl inX5 (by decide) kw_fl_RX5_33 tyX5 tyX5_ok nmX5 (ty := .int) (by decide +kernel) rfl rfl (Nat.le_of_ble_eq_true rfl) rfl rfl dX5_init_39 ?_
  refine gz_aload_n (pc := 42) h 0 dX5_init_42 rfl rfl ?_
  refine gz_iconst (v := 0) (pc := 43) h dX5_init_43 (by decide) ?_
  refine gz_put (pc := 44) (ws' := [(h0, .inr (5, [.ref (t1 0), .int 0, .int 0, .int 0, .int 0, .int 0, .int 0, .int 0])), (t1 0, .inr (3, [.ref (t1 1)])), (t1 1, .inl (cI, (100, .inl (gz_0 1))))]) (v := .int 0) h 0 6 rfl rfl inX5 (by decide) kw_fl_RX5_36 tyX5 tyX5_ok nmX5 (ty := .int) (by decide +kernel) rfl rfl (Nat.le_of_ble_eq_true rfl) rfl rfl dX5_init_44 ?_
  refine gz_aload_n (pc := 47) h 0 dX5_init_47 rfl rfl ?_
  refine gz_iconst (v := 0) (pc := 48) h dX5_init_48 (by decide) ?_
  refine gz_put (pc := 49) (ws' := [(h0, .inr (5, [.ref (t1 0), .int 0, .int 0, .int 0, .int 0, .int 0, .int 0, .int 0])), (t1 0, .inr (3, [.ref (t1 1)])), (t1 1, .inl (cI, (100, .inl (gz_0 1))))]) (v := .int 0) h 0 7 rfl rfl inX5 (by decide) kw_fl_RX5_39 tyX5 tyX5_ok nmX5 (ty := .int) (by decide +kernel) rfl rfl (Nat.le_of_ble_eq_true rfl) rfl rfl dX5_init_49 ?_
  exact gz_ret (pc := 52) h dX5_init_52 ⟨fun j => ([h0, t1 0, t1 1] : List Nat).getD j 0, rfl, rfl⟩
