/-! ===== the layout of an object (and the law's long array), texts and known as contracts ===== -/
def gl_Y (D : va_G) (cI cT : ClassId) (n : Nat) (t : Nat → Nat) : gx_Y := (6, n, gl_kd, t, cI, cT, D)
theorem gl_kd6 : ∀ c, c < 181 → kd_bow.getD c 0 = gl_kd (c + 6) := by decide +kernel
theorem gl_ws1 (D : va_G) (cI cT : ClassId) (t1 : Nat → Nat) : gx_ws (gz_Y D cI cT kd_bow t1) gz_bow = gx_ws (gl_Y D cI cT 181 (fun j => t1 (j - 6))) gl_init := by
  show (List.range 181).map (fun c => (t1 (c + 0), gx_cell (gz_Y D cI cT kd_bow t1) gz_bow (c + 0))) = (List.range 181).map (fun c => (t1 (c + 6 - 6), gx_cell (gl_Y D cI cT 181 (fun j => t1 (j - 6))) gl_init (c + 6)))
  refine List.map_congr_left (fun c hc => ?_)
  have hc : c < 181 := List.mem_range.mp hc
  have e6 : ∀ x, c + x + 6 - 6 = c + x := fun x => by omega
  refine Prod.ext (by show t1 (c + 0) = t1 (c + 6 - 6); rw [Nat.add_zero, Nat.add_sub_cancel]) ?_
  rw [Nat.add_zero]
  refine gx_cell_eq (Y := gz_Y D cI cT kd_bow t1) (Y' := gl_Y D cI cT 181 (fun j => t1 (j - 6))) (c := c) (c' := c + 6) (gl_kd6 c hc) rfl rfl rfl (fun _ => ?_) (fun _ i => ?_) ?_
  · have em : gl_init (c + 6) = gz_bow c := by
      unfold gl_init
      rw [if_neg (by omega), Nat.add_sub_cancel]
    rw [em]
    unfold gx_fs
    refine List.map_congr_left (fun k _ => ?_)
    show gx_fld (gl_kd (c + 6)) t1 c (gz_bow c) k = gx_fld (gl_kd (c + 6)) (fun j => t1 (j - 6)) (c + 6) (gz_bow c) k
    rw [Nat.add_comm c 6, gz_fld_shift (gl_kd (6 + c)) 6 (fun j => t1 (j - 6)) c (gz_bow c) k]
    rw [show (fun j => (fun j => t1 (j - 6)) (6 + j)) = t1 from funext fun j => by show t1 (6 + j - 6) = t1 j; rw [Nat.add_sub_cancel_left]]
  · show t1 (c + 1 + 25 * i) = t1 (c + 6 + 1 + 25 * i - 6)
    rw [show c + 6 + 1 + 25 * i - 6 = c + 1 + 25 * i by omega]
  · unfold gl_init
    rw [if_neg (by omega), Nat.add_sub_cancel]
def gl_offs : Nat → List Nat
  | 1 => [1, 12, 23] | 2 => [1, 3, 5, 7, 9] | 3 => [1, 3, 5, 7, 9] | 4 => [1] | 5 => [1] | 6 => [1] | 7 => [1, 26, 51, 178] | 8 => [1, 2, 3, 4, 5] | _ => []
theorem gl_off {kind : Nat} {t t' : Nat → Nat} {c : Nat} {row : Nat → Int32} {k : Nat} (h : ∀ o ∈ gl_offs kind, t (c + o) = t' (c + o)) : gx_fld kind t c row k = gx_fld kind t' c row k := by
  unfold gx_fld
  split <;> first | rfl | (rw [h _ (by decide)])
theorem gl_offs187 : ∀ c, c < 181 → ∀ o ∈ gl_offs (gl_kd (c + 6)), c + 6 + o ≠ 187 := by decide +kernel
theorem gl_kd9 : ∀ c, c < 181 → gl_kd (c + 6) = 9 → c = 52 := by decide +kernel
theorem gl_k187 : gl_kd 187 = 10 := by decide +kernel
theorem gl_lng0 : gx_lng (fun _ => 0) = fun _ => 0 := funext fun i => by
  show gx_l2 0 0 = 0
  decide
theorem gl_ws2 (D : va_G) (cI cT : ClassId) (t : Nat → Nat) (μ : gx_M) (q : Nat) : gx_ws (gl_Y D cI cT 181 t) μ ++ [(q, .inl (D.1 50, (32, .inr (.inl (fun _ => 0)))))] = gx_ws (gl_Y D cI cT 182 (fun j => if j = 187 then q else t j)) (gx_r μ 187 (fun _ => 0)) := by
  show (List.range 181).map (fun c => (t (c + 6), gx_cell (gl_Y D cI cT 181 t) μ (c + 6))) ++ _ = (List.range (181 + 1)).map (fun c => ((fun j => if j = 187 then q else t j) (c + 6), gx_cell (gl_Y D cI cT 182 (fun j => if j = 187 then q else t j)) (gx_r μ 187 (fun _ => 0)) (c + 6)))
  rw [show List.range (181 + 1) = List.range 181 ++ [181] from List.range_succ, List.map_append]
  refine congr (congrArg _ (List.map_congr_left (fun c hc => ?_))) ?_
  · have hc : c < 181 := List.mem_range.mp hc
    refine Prod.ext (by show t (c + 6) = if c + 6 = 187 then q else t (c + 6); rw [if_neg (by omega)]) ?_
    refine gx_cell_eq (Y := gl_Y D cI cT 181 t) (Y' := gl_Y D cI cT 182 (fun j => if j = 187 then q else t j)) (c := c + 6) (c' := c + 6) rfl rfl rfl rfl (fun _ => ?_) (fun h9 i => ?_) (by rw [gx_r_n (by omega)])
    · rw [gx_r_n (show c + 6 ≠ 187 by omega)]
      unfold gx_fs
      refine List.map_congr_left (fun k _ => ?_)
      refine gl_off (fun o ho => ?_)
      show t (c + 6 + o) = if c + 6 + o = 187 then q else t (c + 6 + o)
      rw [if_neg (gl_offs187 c hc o ho)]
    · have e := gl_kd9 c hc h9
      subst e
      show t (52 + 6 + 1 + 25 * i) = if 52 + 6 + 1 + 25 * i = 187 then q else t (52 + 6 + 1 + 25 * i)
      rw [if_neg (by omega)]
  · refine congrArg (fun x => [x]) (Prod.ext (by show q = if 187 = 187 then q else t 187; rw [if_pos rfl]) ?_)
    show _ = gx_cell (gl_Y D cI cT 182 (fun j => if j = 187 then q else t j)) (gx_r μ 187 (fun _ => 0)) 187
    rw [gx_cell_l (Y := gl_Y D cI cT 182 (fun j => if j = 187 then q else t j)) (c := 187) gl_k187, gx_r_s, gl_lng0]
    rfl
set_option maxRecDepth 100000 in
theorem gl_bowK1 (D : va_G) (cI cT : ClassId) (t : Nat → Nat) : gk_bow (gl_Y D cI cT 181 t) 6 := by
  refine ⟨?_, ?_, ?_, ⟨?_, ?_, fun i hi => ?_⟩, ?_⟩
  · (repeat' apply And.intro) <;> first | rfl | exact Nat.le_of_ble_eq_true rfl
  · (repeat' apply And.intro) <;> first | rfl | exact Nat.le_of_ble_eq_true rfl
  · (repeat' apply And.intro) <;> first | rfl | exact Nat.le_of_ble_eq_true rfl
  · (repeat' apply And.intro) <;> first | rfl | exact Nat.le_of_ble_eq_true rfl
  · (repeat' apply And.intro) <;> first | rfl | exact Nat.le_of_ble_eq_true rfl
  · rcases (show i = 0 ∨ i = 1 ∨ i = 2 ∨ i = 3 ∨ i = 4 by omega) with rfl | rfl | rfl | rfl | rfl
    · (repeat' apply And.intro) <;> first | rfl | exact Nat.le_of_ble_eq_true rfl
    · (repeat' apply And.intro) <;> first | rfl | exact Nat.le_of_ble_eq_true rfl
    · (repeat' apply And.intro) <;> first | rfl | exact Nat.le_of_ble_eq_true rfl
    · (repeat' apply And.intro) <;> first | rfl | exact Nat.le_of_ble_eq_true rfl
    · (repeat' apply And.intro) <;> first | rfl | exact Nat.le_of_ble_eq_true rfl
  · (repeat' apply And.intro) <;> first | rfl | exact Nat.le_of_ble_eq_true rfl
set_option maxRecDepth 100000 in
theorem gl_bowK2 (D : va_G) (cI cT : ClassId) (t : Nat → Nat) : gk_bow (gl_Y D cI cT 182 t) 6 := by
  refine ⟨?_, ?_, ?_, ⟨?_, ?_, fun i hi => ?_⟩, ?_⟩
  · (repeat' apply And.intro) <;> first | rfl | exact Nat.le_of_ble_eq_true rfl
  · (repeat' apply And.intro) <;> first | rfl | exact Nat.le_of_ble_eq_true rfl
  · (repeat' apply And.intro) <;> first | rfl | exact Nat.le_of_ble_eq_true rfl
  · (repeat' apply And.intro) <;> first | rfl | exact Nat.le_of_ble_eq_true rfl
  · (repeat' apply And.intro) <;> first | rfl | exact Nat.le_of_ble_eq_true rfl
  · rcases (show i = 0 ∨ i = 1 ∨ i = 2 ∨ i = 3 ∨ i = 4 by omega) with rfl | rfl | rfl | rfl | rfl
    · (repeat' apply And.intro) <;> first | rfl | exact Nat.le_of_ble_eq_true rfl
    · (repeat' apply And.intro) <;> first | rfl | exact Nat.le_of_ble_eq_true rfl
    · (repeat' apply And.intro) <;> first | rfl | exact Nat.le_of_ble_eq_true rfl
    · (repeat' apply And.intro) <;> first | rfl | exact Nat.le_of_ble_eq_true rfl
    · (repeat' apply And.intro) <;> first | rfl | exact Nat.le_of_ble_eq_true rfl
  · (repeat' apply And.intro) <;> first | rfl | exact Nat.le_of_ble_eq_true rfl
set_option maxRecDepth 100000 in
theorem gl_wasK (D : va_G) (cI cT : ClassId) (t : Nat → Nat) : gk_o (gl_Y D cI cT 182 t) 187 10 := by
  (repeat' apply And.intro) <;> first | rfl | exact Nat.le_of_ble_eq_true rfl
theorem gl_lens : ∀ p ∈ gx_cl, (if gl_kd p.1 < 9 then gx_N (gl_kd p.1) else if gl_kd p.1 = 10 then 64 else gl_kd p.1 - 100) ≤ p.2 := by decide +kernel
theorem gl_nok (D : va_G) (cI cT : ClassId) (n : Nat) (t : Nat → Nat) : gx_nok (gl_Y D cI cT n t) := gx_nok_of (Y := gl_Y D cI cT n t) gl_lens
theorem gl_post {m : gx_M} (v : Value) (μ : gx_M) (h : gx_P (1, m) v μ) : v = .int 1 := by
  unfold gx_P at h
  split at h
  · exact congrArg Value.int (congrArg Prod.fst h)
  · exact h.elim
set_option maxHeartbeats 4000000 in
set_option maxRecDepth 100000 in
theorem gq_texts (l : Launch) (D : va_G) (cI cT : ClassId) : gq_Con l yL_texts cL_texts 2 8 175 181 2116 D cI cT := by
  refine gq_Con_of (by decide) rfl (fun K h hret => ?_)
  refine gz_new (pc := 0) (ws := []) (ci := 6) (fs := [.null, .null, .null, .null]) h inX6 tyX6 tyX6_ok kw_cl_RL_14 kw_it_RX6 kw_in_RX6 rfl (fun j hj => by rcases (show j = 0 ∨ j = 1 ∨ j = 2 ∨ j = 3 by omega) with rfl | rfl | rfl | rfl <;> rfl) (Nat.le_of_ble_eq_true rfl) (Nat.le_of_ble_eq_true rfl) dL_texts_0 (fun q1 => ?_)
  refine gz_dup (pc := 3) h dL_texts_3 rfl ?_
  refine gz_init (pc := 4) (cells := 1) (slots := 4) (st := [.ref q1]) (ws := []) (As := []) h (ct_X6_init l D cI cT) rfl ⟨by decide, by decide, (show (parseMethodDescriptor yX6_init.desc).map (fun d => d.parameters.length) = some 0 by decide +kernel)⟩ kw_im_X6_init kw_in_RX6 kw_co_X6_init ⟨Nat.le_of_ble_eq_true rfl, Nat.le_of_ble_eq_true rfl⟩ (Nat.le_of_ble_eq_true rfl) ⟨Nat.le_of_ble_eq_true rfl, Nat.le_of_ble_eq_true rfl⟩ dL_texts_4 ?_ kw_ml_RL_117
  rintro wn ⟨t1, ht1, rfl⟩
  subst ht1
  rw [List.nil_append]
  refine gz_astore_n (pc := 7) (L' := [(0, .ref (t1 0))]) h dL_texts_7 rfl (by decide) rfl ?_
  rw [gl_ws1]
  refine gz_toG h ⟨rfl, rfl, rfl⟩ (Nat.le_of_ble_eq_true rfl) (Nat.le_of_ble_eq_true rfl) (fun ws pc L d => hret ws pc L _ _ (Nat.le_of_ble_eq_true rfl) (Nat.le_of_ble_eq_true rfl) d) (fun K' hK _ => ?_)
  obtain ⟨m, hm⟩ := ev_1_of ev_texts
  exact kb_L_texts (gx_K_mono hK gl_post) (gl_nok D cI cT 181 _) gl_init 6 (gl_bowK1 D cI cT _) hm
set_option maxHeartbeats 4000000 in
set_option maxRecDepth 100000 in
theorem gq_known (l : Launch) (D : va_G) (cI cT : ClassId) : gq_Con l yL_known cL_known 1 9 205 181 2116 D cI cT := by
  refine gq_Con_of (by decide) rfl (fun K h hret => ?_)
  refine gz_new (pc := 0) (ws := []) (ci := 6) (fs := [.null, .null, .null, .null]) h inX6 tyX6 tyX6_ok kw_cl_RL_14 kw_it_RX6 kw_in_RX6 rfl (fun j hj => by rcases (show j = 0 ∨ j = 1 ∨ j = 2 ∨ j = 3 by omega) with rfl | rfl | rfl | rfl <;> rfl) (Nat.le_of_ble_eq_true rfl) (Nat.le_of_ble_eq_true rfl) dL_known_0 (fun q1 => ?_)
  refine gz_dup (pc := 3) h dL_known_3 rfl ?_
  refine gz_init (pc := 4) (cells := 1) (slots := 4) (st := [.ref q1]) (ws := []) (As := []) h (ct_X6_init l D cI cT) rfl ⟨by decide, by decide, (show (parseMethodDescriptor yX6_init.desc).map (fun d => d.parameters.length) = some 0 by decide +kernel)⟩ kw_im_X6_init kw_in_RX6 kw_co_X6_init ⟨Nat.le_of_ble_eq_true rfl, Nat.le_of_ble_eq_true rfl⟩ (Nat.le_of_ble_eq_true rfl) ⟨Nat.le_of_ble_eq_true rfl, Nat.le_of_ble_eq_true rfl⟩ dL_known_4 ?_ kw_ml_RL_117
  rintro wn ⟨t1, ht1, rfl⟩
  subst ht1
  rw [List.nil_append]
  refine gz_astore_n (pc := 7) (L' := [(0, .ref (t1 0))]) h dL_known_7 rfl (by decide) rfl ?_
  rw [gl_ws1]
  refine gz_toG h ⟨rfl, rfl, rfl⟩ (Nat.le_of_ble_eq_true rfl) (Nat.le_of_ble_eq_true rfl) (fun ws pc L d => hret ws pc L _ _ (Nat.le_of_ble_eq_true rfl) (Nat.le_of_ble_eq_true rfl) d) (fun K' hK _ => ?_)
  obtain ⟨m, hm⟩ := ev_1_of ev_known
  exact kb_L_known (gx_K_mono hK gl_post) (gl_nok D cI cT 181 _) gl_init 6 (gl_bowK1 D cI cT _) hm
