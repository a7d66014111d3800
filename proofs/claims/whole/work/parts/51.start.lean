/-! THE CLAIM OUT OF ONE WALK OF THE LAW'S BODY. Your part is whole_start (and what it stands on); all else here is the same for every law, but numbers. -/
def R_law : String := "GlassBowlsLaw"
def lw_P (b : Addr) (xs : List Int32) (args : Array Value) (s : State) : Prop := args = #[.ref b] ∧ s.IntsAt b xs ∧ xs.length ≤ 2048 ∧ (Jvm.Cond.and given_1 narrow_1).before args s = true
def lw_Q (_ : Array Value) (s : State) (o : Outcome) (t : State) : Prop := o = .returned (some (.int 1)) ∧ Framed s o t [] 600000 7302250
def lw_Z (below : List Frame) (a : Array Value) (s : State) : State → Prop := fun t => ∃ o, t.status = .running ∧ Ended t below o ∧ lw_Q a s o t
/-- the law's own end, with 1 on the stack, nothing written that was there before, its room as the claim has it -/
theorem lw_ret {p : Program} {l : Launch} {e : Env} {s : State} {m : MethodId} {below : List Frame} {meth : Method} {c : Code} {b : Nat} (hx : p.tables.exec = Jvm.exec) (hb : c.code = code) (hr : meth.sig.returnType = ret) (hlocks : meth.locks = false) {pc : Nat} {H : Heap} {ls : Array Slot} (hdg : decode code pc = .ok (.ireturn, 1)) : W p l e room_1 s m #[Value.ref b] below meth c H [] 600000 7302250 (lw_Z below #[Value.ref b] s) (F0 m pc ls [.int 1]) := by
  intro T hT X
  obtain ⟨fs, hret, hrun, hended, hW, hframe⟩ := X.leave (v := some (.int 1)) (hlocks := hlocks) (fun h => by rw [hr] at h; cases h)
  have hmeth' : T.vm.method? m = some meth := X.method'
  refine ⟨T.setFrames fs, ?_, .returned (some (.int 1)), hrun, hended, rfl, ⟨_, rfl⟩, hW, hframe⟩
  jvm_step X.here [X.here.top, hx, hb, hdg, hmeth', hr, ret, narrow_b1]
  (try refine ⟨rfl, ?_⟩); (try refine ⟨rfl, ?_⟩)
  first | (intro acts; rw [hret _ acts rfl rfl rfl]) | rw [hret _ _ rfl rfl rfl]
  exact Steps.refl _
/-- what holds at the law's entry: the machine, the code, the tables' words (any of lw_tbl by 'hts w (by decide +kernel)'), the script of L ints xs at the cell b, what the Statement gives of the start (any of its parts by flat_of_before) -/
def lw_At (p : Program) (s : State) (m : MethodId) (meth : Method) (c : Code) (b L : Nat) (xs : Nat → Int32) : Prop :=
  p.tables.exec = Jvm.exec ∧ c.code = code ∧ meth.sig.returnType = ret ∧ c.maxLocals = 4 ∧ s.vm.findClass R_law = some m.cls ∧ (∀ w ∈ lw_tbl, w.before #[Value.ref b] s = true) ∧ va_X b L xs s s.heap ∧ b < s.heap.size ∧ meth.locks = false ∧ (Jvm.Cond.and given_1 narrow_1).before #[Value.ref b] s = true
/-- two lists of cells, the other way round -/
theorem gz_swap {D : va_G} {A0 : Nat → Prop} {w1 w2 : va_W} {H : Heap} (hP : va_P D vwCl (w1 ++ w2) H) (hD : va_D A0 (w1 ++ w2)) : va_P D vwCl (w2 ++ w1) H ∧ va_D A0 (w2 ++ w1) := by
  have g1 : ∀ (k : Nat) (q : Nat × va_E), w1[k]? = some q → (w1 ++ w2)[k]? = some q := fun k q h => by
    rw [List.getElem?_append_left (List.getElem?_eq_some_iff.mp h).1]; exact h
  have g2 : ∀ (k : Nat) (q : Nat × va_E), w2[k]? = some q → (w1 ++ w2)[w1.length + k]? = some q := fun k q h => by
    rw [List.getElem?_append_right (by omega), show w1.length + k - w1.length = k by omega]; exact h
  refine ⟨va_P.app (fun k q h => hP _ q (g2 k q h)) (fun k q h => hP _ q (g1 k q h)), va_D.app ⟨fun i j p q hi hj e => ?_, fun k q h => hD.2 _ q (g2 k q h)⟩ ⟨fun i j p q hi hj e => hD.1 _ _ p q (g1 i p hi) (g1 j q hj) e, fun k q h => hD.2 _ q (g1 k q h)⟩ (fun i j p q hi hj e => ?_)⟩
  · have := hD.1 _ _ p q (g2 i p hi) (g2 j q hj) e
    omega
  · have h1 := hD.1 _ _ p q (g2 i p hi) (g1 j q hj) e
    have h2 := (List.getElem?_eq_some_iff.mp hj).1
    omega
def gl_init : gx_M := fun c => if c < 6 then gz_mod c else gz_bow (c - 6)
theorem gl_ws (D : va_G) (cI cT : ClassId) (t1 t2 : Nat → Nat) : gx_ws (gz_Y D cI cT kd_mod t2) gz_mod ++ gx_ws (gz_Y D cI cT kd_bow t1) gz_bow = gx_ws (gz_Y D cI cT kd_all (fun j => if j < 6 then t2 j else t1 (j - 6))) gl_init := by
  rw [show kd_all = kd_mod ++ kd_bow from rfl, gz_app D cI cT kd_mod kd_bow]
  have e1 : (fun j => (fun j => if j < 6 then t2 j else t1 (j - 6)) (kd_mod.length + j)) = t1 := by
    funext j
    show (if 6 + j < 6 then t2 (6 + j) else t1 (6 + j - 6)) = t1 j
    rw [if_neg (by omega), show 6 + j - 6 = j by omega]
  have e2 : (fun j => gl_init (kd_mod.length + j)) = gz_bow := by
    funext j
    show (if 6 + j < 6 then gz_mod (6 + j) else gz_bow (6 + j - 6)) = gz_bow j
    rw [if_neg (by omega), show 6 + j - 6 = j by omega]
  rw [e1, e2]
  rfl
set_option maxRecDepth 100000 in
theorem gl_modK (D : va_G) (cI cT : ClassId) (t : Nat → Nat) : gk_mod (gz_Y D cI cT kd_all t) 0 := by
  (repeat' apply And.intro) <;> first | rfl | exact Nat.le_of_ble_eq_true rfl
set_option maxRecDepth 100000 in
theorem gl_bowK (D : va_G) (cI cT : ClassId) (t : Nat → Nat) : gk_bow (gz_Y D cI cT kd_all t) 6 := by
  refine ⟨?_, ?_, ?_, ⟨?_, ?_, fun i hi => ?_⟩, ?_⟩
  · (repeat' apply And.intro) <;> first | rfl | exact Nat.le_of_ble_eq_true rfl
  · (repeat' apply And.intro) <;> first | rfl | exact Nat.le_of_ble_eq_true rfl
  · (repeat' apply And.intro) <;> first | rfl | exact Nat.le_of_ble_eq_true rfl
  · (repeat' apply And.intro) <;> first | rfl | exact Nat.le_of_ble_eq_true rfl
  · (repeat' apply And.intro) <;> first | rfl | exact Nat.le_of_ble_eq_true rfl
  · rcases (show i = 0 ∨ i = 1 ∨ i = 2 ∨ i = 3 ∨ i = 4 by omega) with rfl | rfl | rfl | rfl | rfl
    · (repeat' apply And.intro) <;> first | rfl | exact Nat.le_of_ble_eq_true rfl
    · (repeat' apply And.intro) <;> first | rfl | exact Nat.le_of_ble_eq_true rfl
    · (repeat' apply And.intro) <;> first | rfl | exact Nat.le_of_ble_eq_true rfl
    · (repeat' apply And.intro) <;> first | rfl | exact Nat.le_of_ble_eq_true rfl
    · (repeat' apply And.intro) <;> first | rfl | exact Nat.le_of_ble_eq_true rfl
  · (repeat' apply And.intro) <;> first | rfl | exact Nat.le_of_ble_eq_true rfl
set_option maxHeartbeats 4000000 in
set_option maxRecDepth 100000 in
/-- the law from its entry, over any relation that each pair of calls keeps -/
theorem gl_start {p : Program} {e : Env} {s : State} {m : MethodId} {below : List Frame} {meth : Method} {c : Code} (l : Launch) {b L : Nat} {xs : Nat → Int32} (hL : L ≤ 2048) (C0 : lw_At p s m meth c b L xs) {Sim : gx_M → Prop} (hSims : gl_Sims Sim) (hS0 : Sim gl_init) : W p l e room_1 s m #[Value.ref b] below meth c s.heap [] 0 0 (lw_Z below #[Value.ref b] s) (entryFrame m ([Value.ref b] : List Value).toArray 4) := by
  obtain ⟨hx, hb, hr, hml, hown, hts, hX, hbl, hlocks, hgv⟩ := id C0
  obtain ⟨c0, iS0, hKn0⟩ := u_known (C := RX0) (T := TX0) (N := 10) (n := 10) hts (fun w h => gWs_in w (inX0 w h)) (hts (.instantiable RX0 10) (gWs_in _ kw_it_RX0))
  obtain ⟨c1, iS1, hKn1⟩ := u_known (C := RX1) (T := TX1) (N := 3) (n := 3) hts (fun w h => gWs_in w (inX1 w h)) (hts (.instantiable RX1 3) (gWs_in _ kw_it_RX1))
  obtain ⟨c2, iS2, hKn2⟩ := u_known (C := RX2) (T := TX2) (N := 6) (n := 6) hts (fun w h => gWs_in w (inX2 w h)) (hts (.instantiable RX2 6) (gWs_in _ kw_it_RX2))
  obtain ⟨c3, iS3, hKn3⟩ := u_known (C := RX3) (T := TX3) (N := 1) (n := 1) hts (fun w h => gWs_in w (inX3 w h)) (hts (.instantiable RX3 1) (gWs_in _ kw_it_RX3))
  obtain ⟨c4, iS4, hKn4⟩ := u_known (C := RX4) (T := TX4) (N := 4) (n := 4) hts (fun w h => gWs_in w (inX4 w h)) (hts (.instantiable RX4 4) (gWs_in _ kw_it_RX4))
  obtain ⟨c5, iS5, hKn5⟩ := u_known (C := RX5) (T := TX5) (N := 8) (n := 8) hts (fun w h => gWs_in w (inX5 w h)) (hts (.instantiable RX5 8) (gWs_in _ kw_it_RX5))
  obtain ⟨c6, iS6, hKn6⟩ := u_known (C := RX6) (T := TX6) (N := 4) (n := 4) hts (fun w h => gWs_in w (inX6 w h)) (hts (.instantiable RX6 4) (gWs_in _ kw_it_RX6))
  obtain ⟨c7, iS7, hKn7⟩ := u_known (C := RX7) (T := TX7) (N := 11) (n := 11) hts (fun w h => gWs_in w (inX7 w h)) (hts (.instantiable RX7 11) (gWs_in _ kw_it_RX7))
  obtain ⟨dC, dI, hKc⟩ : ∃ (dC : Nat → ClassId) (dI : Nat → Nat → Nat), ∀ (k : Nat) (q : vw_C), vwCl[k]? = some q → u_Kn s q.1 q.2.1 q.2.2 (dC k) (dI k) := by
    refine ⟨fun k => if k = 0 then c0 else if k = 1 then c1 else if k = 2 then c2 else if k = 3 then c3 else if k = 4 then c4 else if k = 5 then c5 else if k = 6 then c6 else c7, fun k => if k = 0 then iS0 else if k = 1 then iS1 else if k = 2 then iS2 else if k = 3 then iS3 else if k = 4 then iS4 else if k = 5 then iS5 else if k = 6 then iS6 else iS7, ?_⟩
    intro k q hq
    match k, hq with
    | 0, hq => cases hq; exact hKn0
    | 1, hq => cases hq; exact hKn1
    | 2, hq => cases hq; exact hKn2
    | 3, hq => cases hq; exact hKn3
    | 4, hq => cases hq; exact hKn4
    | 5, hq => cases hq; exact hKn5
    | 6, hq => cases hq; exact hKn6
    | 7, hq => cases hq; exact hKn7
    | k + 8, hq => simp [vwCl] at hq
  obtain ⟨cI, kI, compI, hI1, hI2, hI3⟩ := Cond.arrayClass_spec (hts (.arrayClass .int) (gWs_in _ kw_ac_int))
  have hAO : va_AO RX4 s := va_AO.of (hts (.arrayOver (.object RX4)) (List.mem_of_getElem? (i := 182) (by decide +kernel)))
  obtain ⟨compT, cT, kT, hT1, hT2, hT3, hT4, hT5⟩ := Cond.arrayOver_spec (hts (.arrayOver (.object RX4)) (List.mem_of_getElem? (i := 182) (by decide +kernel)))
  have hK : va_K (dC, dI) vwCl (gz_ty cI cT) s := by
    refine ⟨hKc, fun k q hq => ?_⟩
    match k, hq with
    | 0, hq => cases hq; exact ⟨fun n z => ⟨fun k h => (by cases h), kI, hI2, compI, hI3⟩, hI1⟩
    | 1, hq => cases hq; exact ⟨fun n z => ⟨fun k h => (by cases h), kT, hT3, compT, hT4⟩, kT, compT, hT3, hT4, hT1, hT5⟩
    | k + 2, hq => simp [gz_ty] at hq
  have hNx : ∀ w ∈ gx_nest, va_Nw w s := by
    intro w hw
    simp only [gx_nest, List.mem_cons, List.not_mem_nil, or_false] at hw
    rcases hw with rfl | rfl | rfl | rfl | rfl
    · exact va_Nw.of rfl (hts (.methodLinkNest RX2 51 yX6_isWithin RX6) (List.mem_of_getElem? (i := 520) (by decide +kernel)))
    · exact va_Nw.of rfl (hts (.methodLinkNest RX2 72 yX6_oneIf RX6) (List.mem_of_getElem? (i := 534) (by decide +kernel)))
    · exact va_Nw.of rfl (hts (.methodLinkNest RX5 78 yX6_isWithin RX6) (List.mem_of_getElem? (i := 696) (by decide +kernel)))
    · exact va_Nw.of rfl (hts (.fieldLinkNest RX6 38 "GlassBowls$Table" "bowls" "LGlassBowls$Bowls;" RX6) (List.mem_of_getElem? (i := 161) (by decide +kernel)))
    · exact va_Nw.of rfl (hts (.fieldLinkNest RX6 111 "GlassBowls$Table" "piece" "LGlassBowls$Piece;" RX6) (List.mem_of_getElem? (i := 163) (by decide +kernel)))
  have hNz : ∀ w ∈ gz_nest, va_Nw w s := by
    intro w hw
    simp only [gz_nest, List.mem_cons, List.not_mem_nil, or_false] at hw
    rcases hw with rfl | rfl | rfl
    · exact va_Nw.of rfl (hts (.methodLinkNest RX4 11 yX0_init RX6) (List.mem_of_getElem? (i := 78) (by decide +kernel)))
    · exact va_Nw.of rfl (hts (.methodLinkNest RX4 20 yX2_init RX6) (List.mem_of_getElem? (i := 129) (by decide +kernel)))
    · exact va_Nw.of rfl (hts (.methodLinkNest RX6 28 yX5_init RX6) (List.mem_of_getElem? (i := 196) (by decide +kernel)))
  have hSs : gz_S (dC, dI) cI cT s := ⟨hK, hNx, hNz, hAO⟩
  have hbA : ¬ (fun q : Nat => s.heap.size ≤ q) b := Nat.not_le.mpr hbl
  obtain ⟨K, hKe⟩ : ∃ K : gz_KT, K = (fun ws pc L st cells slots => ∀ (H : Heap) (locs : List Loc) (ls : Array Slot), va_P (dC, dI) vwCl ws H → va_D (fun q : Nat => s.heap.size ≤ q) ws → va_S (fun q : Nat => s.heap.size ≤ q) s.heap H locs → lv_has ls 4 L → W p l e { frames := 10, cells := 600000, slots := 7302250, locals := 356 } s m #[Value.ref b] below meth c H locs cells slots (lw_Z below #[Value.ref b] s) (F0 m pc ls st)) := ⟨_, rfl⟩
  have hz : gz_K l RL cL_law 4 10 356 600000 7302250 (dC, dI) cI cT (fun _ => False) K := ⟨p, e, s, m, #[Value.ref b], below, meth, c, lw_Z below #[Value.ref b] s, fun q : Nat => s.heap.size ≤ q, hx, hb, hml, hown, fun w hw => hts w (gWs_in w hw), hSs, Or.inl rfl, fun _ h => h, hKe, fun _ _ _ _ h => h.elim⟩
  have start : K [] 0 [(0, .ref b)] [] 0 0 := by
    refine gz_new (pc := 0) (ws := []) (ci := 6) (fs := [.null, .null, .null, .null]) hz inX6 tyX6 tyX6_ok kw_cl_RL_7 kw_it_RX6 kw_in_RX6 rfl (fun j hj => by rcases (show j = 0 ∨ j = 1 ∨ j = 2 ∨ j = 3 by omega) with rfl | rfl | rfl | rfl <;> rfl) (Nat.le_of_ble_eq_true rfl) (Nat.le_of_ble_eq_true rfl) dL_law_0 (fun q1 => ?_)
    refine gz_dup (pc := 3) hz dL_law_3 rfl ?_
    refine gz_init (pc := 4) (cells := 1) (slots := 4) (st := [.ref q1]) (ws := []) (As := []) hz (ct_X6_init l (dC, dI) cI cT) rfl ⟨by decide, by decide, (show (parseMethodDescriptor yX6_init.desc).map (fun d => d.parameters.length) = some 0 by decide +kernel)⟩ kw_im_X6_init kw_in_RX6 kw_co_X6_init ⟨Nat.le_of_ble_eq_true rfl, Nat.le_of_ble_eq_true rfl⟩ (Nat.le_of_ble_eq_true rfl) ⟨Nat.le_of_ble_eq_true rfl, Nat.le_of_ble_eq_true rfl⟩ dL_law_4 ?_ kw_ml_RL_9
    rintro wn ⟨t1, ht1, rfl⟩
    subst ht1
    rw [List.nil_append]
    refine gz_astore_n (pc := 7) (L' := [(1, .ref (t1 0)), (0, .ref b)]) hz dL_law_7 rfl (by decide) rfl ?_
    refine gz_new (pc := 8) (ci := 7) (fs := [.null, .null, .null, .int 0, .null, .int 0, .int 0, .int 0, .int 0, .null, .int 0]) hz inX7 tyX7 tyX7_ok kw_cl_RL_10 kw_it_RX7 kw_in_RX7 rfl (fun j hj => by rcases (show j = 0 ∨ j = 1 ∨ j = 2 ∨ j = 3 ∨ j = 4 ∨ j = 5 ∨ j = 6 ∨ j = 7 ∨ j = 8 ∨ j = 9 ∨ j = 10 by omega) with rfl | rfl | rfl | rfl | rfl | rfl | rfl | rfl | rfl | rfl | rfl <;> rfl) (Nat.le_of_ble_eq_true rfl) (Nat.le_of_ble_eq_true rfl) dL_law_8 (fun q2 => ?_)
    refine gz_dup (pc := 11) hz dL_law_11 rfl ?_
    refine gz_init (pc := 12) (cells := 182) (slots := 2127) (st := [.ref q2]) (As := []) hz (ct_X7_init l (dC, dI) cI cT) rfl ⟨by decide, by decide, (show (parseMethodDescriptor yX7_init.desc).map (fun d => d.parameters.length) = some 0 by decide +kernel)⟩ kw_im_X7_init kw_in_RX7 kw_co_X7_init ⟨Nat.le_of_ble_eq_true rfl, Nat.le_of_ble_eq_true rfl⟩ (Nat.le_of_ble_eq_true rfl) ⟨Nat.le_of_ble_eq_true rfl, Nat.le_of_ble_eq_true rfl⟩ dL_law_12 ?_ kw_ml_RL_12
    rintro wn ⟨t2, ht2, rfl⟩
    subst ht2
    refine gz_astore_n (pc := 15) (L' := [(2, .ref (t2 0)), (1, .ref (t1 0)), (0, .ref b)]) hz dL_law_15 rfl (by decide) rfl ?_
    refine gz_iconst (v := 0) (pc := 16) hz dL_law_16 (by decide) ?_
    refine gz_istore_n (pc := 17) (L' := [(3, .int 0), (2, .ref (t2 0)), (1, .ref (t1 0)), (0, .ref b)]) hz dL_law_17 rfl (by decide) rfl ?_
    subst hKe
    intro H locs ls hP hD hS hl
    obtain ⟨hP, hD⟩ := gz_swap hP hD
    rw [gl_ws] at hP hD
    have hbow := gl_bowK (dC, dI) cI cT (fun j => if j < 6 then t2 j else t1 (j - 6))
    have hmod := gl_modK (dC, dI) cI cT (fun j => if j < 6 then t2 j else t1 (j - 6))
    have hY1 : gy_a (gz_Y (dC, dI) cI cT kd_all (fun j => if j < 6 then t2 j else t1 (j - 6))) 6 = t1 0 := rfl
    have hY2 : gy_a (gz_Y (dC, dI) cI cT kd_all (fun j => if j < 6 then t2 j else t1 (j - 6))) 0 = t2 0 := rfl
    have hkd : gy_k (gz_Y (dC, dI) cI cT kd_all (fun j => if j < 6 then t2 j else t1 (j - 6))) = gl_kd := rfl
    have hKt : va_K (gy_D (gz_Y (dC, dI) cI cT kd_all (fun j => if j < 6 then t2 j else t1 (j - 6)))) vwCl (gx_tys (gz_Y (dC, dI) cI cT kd_all (fun j => if j < 6 then t2 j else t1 (j - 6)))) s := hK
    have hPt : va_P (gy_D (gz_Y (dC, dI) cI cT kd_all (fun j => if j < 6 then t2 j else t1 (j - 6)))) vwCl (gx_ws (gz_Y (dC, dI) cI cT kd_all (fun j => if j < 6 then t2 j else t1 (j - 6))) gl_init) H := hP
    clear hP
    generalize gz_Y (dC, dI) cI cT kd_all (fun j => if j < 6 then t2 j else t1 (j - 6)) = Y at hbow hmod hY1 hY2 hkd hKt hPt hD
    have hI : gx_Inj Y := fun a b ha hb2 hab => hD.1 a b _ _ (gx_ws_get ha) (gx_ws_get hb2) hab
    have hA1 : ∀ q, gx_A Y q → s.heap.size ≤ q := fun q ⟨c, hc, hq⟩ => by rw [hq]; exact hD.2 c _ (gx_ws_get hc)
    obtain ⟨K2, hK2e⟩ : ∃ K2 : gx_KT, K2 = (fun μ pc L st => ∀ (H : Heap) (locs : List Loc) (ls : Array Slot), va_P (gy_D Y) vwCl (gx_ws Y μ) H → va_S (fun q : Nat => s.heap.size ≤ q) s.heap H locs → lv_has ls 4 L → W p l e { frames := 10, cells := 600000, slots := 7302250, locals := 356 } s m #[Value.ref b] below meth c H locs 187 4359 (lw_Z below #[Value.ref b] s) (F0 m pc ls st)) := ⟨_, rfl⟩
    have hg : gx_K l RL cL_law 4 10 356 (some .boolean) Y (fun v _ => v = 1) K2 := by
      refine ⟨p, e, s, m, #[Value.ref b], below, meth, c, lw_Z below #[Value.ref b] s, fun q : Nat => s.heap.size ≤ q, 187, 4359, 600000, 7302250, hx, hb, hml, hown, fun w hw => hts w (gWs_in w hw), hKt, hI, hNx, hA1, Nat.le_of_ble_eq_true rfl, Nat.le_of_ble_eq_true rfl, hK2e, ?_, fun _ _ _ h => nomatch h⟩
      intro μ1 pc1 L1 v ty _ _ d1 hv
      subst hv
      rw [hK2e]
      intro H1 locs1 ls1 hP1 hS1 hl1
      refine va_forget (fun q hq => hS1.2.2 q hq) ?_
      refine W.widen (k := 600000) (n := 7302250) (Nat.le_of_ble_eq_true rfl) (Nat.le_of_ble_eq_true rfl) ?_
      exact lw_ret hx hb hr hlocks d1
    have fin := gl_loop hg hkd hbow hmod (b := b) (xs := xs) hL
      (fun {μ pc L' st i} d hin kk => by
        rw [hK2e] at kk ⊢
        intro H1 locs1 ls1 hP1 hS1 hl1
        exact va_sld hx hb hX hbl hbA hS1 hin d (kk H1 locs1 ls1 hP1 hS1 hl1))
      (fun {μ pc L' st} d kk => by
        rw [hK2e] at kk ⊢
        intro H1 locs1 ls1 hP1 hS1 hl1
        exact va_slen hx hb hX hbl hbA hS1 d (kk H1 locs1 ls1 hP1 hS1 hl1))
      hSims (L + 1) 0 gl_init (by omega) (by omega) hS0
    rw [hK2e] at fin
    refine fin H locs ls hPt hS ?_
    rw [hY1, hY2]
    exact lv_sub hl [3, 2, 1, 0] rfl
  subst hKe
  have hl := lv_entry ([.ref b]) (n := 4) (Nat.le_of_ble_eq_true rfl)
  rw [lg_entry_eq]
  exact start s.heap [] _ (fun k q h => by simp at h) ⟨fun i j p q h => by simp at h, fun k q h => by simp at h⟩ va_S.rf hl
