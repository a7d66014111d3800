/-! ===== the law from its entry ===== -/
set_option maxHeartbeats 8000000 in
set_option maxRecDepth 100000 in
theorem law_all (l : Launch) {D : va_G} {cI cT : ClassId} {K : gz_KT} (h : gz_K l RL cL_law 9 12 450 600000 7302250 D cI cT (fun _ => False) K) (hret : ∀ (ws : va_W) (pc : Nat) (L : List (Nat × Value)) (cells slots : Nat), cells ≤ 600000 → slots ≤ 7302250 → decode cL_law pc = .ok (.ireturn, 1) → K ws pc L [.int 1] cells slots) {b Ln : Nat} {xs : Nat → Int32}
    (htk : ∀ (ws : va_W) (pc : Nat) (L : List (Nat × Value)) (st : List Value) (cells slots k : Nat), decode cL_law pc = .ok (.invokestatic 192, 3) → k < 1000 → (st.map fun v => v.category).sum ≤ 8 → cells ≤ 600000 → slots ≤ 7302250 → K ws (pc + 3) L (.int (tk Ln xs k) :: st) cells slots → K ws pc L (.int (nI k) :: .ref b :: st) cells slots) : K [] 0 [(0, .ref b)] [] 0 0 := by
  refine gq_call (pc := 0) h (gq_texts l D cI cT) ⟨rfl, by decide, by decide, (show (parseMethodDescriptor yL_texts.desc).map (fun d => d.parameters.length) = some 0 by decide +kernel)⟩ kw_ml_RL_185 kw_st_L_texts kw_in_RL kw_co_L_texts ⟨(Nat.le_of_ble_eq_true rfl), (Nat.le_of_ble_eq_true rfl)⟩ (Nat.le_of_ble_eq_true rfl) ⟨(Nat.le_of_ble_eq_true rfl), (Nat.le_of_ble_eq_true rfl)⟩ dL_law_0 ?_
  refine gz_if_eq (tgt := 12) (pc := 3) h dL_law_3 (by decide) (fun q => absurd q (by decide)) (fun _ => ?_)
  refine gq_call (pc := 6) h (gq_known l D cI cT) ⟨rfl, by decide, by decide, (show (parseMethodDescriptor yL_known.desc).map (fun d => d.parameters.length) = some 0 by decide +kernel)⟩ kw_ml_RL_189 kw_st_L_known kw_in_RL kw_co_L_known ⟨(Nat.le_of_ble_eq_true rfl), (Nat.le_of_ble_eq_true rfl)⟩ (Nat.le_of_ble_eq_true rfl) ⟨(Nat.le_of_ble_eq_true rfl), (Nat.le_of_ble_eq_true rfl)⟩ dL_law_6 ?_
  refine gz_if_ne (tgt := 14) (pc := 9) h dL_law_9 (by decide) (fun _ => ?_) (fun q => absurd q (by decide))
  refine gz_new (pc := 14) (cells := 362) (slots := 4232) (ws := []) (ci := 6) (fs := [.null, .null, .null, .null]) h inX6 tyX6 tyX6_ok kw_cl_RL_14 kw_it_RX6 kw_in_RX6 rfl (fun j hj => by rcases (show j = 0 ∨ j = 1 ∨ j = 2 ∨ j = 3 by omega) with rfl | rfl | rfl | rfl <;> rfl) (Nat.le_of_ble_eq_true rfl) (Nat.le_of_ble_eq_true rfl) dL_law_14 (fun q1 => ?_)
  refine gz_dup (pc := 17) h dL_law_17 rfl ?_
  refine gz_init (pc := 18) (cells := 363) (slots := 4236) (st := [.ref q1]) (ws := []) (As := []) h (ct_X6_init l D cI cT) rfl ⟨by decide, by decide, (show (parseMethodDescriptor yX6_init.desc).map (fun d => d.parameters.length) = some 0 by decide +kernel)⟩ kw_im_X6_init kw_in_RX6 kw_co_X6_init ⟨(Nat.le_of_ble_eq_true rfl), (Nat.le_of_ble_eq_true rfl)⟩ (Nat.le_of_ble_eq_true rfl) ⟨(Nat.le_of_ble_eq_true rfl), (Nat.le_of_ble_eq_true rfl)⟩ dL_law_18 ?_ kw_ml_RL_117
  rintro wn ⟨t1, ht1, rfl⟩
  subst ht1
  rw [List.nil_append]
  refine gz_astore_n (pc := 21) (L' := [(1, .ref (t1 0)), (0, .ref b)]) h dL_law_21 rfl (by decide) rfl ?_
  rw [gl_ws1]
  refine gz_toG2 h ⟨rfl, rfl, rfl⟩ (Nat.le_of_ble_eq_true rfl) (Nat.le_of_ble_eq_true rfl) (fun ws pc L d => hret ws pc L _ _ (Nat.le_of_ble_eq_true rfl) (Nat.le_of_ble_eq_true rfl) d) (fun K1 hK1 fwd bwd => ?_)
  have B := law_B hK1 rfl rfl (gl_bowK1 D cI cT _) (fun μ pc L st k d hk hs kk => fwd _ _ _ _ (htk _ _ _ _ _ _ k d hk hs (Nat.le_of_ble_eq_true rfl) (Nat.le_of_ble_eq_true rfl) (bwd _ _ _ _ kk))) (fun μ hL h5 => ?_) sm_init (by decide) (by decide)
  · exact B
  refine fwd _ _ _ _ ?_
  refine gz_bipush (v := 32) (pc := 153) h dL_law_153 (by decide) ?_
  refine gz_newl (pc := 155) (N := 32) h (by decide) (by decide) (Nat.le_of_ble_eq_true rfl) (Nat.le_of_ble_eq_true rfl) (Nat.le_of_ble_eq_true rfl) dL_law_155 (fun q => ?_)
  refine gz_astore_n (pc := 157) (L' := [(2, .ref q), (0, .ref b), (1, .ref (t1 0))]) h dL_law_157 rfl (by decide) rfl ?_
  rw [gl_ws2]
  refine gz_toG2 h ⟨rfl, rfl, rfl⟩ (Nat.le_of_ble_eq_true rfl) (Nat.le_of_ble_eq_true rfl) (fun ws pc L d => hret ws pc L _ _ (Nat.le_of_ble_eq_true rfl) (Nat.le_of_ble_eq_true rfl) d) (fun K2 hK2 fwd2 bwd2 => ?_)
  have C := law_C hK2 rfl rfl (gl_bowK2 D cI cT _) (gl_wasK D cI cT _) (fun μ pc L st k d hk hs kk => fwd2 _ _ _ _ (htk _ _ _ _ _ _ k d hk hs (Nat.le_of_ble_eq_true rfl) (Nat.le_of_ble_eq_true rfl) (bwd2 _ _ _ _ kk))) (fun μ => ?_) (μ := gx_r μ 187 (fun _ => 0)) (LS_q hL (fun a ha => gx_r_n (by omega))) (by rw [gx_r_n (by decide)]; exact h5)
  · exact C
  refine fwd2 _ _ _ _ (gz_none h ?_)
  refine gz_new (pc := 638) (cells := 544) (slots := 6380) (ws := []) (ci := 6) (fs := [.null, .null, .null, .null]) h inX6 tyX6 tyX6_ok kw_cl_RL_14 kw_it_RX6 kw_in_RX6 rfl (fun j hj => by rcases (show j = 0 ∨ j = 1 ∨ j = 2 ∨ j = 3 by omega) with rfl | rfl | rfl | rfl <;> rfl) (Nat.le_of_ble_eq_true rfl) (Nat.le_of_ble_eq_true rfl) dL_law_638 (fun q1 => ?_)
  refine gz_dup (pc := 641) h dL_law_641 rfl ?_
  refine gz_init (pc := 642) (cells := 545) (slots := 6384) (st := [.ref q1]) (ws := []) (As := []) h (ct_X6_init l D cI cT) rfl ⟨by decide, by decide, (show (parseMethodDescriptor yX6_init.desc).map (fun d => d.parameters.length) = some 0 by decide +kernel)⟩ kw_im_X6_init kw_in_RX6 kw_co_X6_init ⟨(Nat.le_of_ble_eq_true rfl), (Nat.le_of_ble_eq_true rfl)⟩ (Nat.le_of_ble_eq_true rfl) ⟨(Nat.le_of_ble_eq_true rfl), (Nat.le_of_ble_eq_true rfl)⟩ dL_law_642 ?_ kw_ml_RL_117
  rintro wn ⟨t2, ht2, rfl⟩
  subst ht2
  rw [List.nil_append]
  refine gz_astore (pc := 645) (L' := [(4, .ref (t2 0))]) h dL_law_645 (by decide) rfl ?_
  rw [gl_ws1]
  refine gz_toG2 h ⟨rfl, rfl, rfl⟩ (Nat.le_of_ble_eq_true rfl) (Nat.le_of_ble_eq_true rfl) (fun ws pc L d => hret ws pc L _ _ (Nat.le_of_ble_eq_true rfl) (Nat.le_of_ble_eq_true rfl) d) (fun K3 hK3 _ _ => ?_)
  obtain ⟨m, hm⟩ := ev_1_of ev_law
  exact kb_L_law (gx_K_mono hK3 gl_post) gl_init 6 (gl_bowK1 D cI cT _) hm
/-! THE CLAIM OUT OF ONE WALK OF THE LAW'S BODY. Your part is whole_start (and what it stands on); all else here is the same for every law, but numbers. -/
def R_law : String := "GlassBowlsLaw"
def lw_P (b : Addr) (xs : List Int32) (args : Array Value) (s : State) : Prop := args = #[.ref b] ∧ s.IntsAt b xs ∧ xs.length ≤ 260 ∧ (Jvm.Cond.and given_1 narrow_1).before args s = true
def lw_Q (_ : Array Value) (s : State) (o : Outcome) (t : State) : Prop := o = .returned (some (.int 1)) ∧ Framed s o t [] 600000 7302250
def lw_Z (below : List Frame) (a : Array Value) (s : State) : State → Prop := fun t => ∃ o, t.status = .running ∧ Ended t below o ∧ lw_Q a s o t
/-- the law's own end, with 1 on the stack, nothing written that was there before, its room as the claim has it -/
theorem lw_ret {p : Program} {l : Launch} {e : Env} {s : State} {m : MethodId} {below : List Frame} {meth : Method} {c : Code} {b : Nat} (hx : p.tables.exec = Jvm.exec) (hb : c.code = code) (hr : meth.sig.returnType = ret) (hlocks : meth.locks = false) {pc : Nat} {H : Heap} {ls : Array Slot} (hdg : decode code pc = .ok (.ireturn, 1)) : W p l e room_1 s m #[Value.ref b] below meth c H [] 600000 7302250 (lw_Z below #[Value.ref b] s) (F0 m pc ls [.int 1]) := by
  intro T hT X
  obtain ⟨fs, hret, hrun, hended, hW, hframe⟩ := X.leave (v := some (.int 1)) (hlocks := hlocks) (fun h => by rw [hr] at h; cases h)
  have hmeth' : T.vm.method? m = some meth := X.method'
  refine ⟨T.setFrames fs, ?_, .returned (some (.int 1)), hrun, hended, rfl, ⟨_, rfl⟩, hW, hframe⟩
  jvm_step X.here [X.here.top, hx, hb, hdg, hmeth', hr, ret, narrow_b1]
  (try refine ⟨rfl, ?_⟩); (try refine ⟨rfl, ?_⟩)
  first | (intro acts; rw [hret _ acts rfl rfl rfl]) | rw [hret _ _ rfl rfl rfl]
  exact Steps.refl _
/-- what holds at the law's entry: the machine, the code, the tables' words (any of lw_tbl by 'hts w (by decide +kernel)'), the script of L ints xs at the cell b, what the Statement gives of the start (any of its parts by flat_of_before) -/
def lw_At (p : Program) (s : State) (m : MethodId) (meth : Method) (c : Code) (b L : Nat) (xs : Nat → Int32) : Prop :=
  p.tables.exec = Jvm.exec ∧ c.code = code ∧ meth.sig.returnType = ret ∧ c.maxLocals = 9 ∧ s.vm.findClass R_law = some m.cls ∧ (∀ w ∈ lw_tbl, w.before #[Value.ref b] s = true) ∧ va_X b L xs s s.heap ∧ b < s.heap.size ∧ meth.locks = false ∧ (Jvm.Cond.and given_1 narrow_1).before #[Value.ref b] s = true
set_option maxHeartbeats 8000000 in
set_option maxRecDepth 100000 in
theorem gl_start {p : Program} {e : Env} {s : State} {m : MethodId} {below : List Frame} {meth : Method} {c : Code} (l : Launch) {b L : Nat} {xs : Nat → Int32} (hL : L ≤ 260) (C0 : lw_At p s m meth c b L xs) : W p l e room_1 s m #[Value.ref b] below meth c s.heap [] 0 0 (lw_Z below #[Value.ref b] s) (entryFrame m ([Value.ref b] : List Value).toArray 9) := by
  obtain ⟨hx, hb, hr, hml, hown, hts, hX, hbl, hlocks, hgv⟩ := id C0
  obtain ⟨c0, iS0, hKn0⟩ := u_known (C := RX0) (T := TX0) (N := 10) (n := 10) hts (fun w h => gWs_in w (inX0 w h)) (hts (.instantiable RX0 10) (gWs_in _ kw_it_RX0))
  obtain ⟨c1, iS1, hKn1⟩ := u_known (C := RX1) (T := TX1) (N := 3) (n := 3) hts (fun w h => gWs_in w (inX1 w h)) (hts (.instantiable RX1 3) (gWs_in _ kw_it_RX1))
  obtain ⟨c2, iS2, hKn2⟩ := u_known (C := RX2) (T := TX2) (N := 6) (n := 6) hts (fun w h => gWs_in w (inX2 w h)) (hts (.instantiable RX2 6) (gWs_in _ kw_it_RX2))
  obtain ⟨c3, iS3, hKn3⟩ := u_known (C := RX3) (T := TX3) (N := 1) (n := 1) hts (fun w h => gWs_in w (inX3 w h)) (hts (.instantiable RX3 1) (gWs_in _ kw_it_RX3))
  obtain ⟨c4, iS4, hKn4⟩ := u_known (C := RX4) (T := TX4) (N := 4) (n := 4) hts (fun w h => gWs_in w (inX4 w h)) (hts (.instantiable RX4 4) (gWs_in _ kw_it_RX4))
  obtain ⟨c5, iS5, hKn5⟩ := u_known (C := RX5) (T := TX5) (N := 8) (n := 8) hts (fun w h => gWs_in w (inX5 w h)) (hts (.instantiable RX5 8) (gWs_in _ kw_it_RX5))
  obtain ⟨c6, iS6, hKn6⟩ := u_known (C := RX6) (T := TX6) (N := 4) (n := 4) hts (fun w h => gWs_in w (inX6 w h)) (hts (.instantiable RX6 4) (gWs_in _ kw_it_RX6))
  obtain ⟨cI, kI, compI, hI1, hI2, hI3⟩ := Cond.arrayClass_spec (hts (.arrayClass .int) (gWs_in _ kw_ac_int))
  obtain ⟨cJ, kJ, compJ, hJ1, hJ2, hJ3⟩ := Cond.arrayClass_spec (hts (.arrayClass .long) (gWs_in _ kw_ac_long))
  obtain ⟨dC, dI, hKc, hdJ⟩ : ∃ (dC : Nat → ClassId) (dI : Nat → Nat → Nat), (∀ (k : Nat) (q : vw_C), vwCl[k]? = some q → u_Kn s q.1 q.2.1 q.2.2 (dC k) (dI k)) ∧ dC 50 = cJ := by
    refine ⟨fun k => if k = 0 then c0 else if k = 1 then c1 else if k = 2 then c2 else if k = 3 then c3 else if k = 4 then c4 else if k = 5 then c5 else if k = 50 then cJ else c6, fun k => if k = 0 then iS0 else if k = 1 then iS1 else if k = 2 then iS2 else if k = 3 then iS3 else if k = 4 then iS4 else if k = 5 then iS5 else iS6, ?_, rfl⟩
    intro k q hq
    match k, hq with
    | 0, hq => cases hq; exact hKn0
    | 1, hq => cases hq; exact hKn1
    | 2, hq => cases hq; exact hKn2
    | 3, hq => cases hq; exact hKn3
    | 4, hq => cases hq; exact hKn4
    | 5, hq => cases hq; exact hKn5
    | 6, hq => cases hq; exact hKn6
    | k + 7, hq => simp [vwCl] at hq
  have hAO : va_AO RX4 s := va_AO.of (hts (.arrayOver (.object RX4)) (List.mem_of_getElem? (i := 147) (by decide +kernel)))
  obtain ⟨compT, cT, kT, hT1, hT2, hT3, hT4, hT5⟩ := Cond.arrayOver_spec (hts (.arrayOver (.object RX4)) (List.mem_of_getElem? (i := 147) (by decide +kernel)))
  have hK : va_K (dC, dI) vwCl (gz_ty (dC, dI) cI cT) s := by
    refine ⟨hKc, fun k q hq => ?_⟩
    match k, hq with
    | 0, hq => cases hq; exact ⟨fun n z => ⟨fun k h => (by cases h), kI, hI2, compI, hI3⟩, hI1⟩
    | 1, hq => cases hq; exact ⟨fun n z => ⟨fun k h => (by cases h), kT, hT3, compT, hT4⟩, kT, compT, hT3, hT4, hT1, hT5⟩
    | 2, hq =>
      have hq : q = (dC 50, .long) := (Option.some.inj hq).symm
      rw [hdJ] at hq
      subst hq
      exact ⟨fun n z => ⟨fun k h => (by cases h), kJ, hJ2, compJ, hJ3⟩, hJ1⟩
    | k + 3, hq => simp [gz_ty] at hq
  have hNx : ∀ w ∈ gx_nest, va_Nw w s := by
    intro w hw
    simp only [gx_nest, List.mem_cons, List.not_mem_nil, or_false] at hw
    rcases hw with rfl | rfl | rfl | rfl | rfl
    · exact va_Nw.of rfl (hts (.methodLinkNest RX2 51 yX6_isWithin RX6) (List.mem_of_getElem? (i := 445) (by decide +kernel)))
    · exact va_Nw.of rfl (hts (.methodLinkNest RX2 72 yX6_oneIf RX6) (List.mem_of_getElem? (i := 556) (by decide +kernel)))
    · exact va_Nw.of rfl (hts (.methodLinkNest RX5 78 yX6_isWithin RX6) (List.mem_of_getElem? (i := 681) (by decide +kernel)))
    · exact va_Nw.of rfl (hts (.fieldLinkNest RX6 38 "GlassBowls$Table" "bowls" "LGlassBowls$Bowls;" RX6) (List.mem_of_getElem? (i := 126) (by decide +kernel)))
    · exact va_Nw.of rfl (hts (.fieldLinkNest RX6 111 "GlassBowls$Table" "piece" "LGlassBowls$Piece;" RX6) (List.mem_of_getElem? (i := 128) (by decide +kernel)))
  have hNz : ∀ w ∈ gz_nest, va_Nw w s := by
    intro w hw
    simp only [gz_nest, List.mem_cons, List.not_mem_nil, or_false] at hw
    rcases hw with rfl | rfl | rfl
    · exact va_Nw.of rfl (hts (.methodLinkNest RX4 11 yX0_init RX6) (List.mem_of_getElem? (i := 43) (by decide +kernel)))
    · exact va_Nw.of rfl (hts (.methodLinkNest RX4 20 yX2_init RX6) (List.mem_of_getElem? (i := 94) (by decide +kernel)))
    · exact va_Nw.of rfl (hts (.methodLinkNest RX6 28 yX5_init RX6) (List.mem_of_getElem? (i := 161) (by decide +kernel)))
  have hSs : gz_S (dC, dI) cI cT s := ⟨hK, hNx, hNz, hAO⟩
  have hbA : ¬ (fun q : Nat => s.heap.size ≤ q) b := Nat.not_le.mpr hbl
  obtain ⟨K, hKe⟩ : ∃ K : gz_KT, K = (fun ws pc L st cells slots => ∀ (H : Heap) (locs : List Loc) (ls : Array Slot), va_P (dC, dI) vwCl ws H → va_D (fun q : Nat => s.heap.size ≤ q) ws → va_S (fun q : Nat => s.heap.size ≤ q) s.heap H locs → lv_has ls 9 L → W p l e { frames := 12, cells := 600000, slots := 7302250, locals := 450 } s m #[Value.ref b] below meth c H locs cells slots (lw_Z below #[Value.ref b] s) (F0 m pc ls st)) := ⟨_, rfl⟩
  have hz : gz_K l RL cL_law 9 12 450 600000 7302250 (dC, dI) cI cT (fun _ => False) K := ⟨p, e, s, m, #[Value.ref b], below, meth, c, lw_Z below #[Value.ref b] s, fun q : Nat => s.heap.size ≤ q, hx, hb, hml, hown, fun w hw => hts w (gWs_in w hw), hSs, Or.inl rfl, fun _ h => h, hKe, fun _ _ _ _ h => h.elim⟩
  have start : K [] 0 [(0, .ref b)] [] 0 0 := by
    refine law_all l hz (Ln := L) (xs := xs) ?_ ?_
    · intro ws pc L1 cells slots h1 h2 d
      rw [hKe]
      intro H1 locs1 ls1 hP1 hD1 hS1 hl1
      refine va_forget (fun q hq => hS1.2.2 q hq) ?_
      refine W.widen (k := 600000) (n := 7302250) h1 h2 ?_
      exact lw_ret hx hb hr hlocks d
    · intro ws pc L1 st cells slots k d hk hst h1 h2 kk
      rw [hKe] at kk ⊢
      intro H locs ls hP hD hS hl
      have hXH : va_X b L xs s H := hX.kept (hS.2.1 b hbl hbA)
      have hbH : b < H.size := Nat.lt_of_lt_of_le hbl hS.1
      have hG : GoodIn gWs (wsS RL 192 yL_take (gx_Ws yL_take cL_take 2 (some .int))) := gWs_self (fun w hw => by
        simp only [wsS, gx_Ws, List.cons_append, List.nil_append, List.mem_cons] at hw
        rcases hw with rfl | rfl | rfl | rfl | hw
        · exact kw_ml_RL_192
        · exact kw_st_L_take
        · exact kw_in_RL
        · exact kw_co_L_take
        · exact hw)
      have hrun := va_runS (l := l) (R := { frames := 12, cells := 600000, slots := 7302250, locals := 450 }) (below := below) (meth := meth) (e := e) (locs := locs) (cells := cells) (slots := slots) (g := F0 m pc ls (.int (nI k) :: .ref b :: st)) (As := [.ref b, .int (nI k)]) (rest := st) ⟨hx, hb, hml, hown, fun w hw => hts w (gWs_in w hw)⟩ (ct_take l hL hk (b := b) (xs := xs)) (cwS 2 (fun w hw => hts w (gWs_in w hw)) hG rfl rfl rfl ⟨rfl, by decide, by decide, (show (parseMethodDescriptor yL_take.desc).map (fun d => d.parameters.length) = some 2 by decide +kernel)⟩ ⟨(Nat.le_of_ble_eq_true rfl), (Nat.le_of_ble_eq_true rfl)⟩) ⟨(fun _ _ _ _ q => ⟨q.1, q.2.1.moved (u := _) (Vm.Alike.refl _), q.2.2⟩ : FrameBlind (va_Pc [.ref b, .int (nI k)] (fun U => va_X b L xs U U.heap ∧ b < U.heap.size))), fun U hU hW => ⟨rfl, by rw [hU]; exact hXH.moved hW.alike, by rw [hU]; exact hbH⟩⟩ rfl rfl hl.1 rfl (lv_room (pc := pc) (m := m) (ls := ls) (rest := .int (nI k) :: .ref b :: st) hst) d ⟨h1, h2⟩
      refine va_calli (post := fun r (_ : Unit) => r = tk L xs k) (B := fun _ _ => True) (A1 := fun _ => False) (a := ([.ref b, .int (nI k)] : List Value).toArray) hrun hS (fun q _ h => h.elim) (fun q h => h.elim) (fun r u t H1 locs1 ht hvm hw hB hz1 hk1 hS1 => ?_)
      rw [hw]
      have hk2 : ∀ (k : Nat) (x : Nat × va_E), ws[k]? = some x → H1[x.1]? = H[x.1]? := fun k x hx => hk1 x.1 ((hP k x hx).lt) (fun h => h)
      exact kk H1 locs1 ls (hP.kept hk2) hD hS1 hl
  subst hKe
  have hl := lv_entry ([.ref b]) (n := 9) (Nat.le_of_ble_eq_true rfl)
  rw [lg_entry_eq]
  exact start s.heap [] _ (fun k q h => by simp at h) ⟨fun i j p q h => by simp at h, fun k q h => by simp at h⟩ va_S.rf hl
