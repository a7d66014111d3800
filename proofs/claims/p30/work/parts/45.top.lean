/-! ===== methods of the law that make objects of their own; from cells to a layout ===== -/
theorem gz_newl {l : Launch} {own : String} {cc : ByteArray} {nL fr lo mc ms : Nat} {D : va_G} {cI cT : ClassId} {Post : va_W → Prop} {K : gz_KT} {pc cells slots : Nat} {ws : va_W} {L : List (Nat × Value)} {st : List Value} (h : gz_K l own cc nL fr lo mc ms D cI cT Post K) {n : Int32} {N : Nat} (hn : ¬ n < 0) (hN : n.toNatClampNeg = N) (hby : N * 8 ≤ 536870912) (hcs : cells + 1 ≤ mc) (hss : slots + N ≤ ms) (d : decode cc pc = .ok (.newarray .long, 2)) (kk : ∀ q, K (ws ++ [(q, .inl (D.1 50, (N, .inr (.inl (fun _ => 0)))))]) (pc + 2) L (.ref q :: st) (cells + 1) (slots + N)) : K ws pc L (.int n :: st) cells slots := by
  obtain ⟨p, e, s, m, args, below, meth, c0, Q, A0, hx, hb, hml, hown, hts, hSs, hin0, hA, rfl, hrv⟩ := h
  intro H locs ls hP hD hS hl
  refine va_newa (atype := .long) (ty := .long) (a0 := (N, .inr (.inl (fun _ => 0)))) hx hb (hts _ kw_ac_long) rfl hSs.1 hP hD hS hA (fun cA => rfl) hn hN hby hcs hss d (fun q cA H1 hK1 hP1 hD1 hS1 => ?_)
  have e1 := gz_oneJ hK1
  subst e1
  exact kk q H1 locs ls hP1 hD1 hS1 hl
/-- a static method without arguments that makes what it needs and answers 1 -/
def gq_Con (l : Launch) (y : MethodName) (cc : ByteArray) (nL fr lo mc ms : Nat) (D : va_G) (cI cT : ClassId) : Prop :=
  ∀ sz : Nat, Met l y (gx_Ws y cc nL (some .boolean)) { frames := fr, cells := mc, slots := ms, locals := lo } (va_Pc [] (fun U => U.heap.size = sz ∧ gz_S D cI cT U)) (va_Qi (fun r (_ : Unit) => r = 1) (fun _ _ => True) (fun q => sz ≤ q)) mc ms (fun q => sz ≤ q)
theorem gq_Con_of {l : Launch} {own name desc : String} {cc : ByteArray} {nL fr lo mc ms : Nat} {D : va_G} {cI cT : ClassId} (hp : plainName own = true) (ho : own = RL)
    (body : ∀ K : gz_KT, gz_K l own cc nL fr lo mc ms D cI cT (fun _ => False) K → (∀ (ws : va_W) (pc : Nat) (L : List (Nat × Value)) (cells slots : Nat), cells ≤ mc → slots ≤ ms → decode cc pc = .ok (.ireturn, 1) → K ws pc L [.int 1] cells slots) → K [] 0 [] [] 0 0) : gq_Con l ⟨own, name, desc⟩ cc nL fr lo mc ms D cI cT := by
  intro sz
  refine Met.ofW (cc := cc) (maxL := nL) (ret := some .boolean) hp rfl ?_
  intro p e s m args below meth c s₁ B hml hv
  obtain ⟨rfl, rfl, hSs⟩ := hv
  have hts0 := atoms_spec (ws := gx_Ws ⟨own, name, desc⟩ cc nL (some .boolean)) B.pre
  have hts : ∀ w ∈ gWs, w.before ([] : List Value).toArray s = true := fun w hw => hts0 w (List.mem_cons_of_mem _ hw)
  have hown : s.vm.findClass own = some m.cls := findClass_of_methodNamed B.named
  have hx := B.exec
  have hb := B.bytes
  have hr := B.returns
  have hlocks := B.notSynchronized
  rw [lg_entry_eq]
  have hl := lv_entry ([] : List Value) (n := nL) (Nat.zero_le _)
  refine body _ ⟨p, e, s, m, ([] : List Value).toArray, below, meth, c, MQ below (va_Qi (fun r (_ : Unit) => r = 1) (fun _ _ => True) (fun q => s.heap.size ≤ q)) ([] : List Value).toArray s mc ms (fun q => s.heap.size ≤ q), fun q => s.heap.size ≤ q, hx, hb, hml, hown, hts, hSs, Or.inl ho, fun q h => h, rfl, fun _ _ _ _ h => h.elim⟩ ?_ s.heap [] _ (fun k q h => by simp at h) ⟨fun i j p q h => by simp at h, fun k q h => by simp at h⟩ va_S.rf hl
  intro ws pc L cells slots h1 h2 d H locs ls hP1 hD1 hS1 hl1
  refine W.widen (k := mc) (n := ms) h1 h2 ?_
  exact W.zret hx hb hr rfl (fun t ht hW => ⟨⟨1, (), rfl, rfl, trivial⟩, hS1.F ht⟩) hS1.2.2 d
theorem gq_call {l : Launch} {own : String} {cc : ByteArray} {nL fr lo mc ms : Nat} {D : va_G} {cI cT : ClassId} {Post : va_W → Prop} {K : gz_KT} {pc cells slots : Nat} {ws : va_W} {L : List (Nat × Value)} {st : List Value} (h : gz_K l own cc nL fr lo mc ms D cI cT Post K) {idx : Nat} {y : MethodName} {bytes : ByteArray} {maxL frC loC mcC msC : Nat} (hM : gq_Con l y bytes maxL frC loC mcC msC D cI cT) (hy : y.cls = own ∧ y.cls ≠ "java/lang/invoke/MethodHandle" ∧ y.cls ≠ "java/lang/invoke/VarHandle" ∧ (parseMethodDescriptor y.desc).map (fun d => d.parameters.length) = some 0) (k1 : Cond.methodLink own idx y ∈ gWs) (k2 : Cond.static y ∈ gWs) (k4 : Cond.initialized own ∈ gWs) (k5 : Cond.code y bytes maxL (some .boolean) ∈ gWs) (hR : frC + 1 ≤ fr ∧ 8 + (maxL + 11) + loC ≤ lo) (hst : (st.map fun v => v.category).sum ≤ 8) (hf : cells + mcC ≤ mc ∧ slots + msC ≤ ms) (d : decode cc pc = .ok (.invokestatic idx, 3)) (kk : K ws (pc + 3) L (.int 1 :: st) (cells + mcC) (slots + msC)) : K ws pc L st cells slots := by
  obtain ⟨p, e, s, m, args, below, meth, c0, Q, A0, hx, hb, hml, hown, hts, hSs, hin0, hA, rfl, hrv⟩ := h
  intro H locs ls hP hD hS hl
  have hG : GoodIn gWs (wsS own idx y (gx_Ws y bytes maxL (some .boolean))) := gWs_self (fun w hw => by
    simp only [wsS, gx_Ws, List.cons_append, List.nil_append, List.mem_cons] at hw
    rcases hw with rfl | rfl | rfl | rfl | hw
    · exact k1
    · exact k2
    · exact k4
    · exact k5
    · exact hw)
  have hrun := va_runS (l := l) (R := { frames := fr, cells := mc, slots := ms, locals := lo }) (below := below) (meth := meth) (e := e) (locs := locs) (cells := cells) (slots := slots) (g := F0 m pc ls st) (As := []) (rest := st) ⟨hx, hb, hml, hown, hts⟩ (hM H.size) (cwS 0 hts hG rfl rfl rfl hy hR) ⟨(fun _ _ _ _ q => ⟨q.1, q.2.1, q.2.2.calling⟩ : FrameBlind (va_Pc [] (fun U => U.heap.size = H.size ∧ gz_S D cI cT U))), fun U hU hW => ⟨rfl, by rw [hU], hSs.warm hW⟩⟩ rfl rfl hl.1 rfl (lv_room (pc := pc) (m := m) (ls := ls) (rest := st) hst) d hf
  refine va_calli (post := fun r (_ : Unit) => r = 1) (B := fun _ _ => True) (A1 := fun q => H.size ≤ q) (a := ([] : List Value).toArray) hrun hS (fun q h1 h2 => absurd h1 (Nat.not_lt.mpr h2)) (fun q hq => hA q (Nat.le_trans hS.1 hq)) (fun r u t H1 locs1 ht hvm hw hB hz1 hk1 hS1 => ?_)
  rw [hw]
  have hk : ∀ (k : Nat) (x : Nat × va_E), ws[k]? = some x → H1[x.1]? = H[x.1]? := fun k x hx => hk1 x.1 ((hP k x hx).lt) (Nat.not_le.mpr ((hP k x hx).lt))
  exact kk H1 locs1 ls (hP.kept hk) hD hS1 hl
theorem gz_none {l : Launch} {own : String} {cc : ByteArray} {nL fr lo mc ms : Nat} {D : va_G} {cI cT : ClassId} {Post : va_W → Prop} {K : gz_KT} {pc cells slots : Nat} {ws : va_W} {L : List (Nat × Value)} {st : List Value} (h : gz_K l own cc nL fr lo mc ms D cI cT Post K) (kk : K [] pc L st cells slots) : K ws pc L st cells slots := by
  obtain ⟨p, e, s, m, args, below, meth, c0, Q, A0, hx, hb, hml, hown, hts, hSs, hin0, hA, rfl, hrv⟩ := h
  intro H locs ls hP hD hS hl
  exact kk H locs ls (fun k q h => by simp at h) ⟨fun i j p q h => by simp at h, fun k q h => by simp at h⟩ hS hl
theorem gz_subL {l : Launch} {own : String} {cc : ByteArray} {nL fr lo mc ms : Nat} {D : va_G} {cI cT : ClassId} {Post : va_W → Prop} {K : gz_KT} {pc cells slots : Nat} {ws : va_W} {L L' : List (Nat × Value)} {st : List Value} (h : gz_K l own cc nL fr lo mc ms D cI cT Post K) (ks : List Nat) (hL : lv_pick L ks = L') (kk : K ws pc L' st cells slots) : K ws pc L st cells slots := by
  obtain ⟨p, e, s, m, args, below, meth, c0, Q, A0, hx, hb, hml, hown, hts, hSs, hin0, hA, rfl, hrv⟩ := h
  intro H locs ls hP hD hS hl
  exact kk H locs ls hP hD hS (lv_sub hl ks hL)
/-- from the list of cells to a layout, in a method that answers 1 -/
theorem gz_toG {l : Launch} {own : String} {cc : ByteArray} {nL fr lo mc ms : Nat} {D : va_G} {cI cT : ClassId} {Post : va_W → Prop} {K : gz_KT} {pc cells slots : Nat} {L : List (Nat × Value)} {st : List Value} (h : gz_K l own cc nL fr lo mc ms D cI cT Post K) {Y : gx_Y} {μ : gx_M} (hY : gy_D Y = D ∧ gy_I Y = cI ∧ gy_T Y = cT) (hcs : cells ≤ mc) (hss : slots ≤ ms) (hret : ∀ (ws : va_W) (pc : Nat) (L : List (Nat × Value)), decode cc pc = .ok (.ireturn, 1) → K ws pc L [.int 1] cells slots)
    (kk : ∀ K' : gx_KT, gx_K l own cc nL fr lo (some .boolean) Y (fun v _ => v = .int 1) K' → (∀ (μ : gx_M) (pc : Nat) (L : List (Nat × Value)) (st : List Value), K (gx_ws Y μ) pc L st cells slots → K' μ pc L st) → K' μ pc L st) : K (gx_ws Y μ) pc L st cells slots := by
  obtain ⟨p, e, s, m, args, below, meth, c0, Q, A0, hx, hb, hml, hown, hts, hSs, hin0, hA, rfl, hrv⟩ := h
  obtain ⟨rfl, rfl, rfl⟩ := hY
  intro H locs ls hP hD hS hl
  obtain ⟨hI, hA1⟩ := gx_Inj_of hD
  refine kk _ ⟨p, e, s, m, args, below, meth, c0, Q, A0, cells, slots, mc, ms, hx, hb, hml, hown, hts, hSs.1, hI, hSs.2.1, hA1, hcs, hss, rfl, ?_, (fun _ _ _ h => nomatch h), (fun _ _ _ _ h => nomatch h)⟩ ?_ H locs ls hP hS hl
  · intro μ1 pc1 L1 v ty _ _ d1 hv H1 locs1 ls1 hP1 hS1 hl1
    cases hv
    exact hret (gx_ws Y μ1) pc1 L1 d1 H1 locs1 ls1 hP1 (gx_D hI hA1) hS1 hl1
  · intro μ1 pc1 L1 st1 hk H1 locs1 ls1 hP1 hS1 hl1
    exact hk H1 locs1 ls1 hP1 (gx_D hI hA1) hS1 hl1
