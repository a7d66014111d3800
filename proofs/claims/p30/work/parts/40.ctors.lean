/-! ===== constructors: a judgement over lists of cells, to which new ones come ===== -/
def gz_nest : List Cond := [.methodLinkNest RX4 11 yX0_init RX6, .methodLinkNest RX4 20 yX2_init RX6, .methodLinkNest RX6 28 yX5_init RX6]
theorem gz_nest_warm {s U : State} (hW : s.WarmedH U.vm) (h : ∀ w ∈ gz_nest, va_Nw w s) : ∀ w ∈ gz_nest, va_Nw w U := by
  intro w hw
  have h1 := h w hw
  simp only [gz_nest, List.mem_cons, List.not_mem_nil, or_false] at hw
  rcases hw with rfl | rfl | rfl
  · exact va_Nw.warmM hW h1
  · exact va_Nw.warmM hW h1
  · exact va_Nw.warmM hW h1
theorem gz_nest_on : ∀ w ∈ gz_nest, w.onTables = true := by
  intro w hw
  simp only [gz_nest, List.mem_cons, List.not_mem_nil, or_false] at hw
  rcases hw with rfl | rfl | rfl <;> rfl
def gz_ty (D : va_G) (cI cT : ClassId) : List (ClassId × FieldType) := [(cI, .int), (cT, .object RX4), (D.1 50, .long)]
/-- what holds of the tables, at every state -/
def gz_S (D : va_G) (cI cT : ClassId) (U : State) : Prop := va_K D vwCl (gz_ty D cI cT) U ∧ (∀ w ∈ gx_nest, va_Nw w U) ∧ (∀ w ∈ gz_nest, va_Nw w U) ∧ va_AO RX4 U
theorem gz_S.warm {D : va_G} {cI cT : ClassId} {s U : State} (hW : s.WarmedH U.vm) (h : gz_S D cI cT s) : gz_S D cI cT U := ⟨va_K.moved hW.alike h.1, gx_nest_warm hW h.2.1, gz_nest_warm hW h.2.2.1, va_AO.moved hW.alike h.2.2.2⟩
theorem gz_S.calling {D : va_G} {cI cT : ClassId} {U : State} {g : JFrame} {mk : MethodId} {a : Array Value} (h : gz_S D cI cT U) : gz_S D cI cT (U.calling g mk a) :=
  ⟨va_K.moved (u := U) (U := U.calling g mk a) (Vm.Alike.refl U.vm) h.1, fun w hw => va_Nw.same (gx_nest_on w hw) (rfl : U.vm = (U.calling g mk a).vm) (h.2.1 w hw), fun w hw => va_Nw.same (gz_nest_on w hw) (rfl : U.vm = (U.calling g mk a).vm) (h.2.2.1 w hw), va_AO.moved (u := U) (U := U.calling g mk a) (Vm.Alike.refl U.vm) h.2.2.2⟩
/-- the class of an array is one: by its name -/
theorem gz_one {D : va_G} {cI cT cA : ClassId} {U : State} (h : va_K D vwCl (gz_ty D cI cT ++ [(cA, .int)]) U) : cA = cI := by
  have h1 : U.vm.findClass ("[" ++ FieldType.int.toString) = some cI := (h.2 0 (cI, .int) rfl).2
  have h2 : U.vm.findClass ("[" ++ FieldType.int.toString) = some cA := (h.2 3 (cA, .int) rfl).2
  exact Option.some.inj (h2.symm.trans h1)
theorem gz_oneT {D : va_G} {cI cT cA : ClassId} {U : State} (h : va_K D vwCl (gz_ty D cI cT ++ [(cA, .object RX4)]) U) : cA = cT := by
  obtain ⟨_, _, _, _, _, h1⟩ := (h.2 1 (cT, .object RX4) rfl).2
  obtain ⟨_, _, _, _, _, h2⟩ := (h.2 3 (cA, .object RX4) rfl).2
  exact Option.some.inj (h2.symm.trans h1)
theorem gz_oneJ {D : va_G} {cI cT cA : ClassId} {U : State} (h : va_K D vwCl (gz_ty D cI cT ++ [(cA, .long)]) U) : cA = D.1 50 := by
  have h1 : U.vm.findClass ("[" ++ FieldType.long.toString) = some (D.1 50) := (h.2 2 (D.1 50, .long) rfl).2
  have h2 : U.vm.findClass ("[" ++ FieldType.long.toString) = some cA := (h.2 3 (cA, .long) rfl).2
  exact Option.some.inj (h2.symm.trans h1)
def gz_Pre (D : va_G) (cI cT : ClassId) (h0 sz ci : Nat) (fs0 : List Value) (U : State) : Prop := U.heap.size = sz ∧ va_P D vwCl [(h0, .inr (ci, fs0))] U.heap ∧ gz_S D cI cT U
abbrev gz_A (h0 sz ci : Nat) (fs0 : List Value) : Nat → Prop := va_A [(h0, .inr (ci, fs0))] sz
/-- a constructor's contract: of its object's cell it makes the cells ws, of which R says what they are -/
def gz_Con (l : Launch) (y : MethodName) (cc : ByteArray) (nL fr lo mc ms : Nat) (D : va_G) (cI cT : ClassId) (As : List Value) (ci : Nat) (fs0 : List Value) (R : Nat → va_W → Prop) : Prop :=
  ∀ h0 sz : Nat, Met l y (gx_Ws y cc nL none) { frames := fr, cells := mc, slots := ms, locals := lo } (va_Pc (.ref h0 :: As) (gz_Pre D cI cT h0 sz ci fs0))
    (va_Qv (fun ws : va_W => R h0 ws) (fun ws t => va_P D vwCl ws t.heap ∧ va_D (gz_A h0 sz ci fs0) ws) (gz_A h0 sz ci fs0)) mc ms (gz_A h0 sz ci fs0)
abbrev gz_KT : Type := va_W → Nat → List (Nat × Value) → List Value → Nat → Nat → Prop
def gz_K (l : Launch) (own : String) (cc : ByteArray) (nL fr lo mc ms : Nat) (D : va_G) (cI cT : ClassId) (Post : va_W → Prop) (K : gz_KT) : Prop :=
  ∃ (p : Program) (e : Env) (s : State) (m : MethodId) (args : Array Value) (below : List Frame) (meth : Method) (c : Code) (Q : State → Prop) (A0 : Nat → Prop),
    p.tables.exec = Jvm.exec ∧ c.code = cc ∧ c.maxLocals = nL ∧ s.vm.findClass own = some m.cls ∧ (∀ w ∈ gWs, w.before args s = true) ∧ gz_S D cI cT s ∧ (own = RL ∨ meth.name = "<init>") ∧ (∀ q, s.heap.size ≤ q → A0 q) ∧
    K = (fun ws pc L st cells slots => ∀ (H : Heap) (locs : List Loc) (ls : Array Slot), va_P D vwCl ws H → va_D A0 ws → va_S A0 s.heap H locs → lv_has ls nL L → W p l e { frames := fr, cells := mc, slots := ms, locals := lo } s m args below meth c H locs cells slots Q (F0 m pc ls st)) ∧
    (∀ (ws : va_W) (pc : Nat) (L : List (Nat × Value)), decode cc pc = .ok (.return_, 1) → Post ws → K ws pc L [] mc ms)
theorem gz_Con_of {l : Launch} {own name desc : String} {cc : ByteArray} {nL fr lo mc ms : Nat} {D : va_G} {cI cT : ClassId} {As : List Value} {ci : Nat} {fs0 : List Value} {R : Nat → va_W → Prop} (hp : plainName own = true) (hnm : name = "<init>")
    (body : ∀ (h0 : Nat) (K : gz_KT), gz_K l own cc nL fr lo mc ms D cI cT (R h0) K → (lg_sl (.ref h0 :: As)).length ≤ nL ∧ K [(h0, .inr (ci, fs0))] 0 (lv_args 0 (.ref h0 :: As)) [] 0 0) : gz_Con l ⟨own, name, desc⟩ cc nL fr lo mc ms D cI cT As ci fs0 R := by
  intro h0 sz
  refine Met.ofW (cc := cc) (maxL := nL) (ret := none) hp rfl ?_
  intro p e s m args below meth c s₁ B hml hv
  obtain ⟨rfl, rfl, hP, hSs⟩ := hv
  have hts0 := atoms_spec (ws := gx_Ws ⟨own, name, desc⟩ cc nL none) B.pre
  have hts : ∀ w ∈ gWs, w.before (Value.ref h0 :: As).toArray s = true := fun w hw => hts0 w (List.mem_cons_of_mem _ hw)
  have hown : s.vm.findClass own = some m.cls := findClass_of_methodNamed B.named
  have hin : meth.name = "<init>" := by rw [← hnm]; exact (name_of_methodNamed B.named B.method).1
  have hx := B.exec
  have hb := B.bytes
  have hr := B.returns
  have hlocks := B.notSynchronized
  have hD0 : va_D (gz_A h0 s.heap.size ci fs0) [(h0, .inr (ci, fs0))] := ⟨fun i j p q hi hj _ => by
    have h1 := (List.getElem?_eq_some_iff.mp hi).1
    have h2 := (List.getElem?_eq_some_iff.mp hj).1
    simp at h1 h2
    omega, fun k q hk => va_A.in hk⟩
  rw [lg_entry_eq]
  obtain ⟨hsz, hb0⟩ := body h0 _ ⟨p, e, s, m, (Value.ref h0 :: As).toArray, below, meth, c, MQ below (va_Qv (fun ws : va_W => R h0 ws) (fun ws t => va_P D vwCl ws t.heap ∧ va_D (gz_A h0 s.heap.size ci fs0) ws) (gz_A h0 s.heap.size ci fs0)) (Value.ref h0 :: As).toArray s mc ms (gz_A h0 s.heap.size ci fs0), gz_A h0 s.heap.size ci fs0, hx, hb, hml, hown, hts, hSs, Or.inr hin, fun q h => Or.inr h, rfl, by
    intro ws pc L d hR H locs ls hP1 hD1 hS1 hl1
    exact W.vret hx hb hr (fun t ht hW => ⟨⟨ws, rfl, hR, by rw [ht]; exact hP1, hD1⟩, hS1.F ht⟩) hS1.2.2 d⟩
  have hl := lv_entry (.ref h0 :: As) (n := nL) hsz
  exact hb0 s.heap [] _ hP hD0 va_S.rf hl
section GZR
variable {l : Launch} {own : String} {cc : ByteArray} {nL fr lo mc ms : Nat} {D : va_G} {cI cT : ClassId} {Post : va_W → Prop} {K : gz_KT} {pc cells slots : Nat} {ws ws' : va_W} {L L' : List (Nat × Value)} {st : List Value}
theorem gz_objInit (h : gz_K l own cc nL fr lo mc ms D cI cT Post K) {idx : Nat} {x : Nat} (k1 : Cond.methodLink own idx objectInit ∈ gWs) (d : decode cc pc = .ok (.invokespecial idx, 3)) (hfr : 1 ≤ fr) (hlo : (st.map fun v => v.category).sum + 12 ≤ lo) (kk : K ws (pc + 3) L st cells slots) : K ws pc L (.ref x :: st) cells slots := by
  obtain ⟨p, e, s, m, args, below, meth, c0, Q, A0, hx, hb, hml, hown, hts, hSs, hin0, hA, rfl, hrv⟩ := h
  intro H locs ls hP hD hS hl
  refine W.objInit hx hb hown (hts _ k1) (hts _ kw_im_obj) (hts _ kw_co_obj) rfl (by rw [hml]; exact hl.1) rfl d hfr (by simpa [JFrame.monitorRoom] using hlo) ?_
  exact kk H locs ls hP hD hS hl
theorem gz_iconst (h : gz_K l own cc nL fr lo mc ms D cI cT Post K) {n : Int} {v : Int32} (d : decode cc pc = .ok (.iconst n, 1)) (hv : Int32.ofInt n = v) (kk : K ws (pc + 1) L (.int v :: st) cells slots) : K ws pc L st cells slots := by
  obtain ⟨p, e, s, m, args, below, meth, c0, Q, A0, hx, hb, hml, hown, hts, hSs, hin0, hA, rfl, hrv⟩ := h
  intro H locs ls hP hD hS hl
  exact lv_iconst hx hb d hv (kk H locs ls hP hD hS hl)
theorem gz_bipush (h : gz_K l own cc nL fr lo mc ms D cI cT Post K) {n : Int} {v : Int32} (d : decode cc pc = .ok (.bipush n, 2)) (hv : (Int8.ofInt n).toInt32 = v) (kk : K ws (pc + 2) L (.int v :: st) cells slots) : K ws pc L st cells slots := by
  obtain ⟨p, e, s, m, args, below, meth, c0, Q, A0, hx, hb, hml, hown, hts, hSs, hin0, hA, rfl, hrv⟩ := h
  intro H locs ls hP hD hS hl
  exact lv_bipush hx hb d hv (kk H locs ls hP hD hS hl)
theorem gz_sipush (h : gz_K l own cc nL fr lo mc ms D cI cT Post K) {n : Int} {v : Int32} (d : decode cc pc = .ok (.sipush n, 3)) (hv : (Int16.ofInt n).toInt32 = v) (kk : K ws (pc + 3) L (.int v :: st) cells slots) : K ws pc L st cells slots := by
  obtain ⟨p, e, s, m, args, below, meth, c0, Q, A0, hx, hb, hml, hown, hts, hSs, hin0, hA, rfl, hrv⟩ := h
  intro H locs ls hP hD hS hl
  exact lv_sipush hx hb d hv (kk H locs ls hP hD hS hl)
theorem gz_iload_n (h : gz_K l own cc nL fr lo mc ms D cI cT Post K) {k : Fin 4} {i : Nat} {x : Int32} (j : Nat) (d : decode cc pc = .ok (.iload_n k, 1)) (hj : L[j]? = some (i, .int x)) (hi : (k : Nat) = i) (kk : K ws (pc + 1) L (.int x :: st) cells slots) : K ws pc L st cells slots := by
  obtain ⟨p, e, s, m, args, below, meth, c0, Q, A0, hx, hb, hml, hown, hts, hSs, hin0, hA, rfl, hrv⟩ := h
  intro H locs ls hP hD hS hl
  exact lv_iload_n hx hb d hi (lv_at hl j hj) (kk H locs ls hP hD hS hl)
theorem gz_aload_n (h : gz_K l own cc nL fr lo mc ms D cI cT Post K) {k : Fin 4} {i : Nat} {x : Nat} (j : Nat) (d : decode cc pc = .ok (.aload_n k, 1)) (hj : L[j]? = some (i, .ref x)) (hi : (k : Nat) = i) (kk : K ws (pc + 1) L (.ref x :: st) cells slots) : K ws pc L st cells slots := by
  obtain ⟨p, e, s, m, args, below, meth, c0, Q, A0, hx, hb, hml, hown, hts, hSs, hin0, hA, rfl, hrv⟩ := h
  intro H locs ls hP hD hS hl
  exact lv_aload_n hx hb d hi (lv_at hl j hj) (kk H locs ls hP hD hS hl)
theorem gz_istore_n (h : gz_K l own cc nL fr lo mc ms D cI cT Post K) {k : Fin 4} {i : Nat} {x : Int32} (d : decode cc pc = .ok (.istore_n k, 1)) (hi : (k : Nat) = i) (hn : i < nL) (hL : (i, Value.int x) :: L.filter (fun q => !(q.1 == i) && !(q.1 + 1 == i && q.2.category == 2)) = L') (kk : K ws (pc + 1) L' st cells slots) : K ws pc L (.int x :: st) cells slots := by
  obtain ⟨p, e, s, m, args, below, meth, c0, Q, A0, hx, hb, hml, hown, hts, hSs, hin0, hA, rfl, hrv⟩ := h
  intro H locs ls hP hD hS hl
  exact lv_istore_n hx hb d hi hl hn hL (fun ls1 hl1 => kk H locs ls1 hP hD hS hl1)
theorem gz_astore_n (h : gz_K l own cc nL fr lo mc ms D cI cT Post K) {k : Fin 4} {i : Nat} {x : Nat} (d : decode cc pc = .ok (.astore_n k, 1)) (hi : (k : Nat) = i) (hn : i < nL) (hL : (i, Value.ref x) :: L.filter (fun q => !(q.1 == i) && !(q.1 + 1 == i && q.2.category == 2)) = L') (kk : K ws (pc + 1) L' st cells slots) : K ws pc L (.ref x :: st) cells slots := by
  obtain ⟨p, e, s, m, args, below, meth, c0, Q, A0, hx, hb, hml, hown, hts, hSs, hin0, hA, rfl, hrv⟩ := h
  intro H locs ls hP hD hS hl
  exact lv_astore_n hx hb d hi hl hn hL (fun ls1 hl1 => kk H locs ls1 hP hD hS hl1)
theorem gz_iinc (h : gz_K l own cc nL fr lo mc ms D cI cT Post K) {i : Nat} {n : Int} {x v : Int32} (j : Nat) (d : decode cc pc = .ok (.iinc i n, 3)) (hj : L[j]? = some (i, .int x)) (hv : x + Int32.ofInt n = v) (hn : i < nL) (hL : (i, Value.int v) :: L.filter (fun q => !(q.1 == i) && !(q.1 + 1 == i && q.2.category == 2)) = L') (kk : K ws (pc + 3) L' st cells slots) : K ws pc L st cells slots := by
  obtain ⟨p, e, s, m, args, below, meth, c0, Q, A0, hx, hb, hml, hown, hts, hSs, hin0, hA, rfl, hrv⟩ := h
  intro H locs ls hP hD hS hl
  exact lv_iinc hx hb d hl hj hv hn hL (fun ls1 hl1 => kk H locs ls1 hP hD hS hl1)
theorem gz_dup (h : gz_K l own cc nL fr lo mc ms D cI cT Post K) {x : Value} (d : decode cc pc = .ok (.dup, 1)) (hv : x.category = 1) (kk : K ws (pc + 1) L (x :: x :: st) cells slots) : K ws pc L (x :: st) cells slots := by
  obtain ⟨p, e, s, m, args, below, meth, c0, Q, A0, hx, hb, hml, hown, hts, hSs, hin0, hA, rfl, hrv⟩ := h
  intro H locs ls hP hD hS hl
  exact lv_dup hx hb d hv (kk H locs ls hP hD hS hl)
theorem gz_goto (h : gz_K l own cc nL fr lo mc ms D cI cT Post K) {off : Int} {tgt : Nat} (d : decode cc pc = .ok (.goto off, 3)) (ht : (pc : Int) + off = (tgt : Int)) (kk : K ws tgt L st cells slots) : K ws pc L st cells slots := by
  obtain ⟨p, e, s, m, args, below, meth, c0, Q, A0, hx, hb, hml, hown, hts, hSs, hin0, hA, rfl, hrv⟩ := h
  intro H locs ls hP hD hS hl
  exact lv_goto hx hb d ht (kk H locs ls hP hD hS hl)
theorem gz_icmp_ge (h : gz_K l own cc nL fr lo mc ms D cI cT Post K) {x y : Int32} {off : Int} {tgt : Nat} (d : decode cc pc = .ok (.if_icmp .ge off, 3)) (ht : (pc : Int) + off = (tgt : Int)) (kt : y ≤ x → K ws tgt L st cells slots) (kf : ¬ y ≤ x → K ws (pc + 3) L st cells slots) : K ws pc L (.int y :: .int x :: st) cells slots := by
  obtain ⟨p, e, s, m, args, below, meth, c0, Q, A0, hx, hb, hml, hown, hts, hSs, hin0, hA, rfl, hrv⟩ := h
  intro H locs ls hP hD hS hl
  exact lv_icmp_ge hx hb d ht (fun q => kt q H locs ls hP hD hS hl) (fun q => kf q H locs ls hP hD hS hl)
theorem gz_mmax (h : gz_K l own cc nL fr lo mc ms D cI cT Post K) {idx : Nat} {x y : Int32} (k1 : Cond.methodLink own idx Lib.Math.max.name ∈ gWs) (d : decode cc pc = .ok (.invokestatic idx, 3)) (hfr : 1 ≤ fr) (hlo : (st.map fun v => v.category).sum + 13 ≤ lo) (hcs : cells ≤ mc) (hss : slots ≤ ms) (kk : K ws (pc + 3) L (.int (if x < y then y else x) :: st) cells slots) : K ws pc L (.int y :: .int x :: st) cells slots := by
  obtain ⟨p, e, s, m, args, below, meth, c0, Q, A0, hx, hb, hml, hown, hts, hSs, hin0, hA, rfl, hrv⟩ := h
  intro H locs ls hP hD hS hl
  exact va_mmax hx hb (hml.trans hl.1.symm) hown (hts _ k1) (hts _ kw_st_max) (hts _ kw_in_RJ9) (hts _ kw_co_max) hfr hlo hcs hss d (kk H locs ls hP hD hS hl)
theorem gz_new (h : gz_K l own cc nL fr lo mc ms D cI cT Post K) {idx N ci : Nat} {C : String} {T : u_T} {fs : List Value} (hin : ∀ w ∈ u_ws C T N, w ∈ gWs) (ty : Nat → FieldType) (hty : ∀ k, k < N → parseFieldDescriptor (T k).2.2.1 = some (ty k)) (k1 : Cond.classLink own idx C ∈ gWs) (k2 : Cond.instantiable C N ∈ gWs) (k3 : Cond.initialized C ∈ gWs) (hcl : vwCl[ci]? = some (C, T, N)) (hfs : ∀ j, j < N → defaultValue (ty j) = vp_V fs j) (hcs : cells + 1 ≤ mc) (hss : slots + N ≤ ms) (d : decode cc pc = .ok (.new idx, 3)) (kk : ∀ q, K (ws ++ [(q, .inr (ci, fs))]) (pc + 3) L (.ref q :: st) (cells + 1) (slots + N)) : K ws pc L st cells slots := by
  obtain ⟨p, e, s, m, args, below, meth, c0, Q, A0, hx, hb, hml, hown, hts, hSs, hin0, hA, rfl, hrv⟩ := h
  intro H locs ls hP hD hS hl
  exact va_new hx hb hts hin ty hty hown (hts _ k1) (hts _ k2) (hts _ k3) hSs.1 hP hD hS hA hcl hfs hcs hss d (fun q H1 hP1 hD1 hS1 => kk q H1 locs ls hP1 hD1 hS1 hl)
theorem gz_newa (h : gz_K l own cc nL fr lo mc ms D cI cT Post K) {n : Int32} {N : Nat} (hn : ¬ n < 0) (hN : n.toNatClampNeg = N) (hby : N * 4 ≤ 536870912) (hcs : cells + 1 ≤ mc) (hss : slots + N ≤ ms) (d : decode cc pc = .ok (.newarray .int, 2)) (kk : ∀ q, K (ws ++ [(q, .inl (cI, (N, .inl (fun _ => 0))))]) (pc + 2) L (.ref q :: st) (cells + 1) (slots + N)) : K ws pc L (.int n :: st) cells slots := by
  obtain ⟨p, e, s, m, args, below, meth, c0, Q, A0, hx, hb, hml, hown, hts, hSs, hin0, hA, rfl, hrv⟩ := h
  intro H locs ls hP hD hS hl
  refine va_newa (atype := .int) (ty := .int) (a0 := (N, .inl (fun _ => 0))) hx hb (hts _ kw_ac_int) rfl hSs.1 hP hD hS hA (fun cA => rfl) hn hN hby hcs hss d (fun q cA H1 hK1 hP1 hD1 hS1 => ?_)
  have e1 := gz_one hK1
  subst e1
  exact kk q H1 locs ls hP1 hD1 hS1 hl
theorem gz_newq (h : gz_K l own cc nL fr lo mc ms D cI cT Post K) {n : Int32} {N idx : Nat} (k1 : Cond.classLink own idx RX4 ∈ gWs) (hn : ¬ n < 0) (hN : n.toNatClampNeg = N) (hby : N * 4 ≤ 536870912) (hcs : cells + 1 ≤ mc) (hss : slots + N ≤ ms) (d : decode cc pc = .ok (.anewarray idx, 3)) (kk : ∀ q, K (ws ++ [(q, .inl (cT, (N, .inr (.inr (.inr (.inr (fun _ => none)))))))]) (pc + 3) L (.ref q :: st) (cells + 1) (slots + N)) : K ws pc L (.int n :: st) cells slots := by
  obtain ⟨p, e, s, m, args, below, meth, c0, Q, A0, hx, hb, hml, hown, hts, hSs, hin0, hA, rfl, hrv⟩ := h
  intro H locs ls hP hD hS hl
  refine va_newq (C := RX4) hx hb hown (hts _ k1) hSs.2.2.2 hSs.1 hP hD hS hA hn hN hby hcs hss d (fun q cA H1 hK1 hP1 hD1 hS1 => ?_)
  have e1 := gz_oneT hK1
  subst e1
  exact kk q H1 locs ls hP1 hD1 hS1 hl
theorem gz_get (h : gz_K l own cc nL fr lo mc ms D cI cT Post K) {ci idx a : Nat} (q0 k : Nat) {C : String} {T : u_T} {N : Nat} {fs : List Value} {v : Value} (he : ws[q0]? = some (a, .inr (ci, fs))) (hcl : vwCl[ci]? = some (C, T, N)) (hin : ∀ w ∈ u_ws C T N, w ∈ gWs) (hkN : k < N) (hl9 : Cond.fieldLink own idx (T k).1 (T k).2.1 (T k).2.2.1 ∈ gWs) (hv : fs[k]? = some v) (d : decode cc pc = .ok (.getfield idx, 3)) (kk : K ws (pc + 3) L (v :: st) cells slots) : K ws pc L (.ref a :: st) cells slots := by
  obtain ⟨p, e, s, m, args, below, meth, c0, Q, A0, hx, hb, hml, hown, hts, hSs, hin0, hA, rfl, hrv⟩ := h
  intro H locs ls hP hD hS hl
  exact va_get hx hb hts hin hown hSs.1 hP q0 he hcl k hkN (hts _ hl9) (fun _ h9 => h9) hv d (kk H locs ls hP hD hS hl)
theorem gz_put (h : gz_K l own cc nL fr lo mc ms D cI cT Post K) {ci idx a : Nat} (q0 k : Nat) {C : String} {T : u_T} {N : Nat} {fs : List Value} {v : Value} (he : ws[q0]? = some (a, .inr (ci, fs))) (hcl : vwCl[ci]? = some (C, T, N)) (hin : ∀ w ∈ u_ws C T N, w ∈ gWs) (hkN : k < N) (hl9 : Cond.fieldLink own idx (T k).1 (T k).2.1 (T k).2.2.1 ∈ gWs) (ty0 : Nat → FieldType) (hty : ∀ k, k < N → parseFieldDescriptor (T k).2.2.1 = some (ty0 k)) (hnm : ∀ a, a < N → ∀ b, b < N → a ≠ b → (T a).2.1 ≠ (T b).2.1) {ty : FieldType} (hd9 : parseFieldDescriptor (T k).2.2.1 = some ty) (hn9 : narrow ty v = v) (hft : fits ty v = true) (hlf : k < fs.length) (hws : ws.set q0 (a, .inr (ci, fs.set k v)) = ws') (hfin : (T k).2.2.2 = false) (d : decode cc pc = .ok (.putfield idx, 3)) (kk : K ws' (pc + 3) L st cells slots) : K ws pc L (v :: .ref a :: st) cells slots := by
  obtain ⟨p, e, s, m, args, below, meth, c0, Q, A0, hx, hb, hml, hown, hts, hSs, hin0, hA, rfl, hrv⟩ := h
  intro H locs ls hP hD hS hl
  subst hws
  exact va_put hx hb hts hin ty0 hty hnm hown hSs.1 hP hD hS q0 he hcl k hkN (hts _ hl9) (fun _ h9 => h9) hfin hd9 hn9 hft hlf d (fun H1 locs1 hP1 hD1 hS1 => kk H1 locs1 ls hP1 hD1 hS1 hl)
theorem gz_putF (h : gz_K l own cc nL fr lo mc ms D cI cT Post K) {ci idx a : Nat} (q0 k : Nat) {C : String} {T : u_T} {N : Nat} {fs : List Value} {v : Value} (he : ws[q0]? = some (a, .inr (ci, fs))) (hcl : vwCl[ci]? = some (C, T, N)) (hin : ∀ w ∈ u_ws C T N, w ∈ gWs) (hkN : k < N) (hl9 : Cond.fieldLink own idx (T k).1 (T k).2.1 (T k).2.2.1 ∈ gWs) (ty0 : Nat → FieldType) (hty : ∀ k, k < N → parseFieldDescriptor (T k).2.2.1 = some (ty0 k)) (hnm : ∀ a, a < N → ∀ b, b < N → a ≠ b → (T a).2.1 ≠ (T b).2.1) {ty : FieldType} (hd9 : parseFieldDescriptor (T k).2.2.1 = some ty) (hn9 : narrow ty v = v) (hft : fits ty v = true) (hlf : k < fs.length) (hws : ws.set q0 (a, .inr (ci, fs.set k v)) = ws') (hfin : (T k).2.2.2 = true) (hdc : (T k).1 = own) (hnl : ¬ own = RL) (d : decode cc pc = .ok (.putfield idx, 3)) (kk : K ws' (pc + 3) L st cells slots) : K ws pc L (v :: .ref a :: st) cells slots := by
  obtain ⟨p, e, s, m, args, below, meth, c0, Q, A0, hx, hb, hml, hown, hts, hSs, hin0, hA, rfl, hrv⟩ := h
  intro H locs ls hP hD hS hl
  subst hws
  exact va_putF hx hb hts hin ty0 hty hnm hown hSs.1 hP hD hS q0 he hcl k hkN (hts _ hl9) (fun _ h9 => h9) hfin (hin0.resolve_left hnl) hdc hd9 hn9 hft hlf d (fun H1 locs1 hP1 hD1 hS1 => kk H1 locs1 ls hP1 hD1 hS1 hl)
theorem gz_alenT (h : gz_K l own cc nL fr lo mc ms D cI cT Post K) {a n : Nat} {f : Nat → Option Nat} {v : Int32} (q0 : Nat) (ha : ws[q0]? = some (a, .inl (cT, (n, .inr (.inr (.inr (.inr f))))))) (hv : Int32.ofNat n = v) (d : decode cc pc = .ok (.arraylength, 1)) (kk : K ws (pc + 1) L (.int v :: st) cells slots) : K ws pc L (.ref a :: st) cells slots := by
  obtain ⟨p, e, s, m, args, below, meth, c0, Q, A0, hx, hb, hml, hown, hts, hSs, hin0, hA, rfl, hrv⟩ := h
  intro H locs ls hP hD hS hl
  exact va_alen hx hb hSs.1 hP q0 1 ha rfl hv d (kk H locs ls hP hD hS hl)
theorem gz_astT (h : gz_K l own cc nL fr lo mc ms D cI cT Post K) {a n v : Nat} {i : Int32} {f : Nat → Option Nat} {vs : List Value} (q0 qk : Nat) (ha : ws[q0]? = some (a, .inl (cT, (n, .inr (.inr (.inr (.inr f))))))) (hv : ws[qk]? = some (v, .inr (4, vs))) (hi : vp_in i n) (hws : ws.set q0 (a, .inl (cT, (n, .inr (.inr (.inr (.inr (va_up f i.toNatClampNeg (some v)))))))) = ws') (d : decode cc pc = .ok (.aastore, 1)) (kk : K ws' (pc + 1) L st cells slots) : K ws pc L (.ref v :: .int i :: .ref a :: st) cells slots := by
  obtain ⟨p, e, s, m, args, below, meth, c0, Q, A0, hx, hb, hml, hown, hts, hSs, hin0, hA, rfl, hrv⟩ := h
  intro H locs ls hP hD hS hl
  subst hws
  exact va_astq (r := (RX4, TX4, 4)) hx hb hSs.1 hP hD hS q0 1 qk 4 ha rfl hv rfl hi d (fun H1 locs1 hP1 hD1 hS1 => kk H1 locs1 ls hP1 hD1 hS1 hl)
theorem gz_nd : ∀ (l : List Nat), l.Nodup → va_nd l = true
  | [], _ => rfl
  | a :: l, h => by
    have h1 := List.nodup_cons.mp h
    simp [va_nd, h1.1, gz_nd l h1.2]
theorem gz_rg (w : va_W) (x : Nat × va_E) : (List.range w.length).map (fun i => (w ++ [x])[i]?) = w.map some := by
  apply List.ext_getElem?
  intro i
  by_cases hi : i < w.length
  · simp [List.getElem?_range hi, List.getElem?_append_left hi, hi]
  · rw [List.getElem?_eq_none (by simp; omega), List.getElem?_eq_none (by simp; omega)]
theorem gz_last (w : va_W) (x : Nat × va_E) : [w.length].map (fun i => (w ++ [x])[i]?) = [x].map some := by simp
theorem gz_blind {D : va_G} {cI cT : ClassId} {h0 sz ci : Nat} {fs0 av : List Value} : FrameBlind (va_Pc av (gz_Pre D cI cT h0 sz ci fs0)) := fun _ _ _ _ q => ⟨q.1, q.2.1, q.2.2.1, q.2.2.2.calling⟩
theorem gz_init (h : gz_K l own cc nL fr lo mc ms D cI cT Post K) {idx : Nat} {y : MethodName} {bytes : ByteArray} {maxL frC loC mcC msC : Nat} {As : List Value} {h0 ci : Nat} {fs0 : List Value} {R : Nat → va_W → Prop} (hM : gz_Con l y bytes maxL frC loC mcC msC D cI cT As ci fs0 R) (hy1 : y.name = "<init>") (hy : y.cls ≠ "java/lang/invoke/MethodHandle" ∧ y.cls ≠ "java/lang/invoke/VarHandle" ∧ (parseMethodDescriptor y.desc).map (fun d => d.parameters.length) = some As.length) (k2 : Cond.instanceMethod y ∈ gWs) (k4 : Cond.initialized y.cls ∈ gWs) (k5 : Cond.code y bytes maxL none ∈ gWs) (hR : frC + 1 ≤ fr ∧ 8 + (maxL + 11) + loC ≤ lo) (hst : (st.map fun v => v.category).sum ≤ 8) (hf : cells + mcC ≤ mc ∧ slots + msC ≤ ms) (d : decode cc pc = .ok (.invokespecial idx, 3)) (kk : ∀ wn, R h0 wn → K (ws ++ wn) (pc + 3) L st (cells + mcC) (slots + msC)) (k1 : Cond.methodLink own idx y ∈ gWs) : K (ws ++ [(h0, .inr (ci, fs0))]) pc L (As.reverse ++ .ref h0 :: st) cells slots := by
  obtain ⟨p, e, s, m, args, below, meth, c0, Q, A0, hx, hb, hml, hown, hts, hSs, hin0, hA, rfl, hrv⟩ := h
  intro H locs ls hP hD hS hl
  have hG : GoodIn gWs (gx_Ws y bytes maxL none) := gWs_self (fun w hw => by
    rcases List.mem_cons.mp hw with rfl | hw
    · exact k5
    · exact hw)
  have hPc : va_P D vwCl [(h0, .inr (ci, fs0))] H := fun k q hq => by
    have hk : k = 0 := by have := (List.getElem?_eq_some_iff.mp hq).1; simp at this; omega
    subst hk
    exact hP ws.length q (by rw [List.getElem?_append_right (Nat.le_refl _), Nat.sub_self]; exact hq)
  have hFc := va_free (wc := [(h0, .inr (ci, fs0))]) hD hS hA [ws.length] (gz_last ws _)
  have hrun := va_runI (l := l) (R := { frames := fr, cells := mc, slots := ms, locals := lo }) (below := below) (meth := meth) (e := e) (locs := locs) (cells := cells) (slots := slots) (g := F0 m pc ls (As.reverse ++ .ref h0 :: st)) (As := As) (rest := st) ⟨hx, hb, hml, hown, hts⟩ (hM h0 H.size) (cwI As.length hts hG rfl rfl rfl (hts _ k4) (hts _ k1) (hts _ k2) hy1 hy hR) ⟨gz_blind, fun U hU hW => ⟨rfl, by rw [hU], by rw [hU]; exact hPc, hSs.warm hW⟩⟩ rfl rfl hl.1 rfl (lv_room (pc := pc) (m := m) (ls := ls) (rest := As.reverse ++ .ref h0 :: st) hst) d hf
  refine va_callv (post := fun ws : va_W => R h0 ws) (B := fun ws t => va_P D vwCl ws t.heap ∧ va_D (gz_A h0 H.size ci fs0) ws) (A1 := gz_A h0 H.size ci fs0) (a := (Value.ref h0 :: As).toArray) hrun hS (fun q _ hq => hFc q hq) hFc (fun u t H1 locs1 ht hvm hw hB hz1 hk1 hS1 => ?_)
  obtain ⟨hP1, hD1⟩ := hB
  rw [ht] at hP1
  obtain ⟨hP2, hD2⟩ := va_join (wr := ws) (w1 := u) hP hD [ws.length] (List.range ws.length) (gz_last ws _) (gz_rg ws _) (gz_nd _ List.nodup_range) (fun i hi => by simp at hi ⊢; omega) hk1 hFc hP1 hD1
  exact kk u hw H1 locs1 ls hP2 hD2 hS1 hl
theorem gz_initN (h : gz_K l own cc nL fr lo mc ms D cI cT Post K) {idx : Nat} {y : MethodName} {bytes : ByteArray} {maxL frC loC mcC msC : Nat} {As : List Value} {h0 ci : Nat} {fs0 : List Value} {R : Nat → va_W → Prop} (hM : gz_Con l y bytes maxL frC loC mcC msC D cI cT As ci fs0 R) (hy1 : y.name = "<init>") (hy : y.cls ≠ "java/lang/invoke/MethodHandle" ∧ y.cls ≠ "java/lang/invoke/VarHandle" ∧ (parseMethodDescriptor y.desc).map (fun d => d.parameters.length) = some As.length) (k2 : Cond.instanceMethod y ∈ gWs) (k4 : Cond.initialized y.cls ∈ gWs) (k5 : Cond.code y bytes maxL none ∈ gWs) (hR : frC + 1 ≤ fr ∧ 8 + (maxL + 11) + loC ≤ lo) (hst : (st.map fun v => v.category).sum ≤ 8) (hf : cells + mcC ≤ mc ∧ slots + msC ≤ ms) (d : decode cc pc = .ok (.invokespecial idx, 3)) (kk : ∀ wn, R h0 wn → K (ws ++ wn) (pc + 3) L st (cells + mcC) (slots + msC)) {host : String} (k1 : Cond.methodLinkNest own idx y host ∈ gz_nest) : K (ws ++ [(h0, .inr (ci, fs0))]) pc L (As.reverse ++ .ref h0 :: st) cells slots := by
  obtain ⟨p, e, s, m, args, below, meth, c0, Q, A0, hx, hb, hml, hown, hts, hSs, hin0, hA, rfl, hrv⟩ := h
  intro H locs ls hP hD hS hl
  have hG : GoodIn gWs (gx_Ws y bytes maxL none) := gWs_self (fun w hw => by
    rcases List.mem_cons.mp hw with rfl | hw
    · exact k5
    · exact hw)
  have hPc : va_P D vwCl [(h0, .inr (ci, fs0))] H := fun k q hq => by
    have hk : k = 0 := by have := (List.getElem?_eq_some_iff.mp hq).1; simp at this; omega
    subst hk
    exact hP ws.length q (by rw [List.getElem?_append_right (Nat.le_refl _), Nat.sub_self]; exact hq)
  have hFc := va_free (wc := [(h0, .inr (ci, fs0))]) hD hS hA [ws.length] (gz_last ws _)
  have hrun := va_runIN (l := l) (R := { frames := fr, cells := mc, slots := ms, locals := lo }) (below := below) (meth := meth) (e := e) (locs := locs) (cells := cells) (slots := slots) (g := F0 m pc ls (As.reverse ++ .ref h0 :: st)) (As := As) (rest := st) ⟨hx, hb, hml, hown, hts⟩ (hM h0 H.size) ⟨va_cnB As.length hts hG rfl rfl rfl (hSs.2.2.1 _ k1) (hts _ k4) hy hR, hy1, hts _ k2⟩ ⟨gz_blind, fun U hU hW => ⟨rfl, by rw [hU], by rw [hU]; exact hPc, hSs.warm hW⟩⟩ rfl rfl hl.1 rfl (lv_room (pc := pc) (m := m) (ls := ls) (rest := As.reverse ++ .ref h0 :: st) hst) d hf
  refine va_callv (post := fun ws : va_W => R h0 ws) (B := fun ws t => va_P D vwCl ws t.heap ∧ va_D (gz_A h0 H.size ci fs0) ws) (A1 := gz_A h0 H.size ci fs0) (a := (Value.ref h0 :: As).toArray) hrun hS (fun q _ hq => hFc q hq) hFc (fun u t H1 locs1 ht hvm hw hB hz1 hk1 hS1 => ?_)
  obtain ⟨hP1, hD1⟩ := hB
  rw [ht] at hP1
  obtain ⟨hP2, hD2⟩ := va_join (wr := ws) (w1 := u) hP hD [ws.length] (List.range ws.length) (gz_last ws _) (gz_rg ws _) (gz_nd _ List.nodup_range) (fun i hi => by simp at hi ⊢; omega) hk1 hFc hP1 hD1
  exact kk u hw H1 locs1 ls hP2 hD2 hS1 hl
theorem gz_ret (h : gz_K l own cc nL fr lo mc ms D cI cT Post K) (d : decode cc pc = .ok (.return_, 1)) (hp : Post ws) : K ws pc L [] mc ms := by
  obtain ⟨p, e, s, m, args, below, meth, c0, Q, A0, hx, hb, hml, hown, hts, hSs, hin0, hA, hKe, hrv⟩ := h
  exact hrv ws pc L d hp
/-- from the list of cells to a layout: the rest of the constructor is walked there -/
theorem gz_toK (h : gz_K l own cc nL fr lo mc ms D cI cT Post K) {Y : gx_Y} {μ : gx_M} (hY : gy_D Y = D ∧ gy_I Y = cI ∧ gy_T Y = cT) (kk : ∀ K' : gx_KT, gx_K l own cc nL fr lo none Y (fun _ m => Post (gx_ws Y m)) K' → K' μ pc L st) : K (gx_ws Y μ) pc L st mc ms := by
  obtain ⟨p, e, s, m, args, below, meth, c0, Q, A0, hx, hb, hml, hown, hts, hSs, hin0, hA, rfl, hrv⟩ := h
  obtain ⟨rfl, rfl, rfl⟩ := hY
  intro H locs ls hP hD hS hl
  obtain ⟨hI, hA1⟩ := gx_Inj_of hD
  refine kk _ ⟨p, e, s, m, args, below, meth, c0, Q, A0, mc, ms, mc, ms, hx, hb, hml, hown, hts, hSs.1, hI, hSs.2.1, hA1, Nat.le_refl _, Nat.le_refl _, rfl, (by intro _ _ _ _ _ hn; exact nomatch hn), ?_, (by intro _ _ _ _ hn; exact nomatch hn)⟩ H locs ls hP hS hl
  intro μ1 pc1 L1 _ d1 hp1 H1 locs1 ls1 hP1 hS1 hl1
  exact hrv (gx_ws Y μ1) pc1 L1 d1 hp1 H1 locs1 ls1 hP1 (gx_D hI hA1) hS1 hl1
end GZR
