/-! ===== the layer: every cell that changes is an int at a code; gx_K is the judgement over such a world ===== -/
abbrev gx_M : Type := Nat → Nat → Int32
def gx_r (μ : gx_M) (c : Nat) (f : Nat → Int32) : gx_M := fun a => if a = c then f else μ a
def gx_u (μ : gx_M) (c j : Nat) (v : Int32) : gx_M := gx_r μ c (upd (μ c) j v)
theorem gx_r_s (μ : gx_M) (c : Nat) (f : Nat → Int32) : gx_r μ c f c = f := by simp [gx_r]
theorem gx_r_n {μ : gx_M} {c a : Nat} {f : Nat → Int32} (h : a ≠ c) : gx_r μ c f a = μ a := by simp [gx_r, h]
theorem gx_u_s (μ : gx_M) (c j : Nat) (v : Int32) : gx_u μ c j v c = upd (μ c) j v := gx_r_s _ _ _
theorem gx_u_n {μ : gx_M} {c a j : Nat} {v : Int32} (h : a ≠ c) : gx_u μ c j v a = μ a := gx_r_n h
/-- a layout: how many codes, the kind of each, its address, the classes of int arrays and of the array of tables, the classes' numbers and slots -/
abbrev gx_Y : Type := Nat × Nat × (Nat → Nat) × (Nat → Nat) × ClassId × ClassId × va_G
def gy_o (Y : gx_Y) : Nat := Y.1
def gy_n (Y : gx_Y) : Nat := Y.2.1
def gy_k (Y : gx_Y) : Nat → Nat := Y.2.2.1
def gy_a (Y : gx_Y) : Nat → Nat := Y.2.2.2.1
def gy_I (Y : gx_Y) : ClassId := Y.2.2.2.2.1
def gy_T (Y : gx_Y) : ClassId := Y.2.2.2.2.2.1
def gy_D (Y : gx_Y) : va_G := Y.2.2.2.2.2.2
def gy_J (Y : gx_Y) : ClassId := (gy_D Y).1 50
abbrev gy_in (Y : gx_Y) (c : Nat) : Prop := gy_o Y ≤ c ∧ c < gy_o Y + gy_n Y
/-- a long out of two ints -/
def gx_lo (v : Int64) : Int32 := v.toInt32
def gx_hi (v : Int64) : Int32 := (v >>> 32).toInt32
def gx_l2 (a b : Int32) : Int64 := ⟨⟨b.toBitVec ++ a.toBitVec⟩⟩
theorem gx_l2_eq (v : Int64) : gx_l2 (gx_lo v) (gx_hi v) = v := by
  apply Int64.toBitVec_inj.mp
  show (gx_hi v).toBitVec ++ (gx_lo v).toBitVec = v.toBitVec
  unfold gx_hi gx_lo
  apply BitVec.eq_of_getLsbD_eq
  intro i hi
  rw [BitVec.getLsbD_append]
  by_cases h : i < 32
  · rw [if_pos h]
    show (BitVec.signExtend 32 v.toBitVec).getLsbD i = _
    rw [BitVec.getLsbD_signExtend]
    simp only [h, decide_true, Bool.true_and, if_pos (show i < 64 by omega)]
  · have e : (v >>> 32 : Int64).toBitVec = v.toBitVec.sshiftRight 32 := by
      rw [Int64.toBitVec_shiftRight]
      rfl
    rw [if_neg h]
    show (BitVec.signExtend 32 (v >>> 32 : Int64).toBitVec).getLsbD (i - 32) = _
    rw [e, BitVec.getLsbD_signExtend, BitVec.getLsbD_sshiftRight]
    simp only [show i - 32 < 32 by omega, show i - 32 < 64 by omega, show ¬ 64 ≤ i - 32 by omega, show 32 + (i - 32) = i by omega, show i < 64 by omega, decide_true, decide_false, Bool.true_and, Bool.not_false, if_true]
def gx_lng (f : Nat → Int32) : Nat → Int64 := fun i => gx_l2 (f (2 * i)) (f (2 * i + 1))
/-- kinds: 1 Table, 2 Bowls, 3 Piece, 4 Row, 5 Text, 6 History, 7 GlassBowls, 8 the reference, 9 the array of tables, 100 + n an int array of n -/
def gx_N : Nat → Nat
  | 1 => 4 | 2 => 10 | 3 => 6 | 4 => 1 | 5 => 8 | 6 => 3 | 7 => 4 | _ => 11
def gx_Ci : Nat → Nat
  | 1 => 4 | 2 => 0 | 3 => 2 | 4 => 3 | 5 => 5 | 6 => 1 | 7 => 6 | _ => 7
def gx_fld (kind : Nat) (ad : Nat → Nat) (c : Nat) (row : Nat → Int32) (k : Nat) : Value := match kind, k with
  | 1, 0 => .ref (ad (c + 1)) | 1, 1 => .ref (ad (c + 12)) | 1, 2 => .ref (ad (c + 23))
  | 2, 0 => .ref (ad (c + 1)) | 2, 1 => .ref (ad (c + 3)) | 2, 2 => .ref (ad (c + 5)) | 2, 3 => .ref (ad (c + 7)) | 2, 4 => .ref (ad (c + 9))
  | 3, 0 => .ref (ad (c + 1)) | 3, 1 => .ref (ad (c + 3)) | 3, 2 => .ref (ad (c + 5)) | 3, 3 => .ref (ad (c + 7)) | 3, 4 => .ref (ad (c + 9))
  | 4, 0 => .ref (ad (c + 1))
  | 5, 0 => .ref (ad (c + 1))
  | 6, 0 => .ref (ad (c + 1))
  | 7, 0 => .ref (ad (c + 1)) | 7, 1 => .ref (ad (c + 26)) | 7, 2 => .ref (ad (c + 51)) | 7, 3 => .ref (ad (c + 178))
  | 8, 0 => .ref (ad (c + 1)) | 8, 1 => .ref (ad (c + 2)) | 8, 2 => .ref (ad (c + 3)) | 8, 4 => .ref (ad (c + 4)) | 8, 9 => .ref (ad (c + 5))
  | _, k => .int (row k)
theorem gx_fld_dep (kind : Nat) (ad : Nat → Nat) (c : Nat) {row row' : Nat → Int32} {k : Nat} (h : row k = row' k) : gx_fld kind ad c row k = gx_fld kind ad c row' k := by
  unfold gx_fld; split <;> first | rfl | (rw [h])
def gx_fs (kind : Nat) (ad : Nat → Nat) (c : Nat) (row : Nat → Int32) : List Value := (List.range (gx_N kind)).map (gx_fld kind ad c row)
theorem gx_fs_get {kind : Nat} {ad : Nat → Nat} {c : Nat} {row : Nat → Int32} {k : Nat} (hk : k < gx_N kind) : (gx_fs kind ad c row)[k]? = some (gx_fld kind ad c row k) := by
  simp [gx_fs, List.getElem?_range hk]
theorem gx_fs_len {kind : Nat} {ad : Nat → Nat} {c : Nat} {row : Nat → Int32} : (gx_fs kind ad c row).length = gx_N kind := by simp [gx_fs]
theorem gx_fs_set {kind : Nat} {ad : Nat → Nat} {c : Nat} {row : Nat → Int32} {k : Nat} (v : Int32) (hk : k < gx_N kind) (hv : ∀ f : Nat → Int32, gx_fld kind ad c f k = .int (f k)) : (gx_fs kind ad c row).set k (.int v) = gx_fs kind ad c (upd row k v) := by
  apply List.ext_getElem?
  intro j
  by_cases hj : j = k
  · subst hj
    rw [List.getElem?_set_self (by rw [gx_fs_len]; exact hk), gx_fs_get hk, hv]
    simp [upd]
  · rw [List.getElem?_set_ne (Ne.symm hj)]
    by_cases hl : j < gx_N kind
    · rw [gx_fs_get hl, gx_fs_get hl]
      exact congrArg some (gx_fld_dep kind ad c (by simp [upd, hj]))
    · rw [List.getElem?_eq_none (by rw [gx_fs_len]; omega), List.getElem?_eq_none (by rw [gx_fs_len]; omega)]
def gx_cell (Y : gx_Y) (μ : gx_M) (c : Nat) : va_E :=
  if gy_k Y c < 9 then .inr (gx_Ci (gy_k Y c), gx_fs (gy_k Y c) (gy_a Y) c (μ c))
  else if gy_k Y c = 9 then .inl (gy_T Y, (5, .inr (.inr (.inr (.inr (fun i => some (gy_a Y (c + 1 + 25 * i))))))))
  else if gy_k Y c = 10 then .inl (gy_J Y, (32, .inr (.inl (gx_lng (μ c)))))
  else .inl (gy_I Y, (gy_k Y c - 100, .inl (μ c)))
theorem gx_cell_o {Y : gx_Y} {μ : gx_M} {c kind : Nat} (hk : gy_k Y c = kind) (h9 : kind < 9) : gx_cell Y μ c = .inr (gx_Ci kind, gx_fs kind (gy_a Y) c (μ c)) := by
  unfold gx_cell; rw [hk, if_pos h9]
theorem gx_cell_t {Y : gx_Y} {μ : gx_M} {c : Nat} (hk : gy_k Y c = 9) : gx_cell Y μ c = .inl (gy_T Y, (5, .inr (.inr (.inr (.inr (fun i => some (gy_a Y (c + 1 + 25 * i)))))))) := by
  unfold gx_cell; rw [hk, if_neg (by omega), if_pos rfl]
theorem gx_cell_a {Y : gx_Y} {μ : gx_M} {c : Nat} (hk : 100 ≤ gy_k Y c) : gx_cell Y μ c = .inl (gy_I Y, (gy_k Y c - 100, .inl (μ c))) := by
  unfold gx_cell; rw [if_neg (by omega), if_neg (by omega), if_neg (by omega)]
theorem gx_cell_l {Y : gx_Y} {μ : gx_M} {c : Nat} (hk : gy_k Y c = 10) : gx_cell Y μ c = .inl (gy_J Y, (32, .inr (.inl (gx_lng (μ c))))) := by
  unfold gx_cell; rw [if_neg (by omega), if_neg (by omega), if_pos hk]
theorem gx_cell_row {Y : gx_Y} {μ μ' : gx_M} {a : Nat} (h : μ' a = μ a) : gx_cell Y μ' a = gx_cell Y μ a := by unfold gx_cell; rw [h]
def gx_ws (Y : gx_Y) (μ : gx_M) : va_W := (List.range (gy_n Y)).map (fun c => (gy_a Y (c + gy_o Y), gx_cell Y μ (c + gy_o Y)))
theorem gx_ws_at {Y : gx_Y} {μ : gx_M} {c : Nat} (h : c < gy_n Y) : (gx_ws Y μ)[c]? = some (gy_a Y (c + gy_o Y), gx_cell Y μ (c + gy_o Y)) := by
  simp [gx_ws, List.getElem?_range h]
theorem gx_ws_get {Y : gx_Y} {μ : gx_M} {c : Nat} (h : gy_in Y c) : (gx_ws Y μ)[c - gy_o Y]? = some (gy_a Y c, gx_cell Y μ c) := by
  have h1 := h.1
  have h2 := h.2
  rw [gx_ws_at (by omega), show c - gy_o Y + gy_o Y = c by omega]
theorem gx_ws_inv {Y : gx_Y} {μ : gx_M} {i : Nat} {p : Nat × va_E} (h : (gx_ws Y μ)[i]? = some p) : i < gy_n Y ∧ p = (gy_a Y (i + gy_o Y), gx_cell Y μ (i + gy_o Y)) := by
  by_cases hi : i < gy_n Y
  · rw [gx_ws_at hi] at h
    exact ⟨hi, (Option.some.inj h).symm⟩
  · rw [List.getElem?_eq_none (by simp [gx_ws]; omega)] at h
    cases h
theorem gx_ws_set {Y : gx_Y} {μ μ' : gx_M} {c : Nat} (h : gy_in Y c) (e : ∀ a, a ≠ c → μ' a = μ a) : (gx_ws Y μ).set (c - gy_o Y) (gy_a Y c, gx_cell Y μ' c) = gx_ws Y μ' := by
  have h1 := h.1
  have h2 := h.2
  apply List.ext_getElem?
  intro j
  by_cases hj : j = c - gy_o Y
  · subst hj
    rw [List.getElem?_set_self (by simp [gx_ws]; omega), gx_ws_get h]
  · rw [List.getElem?_set_ne (Ne.symm hj)]
    by_cases hl : j < gy_n Y
    · rw [gx_ws_at hl, gx_ws_at hl, gx_cell_row (e _ (by omega))]
    · rw [List.getElem?_eq_none (by simp [gx_ws]; omega), List.getElem?_eq_none (by simp [gx_ws]; omega)]
def gx_tys (Y : gx_Y) : List (ClassId × FieldType) := [(gy_I Y, .int), (gy_T Y, .object RX4), (gy_J Y, .long)]
def gx_A (Y : gx_Y) : Nat → Prop := fun q => ∃ c, gy_in Y c ∧ q = gy_a Y c
def gx_Inj (Y : gx_Y) : Prop := ∀ a b, gy_in Y a → gy_in Y b → gy_a Y a = gy_a Y b → a = b
theorem gx_D {Y : gx_Y} {μ : gx_M} {A0 : Nat → Prop} (hI : gx_Inj Y) (hA : ∀ q, gx_A Y q → A0 q) : va_D A0 (gx_ws Y μ) := by
  refine ⟨fun i j p q hi hj hpq => ?_, fun k q hk => ?_⟩
  · obtain ⟨h1, rfl⟩ := gx_ws_inv hi
    obtain ⟨h2, rfl⟩ := gx_ws_inv hj
    have := hI _ _ ⟨by omega, by omega⟩ ⟨by omega, by omega⟩ hpq
    omega
  · obtain ⟨h1, rfl⟩ := gx_ws_inv hk
    exact hA _ ⟨_, ⟨by omega, by omega⟩, rfl⟩
theorem gx_Inj_of {Y : gx_Y} {μ : gx_M} {A0 : Nat → Prop} (hD : va_D A0 (gx_ws Y μ)) : gx_Inj Y ∧ ∀ q, gx_A Y q → A0 q := by
  refine ⟨fun a b ha hb hab => ?_, fun q hq => ?_⟩
  · have h1 := hD.1 _ _ _ _ (gx_ws_get ha) (gx_ws_get hb) hab
    have h2 := ha.1
    have h3 := hb.1
    omega
  · obtain ⟨c, hc, rfl⟩ := hq
    exact hD.2 _ _ (gx_ws_get hc)
/-- the words of nest mates -/
def gx_nest : List Cond := [.methodLinkNest RX2 51 yX6_isWithin RX6, .methodLinkNest RX2 72 yX6_oneIf RX6, .methodLinkNest RX5 78 yX6_isWithin RX6, .fieldLinkNest RX6 38 "GlassBowls$Table" "bowls" "LGlassBowls$Bowls;" RX6, .fieldLinkNest RX6 111 "GlassBowls$Table" "piece" "LGlassBowls$Piece;" RX6]
theorem gx_nest_on : ∀ w ∈ gx_nest, w.onTables = true := by
  intro w hw
  simp only [gx_nest, List.mem_cons, List.not_mem_nil, or_false] at hw
  rcases hw with rfl | rfl | rfl | rfl | rfl <;> rfl
theorem gx_nest_warm {s U : State} (hW : s.WarmedH U.vm) (h : ∀ w ∈ gx_nest, va_Nw w s) : ∀ w ∈ gx_nest, va_Nw w U := by
  intro w hw
  have h1 := h w hw
  simp only [gx_nest, List.mem_cons, List.not_mem_nil, or_false] at hw
  rcases hw with rfl | rfl | rfl | rfl | rfl
  · exact va_Nw.warmM hW h1
  · exact va_Nw.warmM hW h1
  · exact va_Nw.warmM hW h1
  · exact va_Nw.warmF hW h1
  · exact va_Nw.warmF hW h1
def gx_W (Y : gx_Y) (μ : gx_M) (U : State) : Prop := va_P (gy_D Y) vwCl (gx_ws Y μ) U.heap ∧ va_K (gy_D Y) vwCl (gx_tys Y) U ∧ gx_Inj Y ∧ ∀ w ∈ gx_nest, va_Nw w U
theorem gx_W_calling {Y : gx_Y} {μ : gx_M} {U : State} {g : JFrame} {mk : MethodId} {a : Array Value} (h : gx_W Y μ U) : gx_W Y μ (U.calling g mk a) :=
  ⟨h.1, va_K.moved (u := U) (U := U.calling g mk a) (Vm.Alike.refl U.vm) h.2.1, h.2.2.1, fun w hw => va_Nw.same (gx_nest_on w hw) (rfl : U.vm = (U.calling g mk a).vm) (h.2.2.2 w hw)⟩
theorem gx_W_blind {Y : gx_Y} {μ : gx_M} {av : List Value} : FrameBlind (va_Pc av (gx_W Y μ)) := fun _ _ _ _ q => ⟨q.1, gx_W_calling q.2⟩
def gx_Q (ret : Option FieldType) (Y : gx_Y) (res : Int32 × gx_M) : Array Value → State → Outcome → State → Prop := match ret with
  | none => va_Qv (fun _ : Unit => True) (fun _ t => gx_W Y res.2 t) (gx_A Y)
  | some _ => va_Qi (fun r (_ : Unit) => r = res.1) (fun _ t => gx_W Y res.2 t) (gx_A Y)
abbrev gx_Ws (y : MethodName) (bytes : ByteArray) (maxL : Nat) (ret : Option FieldType) : List Cond := Cond.code y bytes maxL ret :: gWs
/-- a method's contract over such a world: from μ it answers res.1 and leaves res.2 -/
def gx_Con (l : Launch) (y : MethodName) (bytes : ByteArray) (maxL : Nat) (ret : Option FieldType) (fr lo : Nat) (Y : gx_Y) (As : List Value) (μ : gx_M) (res : Int32 × gx_M) : Prop :=
  Met l y (gx_Ws y bytes maxL ret) { frames := fr, cells := 0, slots := 0, locals := lo } (va_Pc As (gx_W Y μ)) (gx_Q ret Y res) 0 0 (gx_A Y)
abbrev gx_KT : Type := gx_M → Nat → List (Nat × Value) → List Value → Prop
def gx_K (l : Launch) (own : String) (cc : ByteArray) (nL fr lo : Nat) (ret : Option FieldType) (Y : gx_Y) (Post : Value → gx_M → Prop) (K : gx_KT) : Prop :=
  ∃ (p : Program) (e : Env) (s : State) (m : MethodId) (args : Array Value) (below : List Frame) (meth : Method) (c : Code) (Q : State → Prop) (A0 : Nat → Prop) (cells slots cR sR : Nat),
    p.tables.exec = Jvm.exec ∧ c.code = cc ∧ c.maxLocals = nL ∧ s.vm.findClass own = some m.cls ∧ (∀ w ∈ gWs, w.before args s = true) ∧ va_K (gy_D Y) vwCl (gx_tys Y) s ∧ gx_Inj Y ∧ (∀ w ∈ gx_nest, va_Nw w s) ∧ (∀ q, gx_A Y q → A0 q) ∧ cells ≤ cR ∧ slots ≤ sR ∧
    K = (fun μ pc L st => ∀ (H : Heap) (locs : List Loc) (ls : Array Slot), va_P (gy_D Y) vwCl (gx_ws Y μ) H → va_S A0 s.heap H locs → lv_has ls nL L → W p l e { frames := fr, cells := cR, slots := sR, locals := lo } s m args below meth c H locs cells slots Q (F0 m pc ls st)) ∧
    (∀ (μ : gx_M) (pc : Nat) (L : List (Nat × Value)) (v : Int32) (ty : FieldType), ret = some ty → narrow ty (.int v) = .int v → decode cc pc = .ok (.ireturn, 1) → Post (.int v) μ → K μ pc L [.int v]) ∧
    (∀ (μ : gx_M) (pc : Nat) (L : List (Nat × Value)), ret = none → decode cc pc = .ok (.return_, 1) → Post (.int 0) μ → K μ pc L []) ∧
    (∀ (μ : gx_M) (pc : Nat) (L : List (Nat × Value)) (v : Int64), ret = some .long → decode cc pc = .ok (.lreturn, 1) → Post (.long v) μ → K μ pc L [.long v])
def gx_P (rr : Int32 × gx_M) : Value → gx_M → Prop := fun r m => match r with
  | .int v => (v, m) = rr
  | _ => False
def gx_PL (rr : Int64 × gx_M) : Value → gx_M → Prop := fun r m => match r with
  | .long v => (v, m) = rr
  | _ => False
theorem gx_Con_of {l : Launch} {own name desc : String} {cc : ByteArray} {nL fr lo : Nat} {ret : Option FieldType} {Y : gx_Y} {As : List Value} {L0 : List (Nat × Value)} {μ : gx_M} {res : Int32 × gx_M} (hp : plainName own = true) (hsz : (lg_sl As).length ≤ nL) (hL : lv_args 0 As = L0)
    (body : ∀ K : gx_KT, gx_K l own cc nL fr lo ret Y (gx_P res) K → K μ 0 L0 []) : gx_Con l ⟨own, name, desc⟩ cc nL ret fr lo Y As μ res := by
  refine Met.ofW (cc := cc) (maxL := nL) (ret := ret) hp rfl ?_
  intro p e s m args below meth c s₁ B hml hv
  obtain ⟨rfl, hP, hK, hI, hN⟩ := hv
  have hts0 := atoms_spec (ws := gx_Ws ⟨own, name, desc⟩ cc nL ret) B.pre
  have hts : ∀ w ∈ gWs, w.before As.toArray s = true := fun w hw => hts0 w (List.mem_cons_of_mem _ hw)
  have hown : s.vm.findClass own = some m.cls := findClass_of_methodNamed B.named
  have hx := B.exec
  have hb := B.bytes
  have hr := B.returns
  have hlocks := B.notSynchronized
  rw [lg_entry_eq]
  have hl := lv_entry As (n := nL) hsz
  rw [hL] at hl
  refine body _ ⟨p, e, s, m, As.toArray, below, meth, c, MQ below (gx_Q ret Y res) As.toArray s 0 0 (gx_A Y), gx_A Y, 0, 0, 0, 0, hx, hb, hml, hown, hts, hK, hI, hN, fun _ h => h, Nat.le_refl _, Nat.le_refl _, rfl, ?_, ?_, fun _ _ _ _ _ _ h => h.elim⟩ s.heap [] _ hP va_S.rf hl
  · intro μ1 pc L v ty hret hn d hpost H locs ls hP1 hS hl1
    subst hret
    have e1 : (v, μ1) = res := hpost
    subst e1
    exact W.zret hx hb hr hn (fun t ht hW => ⟨⟨v, (), rfl, rfl, by rw [ht]; exact hP1, va_K.moved hW.alike hK, hI, gx_nest_warm hW hN⟩, hS.F ht⟩) hS.2.2 d
  · intro μ1 pc L hret d hpost H locs ls hP1 hS hl1
    subst hret
    have e1 : ((0 : Int32), μ1) = res := hpost
    subst e1
    exact W.vret hx hb hr (fun t ht hW => ⟨⟨(), rfl, trivial, by rw [ht]; exact hP1, va_K.moved hW.alike hK, hI, gx_nest_warm hW hN⟩, hS.F ht⟩) hS.2.2 d
/-- the same for a method that answers a long -/
def gx_ConL (l : Launch) (y : MethodName) (bytes : ByteArray) (maxL : Nat) (fr lo : Nat) (Y : gx_Y) (As : List Value) (μ : gx_M) (res : Int64 × gx_M) : Prop :=
  Met l y (gx_Ws y bytes maxL (some .long)) { frames := fr, cells := 0, slots := 0, locals := lo } (va_Pc As (gx_W Y μ)) (va_Ql (fun r (_ : Unit) => r = res.1) (fun _ t => gx_W Y res.2 t) (gx_A Y)) 0 0 (gx_A Y)
theorem gx_ConL_of {l : Launch} {own name desc : String} {cc : ByteArray} {nL fr lo : Nat} {Y : gx_Y} {As : List Value} {L0 : List (Nat × Value)} {μ : gx_M} {res : Int64 × gx_M} (hp : plainName own = true) (hsz : (lg_sl As).length ≤ nL) (hL : lv_args 0 As = L0)
    (body : ∀ K : gx_KT, gx_K l own cc nL fr lo (some .long) Y (gx_PL res) K → K μ 0 L0 []) : gx_ConL l ⟨own, name, desc⟩ cc nL fr lo Y As μ res := by
  refine Met.ofW (cc := cc) (maxL := nL) (ret := some .long) hp rfl ?_
  intro p e s m args below meth c s₁ B hml hv
  obtain ⟨rfl, hP, hK, hI, hN⟩ := hv
  have hts0 := atoms_spec (ws := gx_Ws ⟨own, name, desc⟩ cc nL (some .long)) B.pre
  have hts : ∀ w ∈ gWs, w.before As.toArray s = true := fun w hw => hts0 w (List.mem_cons_of_mem _ hw)
  have hown : s.vm.findClass own = some m.cls := findClass_of_methodNamed B.named
  have hx := B.exec
  have hb := B.bytes
  have hr := B.returns
  have hlocks := B.notSynchronized
  rw [lg_entry_eq]
  have hl := lv_entry As (n := nL) hsz
  rw [hL] at hl
  refine body _ ⟨p, e, s, m, As.toArray, below, meth, c, MQ below (va_Ql (fun r (_ : Unit) => r = res.1) (fun _ t => gx_W Y res.2 t) (gx_A Y)) As.toArray s 0 0 (gx_A Y), gx_A Y, 0, 0, 0, 0, hx, hb, hml, hown, hts, hK, hI, hN, fun _ h => h, Nat.le_refl _, Nat.le_refl _, rfl, fun _ _ _ _ _ _ _ _ h => h.elim, (fun _ _ _ h => nomatch h), ?_⟩ s.heap [] _ hP va_S.rf hl
  intro μ1 pc L v _ d hpost H locs ls hP1 hS hl1
  have e1 : (v, μ1) = res := hpost
  subst e1
  exact W.lret hx hb hr (fun t ht hW => ⟨⟨v, (), rfl, rfl, by rw [ht]; exact hP1, va_K.moved hW.alike hK, hI, gx_nest_warm hW hN⟩, hS.F ht⟩) hS.2.2 d
/-- a bind over a call's long answer -/
def gx_bL {β : Type} (x : Option (Int64 × gx_M)) (k : Int64 → gx_M → Option β) : Option β := match x with
  | some (r, m) => k r m
  | none => none
theorem gx_bL_some {β : Type} {x : Option (Int64 × gx_M)} {k : Int64 → gx_M → Option β} {res : β} (h : gx_bL x k = some res) : ∃ r m, x = some (r, m) ∧ k r m = some res := by
  cases x with
  | none => cases h
  | some q => exact ⟨q.1, q.2, rfl, h⟩
/-- the spec's words: a bind over a call's answer, an index that is in -/
def gx_b {β : Type} (x : Option (Int32 × gx_M)) (k : Int32 → gx_M → Option β) : Option β := match x with
  | some (r, m) => k r m
  | none => none
theorem gx_b_some {β : Type} {x : Option (Int32 × gx_M)} {k : Int32 → gx_M → Option β} {res : β} (h : gx_b x k = some res) : ∃ r m, x = some (r, m) ∧ k r m = some res := by
  cases x with
  | none => cases h
  | some q => exact ⟨q.1, q.2, rfl, h⟩
def gx_ix (i : Int32) (n : Nat) : Bool := decide (¬ (i < 0 ∨ n ≤ i.toNatClampNeg))
theorem gx_ix_in {i : Int32} {n : Nat} (h : gx_ix i n = true) : vp_in i n := of_decide_eq_true (p := ¬ (i < 0 ∨ n ≤ i.toNatClampNeg)) h
theorem gx_pos {c : Prop} [Decidable c] {α : Type} {a b : Option α} {r : α} (h : c) (hf : (if c then a else b) = some r) : a = some r := by rwa [if_pos h] at hf
theorem gx_neg {c : Prop} [Decidable c] {α : Type} {a b : Option α} {r : α} (h : ¬ c) (hf : (if c then a else b) = some r) : b = some r := by rwa [if_neg h] at hf
theorem gx_must {c : Prop} [Decidable c] {α : Type} {a : Option α} {r : α} (hf : (if c then a else none) = some r) : c ∧ a = some r := by
  by_cases h : c
  · exact ⟨h, gx_pos h hf⟩
  · rw [if_neg h] at hf; cases hf
def gx_pu (ret : Option FieldType) (r : Int32) (st : List Value) : List Value := match ret with
  | none => st
  | some _ => .int r :: st
/-- how many turns a loop's spec may take -/
def gx_F : Nat := 5000
abbrev gk_o (Y : gx_Y) (c k : Nat) : Prop := gy_in Y c ∧ gy_k Y c = k
abbrev gk_arr (Y : gx_Y) (c n : Nat) : Prop := gy_in Y c ∧ gy_k Y c = 100 + n
def gx_ul (μ : gx_M) (c i : Nat) (x : Int64) : gx_M := gx_u (gx_u μ c (2 * i) (gx_lo x)) c (2 * i + 1) (gx_hi x)
theorem gx_ul_s (μ : gx_M) (c i : Nat) (x : Int64) : gx_lng (gx_ul μ c i x c) = vp_updL (gx_lng (μ c)) i x := by
  unfold gx_ul
  rw [gx_u_s, gx_u_s]
  funext k
  by_cases h : k = i
  · subst h
    show gx_l2 _ _ = _
    simp only [upd, vp_updL, if_true, if_neg (show ¬ 2 * k = 2 * k + 1 by omega)]
    exact gx_l2_eq x
  · show gx_l2 _ _ = _
    simp only [upd, vp_updL, if_neg h, if_neg (show ¬ 2 * k = 2 * i + 1 by omega), if_neg (show ¬ 2 * k = 2 * i by omega), if_neg (show ¬ 2 * k + 1 = 2 * i + 1 by omega), if_neg (show ¬ 2 * k + 1 = 2 * i by omega)]
    rfl
abbrev gk_row (Y : gx_Y) (c n : Nat) : Prop := gk_o Y c 4 ∧ gk_arr Y (c + 1) n
abbrev gk_bowls (Y : gx_Y) (c : Nat) : Prop := gk_o Y c 2 ∧ gk_row Y (c + 1) 10 ∧ gk_row Y (c + 3) 10 ∧ gk_row Y (c + 5) 10 ∧ gk_row Y (c + 7) 10 ∧ gk_row Y (c + 9) 10
abbrev gk_piece (Y : gx_Y) (c : Nat) : Prop := gk_o Y c 3 ∧ gk_row Y (c + 1) 40 ∧ gk_row Y (c + 3) 40 ∧ gk_row Y (c + 5) 40 ∧ gk_row Y (c + 7) 40 ∧ gk_row Y (c + 9) 40
abbrev gk_tab (Y : gx_Y) (c : Nat) : Prop := gk_o Y c 1 ∧ gk_bowls Y (c + 1) ∧ gk_piece Y (c + 12) ∧ gk_row Y (c + 23) 4
abbrev gk_text (Y : gx_Y) (c : Nat) : Prop := gk_o Y c 5 ∧ gk_row Y (c + 1) 100
abbrev gk_hist (Y : gx_Y) (c : Nat) : Prop := gk_o Y c 6 ∧ gk_o Y (c + 1) 9 ∧ ∀ i, i < 5 → gk_tab Y (c + 1 + 1 + 25 * i)
abbrev gk_bow (Y : gx_Y) (c : Nat) : Prop := gk_o Y c 7 ∧ gk_tab Y (c + 1) ∧ gk_tab Y (c + 26) ∧ gk_hist Y (c + 51) ∧ gk_text Y (c + 178)
abbrev gk_mod (Y : gx_Y) (c : Nat) : Prop := gk_o Y c 8 ∧ gk_arr Y (c + 1) 301 ∧ gk_arr Y (c + 2) 1505 ∧ gk_arr Y (c + 3) 301 ∧ gk_arr Y (c + 4) 100 ∧ gk_arr Y (c + 5) 25
theorem gk_100 {Y : gx_Y} {c n : Nat} (h : gk_arr Y c n) : 100 ≤ gy_k Y c := by rw [h.2]; omega
theorem gx_arrV {cA : ClassId} {N : Nat} {f g : Nat → Value} (h : ∀ j, j < N → f j = g j) : arrV cA N f = arrV cA N g := by
  have e : (fun j : Fin N => f j.val) = fun j : Fin N => g j.val := funext fun j => h j.1 j.2
  unfold arrV
  rw [e]
theorem gx_at_int {D : va_G} {cl : List vw_C} {a : Nat} {cA : ClassId} {N : Nat} {f g : Nat → Int32} {H : Heap} (h : ∀ j, j < N → g j = f j) (h2 : va_at D cl (a, .inl (cA, (N, .inl f))) H) : va_at D cl (a, .inl (cA, (N, .inl g))) H := by
  have h3 : H[a]? = some (arrV cA N (fun j => .int (f j))) := h2
  show H[a]? = some (arrV cA N (fun j => .int (g j)))
  exact h3.trans (congrArg some (gx_arrV (fun j hj => by show Value.int (f j) = .int (g j); rw [h j hj])))
theorem gx_at_long {D : va_G} {cl : List vw_C} {a : Nat} {cA : ClassId} {N : Nat} {f g : Nat → Int64} {H : Heap} (h : ∀ j, j < N → g j = f j) (h2 : va_at D cl (a, .inl (cA, (N, .inr (.inl f)))) H) : va_at D cl (a, .inl (cA, (N, .inr (.inl g)))) H := by
  have h3 : H[a]? = some (arrV cA N (fun j => .long (f j))) := h2
  show H[a]? = some (arrV cA N (fun j => .long (g j)))
  exact h3.trans (congrArg some (gx_arrV (fun j hj => by show Value.long (f j) = .long (g j); rw [h j hj])))
section GXR
variable {l : Launch} {own : String} {cc : ByteArray} {nL fr lo : Nat} {ret : Option FieldType} {Y : gx_Y} {Post : Value → gx_M → Prop} {K : gx_KT} {pc : Nat} {μ : gx_M} {L L' : List (Nat × Value)} {st : List Value} {α : Type} {rr : α}
theorem gw_iconst (h : gx_K l own cc nL fr lo ret Y Post K) {n : Int} {v : Int32} (d : decode cc pc = .ok (.iconst n, 1)) (hv : Int32.ofInt n = v) (kk : K μ (pc + 1) L (.int v :: st)) : K μ pc L st := by
  obtain ⟨p, e, s, m, args, below, meth, c0, Q, A0, cells, slots, cR, sR, hx, hb, hml, hown, hts, hK, hI, hN, hA, hcs, hss, rfl, hri, hrv, hrl⟩ := h
  intro H locs ls hP hS hl
  exact lv_iconst hx hb d hv (kk H locs ls hP hS hl)
theorem gw_bipush (h : gx_K l own cc nL fr lo ret Y Post K) {n : Int} {v : Int32} (d : decode cc pc = .ok (.bipush n, 2)) (hv : (Int8.ofInt n).toInt32 = v) (kk : K μ (pc + 2) L (.int v :: st)) : K μ pc L st := by
  obtain ⟨p, e, s, m, args, below, meth, c0, Q, A0, cells, slots, cR, sR, hx, hb, hml, hown, hts, hK, hI, hN, hA, hcs, hss, rfl, hri, hrv, hrl⟩ := h
  intro H locs ls hP hS hl
  exact lv_bipush hx hb d hv (kk H locs ls hP hS hl)
theorem gw_sipush (h : gx_K l own cc nL fr lo ret Y Post K) {n : Int} {v : Int32} (d : decode cc pc = .ok (.sipush n, 3)) (hv : (Int16.ofInt n).toInt32 = v) (kk : K μ (pc + 3) L (.int v :: st)) : K μ pc L st := by
  obtain ⟨p, e, s, m, args, below, meth, c0, Q, A0, cells, slots, cR, sR, hx, hb, hml, hown, hts, hK, hI, hN, hA, hcs, hss, rfl, hri, hrv, hrl⟩ := h
  intro H locs ls hP hS hl
  exact lv_sipush hx hb d hv (kk H locs ls hP hS hl)
theorem gw_ldc (h : gx_K l own cc nL fr lo ret Y Post K) {idx : Nat} {v : Int32} (d : decode cc pc = .ok (.ldc idx, 2)) (hk : Cond.constant own idx v ∈ gWs) (kk : K μ (pc + 2) L (.int v :: st)) : K μ pc L st := by
  obtain ⟨p, e, s, m, args, below, meth, c0, Q, A0, cells, slots, cR, sR, hx, hb, hml, hown, hts, hK, hI, hN, hA, hcs, hss, rfl, hri, hrv, hrl⟩ := h
  intro H locs ls hP hS hl
  exact lv_ldc hx hb hown (hts _ hk) d (kk H locs ls hP hS hl)
theorem gw_ldc2 (h : gx_K l own cc nL fr lo ret Y Post K) {idx : Nat} {v : Int64} (d : decode cc pc = .ok (.ldc2_w idx, 3)) (hk : Cond.constantLong own idx v ∈ gWs) (kk : K μ (pc + 3) L (.long v :: st)) : K μ pc L st := by
  obtain ⟨p, e, s, m, args, below, meth, c0, Q, A0, cells, slots, cR, sR, hx, hb, hml, hown, hts, hK, hI, hN, hA, hcs, hss, rfl, hri, hrv, hrl⟩ := h
  intro H locs ls hP hS hl
  exact lv_ldc2 hx hb hown (hts _ hk) d (kk H locs ls hP hS hl)
theorem gw_iload_n (h : gx_K l own cc nL fr lo ret Y Post K) {k : Fin 4} {i : Nat} {x : Int32} (j : Nat) (d : decode cc pc = .ok (.iload_n k, 1)) (hj : L[j]? = some (i, .int x)) (hi : (k : Nat) = i) (kk : K μ (pc + 1) L (.int x :: st)) : K μ pc L st := by
  obtain ⟨p, e, s, m, args, below, meth, c0, Q, A0, cells, slots, cR, sR, hx, hb, hml, hown, hts, hK, hI, hN, hA, hcs, hss, rfl, hri, hrv, hrl⟩ := h
  intro H locs ls hP hS hl
  exact lv_iload_n hx hb d hi (lv_at hl j hj) (kk H locs ls hP hS hl)
theorem gw_aload_n (h : gx_K l own cc nL fr lo ret Y Post K) {k : Fin 4} {i : Nat} {x : Nat} (j : Nat) (d : decode cc pc = .ok (.aload_n k, 1)) (hj : L[j]? = some (i, .ref x)) (hi : (k : Nat) = i) (kk : K μ (pc + 1) L (.ref x :: st)) : K μ pc L st := by
  obtain ⟨p, e, s, m, args, below, meth, c0, Q, A0, cells, slots, cR, sR, hx, hb, hml, hown, hts, hK, hI, hN, hA, hcs, hss, rfl, hri, hrv, hrl⟩ := h
  intro H locs ls hP hS hl
  exact lv_aload_n hx hb d hi (lv_at hl j hj) (kk H locs ls hP hS hl)
theorem gw_lload_n (h : gx_K l own cc nL fr lo ret Y Post K) {k : Fin 4} {i : Nat} {x : Int64} (j : Nat) (d : decode cc pc = .ok (.lload_n k, 1)) (hj : L[j]? = some (i, .long x)) (hi : (k : Nat) = i) (kk : K μ (pc + 1) L (.long x :: st)) : K μ pc L st := by
  obtain ⟨p, e, s, m, args, below, meth, c0, Q, A0, cells, slots, cR, sR, hx, hb, hml, hown, hts, hK, hI, hN, hA, hcs, hss, rfl, hri, hrv, hrl⟩ := h
  intro H locs ls hP hS hl
  exact lv_lload_n hx hb d hi (lv_at hl j hj) (kk H locs ls hP hS hl)
theorem gw_iload (h : gx_K l own cc nL fr lo ret Y Post K) {i : Nat} {x : Int32} (j : Nat) (d : decode cc pc = .ok (.iload i, 2)) (hj : L[j]? = some (i, .int x)) (kk : K μ (pc + 2) L (.int x :: st)) : K μ pc L st := by
  obtain ⟨p, e, s, m, args, below, meth, c0, Q, A0, cells, slots, cR, sR, hx, hb, hml, hown, hts, hK, hI, hN, hA, hcs, hss, rfl, hri, hrv, hrl⟩ := h
  intro H locs ls hP hS hl
  exact lv_iload hx hb d (lv_at hl j hj) (kk H locs ls hP hS hl)
theorem gw_aload (h : gx_K l own cc nL fr lo ret Y Post K) {i : Nat} {x : Nat} (j : Nat) (d : decode cc pc = .ok (.aload i, 2)) (hj : L[j]? = some (i, .ref x)) (kk : K μ (pc + 2) L (.ref x :: st)) : K μ pc L st := by
  obtain ⟨p, e, s, m, args, below, meth, c0, Q, A0, cells, slots, cR, sR, hx, hb, hml, hown, hts, hK, hI, hN, hA, hcs, hss, rfl, hri, hrv, hrl⟩ := h
  intro H locs ls hP hS hl
  exact lv_aload hx hb d (lv_at hl j hj) (kk H locs ls hP hS hl)
theorem gw_istore_n (h : gx_K l own cc nL fr lo ret Y Post K) {k : Fin 4} {i : Nat} {x : Int32} (d : decode cc pc = .ok (.istore_n k, 1)) (hi : (k : Nat) = i) (hn : i < nL) (hL : (i, Value.int x) :: L.filter (fun q => !(q.1 == i) && !(q.1 + 1 == i && q.2.category == 2)) = L') (kk : K μ (pc + 1) L' st) : K μ pc L (.int x :: st) := by
  obtain ⟨p, e, s, m, args, below, meth, c0, Q, A0, cells, slots, cR, sR, hx, hb, hml, hown, hts, hK, hI, hN, hA, hcs, hss, rfl, hri, hrv, hrl⟩ := h
  intro H locs ls hP hS hl
  exact lv_istore_n hx hb d hi hl hn hL (fun ls1 hl1 => kk H locs ls1 hP hS hl1)
theorem gw_astore_n (h : gx_K l own cc nL fr lo ret Y Post K) {k : Fin 4} {i : Nat} {x : Nat} (d : decode cc pc = .ok (.astore_n k, 1)) (hi : (k : Nat) = i) (hn : i < nL) (hL : (i, Value.ref x) :: L.filter (fun q => !(q.1 == i) && !(q.1 + 1 == i && q.2.category == 2)) = L') (kk : K μ (pc + 1) L' st) : K μ pc L (.ref x :: st) := by
  obtain ⟨p, e, s, m, args, below, meth, c0, Q, A0, cells, slots, cR, sR, hx, hb, hml, hown, hts, hK, hI, hN, hA, hcs, hss, rfl, hri, hrv, hrl⟩ := h
  intro H locs ls hP hS hl
  exact lv_astore_n hx hb d hi hl hn hL (fun ls1 hl1 => kk H locs ls1 hP hS hl1)
theorem gw_lstore_n (h : gx_K l own cc nL fr lo ret Y Post K) {k : Fin 4} {i : Nat} {x : Int64} (d : decode cc pc = .ok (.lstore_n k, 1)) (hi : (k : Nat) = i) (hn : i + 1 < nL) (hL : (i, Value.long x) :: L.filter (fun q => !(q.1 == i) && (!(q.1 == i + 1) && !(q.1 + 1 == i && q.2.category == 2))) = L') (kk : K μ (pc + 1) L' st) : K μ pc L (.long x :: st) := by
  obtain ⟨p, e, s, m, args, below, meth, c0, Q, A0, cells, slots, cR, sR, hx, hb, hml, hown, hts, hK, hI, hN, hA, hcs, hss, rfl, hri, hrv, hrl⟩ := h
  intro H locs ls hP hS hl
  exact lv_lstore_n hx hb d hi hl hn hL (fun ls1 hl1 => kk H locs ls1 hP hS hl1)
theorem gw_istore (h : gx_K l own cc nL fr lo ret Y Post K) {i : Nat} {x : Int32} (d : decode cc pc = .ok (.istore i, 2)) (hn : i < nL) (hL : (i, Value.int x) :: L.filter (fun q => !(q.1 == i) && !(q.1 + 1 == i && q.2.category == 2)) = L') (kk : K μ (pc + 2) L' st) : K μ pc L (.int x :: st) := by
  obtain ⟨p, e, s, m, args, below, meth, c0, Q, A0, cells, slots, cR, sR, hx, hb, hml, hown, hts, hK, hI, hN, hA, hcs, hss, rfl, hri, hrv, hrl⟩ := h
  intro H locs ls hP hS hl
  exact lv_istore hx hb d hl hn hL (fun ls1 hl1 => kk H locs ls1 hP hS hl1)
theorem gw_astore (h : gx_K l own cc nL fr lo ret Y Post K) {i : Nat} {x : Nat} (d : decode cc pc = .ok (.astore i, 2)) (hn : i < nL) (hL : (i, Value.ref x) :: L.filter (fun q => !(q.1 == i) && !(q.1 + 1 == i && q.2.category == 2)) = L') (kk : K μ (pc + 2) L' st) : K μ pc L (.ref x :: st) := by
  obtain ⟨p, e, s, m, args, below, meth, c0, Q, A0, cells, slots, cR, sR, hx, hb, hml, hown, hts, hK, hI, hN, hA, hcs, hss, rfl, hri, hrv, hrl⟩ := h
  intro H locs ls hP hS hl
  exact lv_astore hx hb d hl hn hL (fun ls1 hl1 => kk H locs ls1 hP hS hl1)
theorem gw_iinc (h : gx_K l own cc nL fr lo ret Y Post K) {i : Nat} {n : Int} {x v : Int32} (j : Nat) (d : decode cc pc = .ok (.iinc i n, 3)) (hj : L[j]? = some (i, .int x)) (hv : x + Int32.ofInt n = v) (hn : i < nL) (hL : (i, Value.int v) :: L.filter (fun q => !(q.1 == i) && !(q.1 + 1 == i && q.2.category == 2)) = L') (kk : K μ (pc + 3) L' st) : K μ pc L st := by
  obtain ⟨p, e, s, m, args, below, meth, c0, Q, A0, cells, slots, cR, sR, hx, hb, hml, hown, hts, hK, hI, hN, hA, hcs, hss, rfl, hri, hrv, hrl⟩ := h
  intro H locs ls hP hS hl
  exact lv_iinc hx hb d hl hj hv hn hL (fun ls1 hl1 => kk H locs ls1 hP hS hl1)
theorem gw_sub (h : gx_K l own cc nL fr lo ret Y Post K) (ks : List Nat) (hL : lv_pick L ks = L') (kk : K μ pc L' st) : K μ pc L st := by
  obtain ⟨p, e, s, m, args, below, meth, c0, Q, A0, cells, slots, cR, sR, hx, hb, hml, hown, hts, hK, hI, hN, hA, hcs, hss, rfl, hri, hrv, hrl⟩ := h
  intro H locs ls hP hS hl
  exact kk H locs ls hP hS (lv_sub hl ks hL)
theorem gw_iadd (h : gx_K l own cc nL fr lo ret Y Post K) {x y : Int32} (d : decode cc pc = .ok (.iadd, 1)) (kk : K μ (pc + 1) L (.int (x + y) :: st)) : K μ pc L (.int y :: .int x :: st) := by
  obtain ⟨p, e, s, m, args, below, meth, c0, Q, A0, cells, slots, cR, sR, hx, hb, hml, hown, hts, hK, hI, hN, hA, hcs, hss, rfl, hri, hrv, hrl⟩ := h
  intro H locs ls hP hS hl
  exact lv_iadd hx hb d (kk H locs ls hP hS hl)
theorem gw_isub (h : gx_K l own cc nL fr lo ret Y Post K) {x y : Int32} (d : decode cc pc = .ok (.isub, 1)) (kk : K μ (pc + 1) L (.int (x - y) :: st)) : K μ pc L (.int y :: .int x :: st) := by
  obtain ⟨p, e, s, m, args, below, meth, c0, Q, A0, cells, slots, cR, sR, hx, hb, hml, hown, hts, hK, hI, hN, hA, hcs, hss, rfl, hri, hrv, hrl⟩ := h
  intro H locs ls hP hS hl
  exact lv_isub hx hb d (kk H locs ls hP hS hl)
theorem gw_imul (h : gx_K l own cc nL fr lo ret Y Post K) {x y : Int32} (d : decode cc pc = .ok (.imul, 1)) (kk : K μ (pc + 1) L (.int (x * y) :: st)) : K μ pc L (.int y :: .int x :: st) := by
  obtain ⟨p, e, s, m, args, below, meth, c0, Q, A0, cells, slots, cR, sR, hx, hb, hml, hown, hts, hK, hI, hN, hA, hcs, hss, rfl, hri, hrv, hrl⟩ := h
  intro H locs ls hP hS hl
  exact lv_imul hx hb d (kk H locs ls hP hS hl)
theorem gw_iand (h : gx_K l own cc nL fr lo ret Y Post K) {x y : Int32} (d : decode cc pc = .ok (.iand, 1)) (kk : K μ (pc + 1) L (.int (x &&& y) :: st)) : K μ pc L (.int y :: .int x :: st) := by
  obtain ⟨p, e, s, m, args, below, meth, c0, Q, A0, cells, slots, cR, sR, hx, hb, hml, hown, hts, hK, hI, hN, hA, hcs, hss, rfl, hri, hrv, hrl⟩ := h
  intro H locs ls hP hS hl
  exact lv_iand hx hb d (kk H locs ls hP hS hl)
theorem gw_lmul (h : gx_K l own cc nL fr lo ret Y Post K) {x y : Int64} (d : decode cc pc = .ok (.lmul, 1)) (kk : K μ (pc + 1) L (.long (x * y) :: st)) : K μ pc L (.long y :: .long x :: st) := by
  obtain ⟨p, e, s, m, args, below, meth, c0, Q, A0, cells, slots, cR, sR, hx, hb, hml, hown, hts, hK, hI, hN, hA, hcs, hss, rfl, hri, hrv, hrl⟩ := h
  intro H locs ls hP hS hl
  exact lv_lmul hx hb d (kk H locs ls hP hS hl)
theorem gw_idiv (h : gx_K l own cc nL fr lo ret Y Post K) {x y : Int32} (d : decode cc pc = .ok (.idiv, 1)) (hne : ¬ y = 0) (kk : K μ (pc + 1) L (.int (x / y) :: st)) : K μ pc L (.int y :: .int x :: st) := by
  obtain ⟨p, e, s, m, args, below, meth, c0, Q, A0, cells, slots, cR, sR, hx, hb, hml, hown, hts, hK, hI, hN, hA, hcs, hss, rfl, hri, hrv, hrl⟩ := h
  intro H locs ls hP hS hl
  exact lv_idiv hx hb d hne (kk H locs ls hP hS hl)
theorem gw_irem (h : gx_K l own cc nL fr lo ret Y Post K) {x y : Int32} (d : decode cc pc = .ok (.irem, 1)) (hne : ¬ y = 0) (kk : K μ (pc + 1) L (.int (x - x / y * y) :: st)) : K μ pc L (.int y :: .int x :: st) := by
  obtain ⟨p, e, s, m, args, below, meth, c0, Q, A0, cells, slots, cR, sR, hx, hb, hml, hown, hts, hK, hI, hN, hA, hcs, hss, rfl, hri, hrv, hrl⟩ := h
  intro H locs ls hP hS hl
  exact lv_irem hx hb d hne (kk H locs ls hP hS hl)
theorem gw_ldiv (h : gx_K l own cc nL fr lo ret Y Post K) {x y : Int64} (d : decode cc pc = .ok (.ldiv, 1)) (hne : ¬ y = 0) (kk : K μ (pc + 1) L (.long (x / y) :: st)) : K μ pc L (.long y :: .long x :: st) := by
  obtain ⟨p, e, s, m, args, below, meth, c0, Q, A0, cells, slots, cR, sR, hx, hb, hml, hown, hts, hK, hI, hN, hA, hcs, hss, rfl, hri, hrv, hrl⟩ := h
  intro H locs ls hP hS hl
  exact lv_ldiv hx hb d hne (kk H locs ls hP hS hl)
theorem gw_ixor (h : gx_K l own cc nL fr lo ret Y Post K) {x y : Int32} (d : decode cc pc = .ok (.ixor, 1)) (kk : K μ (pc + 1) L (.int (x ^^^ y) :: st)) : K μ pc L (.int y :: .int x :: st) := by
  obtain ⟨p, e, s, m, args, below, meth, c0, Q, A0, cells, slots, cR, sR, hx, hb, hml, hown, hts, hK, hI, hN, hA, hcs, hss, rfl, hri, hrv, hrl⟩ := h
  intro H locs ls hP hS hl
  exact lv_ixor hx hb d (kk H locs ls hP hS hl)
theorem gw_ishr (h : gx_K l own cc nL fr lo ret Y Post K) {x y : Int32} (d : decode cc pc = .ok (.ishr, 1)) (kk : K μ (pc + 1) L (.int (x >>> (y &&& 31)) :: st)) : K μ pc L (.int y :: .int x :: st) := by
  obtain ⟨p, e, s, m, args, below, meth, c0, Q, A0, cells, slots, cR, sR, hx, hb, hml, hown, hts, hK, hI, hN, hA, hcs, hss, rfl, hri, hrv, hrl⟩ := h
  intro H locs ls hP hS hl
  exact lv_ishr hx hb d (kk H locs ls hP hS hl)
theorem gw_ladd (h : gx_K l own cc nL fr lo ret Y Post K) {x y : Int64} (d : decode cc pc = .ok (.ladd, 1)) (kk : K μ (pc + 1) L (.long (x + y) :: st)) : K μ pc L (.long y :: .long x :: st) := by
  obtain ⟨p, e, s, m, args, below, meth, c0, Q, A0, cells, slots, cR, sR, hx, hb, hml, hown, hts, hK, hI, hN, hA, hcs, hss, rfl, hri, hrv, hrl⟩ := h
  intro H locs ls hP hS hl
  exact lv_ladd hx hb d (kk H locs ls hP hS hl)
theorem gw_land (h : gx_K l own cc nL fr lo ret Y Post K) {x y : Int64} (d : decode cc pc = .ok (.land, 1)) (kk : K μ (pc + 1) L (.long (x &&& y) :: st)) : K μ pc L (.long y :: .long x :: st) := by
  obtain ⟨p, e, s, m, args, below, meth, c0, Q, A0, cells, slots, cR, sR, hx, hb, hml, hown, hts, hK, hI, hN, hA, hcs, hss, rfl, hri, hrv, hrl⟩ := h
  intro H locs ls hP hS hl
  exact lv_land hx hb d (kk H locs ls hP hS hl)
theorem gw_lshr (h : gx_K l own cc nL fr lo ret Y Post K) {x : Int64} {y : Int32} (d : decode cc pc = .ok (.lshr, 1)) (kk : K μ (pc + 1) L (.long (x >>> (y.toInt64 &&& 63)) :: st)) : K μ pc L (.int y :: .long x :: st) := by
  obtain ⟨p, e, s, m, args, below, meth, c0, Q, A0, cells, slots, cR, sR, hx, hb, hml, hown, hts, hK, hI, hN, hA, hcs, hss, rfl, hri, hrv, hrl⟩ := h
  intro H locs ls hP hS hl
  exact lv_lshr hx hb d rfl (kk H locs ls hP hS hl)
theorem gw_lcmp (h : gx_K l own cc nL fr lo ret Y Post K) {x y : Int64} (d : decode cc pc = .ok (.lcmp, 1)) (kk : K μ (pc + 1) L (.int (lg_cmp x y) :: st)) : K μ pc L (.long y :: .long x :: st) := by
  obtain ⟨p, e, s, m, args, below, meth, c0, Q, A0, cells, slots, cR, sR, hx, hb, hml, hown, hts, hK, hI, hN, hA, hcs, hss, rfl, hri, hrv, hrl⟩ := h
  intro H locs ls hP hS hl
  exact W.lcmp hx hb d (kk H locs ls hP hS hl)
theorem gw_lconst (h : gx_K l own cc nL fr lo ret Y Post K) {n : Fin 2} {v : Int64} (d : decode cc pc = .ok (.lconst n, 1)) (hv : Int64.ofNat (n : Nat) = v) (kk : K μ (pc + 1) L (.long v :: st)) : K μ pc L st := by
  obtain ⟨p, e, s, m, args, below, meth, c0, Q, A0, cells, slots, cR, sR, hx, hb, hml, hown, hts, hK, hI, hN, hA, hcs, hss, rfl, hri, hrv, hrl⟩ := h
  intro H locs ls hP hS hl
  exact lv_lconst hx hb d hv (kk H locs ls hP hS hl)
theorem gw_ineg (h : gx_K l own cc nL fr lo ret Y Post K) {x : Int32} (d : decode cc pc = .ok (.ineg, 1)) (kk : K μ (pc + 1) L (.int (-x) :: st)) : K μ pc L (.int x :: st) := by
  obtain ⟨p, e, s, m, args, below, meth, c0, Q, A0, cells, slots, cR, sR, hx, hb, hml, hown, hts, hK, hI, hN, hA, hcs, hss, rfl, hri, hrv, hrl⟩ := h
  intro H locs ls hP hS hl
  exact lv_ineg hx hb d (kk H locs ls hP hS hl)
theorem gw_i2l (h : gx_K l own cc nL fr lo ret Y Post K) {x : Int32} (d : decode cc pc = .ok (.i2l, 1)) (kk : K μ (pc + 1) L (.long x.toInt64 :: st)) : K μ pc L (.int x :: st) := by
  obtain ⟨p, e, s, m, args, below, meth, c0, Q, A0, cells, slots, cR, sR, hx, hb, hml, hown, hts, hK, hI, hN, hA, hcs, hss, rfl, hri, hrv, hrl⟩ := h
  intro H locs ls hP hS hl
  exact lv_i2l hx hb d rfl (kk H locs ls hP hS hl)
theorem gw_l2i (h : gx_K l own cc nL fr lo ret Y Post K) {x : Int64} (d : decode cc pc = .ok (.l2i, 1)) (kk : K μ (pc + 1) L (.int x.toInt32 :: st)) : K μ pc L (.long x :: st) := by
  obtain ⟨p, e, s, m, args, below, meth, c0, Q, A0, cells, slots, cR, sR, hx, hb, hml, hown, hts, hK, hI, hN, hA, hcs, hss, rfl, hri, hrv, hrl⟩ := h
  intro H locs ls hP hS hl
  exact lv_l2i hx hb d rfl (kk H locs ls hP hS hl)
theorem gw_dup (h : gx_K l own cc nL fr lo ret Y Post K) {x : Value} (d : decode cc pc = .ok (.dup, 1)) (hv : x.category = 1) (kk : K μ (pc + 1) L (x :: x :: st)) : K μ pc L (x :: st) := by
  obtain ⟨p, e, s, m, args, below, meth, c0, Q, A0, cells, slots, cR, sR, hx, hb, hml, hown, hts, hK, hI, hN, hA, hcs, hss, rfl, hri, hrv, hrl⟩ := h
  intro H locs ls hP hS hl
  exact lv_dup hx hb d hv (kk H locs ls hP hS hl)
theorem gw_pop (h : gx_K l own cc nL fr lo ret Y Post K) {x : Value} (d : decode cc pc = .ok (.pop, 1)) (hv : x.category = 1) (kk : K μ (pc + 1) L st) : K μ pc L (x :: st) := by
  obtain ⟨p, e, s, m, args, below, meth, c0, Q, A0, cells, slots, cR, sR, hx, hb, hml, hown, hts, hK, hI, hN, hA, hcs, hss, rfl, hri, hrv, hrl⟩ := h
  intro H locs ls hP hS hl
  exact lv_pop hx hb d hv (kk H locs ls hP hS hl)
theorem gw_dup2 (h : gx_K l own cc nL fr lo ret Y Post K) {x y : Value} (d : decode cc pc = .ok (.dup2, 1)) (hv : x.category = 1) (hw : y.category = 1) (kk : K μ (pc + 1) L (x :: y :: x :: y :: st)) : K μ pc L (x :: y :: st) := by
  obtain ⟨p, e, s, m, args, below, meth, c0, Q, A0, cells, slots, cR, sR, hx, hb, hml, hown, hts, hK, hI, hN, hA, hcs, hss, rfl, hri, hrv, hrl⟩ := h
  intro H locs ls hP hS hl
  exact lv_dup2_11 hx hb d hv hw (kk H locs ls hP hS hl)
theorem gw_goto (h : gx_K l own cc nL fr lo ret Y Post K) {off : Int} {tgt : Nat} (d : decode cc pc = .ok (.goto off, 3)) (ht : (pc : Int) + off = (tgt : Int)) (kk : K μ tgt L st) : K μ pc L st := by
  obtain ⟨p, e, s, m, args, below, meth, c0, Q, A0, cells, slots, cR, sR, hx, hb, hml, hown, hts, hK, hI, hN, hA, hcs, hss, rfl, hri, hrv, hrl⟩ := h
  intro H locs ls hP hS hl
  exact lv_goto hx hb d ht (kk H locs ls hP hS hl)
theorem gw_ifnonnull (h : gx_K l own cc nL fr lo ret Y Post K) {off : Int} {x tgt : Nat} (d : decode cc pc = .ok (.ifnonnull off, 3)) (ht : (pc : Int) + off = (tgt : Int)) (kk : K μ tgt L st) : K μ pc L (.ref x :: st) := by
  obtain ⟨p, e, s, m, args, below, meth, c0, Q, A0, cells, slots, cR, sR, hx, hb, hml, hown, hts, hK, hI, hN, hA, hcs, hss, rfl, hri, hrv, hrl⟩ := h
  intro H locs ls hP hS hl
  exact lv_ifnonnull hx hb d ht (kk H locs ls hP hS hl)
theorem gw_ifnull (h : gx_K l own cc nL fr lo ret Y Post K) {off : Int} {x : Nat} (d : decode cc pc = .ok (.ifnull off, 3)) (kk : K μ (pc + 3) L st) : K μ pc L (.ref x :: st) := by
  obtain ⟨p, e, s, m, args, below, meth, c0, Q, A0, cells, slots, cR, sR, hx, hb, hml, hown, hts, hK, hI, hN, hA, hcs, hss, rfl, hri, hrv, hrl⟩ := h
  intro H locs ls hP hS hl
  exact lv_ifnull hx hb d (kk H locs ls hP hS hl)
theorem gw_if_eq (h : gx_K l own cc nL fr lo ret Y Post K) {x : Int32} {off : Int} {tgt : Nat} {a b : Option α} (d : decode cc pc = .ok (.ifCond .eq off, 3)) (ht : (pc : Int) + off = (tgt : Int)) (hf : (if x = 0 then a else b) = some rr) (kt : x = 0 → a = some rr → K μ tgt L st) (kf : ¬ (x = 0) → b = some rr → K μ (pc + 3) L st) : K μ pc L (.int x :: st) := by
  obtain ⟨p, e, s, m, args, below, meth, c0, Q, A0, cells, slots, cR, sR, hx, hb, hml, hown, hts, hK, hI, hN, hA, hcs, hss, rfl, hri, hrv, hrl⟩ := h
  intro H locs ls hP hS hl
  exact lv_if_eq hx hb d ht (fun q => kt q (gx_pos q hf) H locs ls hP hS hl) (fun q => kf q (gx_neg q hf) H locs ls hP hS hl)
theorem gw_if_eq_c (h : gx_K l own cc nL fr lo ret Y Post K) {x : Int32} {off : Int} {tgt : Nat} (d : decode cc pc = .ok (.ifCond .eq off, 3)) (ht : (pc : Int) + off = (tgt : Int)) (kt : x = 0 → K μ tgt L st) (kf : ¬ (x = 0) → K μ (pc + 3) L st) : K μ pc L (.int x :: st) := by
  obtain ⟨p, e, s, m, args, below, meth, c0, Q, A0, cells, slots, cR, sR, hx, hb, hml, hown, hts, hK, hI, hN, hA, hcs, hss, rfl, hri, hrv, hrl⟩ := h
  intro H locs ls hP hS hl
  exact lv_if_eq hx hb d ht (fun q => kt q H locs ls hP hS hl) (fun q => kf q H locs ls hP hS hl)
theorem gw_icmp_eq (h : gx_K l own cc nL fr lo ret Y Post K) {x y : Int32} {off : Int} {tgt : Nat} {a b : Option α} (d : decode cc pc = .ok (.if_icmp .eq off, 3)) (ht : (pc : Int) + off = (tgt : Int)) (hf : (if x = y then a else b) = some rr) (kt : x = y → a = some rr → K μ tgt L st) (kf : ¬ (x = y) → b = some rr → K μ (pc + 3) L st) : K μ pc L (.int y :: .int x :: st) := by
  obtain ⟨p, e, s, m, args, below, meth, c0, Q, A0, cells, slots, cR, sR, hx, hb, hml, hown, hts, hK, hI, hN, hA, hcs, hss, rfl, hri, hrv, hrl⟩ := h
  intro H locs ls hP hS hl
  exact lv_icmp_eq hx hb d ht (fun q => kt q (gx_pos q hf) H locs ls hP hS hl) (fun q => kf q (gx_neg q hf) H locs ls hP hS hl)
theorem gw_icmp_eq_c (h : gx_K l own cc nL fr lo ret Y Post K) {x y : Int32} {off : Int} {tgt : Nat} (d : decode cc pc = .ok (.if_icmp .eq off, 3)) (ht : (pc : Int) + off = (tgt : Int)) (kt : x = y → K μ tgt L st) (kf : ¬ (x = y) → K μ (pc + 3) L st) : K μ pc L (.int y :: .int x :: st) := by
  obtain ⟨p, e, s, m, args, below, meth, c0, Q, A0, cells, slots, cR, sR, hx, hb, hml, hown, hts, hK, hI, hN, hA, hcs, hss, rfl, hri, hrv, hrl⟩ := h
  intro H locs ls hP hS hl
  exact lv_icmp_eq hx hb d ht (fun q => kt q H locs ls hP hS hl) (fun q => kf q H locs ls hP hS hl)
theorem gw_if_ne (h : gx_K l own cc nL fr lo ret Y Post K) {x : Int32} {off : Int} {tgt : Nat} {a b : Option α} (d : decode cc pc = .ok (.ifCond .ne off, 3)) (ht : (pc : Int) + off = (tgt : Int)) (hf : (if x = 0 then b else a) = some rr) (kt : ¬ (x = 0) → a = some rr → K μ tgt L st) (kf : x = 0 → b = some rr → K μ (pc + 3) L st) : K μ pc L (.int x :: st) := by
  obtain ⟨p, e, s, m, args, below, meth, c0, Q, A0, cells, slots, cR, sR, hx, hb, hml, hown, hts, hK, hI, hN, hA, hcs, hss, rfl, hri, hrv, hrl⟩ := h
  intro H locs ls hP hS hl
  exact lv_if_ne hx hb d ht (fun q => kt q (gx_neg q hf) H locs ls hP hS hl) (fun q => kf q (gx_pos q hf) H locs ls hP hS hl)
theorem gw_if_ne_c (h : gx_K l own cc nL fr lo ret Y Post K) {x : Int32} {off : Int} {tgt : Nat} (d : decode cc pc = .ok (.ifCond .ne off, 3)) (ht : (pc : Int) + off = (tgt : Int)) (kt : ¬ (x = 0) → K μ tgt L st) (kf : x = 0 → K μ (pc + 3) L st) : K μ pc L (.int x :: st) := by
  obtain ⟨p, e, s, m, args, below, meth, c0, Q, A0, cells, slots, cR, sR, hx, hb, hml, hown, hts, hK, hI, hN, hA, hcs, hss, rfl, hri, hrv, hrl⟩ := h
  intro H locs ls hP hS hl
  exact lv_if_ne hx hb d ht (fun q => kt q H locs ls hP hS hl) (fun q => kf q H locs ls hP hS hl)
theorem gw_icmp_ne (h : gx_K l own cc nL fr lo ret Y Post K) {x y : Int32} {off : Int} {tgt : Nat} {a b : Option α} (d : decode cc pc = .ok (.if_icmp .ne off, 3)) (ht : (pc : Int) + off = (tgt : Int)) (hf : (if x = y then b else a) = some rr) (kt : ¬ (x = y) → a = some rr → K μ tgt L st) (kf : x = y → b = some rr → K μ (pc + 3) L st) : K μ pc L (.int y :: .int x :: st) := by
  obtain ⟨p, e, s, m, args, below, meth, c0, Q, A0, cells, slots, cR, sR, hx, hb, hml, hown, hts, hK, hI, hN, hA, hcs, hss, rfl, hri, hrv, hrl⟩ := h
  intro H locs ls hP hS hl
  exact lv_icmp_ne hx hb d ht (fun q => kt q (gx_neg q hf) H locs ls hP hS hl) (fun q => kf q (gx_pos q hf) H locs ls hP hS hl)
theorem gw_icmp_ne_c (h : gx_K l own cc nL fr lo ret Y Post K) {x y : Int32} {off : Int} {tgt : Nat} (d : decode cc pc = .ok (.if_icmp .ne off, 3)) (ht : (pc : Int) + off = (tgt : Int)) (kt : ¬ (x = y) → K μ tgt L st) (kf : x = y → K μ (pc + 3) L st) : K μ pc L (.int y :: .int x :: st) := by
  obtain ⟨p, e, s, m, args, below, meth, c0, Q, A0, cells, slots, cR, sR, hx, hb, hml, hown, hts, hK, hI, hN, hA, hcs, hss, rfl, hri, hrv, hrl⟩ := h
  intro H locs ls hP hS hl
  exact lv_icmp_ne hx hb d ht (fun q => kt q H locs ls hP hS hl) (fun q => kf q H locs ls hP hS hl)
theorem gw_if_lt (h : gx_K l own cc nL fr lo ret Y Post K) {x : Int32} {off : Int} {tgt : Nat} {a b : Option α} (d : decode cc pc = .ok (.ifCond .lt off, 3)) (ht : (pc : Int) + off = (tgt : Int)) (hf : (if x < 0 then a else b) = some rr) (kt : x < 0 → a = some rr → K μ tgt L st) (kf : ¬ (x < 0) → b = some rr → K μ (pc + 3) L st) : K μ pc L (.int x :: st) := by
  obtain ⟨p, e, s, m, args, below, meth, c0, Q, A0, cells, slots, cR, sR, hx, hb, hml, hown, hts, hK, hI, hN, hA, hcs, hss, rfl, hri, hrv, hrl⟩ := h
  intro H locs ls hP hS hl
  exact lv_if_lt hx hb d ht (fun q => kt q (gx_pos q hf) H locs ls hP hS hl) (fun q => kf q (gx_neg q hf) H locs ls hP hS hl)
theorem gw_if_lt_c (h : gx_K l own cc nL fr lo ret Y Post K) {x : Int32} {off : Int} {tgt : Nat} (d : decode cc pc = .ok (.ifCond .lt off, 3)) (ht : (pc : Int) + off = (tgt : Int)) (kt : x < 0 → K μ tgt L st) (kf : ¬ (x < 0) → K μ (pc + 3) L st) : K μ pc L (.int x :: st) := by
  obtain ⟨p, e, s, m, args, below, meth, c0, Q, A0, cells, slots, cR, sR, hx, hb, hml, hown, hts, hK, hI, hN, hA, hcs, hss, rfl, hri, hrv, hrl⟩ := h
  intro H locs ls hP hS hl
  exact lv_if_lt hx hb d ht (fun q => kt q H locs ls hP hS hl) (fun q => kf q H locs ls hP hS hl)
theorem gw_icmp_lt (h : gx_K l own cc nL fr lo ret Y Post K) {x y : Int32} {off : Int} {tgt : Nat} {a b : Option α} (d : decode cc pc = .ok (.if_icmp .lt off, 3)) (ht : (pc : Int) + off = (tgt : Int)) (hf : (if x < y then a else b) = some rr) (kt : x < y → a = some rr → K μ tgt L st) (kf : ¬ (x < y) → b = some rr → K μ (pc + 3) L st) : K μ pc L (.int y :: .int x :: st) := by
  obtain ⟨p, e, s, m, args, below, meth, c0, Q, A0, cells, slots, cR, sR, hx, hb, hml, hown, hts, hK, hI, hN, hA, hcs, hss, rfl, hri, hrv, hrl⟩ := h
  intro H locs ls hP hS hl
  exact lv_icmp_lt hx hb d ht (fun q => kt q (gx_pos q hf) H locs ls hP hS hl) (fun q => kf q (gx_neg q hf) H locs ls hP hS hl)
theorem gw_icmp_lt_c (h : gx_K l own cc nL fr lo ret Y Post K) {x y : Int32} {off : Int} {tgt : Nat} (d : decode cc pc = .ok (.if_icmp .lt off, 3)) (ht : (pc : Int) + off = (tgt : Int)) (kt : x < y → K μ tgt L st) (kf : ¬ (x < y) → K μ (pc + 3) L st) : K μ pc L (.int y :: .int x :: st) := by
  obtain ⟨p, e, s, m, args, below, meth, c0, Q, A0, cells, slots, cR, sR, hx, hb, hml, hown, hts, hK, hI, hN, hA, hcs, hss, rfl, hri, hrv, hrl⟩ := h
  intro H locs ls hP hS hl
  exact lv_icmp_lt hx hb d ht (fun q => kt q H locs ls hP hS hl) (fun q => kf q H locs ls hP hS hl)
theorem gw_if_ge (h : gx_K l own cc nL fr lo ret Y Post K) {x : Int32} {off : Int} {tgt : Nat} {a b : Option α} (d : decode cc pc = .ok (.ifCond .ge off, 3)) (ht : (pc : Int) + off = (tgt : Int)) (hf : (if 0 ≤ x then a else b) = some rr) (kt : 0 ≤ x → a = some rr → K μ tgt L st) (kf : ¬ (0 ≤ x) → b = some rr → K μ (pc + 3) L st) : K μ pc L (.int x :: st) := by
  obtain ⟨p, e, s, m, args, below, meth, c0, Q, A0, cells, slots, cR, sR, hx, hb, hml, hown, hts, hK, hI, hN, hA, hcs, hss, rfl, hri, hrv, hrl⟩ := h
  intro H locs ls hP hS hl
  exact lv_if_ge hx hb d ht (fun q => kt q (gx_pos q hf) H locs ls hP hS hl) (fun q => kf q (gx_neg q hf) H locs ls hP hS hl)
theorem gw_if_ge_c (h : gx_K l own cc nL fr lo ret Y Post K) {x : Int32} {off : Int} {tgt : Nat} (d : decode cc pc = .ok (.ifCond .ge off, 3)) (ht : (pc : Int) + off = (tgt : Int)) (kt : 0 ≤ x → K μ tgt L st) (kf : ¬ (0 ≤ x) → K μ (pc + 3) L st) : K μ pc L (.int x :: st) := by
  obtain ⟨p, e, s, m, args, below, meth, c0, Q, A0, cells, slots, cR, sR, hx, hb, hml, hown, hts, hK, hI, hN, hA, hcs, hss, rfl, hri, hrv, hrl⟩ := h
  intro H locs ls hP hS hl
  exact lv_if_ge hx hb d ht (fun q => kt q H locs ls hP hS hl) (fun q => kf q H locs ls hP hS hl)
theorem gw_icmp_ge (h : gx_K l own cc nL fr lo ret Y Post K) {x y : Int32} {off : Int} {tgt : Nat} {a b : Option α} (d : decode cc pc = .ok (.if_icmp .ge off, 3)) (ht : (pc : Int) + off = (tgt : Int)) (hf : (if y ≤ x then a else b) = some rr) (kt : y ≤ x → a = some rr → K μ tgt L st) (kf : ¬ (y ≤ x) → b = some rr → K μ (pc + 3) L st) : K μ pc L (.int y :: .int x :: st) := by
  obtain ⟨p, e, s, m, args, below, meth, c0, Q, A0, cells, slots, cR, sR, hx, hb, hml, hown, hts, hK, hI, hN, hA, hcs, hss, rfl, hri, hrv, hrl⟩ := h
  intro H locs ls hP hS hl
  exact lv_icmp_ge hx hb d ht (fun q => kt q (gx_pos q hf) H locs ls hP hS hl) (fun q => kf q (gx_neg q hf) H locs ls hP hS hl)
theorem gw_icmp_ge_c (h : gx_K l own cc nL fr lo ret Y Post K) {x y : Int32} {off : Int} {tgt : Nat} (d : decode cc pc = .ok (.if_icmp .ge off, 3)) (ht : (pc : Int) + off = (tgt : Int)) (kt : y ≤ x → K μ tgt L st) (kf : ¬ (y ≤ x) → K μ (pc + 3) L st) : K μ pc L (.int y :: .int x :: st) := by
  obtain ⟨p, e, s, m, args, below, meth, c0, Q, A0, cells, slots, cR, sR, hx, hb, hml, hown, hts, hK, hI, hN, hA, hcs, hss, rfl, hri, hrv, hrl⟩ := h
  intro H locs ls hP hS hl
  exact lv_icmp_ge hx hb d ht (fun q => kt q H locs ls hP hS hl) (fun q => kf q H locs ls hP hS hl)
theorem gw_if_gt (h : gx_K l own cc nL fr lo ret Y Post K) {x : Int32} {off : Int} {tgt : Nat} {a b : Option α} (d : decode cc pc = .ok (.ifCond .gt off, 3)) (ht : (pc : Int) + off = (tgt : Int)) (hf : (if 0 < x then a else b) = some rr) (kt : 0 < x → a = some rr → K μ tgt L st) (kf : ¬ (0 < x) → b = some rr → K μ (pc + 3) L st) : K μ pc L (.int x :: st) := by
  obtain ⟨p, e, s, m, args, below, meth, c0, Q, A0, cells, slots, cR, sR, hx, hb, hml, hown, hts, hK, hI, hN, hA, hcs, hss, rfl, hri, hrv, hrl⟩ := h
  intro H locs ls hP hS hl
  exact lv_if_gt hx hb d ht (fun q => kt q (gx_pos q hf) H locs ls hP hS hl) (fun q => kf q (gx_neg q hf) H locs ls hP hS hl)
theorem gw_if_gt_c (h : gx_K l own cc nL fr lo ret Y Post K) {x : Int32} {off : Int} {tgt : Nat} (d : decode cc pc = .ok (.ifCond .gt off, 3)) (ht : (pc : Int) + off = (tgt : Int)) (kt : 0 < x → K μ tgt L st) (kf : ¬ (0 < x) → K μ (pc + 3) L st) : K μ pc L (.int x :: st) := by
  obtain ⟨p, e, s, m, args, below, meth, c0, Q, A0, cells, slots, cR, sR, hx, hb, hml, hown, hts, hK, hI, hN, hA, hcs, hss, rfl, hri, hrv, hrl⟩ := h
  intro H locs ls hP hS hl
  exact lv_if_gt hx hb d ht (fun q => kt q H locs ls hP hS hl) (fun q => kf q H locs ls hP hS hl)
theorem gw_icmp_gt (h : gx_K l own cc nL fr lo ret Y Post K) {x y : Int32} {off : Int} {tgt : Nat} {a b : Option α} (d : decode cc pc = .ok (.if_icmp .gt off, 3)) (ht : (pc : Int) + off = (tgt : Int)) (hf : (if y < x then a else b) = some rr) (kt : y < x → a = some rr → K μ tgt L st) (kf : ¬ (y < x) → b = some rr → K μ (pc + 3) L st) : K μ pc L (.int y :: .int x :: st) := by
  obtain ⟨p, e, s, m, args, below, meth, c0, Q, A0, cells, slots, cR, sR, hx, hb, hml, hown, hts, hK, hI, hN, hA, hcs, hss, rfl, hri, hrv, hrl⟩ := h
  intro H locs ls hP hS hl
  exact lv_icmp_gt hx hb d ht (fun q => kt q (gx_pos q hf) H locs ls hP hS hl) (fun q => kf q (gx_neg q hf) H locs ls hP hS hl)
theorem gw_icmp_gt_c (h : gx_K l own cc nL fr lo ret Y Post K) {x y : Int32} {off : Int} {tgt : Nat} (d : decode cc pc = .ok (.if_icmp .gt off, 3)) (ht : (pc : Int) + off = (tgt : Int)) (kt : y < x → K μ tgt L st) (kf : ¬ (y < x) → K μ (pc + 3) L st) : K μ pc L (.int y :: .int x :: st) := by
  obtain ⟨p, e, s, m, args, below, meth, c0, Q, A0, cells, slots, cR, sR, hx, hb, hml, hown, hts, hK, hI, hN, hA, hcs, hss, rfl, hri, hrv, hrl⟩ := h
  intro H locs ls hP hS hl
  exact lv_icmp_gt hx hb d ht (fun q => kt q H locs ls hP hS hl) (fun q => kf q H locs ls hP hS hl)
theorem gw_if_le (h : gx_K l own cc nL fr lo ret Y Post K) {x : Int32} {off : Int} {tgt : Nat} {a b : Option α} (d : decode cc pc = .ok (.ifCond .le off, 3)) (ht : (pc : Int) + off = (tgt : Int)) (hf : (if x ≤ 0 then a else b) = some rr) (kt : x ≤ 0 → a = some rr → K μ tgt L st) (kf : ¬ (x ≤ 0) → b = some rr → K μ (pc + 3) L st) : K μ pc L (.int x :: st) := by
  obtain ⟨p, e, s, m, args, below, meth, c0, Q, A0, cells, slots, cR, sR, hx, hb, hml, hown, hts, hK, hI, hN, hA, hcs, hss, rfl, hri, hrv, hrl⟩ := h
  intro H locs ls hP hS hl
  exact lv_if_le hx hb d ht (fun q => kt q (gx_pos q hf) H locs ls hP hS hl) (fun q => kf q (gx_neg q hf) H locs ls hP hS hl)
theorem gw_if_le_c (h : gx_K l own cc nL fr lo ret Y Post K) {x : Int32} {off : Int} {tgt : Nat} (d : decode cc pc = .ok (.ifCond .le off, 3)) (ht : (pc : Int) + off = (tgt : Int)) (kt : x ≤ 0 → K μ tgt L st) (kf : ¬ (x ≤ 0) → K μ (pc + 3) L st) : K μ pc L (.int x :: st) := by
  obtain ⟨p, e, s, m, args, below, meth, c0, Q, A0, cells, slots, cR, sR, hx, hb, hml, hown, hts, hK, hI, hN, hA, hcs, hss, rfl, hri, hrv, hrl⟩ := h
  intro H locs ls hP hS hl
  exact lv_if_le hx hb d ht (fun q => kt q H locs ls hP hS hl) (fun q => kf q H locs ls hP hS hl)
theorem gw_icmp_le (h : gx_K l own cc nL fr lo ret Y Post K) {x y : Int32} {off : Int} {tgt : Nat} {a b : Option α} (d : decode cc pc = .ok (.if_icmp .le off, 3)) (ht : (pc : Int) + off = (tgt : Int)) (hf : (if x ≤ y then a else b) = some rr) (kt : x ≤ y → a = some rr → K μ tgt L st) (kf : ¬ (x ≤ y) → b = some rr → K μ (pc + 3) L st) : K μ pc L (.int y :: .int x :: st) := by
  obtain ⟨p, e, s, m, args, below, meth, c0, Q, A0, cells, slots, cR, sR, hx, hb, hml, hown, hts, hK, hI, hN, hA, hcs, hss, rfl, hri, hrv, hrl⟩ := h
  intro H locs ls hP hS hl
  exact lv_icmp_le hx hb d ht (fun q => kt q (gx_pos q hf) H locs ls hP hS hl) (fun q => kf q (gx_neg q hf) H locs ls hP hS hl)
theorem gw_icmp_le_c (h : gx_K l own cc nL fr lo ret Y Post K) {x y : Int32} {off : Int} {tgt : Nat} (d : decode cc pc = .ok (.if_icmp .le off, 3)) (ht : (pc : Int) + off = (tgt : Int)) (kt : x ≤ y → K μ tgt L st) (kf : ¬ (x ≤ y) → K μ (pc + 3) L st) : K μ pc L (.int y :: .int x :: st) := by
  obtain ⟨p, e, s, m, args, below, meth, c0, Q, A0, cells, slots, cR, sR, hx, hb, hml, hown, hts, hK, hI, hN, hA, hcs, hss, rfl, hri, hrv, hrl⟩ := h
  intro H locs ls hP hS hl
  exact lv_icmp_le hx hb d ht (fun q => kt q H locs ls hP hS hl) (fun q => kf q H locs ls hP hS hl)
theorem gw_tblIn (h : gx_K l own cc nL fr lo ret Y Post K) {dflt lo9 hi9 : Int} {offs : Array Int} {len : Nat} {x : Int32} {off : Int} {tgt : Nat} (d : decode cc pc = .ok (.tableswitch dflt lo9 hi9 offs, len)) (h1 : ¬ x.toInt < lo9) (h2 : ¬ hi9 < x.toInt) (ho : offs[(x.toInt - lo9).toNat]? = some off) (ht : (pc : Int) + off = (tgt : Int)) (kk : K μ tgt L st) : K μ pc L (.int x :: st) := by
  obtain ⟨p, e, s, m, args, below, meth, c0, Q, A0, cells, slots, cR, sR, hx, hb, hml, hown, hts, hK, hI, hN, hA, hcs, hss, rfl, hri, hrv, hrl⟩ := h
  intro H locs ls hP hS hl
  exact lv_tableIn hx hb d h1 h2 ho ht (kk H locs ls hP hS hl)
theorem gw_tblOut (h : gx_K l own cc nL fr lo ret Y Post K) {dflt lo9 hi9 : Int} {offs : Array Int} {len : Nat} {x : Int32} {tgt : Nat} (d : decode cc pc = .ok (.tableswitch dflt lo9 hi9 offs, len)) (h1 : x.toInt < lo9 ∨ hi9 < x.toInt) (ht : (pc : Int) + dflt = (tgt : Int)) (kk : K μ tgt L st) : K μ pc L (.int x :: st) := by
  obtain ⟨p, e, s, m, args, below, meth, c0, Q, A0, cells, slots, cR, sR, hx, hb, hml, hown, hts, hK, hI, hN, hA, hcs, hss, rfl, hri, hrv, hrl⟩ := h
  intro H locs ls hP hS hl
  exact lv_tableOut hx hb d h1 ht (kk H locs ls hP hS hl)
theorem gw_get (h : gx_K l own cc nL fr lo ret Y Post K) {kind idx c : Nat} (k : Nat) {C : String} {T : u_T} {N : Nat} {x : Value} (hc : gk_o Y c kind) (h9 : kind < 9) (hcl : vwCl[gx_Ci kind]? = some (C, T, N)) (hin : ∀ w ∈ u_ws C T N, w ∈ gWs) (hkN : k < N) (hkg : k < gx_N kind) (hl9 : Cond.fieldLink own idx (T k).1 (T k).2.1 (T k).2.2.1 ∈ gWs) (hv : gx_fld kind (gy_a Y) c (μ c) k = x) (d : decode cc pc = .ok (.getfield idx, 3)) (kk : K μ (pc + 3) L (x :: st)) : K μ pc L (.ref (gy_a Y c) :: st) := by
  obtain ⟨p, e, s, m, args, below, meth, c0, Q, A0, cells, slots, cR, sR, hx, hb, hml, hown, hts, hK, hI, hN, hA, hcs, hss, rfl, hri, hrv, hrl⟩ := h
  intro H locs ls hP hS hl
  have he : (gx_ws Y μ)[c - gy_o Y]? = some (gy_a Y c, .inr (gx_Ci kind, gx_fs kind (gy_a Y) c (μ c))) := by rw [gx_ws_get hc.1, gx_cell_o hc.2 h9]
  exact va_get (D := gy_D Y) (ci := gx_Ci kind) (v := x) hx hb hts hin hown hK hP (c - gy_o Y) he hcl k hkN (hts _ hl9) (fun _ h9 => h9) (by rw [gx_fs_get hkg, hv]) d (kk H locs ls hP hS hl)
theorem gw_getN (h : gx_K l own cc nL fr lo ret Y Post K) {kind idx c : Nat} (k : Nat) {C : String} {T : u_T} {N : Nat} {x : Value} (hc : gk_o Y c kind) (h9 : kind < 9) (hcl : vwCl[gx_Ci kind]? = some (C, T, N)) (hin : ∀ w ∈ u_ws C T N, w ∈ gWs) (hkN : k < N) (hkg : k < gx_N kind) {host : String} (hl9 : Cond.fieldLinkNest own idx (T k).1 (T k).2.1 (T k).2.2.1 host ∈ gx_nest) (hv : gx_fld kind (gy_a Y) c (μ c) k = x) (d : decode cc pc = .ok (.getfield idx, 3)) (kk : K μ (pc + 3) L (x :: st)) : K μ pc L (.ref (gy_a Y c) :: st) := by
  obtain ⟨p, e, s, m, args, below, meth, c0, Q, A0, cells, slots, cR, sR, hx, hb, hml, hown, hts, hK, hI, hN, hA, hcs, hss, rfl, hri, hrv, hrl⟩ := h
  intro H locs ls hP hS hl
  have he : (gx_ws Y μ)[c - gy_o Y]? = some (gy_a Y c, .inr (gx_Ci kind, gx_fs kind (gy_a Y) c (μ c))) := by rw [gx_ws_get hc.1, gx_cell_o hc.2 h9]
  exact va_getN (D := gy_D Y) (ci := gx_Ci kind) (v := x) hx hb hts hin hown hK hP (c - gy_o Y) he hcl k hkN (va_Nw.use (gx_nest_on _ hl9) (hN _ hl9)) (fun _ h9 => h9) (by rw [gx_fs_get hkg, hv]) d (kk H locs ls hP hS hl)
theorem gw_put (h : gx_K l own cc nL fr lo ret Y Post K) {kind idx c : Nat} (k : Nat) {C : String} {T : u_T} {N : Nat} {v : Int32} (hc : gk_o Y c kind) (h9 : kind < 9) (hcl : vwCl[gx_Ci kind]? = some (C, T, N)) (hin : ∀ w ∈ u_ws C T N, w ∈ gWs) (hkN : k < N) (hkg : k < gx_N kind) (ty0 : Nat → FieldType) (hty : ∀ k, k < N → parseFieldDescriptor (T k).2.2.1 = some (ty0 k)) (hnm : ∀ a, a < N → ∀ b, b < N → a ≠ b → (T a).2.1 ≠ (T b).2.1) (hfin : (T k).2.2.2 = false) {ty : FieldType} (hd9 : parseFieldDescriptor (T k).2.2.1 = some ty) (hn9 : narrow ty (.int v) = .int v) (hft : fits ty (.int v) = true) (hl9 : Cond.fieldLink own idx (T k).1 (T k).2.1 (T k).2.2.1 ∈ gWs) (hv : ∀ (ad : Nat → Nat) (f : Nat → Int32), gx_fld kind ad c f k = .int (f k)) (d : decode cc pc = .ok (.putfield idx, 3)) (kk : K (gx_u μ c k v) (pc + 3) L st) : K μ pc L (.int v :: .ref (gy_a Y c) :: st) := by
  obtain ⟨p, e, s, m, args, below, meth, c0, Q, A0, cells, slots, cR, sR, hx, hb, hml, hown, hts, hK, hI, hN, hA, hcs, hss, rfl, hri, hrv, hrl⟩ := h
  intro H locs ls hP hS hl
  have he : (gx_ws Y μ)[c - gy_o Y]? = some (gy_a Y c, .inr (gx_Ci kind, gx_fs kind (gy_a Y) c (μ c))) := by rw [gx_ws_get hc.1, gx_cell_o hc.2 h9]
  have hD := gx_D (μ := μ) hI hA
  refine va_put (D := gy_D Y) (ci := gx_Ci kind) (v := .int v) hx hb hts hin ty0 hty hnm hown hK hP hD hS (c - gy_o Y) he hcl k hkN (hts _ hl9) (fun _ h9 => h9) hfin hd9 hn9 hft (by rw [gx_fs_len]; exact hkg) d (fun H1 locs1 hP1 hD1 hS1 => ?_)
  have e1 : (gx_ws Y μ).set (c - gy_o Y) (gy_a Y c, .inr (gx_Ci kind, (gx_fs kind (gy_a Y) c (μ c)).set k (.int v))) = gx_ws Y (gx_u μ c k v) := by
    rw [gx_fs_set v hkg (hv _), ← gx_ws_set (μ := μ) (μ' := gx_u μ c k v) hc.1 (fun a ha => gx_u_n ha), gx_cell_o hc.2 h9, gx_u_s]
  rw [e1] at hP1
  exact kk H1 locs1 ls hP1 hS1 hl
theorem gw_iald (h : gx_K l own cc nL fr lo ret Y Post K) {c : Nat} {i : Int32} {a : Option α} (hc : gy_in Y c) (hk : 100 ≤ gy_k Y c) (d : decode cc pc = .ok (.iaload, 1)) (hf : (if gx_ix i (gy_k Y c - 100) = true then a else none) = some rr) (kk : a = some rr → K μ (pc + 1) L (.int (μ c i.toNatClampNeg) :: st)) : K μ pc L (.int i :: .ref (gy_a Y c) :: st) := by
  obtain ⟨p, e, s, m, args, below, meth, c0, Q, A0, cells, slots, cR, sR, hx, hb, hml, hown, hts, hK, hI, hN, hA, hcs, hss, rfl, hri, hrv, hrl⟩ := h
  intro H locs ls hP hS hl
  have ha : (gx_ws Y μ)[c - gy_o Y]? = some (gy_a Y c, .inl (gy_I Y, (gy_k Y c - 100, .inl (μ c)))) := by rw [gx_ws_get hc, gx_cell_a hk]
  exact va_iald (D := gy_D Y) hx hb hK hP (c - gy_o Y) 0 ha rfl (gx_ix_in (gx_must hf).1) d (kk (gx_must hf).2 H locs ls hP hS hl)
theorem gw_iast (h : gx_K l own cc nL fr lo ret Y Post K) {c : Nat} {i x : Int32} {a : Option α} (hc : gy_in Y c) (hk : 100 ≤ gy_k Y c) (d : decode cc pc = .ok (.iastore, 1)) (hf : (if gx_ix i (gy_k Y c - 100) = true then a else none) = some rr) (kk : a = some rr → K (gx_u μ c i.toNatClampNeg x) (pc + 1) L st) : K μ pc L (.int x :: .int i :: .ref (gy_a Y c) :: st) := by
  obtain ⟨p, e, s, m, args, below, meth, c0, Q, A0, cells, slots, cR, sR, hx, hb, hml, hown, hts, hK, hI, hN, hA, hcs, hss, rfl, hri, hrv, hrl⟩ := h
  intro H locs ls hP hS hl
  have ha : (gx_ws Y μ)[c - gy_o Y]? = some (gy_a Y c, .inl (gy_I Y, (gy_k Y c - 100, .inl (μ c)))) := by rw [gx_ws_get hc, gx_cell_a hk]
  have hD := gx_D (μ := μ) hI hA
  refine va_iast (D := gy_D Y) hx hb hK hP hD hS (c - gy_o Y) 0 ha rfl (gx_ix_in (gx_must hf).1) d (fun H1 locs1 hP1 hD1 hS1 => ?_)
  have e1 : (gx_ws Y μ).set (c - gy_o Y) (gy_a Y c, .inl (gy_I Y, (gy_k Y c - 100, .inl (upd (μ c) i.toNatClampNeg x)))) = gx_ws Y (gx_u μ c i.toNatClampNeg x) := by
    rw [← gx_ws_set (μ := μ) (μ' := gx_u μ c i.toNatClampNeg x) hc (fun a ha => gx_u_n ha), gx_cell_a hk, gx_u_s]
  rw [e1] at hP1
  exact kk (gx_must hf).2 H1 locs1 ls hP1 hS1 hl
theorem gw_alen (h : gx_K l own cc nL fr lo ret Y Post K) {c : Nat} (hc : gy_in Y c) (hk : 100 ≤ gy_k Y c) (d : decode cc pc = .ok (.arraylength, 1)) (kk : K μ (pc + 1) L (.int (nI (gy_k Y c - 100)) :: st)) : K μ pc L (.ref (gy_a Y c) :: st) := by
  obtain ⟨p, e, s, m, args, below, meth, c0, Q, A0, cells, slots, cR, sR, hx, hb, hml, hown, hts, hK, hI, hN, hA, hcs, hss, rfl, hri, hrv, hrl⟩ := h
  intro H locs ls hP hS hl
  have ha : (gx_ws Y μ)[c - gy_o Y]? = some (gy_a Y c, .inl (gy_I Y, (gy_k Y c - 100, .inl (μ c)))) := by rw [gx_ws_get hc, gx_cell_a hk]
  exact va_alen (D := gy_D Y) hx hb hK hP (c - gy_o Y) 0 ha rfl rfl d (kk H locs ls hP hS hl)
theorem gw_lald (h : gx_K l own cc nL fr lo ret Y Post K) {c : Nat} {i : Int32} {a : Option α} (hc : gk_o Y c 10) (d : decode cc pc = .ok (.laload, 1)) (hf : (if gx_ix i 32 = true then a else none) = some rr) (kk : a = some rr → K μ (pc + 1) L (.long (gx_lng (μ c) i.toNatClampNeg) :: st)) : K μ pc L (.int i :: .ref (gy_a Y c) :: st) := by
  obtain ⟨p, e, s, m, args, below, meth, c0, Q, A0, cells, slots, cR, sR, hx, hb, hml, hown, hts, hK, hI, hN, hA, hcs, hss, rfl, hri, hrv, hrl⟩ := h
  intro H locs ls hP hS hl
  have ha : (gx_ws Y μ)[c - gy_o Y]? = some (gy_a Y c, .inl (gy_J Y, (32, .inr (.inl (gx_lng (μ c)))))) := by rw [gx_ws_get hc.1, gx_cell_l hc.2]
  exact va_lald (D := gy_D Y) hx hb hK hP (c - gy_o Y) 2 ha rfl (gx_ix_in (gx_must hf).1) d (kk (gx_must hf).2 H locs ls hP hS hl)
theorem gw_last (h : gx_K l own cc nL fr lo ret Y Post K) {c : Nat} {i : Int32} {x : Int64} {a : Option α} (hc : gk_o Y c 10) (d : decode cc pc = .ok (.lastore, 1)) (hf : (if gx_ix i 32 = true then a else none) = some rr) (kk : a = some rr → K (gx_ul μ c i.toNatClampNeg x) (pc + 1) L st) : K μ pc L (.long x :: .int i :: .ref (gy_a Y c) :: st) := by
  obtain ⟨p, e, s, m, args, below, meth, c0, Q, A0, cells, slots, cR, sR, hx, hb, hml, hown, hts, hK, hI, hN, hA, hcs, hss, rfl, hri, hrv, hrl⟩ := h
  intro H locs ls hP hS hl
  have ha : (gx_ws Y μ)[c - gy_o Y]? = some (gy_a Y c, .inl (gy_J Y, (32, .inr (.inl (gx_lng (μ c)))))) := by rw [gx_ws_get hc.1, gx_cell_l hc.2]
  have hD := gx_D (μ := μ) hI hA
  refine va_last (D := gy_D Y) hx hb hK hP hD hS (c - gy_o Y) 2 ha rfl (gx_ix_in (gx_must hf).1) d (fun H1 locs1 hP1 hD1 hS1 => ?_)
  have e1 : (gx_ws Y μ).set (c - gy_o Y) (gy_a Y c, .inl (gy_J Y, (32, .inr (.inl (vp_updL (gx_lng (μ c)) i.toNatClampNeg x))))) = gx_ws Y (gx_ul μ c i.toNatClampNeg x) := by
    rw [← gx_ws_set (μ := μ) (μ' := gx_ul μ c i.toNatClampNeg x) hc.1 (fun a ha => by unfold gx_ul; rw [gx_u_n ha, gx_u_n ha]), gx_cell_l hc.2, gx_ul_s]
  rw [e1] at hP1
  exact kk (gx_must hf).2 H1 locs1 ls hP1 hS1 hl
theorem gw_tald (h : gx_K l own cc nL fr lo ret Y Post K) {c : Nat} {i : Int32} (hc : gk_o Y c 9) (hin : vp_in i 5) (d : decode cc pc = .ok (.aaload, 1)) (kk : K μ (pc + 1) L (.ref (gy_a Y (c + 1 + 25 * i.toNatClampNeg)) :: st)) : K μ pc L (.int i :: .ref (gy_a Y c) :: st) := by
  obtain ⟨p, e, s, m, args, below, meth, c0, Q, A0, cells, slots, cR, sR, hx, hb, hml, hown, hts, hK, hI, hN, hA, hcs, hss, rfl, hri, hrv, hrl⟩ := h
  intro H locs ls hP hS hl
  have ha : (gx_ws Y μ)[c - gy_o Y]? = some (gy_a Y c, .inl (gy_T Y, (5, .inr (.inr (.inr (.inr (fun i => some (gy_a Y (c + 1 + 25 * i))))))))) := by rw [gx_ws_get hc.1, gx_cell_t hc.2]
  exact va_aldq (D := gy_D Y) hx hb hK hP (c - gy_o Y) 1 ha rfl hin d (kk H locs ls hP hS hl)
theorem gw_tlen (h : gx_K l own cc nL fr lo ret Y Post K) {c : Nat} (hc : gk_o Y c 9) (d : decode cc pc = .ok (.arraylength, 1)) (kk : K μ (pc + 1) L (.int 5 :: st)) : K μ pc L (.ref (gy_a Y c) :: st) := by
  obtain ⟨p, e, s, m, args, below, meth, c0, Q, A0, cells, slots, cR, sR, hx, hb, hml, hown, hts, hK, hI, hN, hA, hcs, hss, rfl, hri, hrv, hrl⟩ := h
  intro H locs ls hP hS hl
  have ha : (gx_ws Y μ)[c - gy_o Y]? = some (gy_a Y c, .inl (gy_T Y, (5, .inr (.inr (.inr (.inr (fun i => some (gy_a Y (c + 1 + 25 * i))))))))) := by rw [gx_ws_get hc.1, gx_cell_t hc.2]
  exact va_alen (D := gy_D Y) hx hb hK hP (c - gy_o Y) 1 ha rfl (show Int32.ofNat 5 = 5 by decide) d (kk H locs ls hP hS hl)
theorem gw_mmax (h : gx_K l own cc nL fr lo ret Y Post K) {idx : Nat} {x y : Int32} (k1 : Cond.methodLink own idx Lib.Math.max.name ∈ gWs) (d : decode cc pc = .ok (.invokestatic idx, 3)) (hfr : 1 ≤ fr) (hlo : (st.map fun v => v.category).sum + 13 ≤ lo) (kk : K μ (pc + 3) L (.int (if x < y then y else x) :: st)) : K μ pc L (.int y :: .int x :: st) := by
  obtain ⟨p, e, s, m, args, below, meth, c0, Q, A0, cells, slots, cR, sR, hx, hb, hml, hown, hts, hK, hI, hN, hA, hcs, hss, rfl, hri, hrv, hrl⟩ := h
  intro H locs ls hP hS hl
  exact va_mmax hx hb (hml.trans hl.1.symm) hown (hts _ k1) (hts _ kw_st_max) (hts _ kw_in_RJ9) (hts _ kw_co_max) hfr hlo hcs hss d (kk H locs ls hP hS hl)
theorem gw_mmin (h : gx_K l own cc nL fr lo ret Y Post K) {idx : Nat} {x y : Int32} (k1 : Cond.methodLink own idx Lib.Math.min.name ∈ gWs) (d : decode cc pc = .ok (.invokestatic idx, 3)) (hfr : 1 ≤ fr) (hlo : (st.map fun v => v.category).sum + 13 ≤ lo) (kk : K μ (pc + 3) L (.int (if y < x then y else x) :: st)) : K μ pc L (.int y :: .int x :: st) := by
  obtain ⟨p, e, s, m, args, below, meth, c0, Q, A0, cells, slots, cR, sR, hx, hb, hml, hown, hts, hK, hI, hN, hA, hcs, hss, rfl, hri, hrv, hrl⟩ := h
  intro H locs ls hP hS hl
  exact va_mmin hx hb (hml.trans hl.1.symm) hown (hts _ k1) (hts _ kw_st_min) (hts _ kw_in_RJ9) (hts _ kw_co_min) hfr hlo hcs hss d (kk H locs ls hP hS hl)
theorem gw_mabs (h : gx_K l own cc nL fr lo ret Y Post K) {idx : Nat} {x : Int32} (k1 : Cond.methodLink own idx Lib.Math.abs.name ∈ gWs) (d : decode cc pc = .ok (.invokestatic idx, 3)) (hfr : 1 ≤ fr) (hlo : (st.map fun v => v.category).sum + 13 ≤ lo) (kk : K μ (pc + 3) L (.int (if 0 ≤ x then x else 0 - x) :: st)) : K μ pc L (.int x :: st) := by
  obtain ⟨p, e, s, m, args, below, meth, c0, Q, A0, cells, slots, cR, sR, hx, hb, hml, hown, hts, hK, hI, hN, hA, hcs, hss, rfl, hri, hrv, hrl⟩ := h
  intro H locs ls hP hS hl
  exact va_mabs hx hb (hml.trans hl.1.symm) hown (hts _ k1) (hts _ kw_st_abs) (hts _ kw_in_RJ9) (hts _ kw_co_abs) hfr hlo hcs hss d (kk H locs ls hP hS hl)
theorem gw_copy (h : gx_K l own cc nL fr lo ret Y Post K) {idx ca c : Nat} {n : Int32} {a : Option α} (hca : gy_in Y ca) (hka : 100 ≤ gy_k Y ca) (hc : gy_in Y c) (hk : 100 ≤ gy_k Y c) (k1 : Cond.methodLink own idx arraycopyName ∈ gWs) (d : decode cc pc = .ok (.invokestatic idx, 3)) (hfr : 1 ≤ fr) (hlo : (st.map fun v => v.category).sum + (nativeFrameWords "java/lang/System" "arraycopy" 5 + 11) ≤ lo) (hf : (if ¬ n < 0 ∧ n.toNatClampNeg ≤ gy_k Y ca - 100 ∧ n.toNatClampNeg ≤ gy_k Y c - 100 then a else none) = some rr) (kk : a = some rr → K (gx_r μ c (va_cpy (μ ca) (μ c) 0 0 n.toNatClampNeg)) (pc + 3) L st) : K μ pc L (.int n :: .int 0 :: .ref (gy_a Y c) :: .int 0 :: .ref (gy_a Y ca) :: st) := by
  obtain ⟨p, e, s, m, args, below, meth, c0, Q, A0, cells, slots, cR, sR, hx, hb, hml, hown, hts, hK, hI, hN, hA, hcs, hss, rfl, hri, hrv, hrl⟩ := h
  intro H locs ls hP hS hl
  have ha0 : (gx_ws Y μ)[ca - gy_o Y]? = some (gy_a Y ca, .inl (gy_I Y, (gy_k Y ca - 100, .inl (μ ca)))) := by rw [gx_ws_get hca, gx_cell_a hka]
  have ha : (gx_ws Y μ)[c - gy_o Y]? = some (gy_a Y c, .inl (gy_I Y, (gy_k Y c - 100, .inl (μ c)))) := by rw [gx_ws_get hc, gx_cell_a hk]
  have hD := gx_D (μ := μ) hI hA
  obtain ⟨⟨q1, q2, q3⟩, hf⟩ := gx_must hf
  refine va_copyi (D := gy_D Y) hx hb (hml.trans hl.1.symm) hown (hts _ k1) (hts _ kw_na_copy) (hts _ kw_st_copy) (hts _ kw_in_RJ10) hK hP hD hS (ca - gy_o Y) (c - gy_o Y) 0 0 ha0 ha rfl rfl rfl (by decide) (by decide) q1 (by simpa using q2) (by simpa using q3) (fun i _ => rfl) hfr hlo d (fun H1 locs1 hP1 hD1 hS1 => ?_)
  have e1 : (gx_ws Y μ).set (c - gy_o Y) (gy_a Y c, .inl (gy_I Y, (gy_k Y c - 100, .inl (va_cpy (μ ca) (μ c) (0 : Int32).toNatClampNeg (0 : Int32).toNatClampNeg n.toNatClampNeg)))) = gx_ws Y (gx_r μ c (va_cpy (μ ca) (μ c) 0 0 n.toNatClampNeg)) := by
    rw [← gx_ws_set (μ := μ) (μ' := gx_r μ c (va_cpy (μ ca) (μ c) 0 0 n.toNatClampNeg)) hc (fun a ha => gx_r_n ha), gx_cell_a hk, gx_r_s]
    rfl
  rw [e1] at hP1
  exact kk hf H1 locs1 ls hP1 hS1 hl
theorem gw_callV (h : gx_K l own cc nL fr lo ret Y Post K) {idx : Nat} {y : MethodName} {bytes : ByteArray} {maxL : Nat} {retC : Option FieldType} {frC loC : Nat} {As : List Value} {q : Int32 × gx_M} {c kind : Nat} {C : String} {T : u_T} {N : Nat} (hc : gk_o Y c kind) (h9 : kind < 9) (hcl : vwCl[gx_Ci kind]? = some (C, T, N)) (hy : y.cls = C ∧ y.cls ≠ "java/lang/invoke/MethodHandle" ∧ y.cls ≠ "java/lang/invoke/VarHandle" ∧ (parseMethodDescriptor y.desc).map (fun d => d.parameters.length) = some As.length) (k1 : Cond.methodLink own idx y ∈ gWs) (k2 : Cond.instanceMethod y ∈ gWs) (k3 : Cond.selects C y y ∈ gWs) (k4 : Cond.initialized C ∈ gWs) (k5 : Cond.code y bytes maxL retC ∈ gWs) (hR : frC + 1 ≤ fr ∧ 8 + (maxL + 11) + loC ≤ lo) (hst : (st.map fun v => v.category).sum ≤ 8) (d : decode cc pc = .ok (.invokevirtual idx, 3)) (hM : gx_Con l y bytes maxL retC frC loC Y (.ref (gy_a Y c) :: As) μ q) (kk : K q.2 (pc + 3) L (gx_pu retC q.1 st)) : K μ pc L (As.reverse ++ .ref (gy_a Y c) :: st) := by
  obtain ⟨p, e, s, m, args, below, meth, c0, Q, A0, cells, slots, cR, sR, hx, hb, hml, hown, hts, hK, hI, hN, hA, hcs, hss, rfl, hri, hrv, hrl⟩ := h
  intro H locs ls hP hS hl
  have he : (gx_ws Y μ)[c - gy_o Y]? = some (gy_a Y c, .inr (gx_Ci kind, gx_fs kind (gy_a Y) c (μ c))) := by rw [gx_ws_get hc.1, gx_cell_o hc.2 h9]
  have hG : GoodIn gWs (wsV own idx C y (gx_Ws y bytes maxL retC)) := gWs_self (fun w hw => by
    simp only [wsV, gx_Ws, List.cons_append, List.nil_append, List.mem_cons] at hw
    rcases hw with rfl | rfl | rfl | rfl | rfl | hw
    · exact k1
    · exact k2
    · exact k3
    · exact k4
    · exact k5
    · exact hw)
  have hrun := va_runV (l := l) (R := { frames := fr, cells := cR, slots := sR, locals := lo }) (below := below) (meth := meth) (e := e) (locs := locs) (cells := cells) (slots := slots) (g := F0 m pc ls (As.reverse ++ .ref (gy_a Y c) :: st)) (As := As) (rest := st) ⟨hx, hb, hml, hown, hts⟩ hM (cwV As.length hts hG rfl rfl rfl hy hR) ⟨gx_W_blind, va_recv hK hP hcl he, fun U hU hW => ⟨rfl, by rw [hU]; exact hP, va_K.moved hW.alike hK, hI, gx_nest_warm hW hN⟩⟩ rfl rfl hl.1 rfl (lv_room (pc := pc) (m := m) (ls := ls) (rest := As.reverse ++ .ref (gy_a Y c) :: st) hst) d ⟨hcs, hss⟩
  cases retC with
  | none => exact va_callv (post := fun _ : Unit => True) (B := fun _ t => gx_W Y q.2 t) (A1 := gx_A Y) (a := (Value.ref (gy_a Y c) :: As).toArray) hrun hS (fun q _ hq => hA q hq) hA (fun u t H1 locs1 ht hvm hw hB hz1 hk1 hS1 => kk H1 locs1 ls (by rw [← ht]; exact hB.1) hS1 hl)
  | some ty => exact va_calli (post := fun r (_ : Unit) => r = q.1) (B := fun _ t => gx_W Y q.2 t) (A1 := gx_A Y) (a := (Value.ref (gy_a Y c) :: As).toArray) hrun hS (fun q _ hq => hA q hq) hA (fun r u t H1 locs1 ht hvm hw hB hz1 hk1 hS1 => by rw [hw]; exact kk H1 locs1 ls (by rw [← ht]; exact hB.1) hS1 hl)
theorem gw_callS (h : gx_K l own cc nL fr lo ret Y Post K) {idx : Nat} {y : MethodName} {bytes : ByteArray} {maxL : Nat} {retC : Option FieldType} {frC loC : Nat} {As : List Value} {q : Int32 × gx_M} (hy : y.cls = own ∧ y.cls ≠ "java/lang/invoke/MethodHandle" ∧ y.cls ≠ "java/lang/invoke/VarHandle" ∧ (parseMethodDescriptor y.desc).map (fun d => d.parameters.length) = some As.length) (k1 : Cond.methodLink own idx y ∈ gWs) (k2 : Cond.static y ∈ gWs) (k4 : Cond.initialized own ∈ gWs) (k5 : Cond.code y bytes maxL retC ∈ gWs) (hR : frC + 1 ≤ fr ∧ 8 + (maxL + 11) + loC ≤ lo) (hst : (st.map fun v => v.category).sum ≤ 8) (d : decode cc pc = .ok (.invokestatic idx, 3)) (hM : gx_Con l y bytes maxL retC frC loC Y As μ q) (kk : K q.2 (pc + 3) L (gx_pu retC q.1 st)) : K μ pc L (As.reverse ++ st) := by
  obtain ⟨p, e, s, m, args, below, meth, c0, Q, A0, cells, slots, cR, sR, hx, hb, hml, hown, hts, hK, hI, hN, hA, hcs, hss, rfl, hri, hrv, hrl⟩ := h
  intro H locs ls hP hS hl
  have hG : GoodIn gWs (wsS own idx y (gx_Ws y bytes maxL retC)) := gWs_self (fun w hw => by
    simp only [wsS, gx_Ws, List.cons_append, List.nil_append, List.mem_cons] at hw
    rcases hw with rfl | rfl | rfl | rfl | hw
    · exact k1
    · exact k2
    · exact k4
    · exact k5
    · exact hw)
  have hrun := va_runS (l := l) (R := { frames := fr, cells := cR, slots := sR, locals := lo }) (below := below) (meth := meth) (e := e) (locs := locs) (cells := cells) (slots := slots) (g := F0 m pc ls (As.reverse ++ st)) (As := As) (rest := st) ⟨hx, hb, hml, hown, hts⟩ hM (cwS As.length hts hG rfl rfl rfl hy hR) ⟨gx_W_blind, fun U hU hW => ⟨rfl, by rw [hU]; exact hP, va_K.moved hW.alike hK, hI, gx_nest_warm hW hN⟩⟩ rfl rfl hl.1 rfl (lv_room (pc := pc) (m := m) (ls := ls) (rest := As.reverse ++ st) hst) d ⟨hcs, hss⟩
  cases retC with
  | none => exact va_callv (post := fun _ : Unit => True) (B := fun _ t => gx_W Y q.2 t) (A1 := gx_A Y) (a := As.toArray) hrun hS (fun q _ hq => hA q hq) hA (fun u t H1 locs1 ht hvm hw hB hz1 hk1 hS1 => kk H1 locs1 ls (by rw [← ht]; exact hB.1) hS1 hl)
  | some ty => exact va_calli (post := fun r (_ : Unit) => r = q.1) (B := fun _ t => gx_W Y q.2 t) (A1 := gx_A Y) (a := As.toArray) hrun hS (fun q _ hq => hA q hq) hA (fun r u t H1 locs1 ht hvm hw hB hz1 hk1 hS1 => by rw [hw]; exact kk H1 locs1 ls (by rw [← ht]; exact hB.1) hS1 hl)
theorem gw_callSL (h : gx_K l own cc nL fr lo ret Y Post K) {idx : Nat} {y : MethodName} {bytes : ByteArray} {maxL : Nat} {frC loC : Nat} {As : List Value} {q : Int64 × gx_M} (hy : y.cls = own ∧ y.cls ≠ "java/lang/invoke/MethodHandle" ∧ y.cls ≠ "java/lang/invoke/VarHandle" ∧ (parseMethodDescriptor y.desc).map (fun d => d.parameters.length) = some As.length) (k1 : Cond.methodLink own idx y ∈ gWs) (k2 : Cond.static y ∈ gWs) (k4 : Cond.initialized own ∈ gWs) (k5 : Cond.code y bytes maxL (some .long) ∈ gWs) (hR : frC + 1 ≤ fr ∧ 8 + (maxL + 11) + loC ≤ lo) (hst : (st.map fun v => v.category).sum ≤ 8) (d : decode cc pc = .ok (.invokestatic idx, 3)) (hM : gx_ConL l y bytes maxL frC loC Y As μ q) (kk : K q.2 (pc + 3) L (.long q.1 :: st)) : K μ pc L (As.reverse ++ st) := by
  obtain ⟨p, e, s, m, args, below, meth, c0, Q, A0, cells, slots, cR, sR, hx, hb, hml, hown, hts, hK, hI, hN, hA, hcs, hss, rfl, hri, hrv, hrl⟩ := h
  intro H locs ls hP hS hl
  have hG : GoodIn gWs (wsS own idx y (gx_Ws y bytes maxL (some .long))) := gWs_self (fun w hw => by
    simp only [wsS, gx_Ws, List.cons_append, List.nil_append, List.mem_cons] at hw
    rcases hw with rfl | rfl | rfl | rfl | hw
    · exact k1
    · exact k2
    · exact k4
    · exact k5
    · exact hw)
  have hrun := va_runS (l := l) (R := { frames := fr, cells := cR, slots := sR, locals := lo }) (below := below) (meth := meth) (e := e) (locs := locs) (cells := cells) (slots := slots) (g := F0 m pc ls (As.reverse ++ st)) (As := As) (rest := st) ⟨hx, hb, hml, hown, hts⟩ hM (cwS As.length hts hG rfl rfl rfl hy hR) ⟨gx_W_blind, fun U hU hW => ⟨rfl, by rw [hU]; exact hP, va_K.moved hW.alike hK, hI, gx_nest_warm hW hN⟩⟩ rfl rfl hl.1 rfl (lv_room (pc := pc) (m := m) (ls := ls) (rest := As.reverse ++ st) hst) d ⟨hcs, hss⟩
  exact va_calll (post := fun r (_ : Unit) => r = q.1) (B := fun _ t => gx_W Y q.2 t) (A1 := gx_A Y) (a := As.toArray) hrun hS (fun q _ hq => hA q hq) hA (fun r u t H1 locs1 ht hvm hw hB hz1 hk1 hS1 => by rw [hw]; exact kk H1 locs1 ls (by rw [← ht]; exact hB.1) hS1 hl)
theorem gw_callSN (h : gx_K l own cc nL fr lo ret Y Post K) {idx : Nat} {y : MethodName} {bytes : ByteArray} {maxL : Nat} {retC : Option FieldType} {frC loC : Nat} {As : List Value} {q : Int32 × gx_M} {host : String} (hy : y.cls ≠ "java/lang/invoke/MethodHandle" ∧ y.cls ≠ "java/lang/invoke/VarHandle" ∧ (parseMethodDescriptor y.desc).map (fun d => d.parameters.length) = some As.length) (k1 : Cond.methodLinkNest own idx y host ∈ gx_nest) (k2 : Cond.static y ∈ gWs) (k4 : Cond.initialized y.cls ∈ gWs) (k5 : Cond.code y bytes maxL retC ∈ gWs) (hR : frC + 1 ≤ fr ∧ 8 + (maxL + 11) + loC ≤ lo) (hst : (st.map fun v => v.category).sum ≤ 8) (d : decode cc pc = .ok (.invokestatic idx, 3)) (hM : gx_Con l y bytes maxL retC frC loC Y As μ q) (kk : K q.2 (pc + 3) L (gx_pu retC q.1 st)) : K μ pc L (As.reverse ++ st) := by
  obtain ⟨p, e, s, m, args, below, meth, c0, Q, A0, cells, slots, cR, sR, hx, hb, hml, hown, hts, hK, hI, hN, hA, hcs, hss, rfl, hri, hrv, hrl⟩ := h
  intro H locs ls hP hS hl
  have hG : GoodIn gWs (gx_Ws y bytes maxL retC) := gWs_self (fun w hw => by
    rcases List.mem_cons.mp hw with rfl | hw
    · exact k5
    · exact hw)
  have hrun := va_runSN (l := l) (R := { frames := fr, cells := cR, slots := sR, locals := lo }) (below := below) (meth := meth) (e := e) (locs := locs) (cells := cells) (slots := slots) (g := F0 m pc ls (As.reverse ++ st)) (As := As) (rest := st) ⟨hx, hb, hml, hown, hts⟩ hM ⟨va_cnB As.length hts hG rfl rfl rfl (hN _ k1) (hts _ k4) hy hR, hts _ k2, trivial⟩ ⟨gx_W_blind, fun U hU hW => ⟨rfl, by rw [hU]; exact hP, va_K.moved hW.alike hK, hI, gx_nest_warm hW hN⟩⟩ rfl rfl hl.1 rfl (lv_room (pc := pc) (m := m) (ls := ls) (rest := As.reverse ++ st) hst) d ⟨hcs, hss⟩
  cases retC with
  | none => exact va_callv (post := fun _ : Unit => True) (B := fun _ t => gx_W Y q.2 t) (A1 := gx_A Y) (a := As.toArray) hrun hS (fun q _ hq => hA q hq) hA (fun u t H1 locs1 ht hvm hw hB hz1 hk1 hS1 => kk H1 locs1 ls (by rw [← ht]; exact hB.1) hS1 hl)
  | some ty => exact va_calli (post := fun r (_ : Unit) => r = q.1) (B := fun _ t => gx_W Y q.2 t) (A1 := gx_A Y) (a := As.toArray) hrun hS (fun q _ hq => hA q hq) hA (fun r u t H1 locs1 ht hvm hw hB hz1 hk1 hS1 => by rw [hw]; exact kk H1 locs1 ls (by rw [← ht]; exact hB.1) hS1 hl)
theorem gw_ret_i (h : gx_K l own cc nL fr lo (some .int) Y Post K) {v : Int32} (d : decode cc pc = .ok (.ireturn, 1)) (hp : Post (.int v) μ) : K μ pc L [.int v] := by
  obtain ⟨p, e, s, m, args, below, meth, c0, Q, A0, cells, slots, cR, sR, hx, hb, hml, hown, hts, hK, hI, hN, hA, hcs, hss, hKe, hri, hrv, hrl⟩ := h
  exact hri μ pc L v .int rfl rfl d hp
theorem gw_ret_z (h : gx_K l own cc nL fr lo (some .boolean) Y Post K) {v : Int32} (d : decode cc pc = .ok (.ireturn, 1)) (hn : narrow .boolean (.int v) = .int v) (hp : Post (.int v) μ) : K μ pc L [.int v] := by
  obtain ⟨p, e, s, m, args, below, meth, c0, Q, A0, cells, slots, cR, sR, hx, hb, hml, hown, hts, hK, hI, hN, hA, hcs, hss, hKe, hri, hrv, hrl⟩ := h
  exact hri μ pc L v .boolean rfl hn d hp
theorem gw_ret_v (h : gx_K l own cc nL fr lo none Y Post K) (d : decode cc pc = .ok (.return_, 1)) (hp : Post (.int 0) μ) : K μ pc L [] := by
  obtain ⟨p, e, s, m, args, below, meth, c0, Q, A0, cells, slots, cR, sR, hx, hb, hml, hown, hts, hK, hI, hN, hA, hcs, hss, hKe, hri, hrv, hrl⟩ := h
  exact hrv μ pc L rfl d hp
theorem gw_ret_l (h : gx_K l own cc nL fr lo (some .long) Y Post K) {v : Int64} (d : decode cc pc = .ok (.lreturn, 1)) (hp : Post (.long v) μ) : K μ pc L [.long v] := by
  obtain ⟨p, e, s, m, args, below, meth, c0, Q, A0, cells, slots, cR, sR, hx, hb, hml, hown, hts, hK, hI, hN, hA, hcs, hss, hKe, hri, hrv, hrl⟩ := h
  exact hrl μ pc L v rfl d hp
/-- the world looks at the cells that are there, no further -/
def gx_len (Y : gx_Y) (c : Nat) : Nat := if gy_k Y c < 9 then gx_N (gy_k Y c) else if gy_k Y c = 10 then 64 else gy_k Y c - 100
theorem gx_ws_same {Y : gx_Y} {μ μ' : gx_M} {H : Heap} (hP : va_P (gy_D Y) vwCl (gx_ws Y μ) H) (h : ∀ c, gy_in Y c → ∀ j, j < gx_len Y c → μ' c j = μ c j) : va_P (gy_D Y) vwCl (gx_ws Y μ') H := by
  intro k q hq
  obtain ⟨h1, rfl⟩ := gx_ws_inv hq
  have h2 := hP k _ (gx_ws_at h1)
  have hh := h (k + gy_o Y) ⟨by omega, by omega⟩
  unfold gx_len at hh
  unfold gx_cell at h2 ⊢
  by_cases c1 : gy_k Y (k + gy_o Y) < 9
  · rw [if_pos c1] at h2 ⊢
    rw [if_pos c1] at hh
    have e : gx_fs (gy_k Y (k + gy_o Y)) (gy_a Y) (k + gy_o Y) (μ' (k + gy_o Y)) = gx_fs (gy_k Y (k + gy_o Y)) (gy_a Y) (k + gy_o Y) (μ (k + gy_o Y)) := by
      unfold gx_fs
      refine List.map_congr_left (fun j hj => gx_fld_dep _ _ _ (hh j (List.mem_range.mp hj)))
    rw [e]
    exact h2
  · rw [if_neg c1] at h2 ⊢
    rw [if_neg c1] at hh
    by_cases c2 : gy_k Y (k + gy_o Y) = 9
    · rw [if_pos c2] at h2 ⊢
      exact h2
    · rw [if_neg c2] at h2 ⊢
      by_cases c3 : gy_k Y (k + gy_o Y) = 10
      · rw [if_pos c3] at h2 ⊢
        rw [if_pos c3] at hh
        exact gx_at_long (fun i hi => by unfold gx_lng; rw [hh _ (by omega), hh _ (by omega)]) h2
      · rw [if_neg c3] at h2 ⊢
        rw [if_neg c3] at hh
        exact gx_at_int hh h2
theorem gw_same (h : gx_K l own cc nL fr lo ret Y Post K) {μ' : gx_M} (hm : ∀ c, gy_in Y c → ∀ j, j < gx_len Y c → μ' c j = μ c j) (kk : K μ' pc L st) : K μ pc L st := by
  obtain ⟨p, e, s, m, args, below, meth, c0, Q, A0, cells, slots, cR, sR, hx, hb, hml, hown, hts, hK, hI, hN, hA, hcs, hss, rfl, hri, hrv, hrl⟩ := h
  intro H locs ls hP hS hl
  exact kk H locs ls (gx_ws_same hP hm) hS hl
end GXR
