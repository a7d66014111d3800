/-! ===== take: a number out of the script ===== -/
def tk (L : Nat) (xs : Nat → Int32) (k : Nat) : Int32 := if L = 0 then 7919 * nI k + 3 else ((xs (k % L) >>> ((nI k - nI k / 7 * 7) &&& 31)) ^^^ (nI k / nI L * 31)) ^^^ (nI k * 2654435)
set_option maxHeartbeats 4000000 in
set_option maxRecDepth 100000 in
theorem ct_take (l : Launch) {b L : Nat} {xs : Nat → Int32} (hL : L ≤ 260) {k : Nat} (hk : k < 1000) : Met l yL_take (gx_Ws yL_take cL_take 2 (some .int)) { frames := 0, cells := 0, slots := 0, locals := 0 } (va_Pc [.ref b, .int (nI k)] (fun U => va_X b L xs U U.heap ∧ b < U.heap.size)) (va_Qi (fun r (_ : Unit) => r = tk L xs k) (fun _ _ => True) (fun _ => False)) 0 0 (fun _ => False) := by
  refine Met.ofW (cc := cL_take) (maxL := 2) (ret := some .int) (by decide) rfl ?_
  intro p e s m args below meth c s₁ B hml hv
  obtain ⟨rfl, hX, hbl⟩ := hv
  have hts0 := atoms_spec (ws := gx_Ws yL_take cL_take 2 (some .int)) B.pre
  have hts : ∀ w ∈ gWs, w.before ([.ref b, .int (nI k)] : List Value).toArray s = true := fun w hw => hts0 w (List.mem_cons_of_mem _ hw)
  have hown : s.vm.findClass RL = some m.cls := findClass_of_methodNamed B.named
  have hx := B.exec
  have hb := B.bytes
  have hr := B.returns
  have hlocks := B.notSynchronized
  rw [lg_entry_eq]
  have hl := lv_entry ([.ref b, .int (nI k)] : List Value) (n := 2) (Nat.le_of_ble_eq_true rfl)
  rw [show lv_args 0 ([.ref b, .int (nI k)] : List Value) = [(0, .ref b), (1, .int (nI k))] from rfl] at hl
  have hbA : ¬ (fun _ : Nat => False) b := fun h => h
  have hS : va_S (fun _ : Nat => False) s.heap s.heap [] := va_S.rf
  refine lv_aload_n (pc := 0) hx hb dL_take_0 rfl (lv_at hl 0 rfl) ?_
  refine va_slen (pc := 1) hx hb hX hbl hbA hS dL_take_1 ?_
  have fin : ∀ (pc : Nat) (v : Int32), v = tk L xs k → decode cL_take pc = .ok (.ireturn, 1) → W p l e { frames := 0, cells := 0, slots := 0, locals := 0 } s m ([.ref b, .int (nI k)] : List Value).toArray below meth c s.heap [] 0 0 (MQ below (va_Qi (fun r (_ : Unit) => r = tk L xs k) (fun _ _ => True) (fun _ => False)) ([.ref b, .int (nI k)] : List Value).toArray s 0 0 (fun _ => False)) (F0 m pc ((lg_sl ([.ref b, .int (nI k)] : List Value) ++ List.replicate (2 - (lg_sl ([.ref b, .int (nI k)] : List Value)).length) Slot.unset).toArray) [.int v]) := fun pc v hv d =>
    W.zret hx hb hr rfl (fun t ht hW => ⟨⟨v, (), rfl, hv, trivial⟩, hS.F ht⟩) (fun q h => by simp at h) d
  by_cases e : L = 0
  · subst e
    refine lv_if_ne (pc := 2) (tgt := 15) hx hb dL_take_2 (by decide) (fun q => absurd (show nI 0 = 0 from rfl) q) (fun _ => ?_)
    refine lv_sipush (pc := 5) (v := 7919) hx hb dL_take_5 (by decide) ?_
    refine lv_iload_n (pc := 8) hx hb dL_take_8 rfl (lv_at hl 1 rfl) ?_
    refine lv_imul (pc := 9) hx hb dL_take_9 ?_
    refine lv_iconst (pc := 10) (v := 3) hx hb dL_take_10 (by decide) ?_
    refine lv_iadd (pc := 11) hx hb dL_take_11 ?_
    refine lv_goto (pc := 12) (tgt := 39) hx hb dL_take_12 (by decide) ?_
    exact fin 39 _ (by unfold tk; rw [if_pos rfl]) dL_take_39
  · have hne : ¬ nI L = 0 := nI_ne0 (by omega) (by omega)
    refine lv_if_ne (pc := 2) (tgt := 15) hx hb dL_take_2 (by decide) (fun _ => ?_) (fun q => absurd q hne)
    refine lv_aload_n (pc := 15) hx hb dL_take_15 rfl (lv_at hl 0 rfl) ?_
    refine lv_iload_n (pc := 16) hx hb dL_take_16 rfl (lv_at hl 1 rfl) ?_
    refine lv_aload_n (pc := 17) hx hb dL_take_17 rfl (lv_at hl 0 rfl) ?_
    refine va_slen (pc := 18) hx hb hX hbl hbA hS dL_take_18 ?_
    refine lv_irem (pc := 19) hx hb dL_take_19 hne ?_
    rw [show nI k - nI k / Int32.ofNat L * Int32.ofNat L = nI (k % L) from pk_rem (by omega) (by omega) (by omega)]
    have hm : k % L < L := Nat.mod_lt _ (by omega)
    refine va_sld (pc := 20) hx hb hX hbl hbA hS (vp_in_nI hm (by omega)) dL_take_20 ?_
    rw [nI_clamp (by omega)]
    refine lv_iload_n (pc := 21) hx hb dL_take_21 rfl (lv_at hl 1 rfl) ?_
    refine lv_bipush (pc := 22) (v := 7) hx hb dL_take_22 (by decide) ?_
    refine lv_irem (pc := 24) hx hb dL_take_24 (by decide) ?_
    refine lv_ishr (pc := 25) hx hb dL_take_25 ?_
    refine lv_iload_n (pc := 26) hx hb dL_take_26 rfl (lv_at hl 1 rfl) ?_
    refine lv_aload_n (pc := 27) hx hb dL_take_27 rfl (lv_at hl 0 rfl) ?_
    refine va_slen (pc := 28) hx hb hX hbl hbA hS dL_take_28 ?_
    refine lv_idiv (pc := 29) hx hb dL_take_29 hne ?_
    refine lv_bipush (pc := 30) (v := 31) hx hb dL_take_30 (by decide) ?_
    refine lv_imul (pc := 32) hx hb dL_take_32 ?_
    refine lv_ixor (pc := 33) hx hb dL_take_33 ?_
    refine lv_iload_n (pc := 34) hx hb dL_take_34 rfl (lv_at hl 1 rfl) ?_
    refine lv_ldc (pc := 35) (v := 2654435) hx hb hown (hts _ kw_k_RL_8) dL_take_35 ?_
    refine lv_imul (pc := 37) hx hb dL_take_37 ?_
    refine lv_ixor (pc := 38) hx hb dL_take_38 ?_
    exact fin 39 _ (by unfold tk; rw [if_neg e]; rfl) dL_take_39
/-- the layout's judgement and the list's: there and back -/
theorem gz_toG2 {l : Launch} {own : String} {cc : ByteArray} {nL fr lo mc ms : Nat} {D : va_G} {cI cT : ClassId} {Post : va_W → Prop} {K : gz_KT} {pc cells slots : Nat} {L : List (Nat × Value)} {st : List Value} (h : gz_K l own cc nL fr lo mc ms D cI cT Post K) {Y : gx_Y} {μ : gx_M} (hY : gy_D Y = D ∧ gy_I Y = cI ∧ gy_T Y = cT) (hcs : cells ≤ mc) (hss : slots ≤ ms) (hret : ∀ (ws : va_W) (pc : Nat) (L : List (Nat × Value)), decode cc pc = .ok (.ireturn, 1) → K ws pc L [.int 1] cells slots)
    (kk : ∀ K' : gx_KT, gx_K l own cc nL fr lo (some .boolean) Y (fun v _ => v = .int 1) K' → (∀ (μ : gx_M) (pc : Nat) (L : List (Nat × Value)) (st : List Value), K (gx_ws Y μ) pc L st cells slots → K' μ pc L st) → (∀ (μ : gx_M) (pc : Nat) (L : List (Nat × Value)) (st : List Value), K' μ pc L st → K (gx_ws Y μ) pc L st cells slots) → K' μ pc L st) : K (gx_ws Y μ) pc L st cells slots := by
  obtain ⟨p, e, s, m, args, below, meth, c0, Q, A0, hx, hb, hml, hown, hts, hSs, hin0, hA, rfl, hrv⟩ := h
  obtain ⟨rfl, rfl, rfl⟩ := hY
  intro H locs ls hP hD hS hl
  obtain ⟨hI, hA1⟩ := gx_Inj_of hD
  refine kk _ ⟨p, e, s, m, args, below, meth, c0, Q, A0, cells, slots, mc, ms, hx, hb, hml, hown, hts, hSs.1, hI, hSs.2.1, hA1, hcs, hss, rfl, ?_, (fun _ _ _ h => nomatch h), (fun _ _ _ _ h => nomatch h)⟩ ?_ ?_ H locs ls hP hS hl
  · intro μ1 pc1 L1 v ty _ _ d1 hv H1 locs1 ls1 hP1 hS1 hl1
    cases hv
    exact hret (gx_ws Y μ1) pc1 L1 d1 H1 locs1 ls1 hP1 (gx_D hI hA1) hS1 hl1
  · intro μ1 pc1 L1 st1 hk H1 locs1 ls1 hP1 hS1 hl1
    exact hk H1 locs1 ls1 hP1 (gx_D hI hA1) hS1 hl1
  · intro μ1 pc1 L1 st1 hk H1 locs1 ls1 hP1 hD1 hS1 hl1
    exact hk H1 locs1 ls1 hP1 hS1 hl1
section GZI
variable {l : Launch} {own : String} {cc : ByteArray} {nL fr lo mc ms : Nat} {D : va_G} {cI cT : ClassId} {Post : va_W → Prop} {K : gz_KT} {pc cells slots : Nat} {ws : va_W} {L L' : List (Nat × Value)} {st : List Value}
theorem gz_if_eq (h : gz_K l own cc nL fr lo mc ms D cI cT Post K) {x : Int32} {off : Int} {tgt : Nat} (d : decode cc pc = .ok (.ifCond .eq off, 3)) (ht : (pc : Int) + off = (tgt : Int)) (kt : x = 0 → K ws tgt L st cells slots) (kf : ¬ x = 0 → K ws (pc + 3) L st cells slots) : K ws pc L (.int x :: st) cells slots := by
  obtain ⟨p, e, s, m, args, below, meth, c0, Q, A0, hx, hb, hml, hown, hts, hSs, hin0, hA, rfl, hrv⟩ := h
  intro H locs ls hP hD hS hl
  exact lv_if_eq hx hb d ht (fun q => kt q H locs ls hP hD hS hl) (fun q => kf q H locs ls hP hD hS hl)
theorem gz_if_ne (h : gz_K l own cc nL fr lo mc ms D cI cT Post K) {x : Int32} {off : Int} {tgt : Nat} (d : decode cc pc = .ok (.ifCond .ne off, 3)) (ht : (pc : Int) + off = (tgt : Int)) (kt : ¬ x = 0 → K ws tgt L st cells slots) (kf : x = 0 → K ws (pc + 3) L st cells slots) : K ws pc L (.int x :: st) cells slots := by
  obtain ⟨p, e, s, m, args, below, meth, c0, Q, A0, hx, hb, hml, hown, hts, hSs, hin0, hA, rfl, hrv⟩ := h
  intro H locs ls hP hD hS hl
  exact lv_if_ne hx hb d ht (fun q => kt q H locs ls hP hD hS hl) (fun q => kf q H locs ls hP hD hS hl)
theorem gz_astore (h : gz_K l own cc nL fr lo mc ms D cI cT Post K) {i : Nat} {x : Nat} (d : decode cc pc = .ok (.astore i, 2)) (hn : i < nL) (hL : (i, Value.ref x) :: L.filter (fun q => !(q.1 == i) && !(q.1 + 1 == i && q.2.category == 2)) = L') (kk : K ws (pc + 2) L' st cells slots) : K ws pc L (.ref x :: st) cells slots := by
  obtain ⟨p, e, s, m, args, below, meth, c0, Q, A0, hx, hb, hml, hown, hts, hSs, hin0, hA, rfl, hrv⟩ := h
  intro H locs ls hP hD hS hl
  exact lv_astore hx hb d hl hn hL (fun ls1 hl1 => kk H locs ls1 hP hD hS hl1)
end GZI
