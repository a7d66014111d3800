/-! ===== what count, bowlOf and noteOf answer, out of the ghost row alone ===== -/
def ck (s : Nat → Int32) (w : Nat) : Int32 :=
  if w < 3 then s w
  else if w = 3 then (if s 2 = 0 then 0 else pphr s ((s 2).toNatClampNeg - 1) + 1)
  else if w = 4 then psf (fun b => if s (61 + 6 * b + 2) = 1 then 1 else 0) 0 (s 2).toNatClampNeg
  else if w = 5 then psf (fun b => if s (61 + 6 * b + 2) = 1 then (if s (61 + 6 * b + 5) = 1 then 1 else 0) else 0) 0 (s 2).toNatClampNeg
  else if w = 6 then psf (fun b => if s (61 + 6 * b + 2) = 1 then (if s (61 + 6 * b + 3) = -1 then 1 else 0) else 0) 0 (s 2).toNatClampNeg
  else if w < 10 then -100001
  else if w < 14 then s (w - 3)
  else if w < 20 then -100001
  else if w = 20 then s 3
  else if w = 21 then psf (fun b => s (11 + 5 * b + 2)) 0 (s 1).toNatClampNeg
  else if w < 25 then s (w - 18)
  else -100001

theorem c_count {μ : gx_M} {s : Nat → Int32} (h : RT μ 7 s) (w : Nat) (hw : w < 26) (h7 : w ≠ 7) (h8 : w ≠ 8) : fn_X6_count gl_kd μ 6 (nI w) = some (ck s w, μ) := by
  obtain ⟨nb, nn, hB, hN, hS⟩ := h
  have hb5 : μ 8 5 = nI nb := hB.2.1.1
  have hb1 : s 1 = nI nb := hB.2.1.2
  have hn5 : μ 19 5 = nI nn := hN.2.1.1
  have hn2 : s 2 = nI nn := hN.2.1.2
  have hnn := hN.1
  have hnb := hB.1
  obtain ⟨w1, w2, w3⟩ := rN_nw hN
  have ecb : (s 1).toNatClampNeg = nb := by rw [hb1, nI_clamp (by omega)]
  have ecn : (s 2).toNatClampNeg = nn := by rw [hn2, nI_clamp (by omega)]
  unfold fn_X6_count
  simp only [Nat.reduceAdd]
  rcases (show w = 0 ∨ w = 1 ∨ w = 2 ∨ w = 3 ∨ w = 4 ∨ w = 5 ∨ w = 6 ∨ w = 9 ∨ w = 10 ∨ w = 11 ∨ w = 12 ∨ w = 13 ∨ w = 14 ∨ w = 15 ∨ w = 16 ∨ w = 17 ∨ w = 18 ∨ w = 19 ∨ w = 20 ∨ w = 21 ∨ w = 22 ∨ w = 23 ∨ w = 24 ∨ w = 25 by omega) with rfl | rfl | rfl | rfl | rfl | rfl | rfl | rfl | rfl | rfl | rfl | rfl | rfl | rfl | rfl | rfl | rfl | rfl | rfl | rfl | rfl | rfl | rfl | rfl
  · rw [pg_within, pb_s, if_pos (show pwi (nI 0) 10 13 = 0 by decide), pg_within, pb_s, if_pos (show pwi (nI 0) 20 24 = 0 by decide), if_pos (show nI 0 = 0 from rfl)]
    unfold fn_X4_time
    rw [pb_s, show μ 7 3 = s 0 from hS.1]
    rfl
  · rw [pg_within, pb_s, if_pos (show pwi (nI 1) 10 13 = 0 by decide), pg_within, pb_s, if_pos (show pwi (nI 1) 20 24 = 0 by decide), if_neg (show ¬ nI 1 = 0 by decide), if_pos (show nI 1 = 1 from rfl)]
    unfold fn_X0_size
    rw [pb_s, hb5, ← hb1]
    rfl
  · rw [pg_within, pb_s, if_pos (show pwi (nI 2) 10 13 = 0 by decide), pg_within, pb_s, if_pos (show pwi (nI 2) 20 24 = 0 by decide), if_neg (show ¬ nI 2 = 0 by decide), if_neg (show ¬ nI 2 = 1 by decide), if_pos (show nI 2 = 2 from rfl)]
    unfold fn_X2_size
    rw [pb_s, hn5, ← hn2]
    rfl
  · rw [pg_within, pb_s, if_pos (show pwi (nI 3) 10 13 = 0 by decide), pg_within, pb_s, if_pos (show pwi (nI 3) 20 24 = 0 by decide), if_neg (show ¬ nI 3 = 0 by decide), if_neg (show ¬ nI 3 = 1 by decide), if_neg (show ¬ nI 3 = 2 by decide), if_pos (show nI 3 = 3 from rfl), pg_st1, pb_s]
    unfold fn_X2_phrases
    show _ = some ((if s 2 = 0 then 0 else pphr s ((s 2).toNatClampNeg - 1) + 1), μ)
    by_cases e0n : nn = 0
    · subst e0n
      unfold fn_X2_phraseOf
      rw [hn5, hn2, if_pos (show nI 0 = 0 from rfl), show gx_F = 4999 + 1 from rfl, lf_X2_phraseOf_5, if_pos (show nI 0 - 1 < 0 by decide), pb_s, pb_s]
      rfl
    · obtain ⟨j, rfl⟩ : ∃ q, nn = q + 1 := ⟨nn - 1, by omega⟩
      rw [ecn, hn5, hn2, if_neg (nI_ne0 (by omega) (by omega)), nI_pred, show μ 31 1 = s 8 from hS.2.2.1 1 (by decide), pg_phr (c := 19) (s := s) (j := j) pKN_19 hN (by omega), pb_s, pb_s, show j + 1 - 1 = j by omega]
  · rw [pg_within, pb_s, if_pos (show pwi (nI 4) 10 13 = 0 by decide), pg_within, pb_s, if_pos (show pwi (nI 4) 20 24 = 0 by decide), if_neg (show ¬ nI 4 = 0 by decide), if_neg (show ¬ nI 4 = 1 by decide), if_neg (show ¬ nI 4 = 2 by decide), if_neg (show ¬ nI 4 = 3 by decide), if_pos (show nI 4 = 4 from rfl)]
    unfold fn_X2_playedNotes
    show _ = some (psf (fun b => if s (61 + 6 * b + 2) = 1 then 1 else 0) 0 (s 2).toNatClampNeg, μ)
    rw [ecn, pg_nw pKN_19 hn5 hnn, pb_s, pb_s, hn5]
    exact congrArg (fun x => some (x, μ)) w1
  · rw [pg_within, pb_s, if_pos (show pwi (nI 5) 10 13 = 0 by decide), pg_within, pb_s, if_pos (show pwi (nI 5) 20 24 = 0 by decide), if_neg (show ¬ nI 5 = 0 by decide), if_neg (show ¬ nI 5 = 1 by decide), if_neg (show ¬ nI 5 = 2 by decide), if_neg (show ¬ nI 5 = 3 by decide), if_neg (show ¬ nI 5 = 4 by decide), if_pos (show nI 5 = 5 from rfl), pg_nw pKN_19 hn5 hnn, pb_s]
    show _ = some (psf (fun b => if s (61 + 6 * b + 2) = 1 then (if s (61 + 6 * b + 5) = 1 then 1 else 0) else 0) 0 (s 2).toNatClampNeg, μ)
    rw [ecn]
    exact congrArg (fun x => some (x, μ)) w2
  · rw [pg_within, pb_s, if_pos (show pwi (nI 6) 10 13 = 0 by decide), pg_within, pb_s, if_pos (show pwi (nI 6) 20 24 = 0 by decide), if_neg (show ¬ nI 6 = 0 by decide), if_neg (show ¬ nI 6 = 1 by decide), if_neg (show ¬ nI 6 = 2 by decide), if_neg (show ¬ nI 6 = 3 by decide), if_neg (show ¬ nI 6 = 4 by decide), if_neg (show ¬ nI 6 = 5 by decide), if_pos (show nI 6 = 6 from rfl), pg_nw pKN_19 hn5 hnn, pb_s]
    show _ = some (psf (fun b => if s (61 + 6 * b + 2) = 1 then (if s (61 + 6 * b + 3) = -1 then 1 else 0) else 0) 0 (s 2).toNatClampNeg, μ)
    rw [ecn]
    exact congrArg (fun x => some (x, μ)) w3
  · rw [pg_within, pb_s, if_pos (show pwi (nI 9) 10 13 = 0 by decide), pg_within, pb_s, if_pos (show pwi (nI 9) 20 24 = 0 by decide), if_neg (show ¬ nI 9 = 0 by decide), if_neg (show ¬ nI 9 = 1 by decide), if_neg (show ¬ nI 9 = 2 by decide), if_neg (show ¬ nI 9 = 3 by decide), if_neg (show ¬ nI 9 = 4 by decide), if_neg (show ¬ nI 9 = 5 by decide), if_neg (show ¬ nI 9 = 6 by decide), if_neg (show ¬ nI 9 = 7 by decide), if_neg (show ¬ nI 9 = 8 by decide)]
    rfl
  · rw [pg_within, pb_s, if_neg (show ¬ pwi (nI 10) 10 13 = 0 by decide), show nI 10 - 10 = nI 0 by decide, pg_st (by decide), pb_s, show μ 31 0 = s 7 from hS.2.2.1 0 (by decide)]
    rfl
  · rw [pg_within, pb_s, if_neg (show ¬ pwi (nI 11) 10 13 = 0 by decide), show nI 11 - 10 = nI 1 by decide, pg_st (by decide), pb_s, show μ 31 1 = s 8 from hS.2.2.1 1 (by decide)]
    rfl
  · rw [pg_within, pb_s, if_neg (show ¬ pwi (nI 12) 10 13 = 0 by decide), show nI 12 - 10 = nI 2 by decide, pg_st (by decide), pb_s, show μ 31 2 = s 9 from hS.2.2.1 2 (by decide)]
    rfl
  · rw [pg_within, pb_s, if_neg (show ¬ pwi (nI 13) 10 13 = 0 by decide), show nI 13 - 10 = nI 3 by decide, pg_st (by decide), pb_s, show μ 31 3 = s 10 from hS.2.2.1 3 (by decide)]
    rfl
  · rw [pg_within, pb_s, if_pos (show pwi (nI 14) 10 13 = 0 by decide), pg_within, pb_s, if_pos (show pwi (nI 14) 20 24 = 0 by decide), if_neg (show ¬ nI 14 = 0 by decide), if_neg (show ¬ nI 14 = 1 by decide), if_neg (show ¬ nI 14 = 2 by decide), if_neg (show ¬ nI 14 = 3 by decide), if_neg (show ¬ nI 14 = 4 by decide), if_neg (show ¬ nI 14 = 5 by decide), if_neg (show ¬ nI 14 = 6 by decide), if_neg (show ¬ nI 14 = 7 by decide), if_neg (show ¬ nI 14 = 8 by decide)]
    rfl
  · rw [pg_within, pb_s, if_pos (show pwi (nI 15) 10 13 = 0 by decide), pg_within, pb_s, if_pos (show pwi (nI 15) 20 24 = 0 by decide), if_neg (show ¬ nI 15 = 0 by decide), if_neg (show ¬ nI 15 = 1 by decide), if_neg (show ¬ nI 15 = 2 by decide), if_neg (show ¬ nI 15 = 3 by decide), if_neg (show ¬ nI 15 = 4 by decide), if_neg (show ¬ nI 15 = 5 by decide), if_neg (show ¬ nI 15 = 6 by decide), if_neg (show ¬ nI 15 = 7 by decide), if_neg (show ¬ nI 15 = 8 by decide)]
    rfl
  · rw [pg_within, pb_s, if_pos (show pwi (nI 16) 10 13 = 0 by decide), pg_within, pb_s, if_pos (show pwi (nI 16) 20 24 = 0 by decide), if_neg (show ¬ nI 16 = 0 by decide), if_neg (show ¬ nI 16 = 1 by decide), if_neg (show ¬ nI 16 = 2 by decide), if_neg (show ¬ nI 16 = 3 by decide), if_neg (show ¬ nI 16 = 4 by decide), if_neg (show ¬ nI 16 = 5 by decide), if_neg (show ¬ nI 16 = 6 by decide), if_neg (show ¬ nI 16 = 7 by decide), if_neg (show ¬ nI 16 = 8 by decide)]
    rfl
  · rw [pg_within, pb_s, if_pos (show pwi (nI 17) 10 13 = 0 by decide), pg_within, pb_s, if_pos (show pwi (nI 17) 20 24 = 0 by decide), if_neg (show ¬ nI 17 = 0 by decide), if_neg (show ¬ nI 17 = 1 by decide), if_neg (show ¬ nI 17 = 2 by decide), if_neg (show ¬ nI 17 = 3 by decide), if_neg (show ¬ nI 17 = 4 by decide), if_neg (show ¬ nI 17 = 5 by decide), if_neg (show ¬ nI 17 = 6 by decide), if_neg (show ¬ nI 17 = 7 by decide), if_neg (show ¬ nI 17 = 8 by decide)]
    rfl
  · rw [pg_within, pb_s, if_pos (show pwi (nI 18) 10 13 = 0 by decide), pg_within, pb_s, if_pos (show pwi (nI 18) 20 24 = 0 by decide), if_neg (show ¬ nI 18 = 0 by decide), if_neg (show ¬ nI 18 = 1 by decide), if_neg (show ¬ nI 18 = 2 by decide), if_neg (show ¬ nI 18 = 3 by decide), if_neg (show ¬ nI 18 = 4 by decide), if_neg (show ¬ nI 18 = 5 by decide), if_neg (show ¬ nI 18 = 6 by decide), if_neg (show ¬ nI 18 = 7 by decide), if_neg (show ¬ nI 18 = 8 by decide)]
    rfl
  · rw [pg_within, pb_s, if_pos (show pwi (nI 19) 10 13 = 0 by decide), pg_within, pb_s, if_pos (show pwi (nI 19) 20 24 = 0 by decide), if_neg (show ¬ nI 19 = 0 by decide), if_neg (show ¬ nI 19 = 1 by decide), if_neg (show ¬ nI 19 = 2 by decide), if_neg (show ¬ nI 19 = 3 by decide), if_neg (show ¬ nI 19 = 4 by decide), if_neg (show ¬ nI 19 = 5 by decide), if_neg (show ¬ nI 19 = 6 by decide), if_neg (show ¬ nI 19 = 7 by decide), if_neg (show ¬ nI 19 = 8 by decide)]
    rfl
  · rw [pg_within, pb_s, if_pos (show pwi (nI 20) 10 13 = 0 by decide), pg_within, pb_s, if_neg (show ¬ pwi (nI 20) 20 24 = 0 by decide), show nI 20 - 20 = nI 0 by decide]
    unfold fn_X0_account
    rw [if_pos (show nI 0 = 0 from rfl), pb_s, show μ 8 6 = s 3 from hB.2.2.1.1]
    rfl
  · rw [pg_within, pb_s, if_pos (show pwi (nI 21) 10 13 = 0 by decide), pg_within, pb_s, if_neg (show ¬ pwi (nI 21) 20 24 = 0 by decide), show nI 21 - 20 = nI 1 by decide]
    unfold fn_X0_account
    rw [if_neg (show ¬ nI 1 = 0 by decide), if_pos (show nI 1 = 1 from rfl), pg_inB pKB_8 hb5 hB.1, pb_s, pb_s]
    show _ = some (psf (fun b => s (11 + 5 * b + 2)) 0 (s 1).toNatClampNeg, μ)
    rw [ecb]
    exact congrArg (fun x => some (x, μ)) (psf_c nb 0 (fun b _ hb => (hB.2.2.2 b (by omega)).2.2.1))
  · rw [pg_within, pb_s, if_pos (show pwi (nI 22) 10 13 = 0 by decide), pg_within, pb_s, if_neg (show ¬ pwi (nI 22) 20 24 = 0 by decide), show nI 22 - 20 = nI 2 by decide]
    unfold fn_X0_account
    rw [if_neg (show ¬ nI 2 = 0 by decide), if_neg (show ¬ nI 2 = 1 by decide), if_pos (show nI 2 = 2 from rfl), pb_s, show μ 8 7 = s 4 from hB.2.2.1.2.1]
    rfl
  · rw [pg_within, pb_s, if_pos (show pwi (nI 23) 10 13 = 0 by decide), pg_within, pb_s, if_neg (show ¬ pwi (nI 23) 20 24 = 0 by decide), show nI 23 - 20 = nI 3 by decide]
    unfold fn_X0_account
    rw [if_neg (show ¬ nI 3 = 0 by decide), if_neg (show ¬ nI 3 = 1 by decide), if_neg (show ¬ nI 3 = 2 by decide), if_pos (show nI 3 = 3 from rfl), pb_s, show μ 8 8 = s 5 from hB.2.2.1.2.2.1]
    rfl
  · rw [pg_within, pb_s, if_pos (show pwi (nI 24) 10 13 = 0 by decide), pg_within, pb_s, if_neg (show ¬ pwi (nI 24) 20 24 = 0 by decide), show nI 24 - 20 = nI 4 by decide]
    unfold fn_X0_account
    rw [if_neg (show ¬ nI 4 = 0 by decide), if_neg (show ¬ nI 4 = 1 by decide), if_neg (show ¬ nI 4 = 2 by decide), if_neg (show ¬ nI 4 = 3 by decide), if_pos (show nI 4 = 4 from rfl), pb_s, show μ 8 9 = s 6 from hB.2.2.1.2.2.2]
    rfl
  · rw [pg_within, pb_s, if_pos (show pwi (nI 25) 10 13 = 0 by decide), pg_within, pb_s, if_pos (show pwi (nI 25) 20 24 = 0 by decide), if_neg (show ¬ nI 25 = 0 by decide), if_neg (show ¬ nI 25 = 1 by decide), if_neg (show ¬ nI 25 = 2 by decide), if_neg (show ¬ nI 25 = 3 by decide), if_neg (show ¬ nI 25 = 4 by decide), if_neg (show ¬ nI 25 = 5 by decide), if_neg (show ¬ nI 25 = 6 by decide), if_neg (show ¬ nI 25 = 7 by decide), if_neg (show ¬ nI 25 = 8 by decide)]
    rfl
def bk (s : Nat → Int32) (b w : Nat) : Int32 :=
  if w < 5 then s (11 + 5 * b + w)
  else if w = 5 then ppt (s (11 + 5 * b)) (s (11 + 5 * b + 1)) (s (11 + 5 * b + 2))
  else ppt (s (11 + 5 * b)) (s (11 + 5 * b + 1)) (if s (11 + 5 * b + 4) < s (11 + 5 * b + 3) then s (11 + 5 * b + 4) else s (11 + 5 * b + 3))
theorem c_bowlOf {μ : gx_M} {s : Nat → Int32} {nb b w : Nat} (hB : rB μ 8 s nb) (hb : b < nb) (hw : w < 7) : fn_X6_bowlOf gl_kd μ 6 (nI b) (nI w) = some (bk s b w, μ) := by
  have hb5 : μ 8 5 = nI nb := hB.2.1.1
  have hnb := hB.1
  have hb10 : b < 10 := by omega
  obtain ⟨g1, g2, g3, g4, g5, _⟩ := hB.2.2.2 b hb
  unfold fn_X6_bowlOf
  simp only [Nat.reduceAdd]
  rw [pg_hasB hb5, pb_s, phas_t hb (by omega), if_neg (by decide)]
  unfold fn_X0_property
  rcases (show w = 0 ∨ w = 1 ∨ w = 2 ∨ w = 3 ∨ w = 4 ∨ w = 5 ∨ w = 6 by omega) with rfl | rfl | rfl | rfl | rfl | rfl | rfl
  · rw [if_pos (show nI 0 = 0 from rfl), pg_get (8 + 2) 10 rfl pKB_8.1 hb10 (by decide), pb_s, pb_s, g1]
    rfl
  · rw [if_neg (show ¬ nI 1 = 0 by decide), if_pos (show nI 1 = 1 from rfl), pg_get (8 + 4) 10 rfl pKB_8.2.1 hb10 (by decide), pb_s, pb_s, g2]
    rfl
  · rw [if_neg (show ¬ nI 2 = 0 by decide), if_neg (show ¬ nI 2 = 1 by decide), if_pos (show nI 2 = 2 from rfl), pg_get (8 + 6) 10 rfl pKB_8.2.2.1 hb10 (by decide), pb_s, pb_s, g3]
    rfl
  · rw [if_neg (show ¬ nI 3 = 0 by decide), if_neg (show ¬ nI 3 = 1 by decide), if_neg (show ¬ nI 3 = 2 by decide), if_pos (show nI 3 = 3 from rfl), pg_get (8 + 8) 10 rfl pKB_8.2.2.2.1 hb10 (by decide), pb_s, pb_s, g4]
    rfl
  · rw [if_neg (show ¬ nI 4 = 0 by decide), if_neg (show ¬ nI 4 = 1 by decide), if_neg (show ¬ nI 4 = 2 by decide), if_neg (show ¬ nI 4 = 3 by decide), if_pos (show nI 4 = 4 from rfl), pg_get (8 + 10) 10 rfl pKB_8.2.2.2.2 hb10 (by decide), pb_s, pb_s, g5]
    rfl
  · rw [if_neg (show ¬ nI 5 = 0 by decide), if_neg (show ¬ nI 5 = 1 by decide), if_neg (show ¬ nI 5 = 2 by decide), if_neg (show ¬ nI 5 = 3 by decide), if_neg (show ¬ nI 5 = 4 by decide), if_pos (show nI 5 = 5 from rfl), pg_po pKB_8 hb10, pb_s, pb_s, g1, g2, g3]
    rfl
  · rw [if_neg (show ¬ nI 6 = 0 by decide), if_neg (show ¬ nI 6 = 1 by decide), if_neg (show ¬ nI 6 = 2 by decide), if_neg (show ¬ nI 6 = 3 by decide), if_neg (show ¬ nI 6 = 4 by decide), if_neg (show ¬ nI 6 = 5 by decide), if_pos (show nI 6 = 6 from rfl), pg_get (8 + 8) 10 rfl pKB_8.2.2.2.1 hb10 (by decide), pb_s, pg_get (8 + 10) 10 rfl pKB_8.2.2.2.2 hb10 (by decide), pb_s, pg_pw pKB_8 hb10, pb_s, pb_s, g1, g2, g4, g5]
    rfl
def nk (s : Nat → Int32) (i w : Nat) : Int32 :=
  if w < 2 then s (61 + 6 * i + w)
  else if w = 2 then pphr s i
  else if w = 3 then s (61 + 6 * i + 2)
  else if phsd (s (61 + 6 * i + 2)) (s (61 + 6 * i + 3)) = 0 then -100004 else s (61 + 6 * i + (w - 1))
theorem c_noteOf {μ : gx_M} {s : Nat → Int32} {nn i w : Nat} (hN : rN μ 19 s nn) (hS : rS μ 7 s) (hi : i < nn) (hw : w < 7) : fn_X6_noteOf gl_kd μ 6 (nI i) (nI w) = some (nk s i w, μ) := by
  have hn5 : μ 19 5 = nI nn := hN.2.1.1
  have hnn := hN.1
  have hi4 : i < 40 := by omega
  obtain ⟨p1, p2, p3, p4, p5⟩ := hN.2.2.1 i hi
  have ks := NR_s p3
  unfold fn_X6_noteOf
  simp only [Nat.reduceAdd]
  rw [pg_hasN hn5, pb_s, phas_t hi (by omega), if_neg (by decide), pg_st1, pb_s, show μ 31 1 = s 8 from hS.2.2.1 1 (by decide)]
  unfold fn_X2_property
  rcases (show w = 0 ∨ w = 1 ∨ w = 2 ∨ w = 3 ∨ w = 4 ∨ w = 5 ∨ w = 6 by omega) with rfl | rfl | rfl | rfl | rfl | rfl | rfl
  · rw [if_pos (show nI 0 = 0 from rfl), pg_get (19 + 2) 40 rfl pKN_19.1 hi4 (by decide), pb_s, pb_s, p1]
    rfl
  · rw [if_neg (show ¬ nI 1 = 0 by decide), if_pos (show nI 1 = 1 from rfl), pg_get (19 + 4) 40 rfl pKN_19.2.1 hi4 (by decide), pb_s, pb_s, p2]
    rfl
  · rw [if_neg (show ¬ nI 2 = 0 by decide), if_neg (show ¬ nI 2 = 1 by decide), if_pos (show nI 2 = 2 from rfl), pg_phr (c := 19) (s := s) pKN_19 hN hi, pb_s, pb_s]
    rfl
  · rw [if_neg (show ¬ nI 3 = 0 by decide), if_neg (show ¬ nI 3 = 1 by decide), if_neg (show ¬ nI 3 = 2 by decide), if_pos (show nI 3 = 3 from rfl), pg_get (19 + 6) 40 rfl pKN_19.2.2.1 hi4 (by decide), pb_s]
    show _ = some (s (61 + 6 * i + 2), μ)
    rcases p3 with ⟨z1, z2⟩ | ⟨z1, z2, z3, z4⟩ | ⟨⟨z0, _⟩ | ⟨z0, _⟩, z1, _⟩
    · rw [z1, z2, if_pos rfl, pg_oi0, pb_s, pb_s]
    · rw [z1, z2, if_neg (by decide), pg_oi1, pb_s, pb_s]
    · rw [z0, z1, if_neg (by decide), pg_oi1, pb_s, pb_s]
    · rw [z0, z1, if_neg (by decide), pg_oi1, pb_s, pb_s]
  · show _ = some ((if phsd (s (61 + 6 * i + 2)) (s (61 + 6 * i + 3)) = 0 then -100004 else s (61 + 6 * i + 3)), μ)
    rw [if_neg (show ¬ nI 4 = 0 by decide), if_neg (show ¬ nI 4 = 1 by decide), if_neg (show ¬ nI 4 = 2 by decide), if_neg (show ¬ nI 4 = 3 by decide), if_pos (show nI 4 = 4 from rfl), pg_snd pKN_19 hi4, pb_s, ks]
    by_cases q : phsd (s (61 + 6 * i + 2)) (s (61 + 6 * i + 3)) = 0
    · rw [if_pos q, if_pos q, pb_s]
    · obtain ⟨e1, e2, e3, e4, e5⟩ := NR_e p3 (by rw [ks]; exact q)
      rw [if_neg q, if_neg q, pg_get (19 + 8) 40 rfl pKN_19.2.2.2.1 hi4 (by decide), pb_s, pb_s, ← e4]
  · show _ = some ((if phsd (s (61 + 6 * i + 2)) (s (61 + 6 * i + 3)) = 0 then -100004 else s (61 + 6 * i + 4)), μ)
    rw [if_neg (show ¬ nI 5 = 0 by decide), if_neg (show ¬ nI 5 = 1 by decide), if_neg (show ¬ nI 5 = 2 by decide), if_neg (show ¬ nI 5 = 3 by decide), if_neg (show ¬ nI 5 = 4 by decide), if_pos (show nI 5 = 5 from rfl), pg_snd pKN_19 hi4, pb_s, ks]
    by_cases q : phsd (s (61 + 6 * i + 2)) (s (61 + 6 * i + 3)) = 0
    · rw [if_pos q, if_pos q, pb_s]
    · obtain ⟨e1, e2, e3, e4, e5⟩ := NR_e p3 (by rw [ks]; exact q)
      rw [if_neg q, if_neg q, pg_get (19 + 10) 40 rfl pKN_19.2.2.2.2 hi4 (by decide), pb_s, pb_s, e1]
  · show _ = some ((if phsd (s (61 + 6 * i + 2)) (s (61 + 6 * i + 3)) = 0 then -100004 else s (61 + 6 * i + 5)), μ)
    rw [if_neg (show ¬ nI 6 = 0 by decide), if_neg (show ¬ nI 6 = 1 by decide), if_neg (show ¬ nI 6 = 2 by decide), if_neg (show ¬ nI 6 = 3 by decide), if_neg (show ¬ nI 6 = 4 by decide), if_neg (show ¬ nI 6 = 5 by decide), if_pos (show nI 6 = 6 from rfl), pg_snd pKN_19 hi4, pb_s, ks]
    by_cases q : phsd (s (61 + 6 * i + 2)) (s (61 + 6 * i + 3)) = 0
    · rw [if_pos q, if_pos q, pb_s]
    · rw [if_neg q, if_neg q, pg_get (19 + 6) 40 rfl pKN_19.2.2.1 hi4 (by decide), pb_s]
      rcases p3 with ⟨z1, z2⟩ | ⟨z1, z2, z3, z4⟩ | ⟨⟨z0, z9⟩ | ⟨z0, z9⟩, z1, _⟩
      · rw [z2] at q
        exact absurd (show phsd 0 (s (61 + 6 * i + 3)) = 0 by unfold phsd; rw [if_neg (by decide)]) q
      · rw [z2, z3] at q
        exact absurd (show phsd 1 (-1) = 0 by decide) q
      · rw [z0, z9, if_neg (by decide), pg_oi0, pb_s, pb_s]
      · rw [z0, z9, if_pos rfl, pg_oi1, pb_s, pb_s]
