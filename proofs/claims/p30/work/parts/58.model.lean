/-! the reference, as plain functions over a row of numbers that is nowhere in the heap (a ghost) -/
def fn_X7_has (kd : Nat → Nat) (μ : gx_M) (c : Nat) (p1 : Int32) (p2 : Int32) : Option (Int32 × gx_M) :=
  (if gx_ix ((61 + (6 * p1)) + p2) (kd (c + 1) - 100) = true then some (μ (c + 1) (Int32.toNatClampNeg ((61 + (6 * p1)) + p2)), μ) else none)
def fn_X7_setting (kd : Nat → Nat) (μ : gx_M) (c : Nat) (p1 : Int32) : Option (Int32 × gx_M) :=
  (if gx_ix (7 + p1) (kd (c + 1) - 100) = true then some (μ (c + 1) (Int32.toNatClampNeg (7 + p1)), μ) else none)
def fn_X7_begins (kd : Nat → Nat) (μ : gx_M) (c : Nat) (p1 : Int32) : Option (Int32 × gx_M) :=
  (if p1 = 0 then
some (1, μ)
else
gx_b (fn_X7_has kd μ c p1 0) (fun r2 m3 =>
gx_b (fn_X7_has kd m3 c (p1 - 1) 0) (fun r4 m5 =>
gx_b (fn_X7_setting kd m5 c 1) (fun r6 m7 =>
(if (r2 - r4) < r6 then
some (0, m7)
else
some (1, m7))))))
def fn_X7_in (kd : Nat → Nat) (μ : gx_M) (p0 : Int32) (p1 : Int32) (p2 : Int32) : Option (Int32 × gx_M) :=
  (if p0 < p1 then
some (0, μ)
else
(if p2 < p0 then
some (0, μ)
else
some (1, μ)))
def fn_X7_put (kd : Nat → Nat) (μ : gx_M) (c : Nat) (p1 : Int32) (p2 : Int32) (p3 : Int32) : Option (Int32 × gx_M) :=
  (if gx_ix ((11 + (5 * p1)) + p2) (kd (c + 1) - 100) = true then some (0, (gx_u μ (c + 1) (Int32.toNatClampNeg ((11 + (5 * p1)) + p2)) p3)) else none)
def lf_X7_records_51 (kd : Nat → Nat) (c0 : Nat) (k : gx_M → Int32 → Option (Int32 × gx_M)) : Nat → gx_M → Int32 → Option (Int32 × gx_M)
  | 0, _, _ => none
  | n + 1, μ, x1 => (if 301 ≤ x1 then
k μ x1
else
(if gx_ix x1 (kd (c0 + 1) - 100) = true then (if gx_ix ((301 * μ c0 3) + x1) (kd (c0 + 2) - 100) = true then lf_X7_records_51 kd c0 k n (gx_u μ (c0 + 2) (Int32.toNatClampNeg ((301 * μ c0 3) + x1)) (μ (c0 + 1) (Int32.toNatClampNeg x1))) (x1 + 1) else none) else none))
def lf_X7_records_10 (kd : Nat → Nat) (c0 : Nat) (k : gx_M → Int32 → Option (Int32 × gx_M)) : Nat → gx_M → Int32 → Option (Int32 × gx_M)
  | 0, _, _ => none
  | n + 1, μ, x1 => (if 1204 ≤ x1 then
k μ x1
else
(if gx_ix (x1 + 301) (kd (c0 + 2) - 100) = true then (if gx_ix x1 (kd (c0 + 2) - 100) = true then lf_X7_records_10 kd c0 k n (gx_u μ (c0 + 2) (Int32.toNatClampNeg x1) (μ (c0 + 2) (Int32.toNatClampNeg (x1 + 301)))) (x1 + 1) else none) else none))
def fn_X7_records (kd : Nat → Nat) (μ : gx_M) (c : Nat) : Option (Int32 × gx_M) :=
  (if μ c 3 = 5 then
lf_X7_records_10 kd c (fun m6 y7 =>
lf_X7_records_51 kd c (fun m8 y9 =>
some (0, (gx_u m8 c 3 (m8 c 3 + 1)))) gx_F (gx_u m6 c 3 (m6 c 3 - 1)) 0) gx_F μ 0
else
lf_X7_records_51 kd c (fun m3 y4 =>
some (0, (gx_u m3 c 3 (m3 c 3 + 1)))) gx_F μ 0)
def fn_X7_bowl (kd : Nat → Nat) (μ : gx_M) (c : Nat) (p1 : Int32) (p2 : Int32) : Option (Int32 × gx_M) :=
  gx_b (fn_X7_in kd μ p1 0 6000) (fun r1 m2 =>
(if r1 = 0 then
some ((-100001), m2)
else
gx_b (fn_X7_in kd m2 p2 1 2400) (fun r4 m5 =>
(if r4 = 0 then
some ((-100001), m5)
else
(if gx_ix 1 (kd (c + 1) - 100) = true then (if m5 (c + 1) (Int32.toNatClampNeg 1) = 10 then
some ((-100003), m5)
else
gx_b (fn_X7_records kd m5 c) (fun _ m9 =>
(if gx_ix 1 (kd (c + 1) - 100) = true then gx_b (fn_X7_put kd m9 c (m9 (c + 1) (Int32.toNatClampNeg 1)) 0 p1) (fun _ m11 =>
gx_b (fn_X7_put kd m11 c (m9 (c + 1) (Int32.toNatClampNeg 1)) 1 p2) (fun _ m13 =>
gx_b (fn_X7_put kd m13 c (m9 (c + 1) (Int32.toNatClampNeg 1)) 2 0) (fun _ m15 =>
gx_b (fn_X7_put kd m15 c (m9 (c + 1) (Int32.toNatClampNeg 1)) 3 0) (fun _ m17 =>
gx_b (fn_X7_put kd m17 c (m9 (c + 1) (Int32.toNatClampNeg 1)) 4 1000) (fun _ m19 =>
(if gx_ix 1 (kd (c + 1) - 100) = true then (if gx_ix 1 (kd (c + 1) - 100) = true then some (m9 (c + 1) (Int32.toNatClampNeg 1), (gx_u m19 (c + 1) (Int32.toNatClampNeg 1) (m19 (c + 1) (Int32.toNatClampNeg 1) + 1))) else none) else none)))))) else none))) else none)))))
def fn_X7_isBowl (kd : Nat → Nat) (μ : gx_M) (c : Nat) (p1 : Int32) : Option (Int32 × gx_M) :=
  (if gx_ix 1 (kd (c + 1) - 100) = true then gx_b (fn_X7_in kd μ p1 0 (μ (c + 1) (Int32.toNatClampNeg 1) - 1)) (fun r1 m2 =>
(if r1 = 0 ∨ r1 = 1 then some (r1, m2) else none)) else none)
def fn_X7_of (kd : Nat → Nat) (μ : gx_M) (c : Nat) (p1 : Int32) (p2 : Int32) : Option (Int32 × gx_M) :=
  (if gx_ix ((11 + (5 * p1)) + p2) (kd (c + 1) - 100) = true then some (μ (c + 1) (Int32.toNatClampNeg ((11 + (5 * p1)) + p2)), μ) else none)
def fn_X7_pitchBy (kd : Nat → Nat) (μ : gx_M) (c : Nat) (p1 : Int32) (p2 : Int32) : Option (Int32 × gx_M) :=
  gx_b (fn_X7_of kd μ c p1 0) (fun r1 m2 =>
gx_b (fn_X7_of kd m2 c p1 1) (fun r3 m4 =>
some ((r1 - (((r3.toInt64 * p2.toInt64) * p2.toInt64) / 1000000).toInt32), m4)))
def fn_X7_pitch (kd : Nat → Nat) (μ : gx_M) (c : Nat) (p1 : Int32) : Option (Int32 × gx_M) :=
  gx_b (fn_X7_of kd μ c p1 2) (fun r1 m2 =>
gx_b (fn_X7_pitchBy kd m2 c p1 r1) (fun r3 m4 =>
some (r3, m4)))
def fn_X7_bowlOf (kd : Nat → Nat) (μ : gx_M) (c : Nat) (p1 : Int32) (p2 : Int32) : Option (Int32 × gx_M) :=
  gx_b (fn_X7_isBowl kd μ c p1) (fun r1 m2 =>
(if r1 = 0 then
some ((-100001), m2)
else
gx_b (fn_X7_in kd m2 p2 0 6) (fun r4 m5 =>
(if r4 = 0 then
some ((-100001), m5)
else
gx_b (fn_X7_of kd m5 c p1 3) (fun r7 m8 =>
gx_b (fn_X7_of kd m8 c p1 4) (fun r9 m10 =>
(if r9 ≤ r7 then
gx_b (fn_X7_of kd m10 c p1 4) (fun r12 m13 =>
(if 5 ≤ p2 then
(if p2 = 5 then
gx_b (fn_X7_pitch kd m13 c p1) (fun r18 m19 =>
some (r18, m19))
else
gx_b (fn_X7_pitchBy kd m13 c p1 r12) (fun r16 m17 =>
some (r16, m17)))
else
gx_b (fn_X7_of kd m13 c p1 p2) (fun r20 m21 =>
some (r20, m21))))
else
gx_b (fn_X7_of kd m10 c p1 3) (fun r22 m23 =>
(if 5 ≤ p2 then
(if p2 = 5 then
gx_b (fn_X7_pitch kd m23 c p1) (fun r28 m29 =>
some (r28, m29))
else
gx_b (fn_X7_pitchBy kd m23 c p1 r22) (fun r26 m27 =>
some (r26, m27)))
else
gx_b (fn_X7_of kd m23 c p1 p2) (fun r30 m31 =>
some (r30, m31)))))))))))
def lf_X7_bringsBack_2 (kd : Nat → Nat) (c0 : Nat) (k : gx_M → Int32 → Option (Int32 × gx_M)) : Nat → gx_M → Int32 → Option (Int32 × gx_M)
  | 0, _, _ => none
  | n + 1, μ, x1 => (if 301 ≤ x1 then
k μ x1
else
(if gx_ix x1 (kd (c0 + 3) - 100) = true then (if gx_ix x1 (kd (c0 + 1) - 100) = true then lf_X7_bringsBack_2 kd c0 k n (gx_u μ (c0 + 1) (Int32.toNatClampNeg x1) (μ (c0 + 3) (Int32.toNatClampNeg x1))) (x1 + 1) else none) else none))
def fn_X7_bringsBack (kd : Nat → Nat) (μ : gx_M) (c : Nat) : Option (Int32 × gx_M) :=
  lf_X7_bringsBack_2 kd c (fun m2 y3 =>
some (0, m2)) gx_F μ 0
def fn_X7_canBe (kd : Nat → Nat) (μ : gx_M) (p0 : Int32) (p1 : Int32) : Option (Int32 × gx_M) :=
  (if p0 = 0 then
gx_b (fn_X7_in kd μ p1 1 600) (fun r2 m3 =>
(if r2 = 0 ∨ r2 = 1 then some (r2, m3) else none))
else
(if p0 = 1 then
gx_b (fn_X7_in kd μ p1 1 600) (fun r14 m15 =>
(if r14 = 0 ∨ r14 = 1 then some (r14, m15) else none))
else
(if p0 = 2 then
gx_b (fn_X7_in kd μ p1 0 600) (fun r11 m12 =>
(if r11 = 0 ∨ r11 = 1 then some (r11, m12) else none))
else
(if p0 = 3 then
gx_b (fn_X7_in kd μ p1 0 1) (fun r8 m9 =>
(if r8 = 0 then
some (0, m9)
else
some (1, m9)))
else
some (0, μ)))))
def fn_X7_clearText (kd : Nat → Nat) (μ : gx_M) (c : Nat) : Option (Int32 × gx_M) :=
  some (μ c 5, (gx_u μ c 5 0))
def fn_X7_loses (kd : Nat → Nat) (μ : gx_M) (c : Nat) (p1 : Int32) : Option (Int32 × gx_M) :=
  gx_b (fn_X7_of kd μ c p1 2) (fun r1 m2 =>
gx_b (fn_X7_of kd m2 c p1 4) (fun r3 m4 =>
(if 0 ≤ (r1 - r3) then
gx_b (fn_X7_of kd m4 c p1 2) (fun r6 m7 =>
gx_b (fn_X7_put kd m7 c p1 2 (r6 - (r1 - r3))) (fun _ m9 =>
(if gx_ix 5 (kd (c + 1) - 100) = true then (if gx_ix 5 (kd (c + 1) - 100) = true then some ((r1 - r3), (gx_u m9 (c + 1) (Int32.toNatClampNeg 5) (m9 (c + 1) (Int32.toNatClampNeg 5) + (r1 - r3)))) else none) else none)))
else
gx_b (fn_X7_of kd m4 c p1 2) (fun r10 m11 =>
gx_b (fn_X7_put kd m11 c p1 2 (r10 - 0)) (fun _ m13 =>
(if gx_ix 5 (kd (c + 1) - 100) = true then (if gx_ix 5 (kd (c + 1) - 100) = true then some (0, (gx_u m13 (c + 1) (Int32.toNatClampNeg 5) (m13 (c + 1) (Int32.toNatClampNeg 5) + 0))) else none) else none))))))
def fn_X7_comes (kd : Nat → Nat) (μ : gx_M) (c : Nat) (p1 : Int32) (p2 : Int32) : Option (Int32 × gx_M) :=
  gx_b (fn_X7_of kd μ c p1 2) (fun r1 m2 =>
gx_b (fn_X7_put kd m2 c p1 2 (r1 + p2)) (fun _ m4 =>
(if gx_ix 3 (kd (c + 1) - 100) = true then (if gx_ix 3 (kd (c + 1) - 100) = true then gx_b (fn_X7_loses kd (gx_u m4 (c + 1) (Int32.toNatClampNeg 3) (m4 (c + 1) (Int32.toNatClampNeg 3) + p2)) c p1) (fun r5 m6 =>
some (0, m6)) else none) else none)))
def lf_X7_notesThat_4 (kd : Nat → Nat) (c0 : Nat) (q1 : Int32) (k : gx_M → Int32 → Int32 → Option (Int32 × gx_M)) : Nat → gx_M → Int32 → Int32 → Option (Int32 × gx_M)
  | 0, _, _, _ => none
  | n + 1, μ, x2, x3 => (if gx_ix 2 (kd (c0 + 1) - 100) = true then (if μ (c0 + 1) (Int32.toNatClampNeg 2) ≤ x3 then
k μ x2 x3
else
gx_b (fn_X7_has kd μ c0 x3 2) (fun r2 m3 =>
(if r2 = 1 then
(if q1 = 4 then
lf_X7_notesThat_4 kd c0 q1 k n m3 (x2 + 1) (x3 + 1)
else
(if q1 = 5 then
gx_b (fn_X7_has kd m3 c0 x3 5) (fun r27 m28 =>
(if r27 = 1 then
lf_X7_notesThat_4 kd c0 q1 k n m28 (x2 + 1) (x3 + 1)
else
(if q1 = 6 then
gx_b (fn_X7_has kd m28 c0 x3 3) (fun r32 m33 =>
(if r32 = (-1) then
lf_X7_notesThat_4 kd c0 q1 k n m33 (x2 + 1) (x3 + 1)
else
lf_X7_notesThat_4 kd c0 q1 k n m33 (x2 + 0) (x3 + 1)))
else
lf_X7_notesThat_4 kd c0 q1 k n m28 (x2 + 0) (x3 + 1))))
else
(if q1 = 6 then
gx_b (fn_X7_has kd m3 c0 x3 3) (fun r23 m24 =>
(if r23 = (-1) then
lf_X7_notesThat_4 kd c0 q1 k n m24 (x2 + 1) (x3 + 1)
else
lf_X7_notesThat_4 kd c0 q1 k n m24 (x2 + 0) (x3 + 1)))
else
lf_X7_notesThat_4 kd c0 q1 k n m3 (x2 + 0) (x3 + 1))))
else
(if q1 = 4 then
(if q1 = 5 then
(if q1 = 6 then
lf_X7_notesThat_4 kd c0 q1 k n m3 (x2 + 0) (x3 + 1)
else
lf_X7_notesThat_4 kd c0 q1 k n m3 (x2 + 0) (x3 + 1))
else
(if q1 = 6 then
lf_X7_notesThat_4 kd c0 q1 k n m3 (x2 + 0) (x3 + 1)
else
lf_X7_notesThat_4 kd c0 q1 k n m3 (x2 + 0) (x3 + 1)))
else
(if q1 = 5 then
(if q1 = 6 then
lf_X7_notesThat_4 kd c0 q1 k n m3 (x2 + 0) (x3 + 1)
else
lf_X7_notesThat_4 kd c0 q1 k n m3 (x2 + 0) (x3 + 1))
else
(if q1 = 6 then
lf_X7_notesThat_4 kd c0 q1 k n m3 (x2 + 0) (x3 + 1)
else
lf_X7_notesThat_4 kd c0 q1 k n m3 (x2 + 0) (x3 + 1))))))) else none)
def fn_X7_notesThat (kd : Nat → Nat) (μ : gx_M) (c : Nat) (p1 : Int32) : Option (Int32 × gx_M) :=
  lf_X7_notesThat_4 kd c p1 (fun m36 y37 y38 =>
some (y37, m36)) gx_F μ 0 0
def lf_X7_phraseOf_4 (kd : Nat → Nat) (c0 : Nat) (q1 : Int32) (k : gx_M → Int32 → Int32 → Option (Int32 × gx_M)) : Nat → gx_M → Int32 → Int32 → Option (Int32 × gx_M)
  | 0, _, _, _ => none
  | n + 1, μ, x2, x3 => (if q1 < x3 then
k μ x2 x3
else
gx_b (fn_X7_begins kd μ c0 x3) (fun r2 m3 =>
(if r2 = 0 then
lf_X7_phraseOf_4 kd c0 q1 k n m3 (x2 + 0) (x3 + 1)
else
lf_X7_phraseOf_4 kd c0 q1 k n m3 (x2 + 1) (x3 + 1))))
def fn_X7_phraseOf (kd : Nat → Nat) (μ : gx_M) (c : Nat) (p1 : Int32) : Option (Int32 × gx_M) :=
  lf_X7_phraseOf_4 kd c p1 (fun m5 y6 y7 =>
some ((y6 - 1), m5)) gx_F μ 0 0
def lf_X7_water_4 (kd : Nat → Nat) (c0 : Nat) (k : gx_M → Int32 → Int32 → Option (Int32 × gx_M)) : Nat → gx_M → Int32 → Int32 → Option (Int32 × gx_M)
  | 0, _, _, _ => none
  | n + 1, μ, x1, x2 => (if gx_ix 1 (kd (c0 + 1) - 100) = true then (if μ (c0 + 1) (Int32.toNatClampNeg 1) ≤ x2 then
k μ x1 x2
else
gx_b (fn_X7_of kd μ c0 x2 2) (fun r2 m3 =>
lf_X7_water_4 kd c0 k n m3 (x1 + r2) (x2 + 1))) else none)
def fn_X7_water (kd : Nat → Nat) (μ : gx_M) (c : Nat) : Option (Int32 × gx_M) :=
  lf_X7_water_4 kd c (fun m4 y5 y6 =>
some (y5, m4)) gx_F μ 0 0
def fn_X7_count (kd : Nat → Nat) (μ : gx_M) (c : Nat) (p1 : Int32) : Option (Int32 × gx_M) :=
  (if p1 = 0 then
(if gx_ix 0 (kd (c + 1) - 100) = true then some (μ (c + 1) (Int32.toNatClampNeg 0), μ) else none)
else
(if p1 = 1 then
(if gx_ix 1 (kd (c + 1) - 100) = true then some (μ (c + 1) (Int32.toNatClampNeg 1), μ) else none)
else
(if p1 = 2 then
(if gx_ix 2 (kd (c + 1) - 100) = true then some (μ (c + 1) (Int32.toNatClampNeg 2), μ) else none)
else
(if p1 = 3 then
(if gx_ix 2 (kd (c + 1) - 100) = true then (if μ (c + 1) (Int32.toNatClampNeg 2) = 0 then
some (0, μ)
else
(if gx_ix 2 (kd (c + 1) - 100) = true then gx_b (fn_X7_phraseOf kd μ c (μ (c + 1) (Int32.toNatClampNeg 2) - 1)) (fun r6 m7 =>
some ((r6 + 1), m7)) else none)) else none)
else
(if p1 = 4 then
gx_b (fn_X7_notesThat kd μ c p1) (fun r9 m10 =>
some (r9, m10))
else
(if p1 = 5 then
gx_b (fn_X7_notesThat kd μ c p1) (fun r12 m13 =>
some (r12, m13))
else
(if p1 = 6 then
gx_b (fn_X7_notesThat kd μ c p1) (fun r15 m16 =>
some (r15, m16))
else
(if p1 = 7 then
some (μ c 3, μ)
else
(if p1 = 8 then
some (μ c 5, μ)
else
(if p1 = 9 then
gx_b (fn_X7_in kd μ p1 10 13) (fun r20 m21 =>
(if r20 = 0 then
some ((-100001), m21)
else
gx_b (fn_X7_setting kd m21 c (p1 - 10)) (fun r23 m24 =>
some (r23, m24))))
else
(if p1 = 10 then
gx_b (fn_X7_in kd μ p1 10 13) (fun r26 m27 =>
(if r26 = 0 then
some ((-100001), m27)
else
gx_b (fn_X7_setting kd m27 c (p1 - 10)) (fun r29 m30 =>
some (r29, m30))))
else
(if p1 = 11 then
gx_b (fn_X7_in kd μ p1 10 13) (fun r32 m33 =>
(if r32 = 0 then
some ((-100001), m33)
else
gx_b (fn_X7_setting kd m33 c (p1 - 10)) (fun r35 m36 =>
some (r35, m36))))
else
(if p1 = 12 then
gx_b (fn_X7_in kd μ p1 10 13) (fun r38 m39 =>
(if r38 = 0 then
some ((-100001), m39)
else
gx_b (fn_X7_setting kd m39 c (p1 - 10)) (fun r41 m42 =>
some (r41, m42))))
else
(if p1 = 13 then
gx_b (fn_X7_in kd μ p1 10 13) (fun r44 m45 =>
(if r44 = 0 then
some ((-100001), m45)
else
gx_b (fn_X7_setting kd m45 c (p1 - 10)) (fun r47 m48 =>
some (r47, m48))))
else
(if p1 = 14 then
gx_b (fn_X7_in kd μ p1 10 13) (fun r50 m51 =>
(if r50 = 0 then
some ((-100001), m51)
else
gx_b (fn_X7_setting kd m51 c (p1 - 10)) (fun r53 m54 =>
some (r53, m54))))
else
(if p1 = 15 then
gx_b (fn_X7_in kd μ p1 10 13) (fun r56 m57 =>
(if r56 = 0 then
some ((-100001), m57)
else
gx_b (fn_X7_setting kd m57 c (p1 - 10)) (fun r59 m60 =>
some (r59, m60))))
else
(if p1 = 16 then
gx_b (fn_X7_in kd μ p1 10 13) (fun r62 m63 =>
(if r62 = 0 then
some ((-100001), m63)
else
gx_b (fn_X7_setting kd m63 c (p1 - 10)) (fun r65 m66 =>
some (r65, m66))))
else
(if p1 = 17 then
gx_b (fn_X7_in kd μ p1 10 13) (fun r68 m69 =>
(if r68 = 0 then
some ((-100001), m69)
else
gx_b (fn_X7_setting kd m69 c (p1 - 10)) (fun r71 m72 =>
some (r71, m72))))
else
(if p1 = 18 then
gx_b (fn_X7_in kd μ p1 10 13) (fun r74 m75 =>
(if r74 = 0 then
some ((-100001), m75)
else
gx_b (fn_X7_setting kd m75 c (p1 - 10)) (fun r77 m78 =>
some (r77, m78))))
else
(if p1 = 19 then
gx_b (fn_X7_in kd μ p1 10 13) (fun r80 m81 =>
(if r80 = 0 then
some ((-100001), m81)
else
gx_b (fn_X7_setting kd m81 c (p1 - 10)) (fun r83 m84 =>
some (r83, m84))))
else
(if p1 = 20 then
(if gx_ix 3 (kd (c + 1) - 100) = true then some (μ (c + 1) (Int32.toNatClampNeg 3), μ) else none)
else
(if p1 = 21 then
gx_b (fn_X7_water kd μ c) (fun r87 m88 =>
some (r87, m88))
else
(if p1 = 22 then
(if gx_ix ((4 + p1) - 22) (kd (c + 1) - 100) = true then some (μ (c + 1) (Int32.toNatClampNeg ((4 + p1) - 22)), μ) else none)
else
(if p1 = 23 then
(if gx_ix ((4 + p1) - 22) (kd (c + 1) - 100) = true then some (μ (c + 1) (Int32.toNatClampNeg ((4 + p1) - 22)), μ) else none)
else
(if p1 = 24 then
(if gx_ix ((4 + p1) - 22) (kd (c + 1) - 100) = true then some (μ (c + 1) (Int32.toNatClampNeg ((4 + p1) - 22)), μ) else none)
else
gx_b (fn_X7_in kd μ p1 10 13) (fun r92 m93 =>
(if r92 = 0 then
some ((-100001), m93)
else
gx_b (fn_X7_setting kd m93 c (p1 - 10)) (fun r95 m96 =>
some (r95, m96)))))))))))))))))))))))))))))
def fn_X7_crack (kd : Nat → Nat) (μ : gx_M) (c : Nat) (p1 : Int32) (p2 : Int32) : Option (Int32 × gx_M) :=
  gx_b (fn_X7_isBowl kd μ c p1) (fun r1 m2 =>
(if r1 = 0 then
some ((-100001), m2)
else
gx_b (fn_X7_in kd m2 p2 0 1000) (fun r4 m5 =>
(if r4 = 0 then
some ((-100001), m5)
else
gx_b (fn_X7_records kd m5 c) (fun _ m8 =>
gx_b (fn_X7_put kd m8 c p1 4 p2) (fun _ m10 =>
gx_b (fn_X7_loses kd m10 c p1) (fun r11 m12 =>
some (r11, m12))))))))
def lf_X7_digits_7 (kd : Nat → Nat) (c0 : Nat) (q2 : Int32) (k : gx_M → Int32 → Option (Int32 × gx_M)) : Nat → gx_M → Int32 → Option (Int32 × gx_M)
  | 0, _, _ => none
  | n + 1, μ, x1 => (if (q2 + 4) ≤ μ c0 6 then
k μ x1
else
(if μ c0 5 ≤ μ c0 6 then
k μ x1
else
(if gx_ix (μ c0 6) (kd (c0 + 4) - 100) = true then gx_b (fn_X7_in kd μ (μ (c0 + 4) (Int32.toNatClampNeg (μ c0 6))) 48 57) (fun r3 m4 =>
(if r3 = 0 then
k m4 x1
else
(if gx_ix (m4 c0 6) (kd (c0 + 4) - 100) = true then lf_X7_digits_7 kd c0 q2 k n (gx_u m4 c0 6 (m4 c0 6 + 1)) (((10 * x1) + m4 (c0 + 4) (Int32.toNatClampNeg (m4 c0 6))) - 48) else none))) else none)))
def fn_X7_digits (kd : Nat → Nat) (μ : gx_M) (c : Nat) : Option (Int32 × gx_M) :=
  lf_X7_digits_7 kd c (μ c 6) (fun m6 y7 =>
(if m6 c 6 = μ c 6 then
some ((-1), m6)
else
some (y7, m6))) gx_F μ 0
def lf_X7_dries_2 (kd : Nat → Nat) (c0 : Nat) (k : gx_M → Int32 → Option (Int32 × gx_M)) : Nat → gx_M → Int32 → Option (Int32 × gx_M)
  | 0, _, _ => none
  | n + 1, μ, x1 => (if gx_ix 1 (kd (c0 + 1) - 100) = true then (if μ (c0 + 1) (Int32.toNatClampNeg 1) ≤ x1 then
k μ x1
else
gx_b (fn_X7_of kd μ c0 x1 2) (fun r2 m3 =>
(if r2 ≤ 0 then
gx_b (fn_X7_of kd m3 c0 x1 2) (fun r5 m6 =>
gx_b (fn_X7_put kd m6 c0 x1 2 (r5 - 0)) (fun _ m8 =>
(if gx_ix 4 (kd (c0 + 1) - 100) = true then (if gx_ix 4 (kd (c0 + 1) - 100) = true then lf_X7_dries_2 kd c0 k n (gx_u m8 (c0 + 1) (Int32.toNatClampNeg 4) (m8 (c0 + 1) (Int32.toNatClampNeg 4) + 0)) (x1 + 1) else none) else none)))
else
gx_b (fn_X7_of kd m3 c0 x1 2) (fun r9 m10 =>
gx_b (fn_X7_put kd m10 c0 x1 2 (r9 - 1)) (fun _ m12 =>
(if gx_ix 4 (kd (c0 + 1) - 100) = true then (if gx_ix 4 (kd (c0 + 1) - 100) = true then lf_X7_dries_2 kd c0 k n (gx_u m12 (c0 + 1) (Int32.toNatClampNeg 4) (m12 (c0 + 1) (Int32.toNatClampNeg 4) + 1)) (x1 + 1) else none) else none)))))) else none)
def fn_X7_dries (kd : Nat → Nat) (μ : gx_M) (c : Nat) : Option (Int32 × gx_M) :=
  lf_X7_dries_2 kd c (fun m13 y14 =>
some (0, m13)) gx_F μ 0
def fn_X7_isNote (kd : Nat → Nat) (μ : gx_M) (c : Nat) (p1 : Int32) : Option (Int32 × gx_M) :=
  (if gx_ix 2 (kd (c + 1) - 100) = true then gx_b (fn_X7_in kd μ p1 0 (μ (c + 1) (Int32.toNatClampNeg 2) - 1)) (fun r1 m2 =>
(if r1 = 0 ∨ r1 = 1 then some (r1, m2) else none)) else none)
def lf_X7_drop_33 (kd : Nat → Nat) (c0 : Nat) (q1 : Int32) (k : gx_M → Int32 → Option (Int32 × gx_M)) : Nat → gx_M → Int32 → Option (Int32 × gx_M)
  | 0, _, _ => none
  | n + 1, μ, x2 => (if gx_ix 2 (kd (c0 + 1) - 100) = true then (if (61 + (6 * μ (c0 + 1) (Int32.toNatClampNeg 2))) ≤ x2 then
k μ x2
else
(if gx_ix (x2 + 6) (kd (c0 + 1) - 100) = true then (if gx_ix x2 (kd (c0 + 1) - 100) = true then lf_X7_drop_33 kd c0 q1 k n (gx_u μ (c0 + 1) (Int32.toNatClampNeg x2) (μ (c0 + 1) (Int32.toNatClampNeg (x2 + 6)))) (x2 + 1) else none) else none)) else none)
def fn_X7_drop (kd : Nat → Nat) (μ : gx_M) (c : Nat) (p1 : Int32) : Option (Int32 × gx_M) :=
  gx_b (fn_X7_isNote kd μ c p1) (fun r1 m2 =>
(if r1 = 0 then
some ((-100001), m2)
else
gx_b (fn_X7_records kd m2 c) (fun _ m5 =>
(if gx_ix 2 (kd (c + 1) - 100) = true then (if gx_ix 2 (kd (c + 1) - 100) = true then lf_X7_drop_33 kd c p1 (fun m7 y8 =>
(if gx_ix 2 (kd (c + 1) - 100) = true then some (m7 (c + 1) (Int32.toNatClampNeg 2), m7) else none)) gx_F (gx_u m5 (c + 1) (Int32.toNatClampNeg 2) (m5 (c + 1) (Int32.toNatClampNeg 2) - 1)) (61 + (6 * p1)) else none) else none))))
def fn_X7_takes (kd : Nat → Nat) (μ : gx_M) (c : Nat) (p1 : Int32) : Option (Int32 × gx_M) :=
  (if μ c 5 ≤ μ c 6 then
some (0, (gx_u μ c 6 (μ c 6 + 0)))
else
(if gx_ix (μ c 6) (kd (c + 4) - 100) = true then (if μ (c + 4) (Int32.toNatClampNeg (μ c 6)) = p1 then
some (1, (gx_u μ c 6 (μ c 6 + 1)))
else
some (0, (gx_u μ c 6 (μ c 6 + 0)))) else none))
def fn_X7_isFormed (kd : Nat → Nat) (μ : gx_M) (c : Nat) : Option (Int32 × gx_M) :=
  gx_b (fn_X7_digits kd μ c) (fun r1 m2 =>
(if (gx_u m2 c 7 r1) c 7 < 0 then
some (0, (gx_u m2 c 7 r1))
else
gx_b (fn_X7_takes kd (gx_u m2 c 7 r1) c 58) (fun r4 m5 =>
(if r4 = 0 then
some (0, m5)
else
gx_b (fn_X7_digits kd m5 c) (fun r7 m8 =>
(if (gx_u m8 c 8 r7) c 8 < 0 then
some (0, (gx_u m8 c 8 r7))
else
gx_b (fn_X7_takes kd (gx_u m8 c 8 r7) c 59) (fun r10 m11 =>
(if r10 = 0 then
some (0, m11)
else
some (1, m11)))))))))
def fn_X7_lay (kd : Nat → Nat) (μ : gx_M) (c : Nat) (p1 : Int32) (p2 : Int32) (p3 : Int32) : Option (Int32 × gx_M) :=
  (if gx_ix ((61 + (6 * p1)) + p2) (kd (c + 1) - 100) = true then some (0, (gx_u μ (c + 1) (Int32.toNatClampNeg ((61 + (6 * p1)) + p2)) p3)) else none)
def lf_X7_newNote_26 (kd : Nat → Nat) (c0 : Nat) (q1 : Int32) (q2 : Int32) (q3 : Int32) (k : gx_M → Int32 → Option (Int32 × gx_M)) : Nat → gx_M → Int32 → Option (Int32 × gx_M)
  | 0, _, _ => none
  | n + 1, μ, x4 => (if 6 ≤ x4 then
k μ x4
else
gx_b (fn_X7_has kd μ c0 (q3 - 1) x4) (fun r6 m7 =>
gx_b (fn_X7_lay kd m7 c0 q3 x4 r6) (fun _ m9 =>
lf_X7_newNote_26 kd c0 q1 q2 q3 k n m9 (x4 + 1))))
def lf_X7_newNote_7 (kd : Nat → Nat) (c0 : Nat) (q1 : Int32) (q2 : Int32) (k : gx_M → Int32 → Option (Int32 × gx_M)) : Nat → gx_M → Int32 → Option (Int32 × gx_M)
  | 0, _, _ => none
  | n + 1, μ, x3 => (if x3 ≤ 0 then
k μ x3
else
gx_b (fn_X7_has kd μ c0 (x3 - 1) 0) (fun r2 m3 =>
(if r2 ≤ q1 then
k m3 x3
else
lf_X7_newNote_26 kd c0 q1 q2 x3 (fun m10 y11 =>
lf_X7_newNote_7 kd c0 q1 q2 k n m10 (x3 + (-1))) gx_F m3 0)))
def fn_X7_newNote (kd : Nat → Nat) (μ : gx_M) (c : Nat) (p1 : Int32) (p2 : Int32) : Option (Int32 × gx_M) :=
  (if gx_ix 2 (kd (c + 1) - 100) = true then lf_X7_newNote_7 kd c p1 p2 (fun m12 y13 =>
gx_b (fn_X7_lay kd m12 c y13 0 p1) (fun _ m15 =>
gx_b (fn_X7_lay kd m15 c y13 1 p2) (fun _ m17 =>
gx_b (fn_X7_lay kd m17 c y13 2 0) (fun _ m19 =>
gx_b (fn_X7_lay kd m19 c y13 3 (-1)) (fun _ m21 =>
gx_b (fn_X7_lay kd m21 c y13 4 0) (fun _ m23 =>
gx_b (fn_X7_lay kd m23 c y13 5 0) (fun _ m25 =>
(if gx_ix 2 (kd (c + 1) - 100) = true then (if gx_ix 2 (kd (c + 1) - 100) = true then some (y13, (gx_u m25 (c + 1) (Int32.toNatClampNeg 2) (m25 (c + 1) (Int32.toNatClampNeg 2) + 1))) else none) else none)))))))) gx_F μ (μ (c + 1) (Int32.toNatClampNeg 2)) else none)
def lf_X7_noteAt_2 (kd : Nat → Nat) (c0 : Nat) (q1 : Int32) (k : gx_M → Int32 → Option (Int32 × gx_M)) : Nat → gx_M → Int32 → Option (Int32 × gx_M)
  | 0, _, _ => none
  | n + 1, μ, x2 => (if gx_ix 2 (kd (c0 + 1) - 100) = true then (if μ (c0 + 1) (Int32.toNatClampNeg 2) ≤ x2 then
k μ x2
else
gx_b (fn_X7_has kd μ c0 x2 0) (fun r2 m3 =>
(if r2 = q1 then
some (x2, m3)
else
lf_X7_noteAt_2 kd c0 q1 k n m3 (x2 + 1)))) else none)
def fn_X7_noteAt (kd : Nat → Nat) (μ : gx_M) (c : Nat) (p1 : Int32) : Option (Int32 × gx_M) :=
  lf_X7_noteAt_2 kd c p1 (fun m5 y6 =>
some ((-1), m5)) gx_F μ 0
def lf_X7_isTaken_19 (kd : Nat → Nat) (c0 : Nat) (q1 : Int32) (k : gx_M → Int32 → Int32 → Option (Int32 × gx_M)) : Nat → gx_M → Int32 → Int32 → Option (Int32 × gx_M)
  | 0, _, _, _ => none
  | n + 1, μ, x2, x3 => (if q1 ≤ x3 then
k μ x2 x3
else
(if x2 = 0 then
(if gx_ix x3 (kd (c0 + 5) - 100) = true then (if μ (c0 + 5) (Int32.toNatClampNeg x3) = μ c0 7 then
lf_X7_isTaken_19 kd c0 q1 k n μ 1 (x3 + 1)
else
lf_X7_isTaken_19 kd c0 q1 k n μ 0 (x3 + 1)) else none)
else
lf_X7_isTaken_19 kd c0 q1 k n μ 1 (x3 + 1)))
def fn_X7_isTaken (kd : Nat → Nat) (μ : gx_M) (c : Nat) (p1 : Int32) : Option (Int32 × gx_M) :=
  gx_b (fn_X7_noteAt kd μ c (μ c 7)) (fun r1 m2 =>
(if r1 < 0 then
lf_X7_isTaken_19 kd c p1 (fun m7 y8 y9 =>
(if y8 = 0 ∨ y8 = 1 then some (y8, m7) else none)) gx_F m2 0 0
else
lf_X7_isTaken_19 kd c p1 (fun m11 y12 y13 =>
(if y12 = 0 ∨ y12 = 1 then some (y12, m11) else none)) gx_F m2 1 0))
def lf_X7_reasonOfText_7 (kd : Nat → Nat) (c0 : Nat) (k : gx_M → Int32 → Option (Int32 × gx_M)) : Nat → gx_M → Int32 → Option (Int32 × gx_M)
  | 0, _, _ => none
  | n + 1, μ, x1 => (if μ c0 5 ≤ μ c0 6 then
k μ x1
else
gx_b (fn_X7_isFormed kd (gx_u μ c0 10 (μ c0 6)) c0) (fun r2 m3 =>
(if r2 = 0 then
some (1, m3)
else
gx_b (fn_X7_in kd m3 (m3 c0 7) 0 3600) (fun r5 m6 =>
(if r5 = 0 then
some (2, m6)
else
gx_b (fn_X7_in kd m6 (m6 c0 8) 0 6000) (fun r8 m9 =>
(if r8 = 0 then
some (2, m9)
else
gx_b (fn_X7_isTaken kd m9 c0 x1) (fun r11 m12 =>
(if r11 = 0 then
(if gx_ix 2 (kd (c0 + 1) - 100) = true then (if (m12 (c0 + 1) (Int32.toNatClampNeg 2) + x1) = 40 then
some (4, m12)
else
(if gx_ix x1 (kd (c0 + 5) - 100) = true then lf_X7_reasonOfText_7 kd c0 k n (gx_u m12 (c0 + 5) (Int32.toNatClampNeg x1) (m12 c0 7)) (x1 + 1) else none)) else none)
else
some (3, m12))))))))))
def fn_X7_reasonOfText (kd : Nat → Nat) (μ : gx_M) (c : Nat) : Option (Int32 × gx_M) :=
  lf_X7_reasonOfText_7 kd c (fun m15 y16 =>
some (0, m15)) gx_F (gx_u μ c 6 0) 0
def lf_X7_enter_21 (kd : Nat → Nat) (c0 : Nat) (k : gx_M → Int32 → Option (Int32 × gx_M)) : Nat → gx_M → Int32 → Option (Int32 × gx_M)
  | 0, _, _ => none
  | n + 1, μ, x1 => (if μ c0 5 ≤ μ c0 6 then
k μ x1
else
gx_b (fn_X7_isFormed kd μ c0) (fun r7 m8 =>
(if r7 = 0 then
k m8 x1
else
gx_b (fn_X7_newNote kd m8 c0 (m8 c0 7) (m8 c0 8)) (fun r10 m11 =>
(if r10 < 0 then
lf_X7_enter_21 kd c0 k n m11 (x1 + 0)
else
lf_X7_enter_21 kd c0 k n m11 (x1 + 1))))))
def fn_X7_enter (kd : Nat → Nat) (μ : gx_M) (c : Nat) : Option (Int32 × gx_M) :=
  gx_b (fn_X7_reasonOfText kd μ c) (fun r1 m2 =>
(if r1 = 0 then
gx_b (fn_X7_records kd m2 c) (fun _ m5 =>
lf_X7_enter_21 kd c (fun m13 y14 =>
some (y14, m13)) gx_F (gx_u m5 c 6 0) 0)
else
some ((-100002), m2)))
def fn_X7_fault (kd : Nat → Nat) (μ : gx_M) (c : Nat) (p1 : Int32) : Option (Int32 × gx_M) :=
  gx_b (fn_X7_in kd μ p1 0 1) (fun r1 m2 =>
(if r1 = 0 then
some ((-100001), m2)
else
gx_b (fn_X7_reasonOfText kd m2 c) (fun r4 m5 =>
(if r4 = 0 then
some ((-100004), m5)
else
(if p1 = 0 then
some (m5 c 10, m5)
else
some (r4, m5))))))
def lf_X7_fills_2 (kd : Nat → Nat) (c0 : Nat) (k : gx_M → Int32 → Option (Int32 × gx_M)) : Nat → gx_M → Int32 → Option (Int32 × gx_M)
  | 0, _, _ => none
  | n + 1, μ, x1 => (if gx_ix 1 (kd (c0 + 1) - 100) = true then (if μ (c0 + 1) (Int32.toNatClampNeg 1) ≤ x1 then
k μ x1
else
gx_b (fn_X7_of kd μ c0 x1 2) (fun r2 m3 =>
gx_b (fn_X7_of kd m3 c0 x1 3) (fun r4 m5 =>
(if r4 ≤ r2 then
lf_X7_fills_2 kd c0 k n m5 (x1 + 1)
else
gx_b (fn_X7_of kd m5 c0 x1 3) (fun r7 m8 =>
gx_b (fn_X7_of kd m8 c0 x1 2) (fun r9 m10 =>
gx_b (fn_X7_comes kd m10 c0 x1 (r7 - r9)) (fun _ m12 =>
lf_X7_fills_2 kd c0 k n m12 (x1 + 1)))))))) else none)
def fn_X7_fills (kd : Nat → Nat) (μ : gx_M) (c : Nat) : Option (Int32 × gx_M) :=
  lf_X7_fills_2 kd c (fun m13 y14 =>
some (0, m13)) gx_F μ 0
def lf_X7_laysAside_2 (kd : Nat → Nat) (c0 : Nat) (k : gx_M → Int32 → Option (Int32 × gx_M)) : Nat → gx_M → Int32 → Option (Int32 × gx_M)
  | 0, _, _ => none
  | n + 1, μ, x1 => (if 301 ≤ x1 then
k μ x1
else
(if gx_ix x1 (kd (c0 + 1) - 100) = true then (if gx_ix x1 (kd (c0 + 3) - 100) = true then lf_X7_laysAside_2 kd c0 k n (gx_u μ (c0 + 3) (Int32.toNatClampNeg x1) (μ (c0 + 1) (Int32.toNatClampNeg x1))) (x1 + 1) else none) else none))
def fn_X7_laysAside (kd : Nat → Nat) (μ : gx_M) (c : Nat) : Option (Int32 × gx_M) :=
  lf_X7_laysAside_2 kd c (fun m2 y3 =>
some (0, m2)) gx_F μ 0
def fn_X7_size (kd : Nat → Nat) (μ : gx_M) (p0 : Int32) : Option (Int32 × gx_M) :=
  (if 0 ≤ p0 then
some (p0, μ)
else
some ((-p0), μ))
def lf_X7_sounds_4 (kd : Nat → Nat) (c0 : Nat) (q1 : Int32) (k : gx_M → Int32 → Int32 → Option (Int32 × gx_M)) : Nat → gx_M → Int32 → Int32 → Option (Int32 × gx_M)
  | 0, _, _, _ => none
  | n + 1, μ, x2, x3 => (if gx_ix 1 (kd (c0 + 1) - 100) = true then (if μ (c0 + 1) (Int32.toNatClampNeg 1) ≤ x3 then
k μ x2 x3
else
(if x2 = (-1) then
lf_X7_sounds_4 kd c0 q1 k n μ x3 (x3 + 1)
else
gx_b (fn_X7_pitch kd μ c0 x3) (fun r3 m4 =>
gx_b (fn_X7_size kd m4 (r3 - q1)) (fun r5 m6 =>
gx_b (fn_X7_pitch kd m6 c0 x2) (fun r7 m8 =>
gx_b (fn_X7_size kd m8 (r7 - q1)) (fun r9 m10 =>
(if r9 ≤ r5 then
lf_X7_sounds_4 kd c0 q1 k n m10 x2 (x3 + 1)
else
lf_X7_sounds_4 kd c0 q1 k n m10 x3 (x3 + 1)))))))) else none)
def fn_X7_sounds (kd : Nat → Nat) (μ : gx_M) (c : Nat) (p1 : Int32) : Option (Int32 × gx_M) :=
  lf_X7_sounds_4 kd c p1 (fun m12 y13 y14 =>
some (y13, m12)) gx_F μ (-1) 0
def fn_X7_plays (kd : Nat → Nat) (μ : gx_M) (c : Nat) (p1 : Int32) : Option (Int32 × gx_M) :=
  gx_b (fn_X7_setting kd μ c 3) (fun r1 m2 =>
(if r1 = 1 then
gx_b (fn_X7_begins kd m2 c p1) (fun r49 m50 =>
(if r49 = 0 then
gx_b (fn_X7_has kd m50 c p1 1) (fun r52 m53 =>
gx_b (fn_X7_sounds kd m53 c r52) (fun r54 m55 =>
(if r54 = (-1) then
gx_b (fn_X7_lay kd m55 c p1 2 1) (fun _ m80 =>
gx_b (fn_X7_lay kd m80 c p1 3 r54) (fun _ m82 =>
gx_b (fn_X7_lay kd m82 c p1 4 0) (fun _ m84 =>
(if r54 = (-1) then
gx_b (fn_X7_lay kd m84 c p1 5 0) (fun _ m87 =>
some (0, m87))
else
gx_b (fn_X7_size kd m84 0) (fun r88 m89 =>
gx_b (fn_X7_setting kd m89 c 2) (fun r90 m91 =>
(if r90 < r88 then
gx_b (fn_X7_lay kd m91 c p1 5 0) (fun _ m94 =>
some (0, m94))
else
gx_b (fn_X7_lay kd m91 c p1 5 1) (fun _ m96 =>
some (0, m96)))))))))
else
gx_b (fn_X7_pitch kd m55 c r54) (fun r57 m58 =>
gx_b (fn_X7_has kd m58 c p1 1) (fun r59 m60 =>
gx_b (fn_X7_lay kd m60 c p1 2 1) (fun _ m62 =>
gx_b (fn_X7_lay kd m62 c p1 3 r54) (fun _ m64 =>
gx_b (fn_X7_lay kd m64 c p1 4 (r57 - r59)) (fun _ m66 =>
(if r54 = (-1) then
gx_b (fn_X7_lay kd m66 c p1 5 0) (fun _ m69 =>
some (0, m69))
else
gx_b (fn_X7_size kd m66 (r57 - r59)) (fun r70 m71 =>
gx_b (fn_X7_setting kd m71 c 2) (fun r72 m73 =>
(if r72 < r70 then
gx_b (fn_X7_lay kd m73 c p1 5 0) (fun _ m76 =>
some (0, m76))
else
gx_b (fn_X7_lay kd m73 c p1 5 1) (fun _ m78 =>
some (0, m78))))))))))))))
else
gx_b (fn_X7_fills kd m50 c) (fun _ m98 =>
gx_b (fn_X7_has kd m98 c p1 1) (fun r99 m100 =>
gx_b (fn_X7_sounds kd m100 c r99) (fun r101 m102 =>
(if r101 = (-1) then
gx_b (fn_X7_lay kd m102 c p1 2 1) (fun _ m127 =>
gx_b (fn_X7_lay kd m127 c p1 3 r101) (fun _ m129 =>
gx_b (fn_X7_lay kd m129 c p1 4 0) (fun _ m131 =>
(if r101 = (-1) then
gx_b (fn_X7_lay kd m131 c p1 5 0) (fun _ m134 =>
some (0, m134))
else
gx_b (fn_X7_size kd m131 0) (fun r135 m136 =>
gx_b (fn_X7_setting kd m136 c 2) (fun r137 m138 =>
(if r137 < r135 then
gx_b (fn_X7_lay kd m138 c p1 5 0) (fun _ m141 =>
some (0, m141))
else
gx_b (fn_X7_lay kd m138 c p1 5 1) (fun _ m143 =>
some (0, m143)))))))))
else
gx_b (fn_X7_pitch kd m102 c r101) (fun r104 m105 =>
gx_b (fn_X7_has kd m105 c p1 1) (fun r106 m107 =>
gx_b (fn_X7_lay kd m107 c p1 2 1) (fun _ m109 =>
gx_b (fn_X7_lay kd m109 c p1 3 r101) (fun _ m111 =>
gx_b (fn_X7_lay kd m111 c p1 4 (r104 - r106)) (fun _ m113 =>
(if r101 = (-1) then
gx_b (fn_X7_lay kd m113 c p1 5 0) (fun _ m116 =>
some (0, m116))
else
gx_b (fn_X7_size kd m113 (r104 - r106)) (fun r117 m118 =>
gx_b (fn_X7_setting kd m118 c 2) (fun r119 m120 =>
(if r119 < r117 then
gx_b (fn_X7_lay kd m120 c p1 5 0) (fun _ m123 =>
some (0, m123))
else
gx_b (fn_X7_lay kd m120 c p1 5 1) (fun _ m125 =>
some (0, m125)))))))))))))))))
else
gx_b (fn_X7_has kd m2 c p1 1) (fun r4 m5 =>
gx_b (fn_X7_sounds kd m5 c r4) (fun r6 m7 =>
(if r6 = (-1) then
gx_b (fn_X7_lay kd m7 c p1 2 1) (fun _ m32 =>
gx_b (fn_X7_lay kd m32 c p1 3 r6) (fun _ m34 =>
gx_b (fn_X7_lay kd m34 c p1 4 0) (fun _ m36 =>
(if r6 = (-1) then
gx_b (fn_X7_lay kd m36 c p1 5 0) (fun _ m39 =>
some (0, m39))
else
gx_b (fn_X7_size kd m36 0) (fun r40 m41 =>
gx_b (fn_X7_setting kd m41 c 2) (fun r42 m43 =>
(if r42 < r40 then
gx_b (fn_X7_lay kd m43 c p1 5 0) (fun _ m46 =>
some (0, m46))
else
gx_b (fn_X7_lay kd m43 c p1 5 1) (fun _ m48 =>
some (0, m48)))))))))
else
gx_b (fn_X7_pitch kd m7 c r6) (fun r9 m10 =>
gx_b (fn_X7_has kd m10 c p1 1) (fun r11 m12 =>
gx_b (fn_X7_lay kd m12 c p1 2 1) (fun _ m14 =>
gx_b (fn_X7_lay kd m14 c p1 3 r6) (fun _ m16 =>
gx_b (fn_X7_lay kd m16 c p1 4 (r9 - r11)) (fun _ m18 =>
(if r6 = (-1) then
gx_b (fn_X7_lay kd m18 c p1 5 0) (fun _ m21 =>
some (0, m21))
else
gx_b (fn_X7_size kd m18 (r9 - r11)) (fun r22 m23 =>
gx_b (fn_X7_setting kd m23 c 2) (fun r24 m25 =>
(if r24 < r22 then
gx_b (fn_X7_lay kd m25 c p1 5 0) (fun _ m28 =>
some (0, m28))
else
gx_b (fn_X7_lay kd m25 c p1 5 1) (fun _ m30 =>
some (0, m30))))))))))))))))
def fn_X7_second (kd : Nat → Nat) (μ : gx_M) (c : Nat) : Option (Int32 × gx_M) :=
  (if gx_ix 0 (kd (c + 1) - 100) = true then (if gx_ix 0 (kd (c + 1) - 100) = true then (if gx_ix 0 (kd (c + 1) - 100) = true then gx_b (fn_X7_setting kd (gx_u μ (c + 1) (Int32.toNatClampNeg 0) (μ (c + 1) (Int32.toNatClampNeg 0) + 1)) c 0) (fun r1 m2 =>
(if ¬ r1 = 0 then (if ((gx_u μ (c + 1) (Int32.toNatClampNeg 0) (μ (c + 1) (Int32.toNatClampNeg 0) + 1)) (c + 1) (Int32.toNatClampNeg 0) - (gx_u μ (c + 1) (Int32.toNatClampNeg 0) (μ (c + 1) (Int32.toNatClampNeg 0) + 1)) (c + 1) (Int32.toNatClampNeg 0) / r1 * r1) = 0 then
gx_b (fn_X7_dries kd m2 c) (fun _ m11 =>
(if gx_ix 0 (kd (c + 1) - 100) = true then gx_b (fn_X7_noteAt kd m11 c (m11 (c + 1) (Int32.toNatClampNeg 0))) (fun r12 m13 =>
(if r12 < 0 then
some (r12, m13)
else
gx_b (fn_X7_plays kd m13 c r12) (fun _ m16 =>
some (r12, m16)))) else none))
else
(if gx_ix 0 (kd (c + 1) - 100) = true then gx_b (fn_X7_noteAt kd m2 c (m2 (c + 1) (Int32.toNatClampNeg 0))) (fun r5 m6 =>
(if r5 < 0 then
some (r5, m6)
else
gx_b (fn_X7_plays kd m6 c r5) (fun _ m9 =>
some (r5, m9)))) else none)) else none)) else none) else none) else none)
def lf_X7_firstFalse_7 (kd : Nat → Nat) (c0 : Nat) (k : gx_M → Int32 → Option (Int32 × gx_M)) : Nat → gx_M → Int32 → Option (Int32 × gx_M)
  | 0, _, _ => none
  | n + 1, μ, x1 => (if gx_ix 1 (kd (c0 + 1) - 100) = true then (if μ (c0 + 1) (Int32.toNatClampNeg 1) ≤ 0 then
k μ x1
else
(if gx_ix 0 (kd (c0 + 1) - 100) = true then (if 3600 ≤ μ (c0 + 1) (Int32.toNatClampNeg 0) then
k μ x1
else
(if 0 ≤ x1 then
k μ x1
else
gx_b (fn_X7_second kd μ c0) (fun r6 m7 =>
(if r6 < 0 then
lf_X7_firstFalse_7 kd c0 k n m7 (-100004)
else
gx_b (fn_X7_has kd m7 c0 r6 5) (fun r9 m10 =>
(if r9 = 0 then
lf_X7_firstFalse_7 kd c0 k n m10 r6
else
lf_X7_firstFalse_7 kd c0 k n m10 (-100004))))))) else none)) else none)
def fn_X7_firstFalse (kd : Nat → Nat) (μ : gx_M) (c : Nat) : Option (Int32 × gx_M) :=
  gx_b (fn_X7_laysAside kd μ c) (fun _ m2 =>
lf_X7_firstFalse_7 kd c (fun m12 y13 =>
gx_b (fn_X7_bringsBack kd m12 c) (fun _ m15 =>
some (y13, m15))) gx_F m2 (-100004))
def lf_X7_goesTo_0 (kd : Nat → Nat) (c0 : Nat) (q1 : Int32) (k : gx_M → Option (Int32 × gx_M)) : Nat → gx_M → Option (Int32 × gx_M)
  | 0, _ => none
  | n + 1, μ => (if gx_ix 0 (kd (c0 + 1) - 100) = true then (if q1 ≤ μ (c0 + 1) (Int32.toNatClampNeg 0) then
k μ 
else
gx_b (fn_X7_second kd μ c0) (fun r2 m3 =>
lf_X7_goesTo_0 kd c0 q1 k n m3 )) else none)
def fn_X7_goesTo (kd : Nat → Nat) (μ : gx_M) (c : Nat) (p1 : Int32) : Option (Int32 × gx_M) :=
  lf_X7_goesTo_0 kd c p1 (fun m4 =>
some (0, m4)) gx_F μ 
def fn_X7_hasSounded (kd : Nat → Nat) (μ : gx_M) (c : Nat) (p1 : Int32) : Option (Int32 × gx_M) :=
  gx_b (fn_X7_has kd μ c p1 2) (fun r1 m2 =>
(if r1 = 1 then
gx_b (fn_X7_has kd m2 c p1 3) (fun r4 m5 =>
(if r4 = (-1) then
some (0, m5)
else
some (1, m5)))
else
some (0, m2)))
def fn_X7_isToCome (kd : Nat → Nat) (μ : gx_M) (c : Nat) (p1 : Int32) : Option (Int32 × gx_M) :=
  gx_b (fn_X7_has kd μ c p1 0) (fun r1 m2 =>
(if gx_ix 0 (kd (c + 1) - 100) = true then (if r1 ≤ m2 (c + 1) (Int32.toNatClampNeg 0) then
some (0, m2)
else
some (1, m2)) else none))
def lf_X7_leastTolerance_7 (kd : Nat → Nat) (c0 : Nat) (k : gx_M → Int32 → Option (Int32 × gx_M)) : Nat → gx_M → Int32 → Option (Int32 × gx_M)
  | 0, _, _ => none
  | n + 1, μ, x1 => (if gx_ix 1 (kd (c0 + 1) - 100) = true then (if μ (c0 + 1) (Int32.toNatClampNeg 1) ≤ 0 then
k μ x1
else
(if gx_ix 0 (kd (c0 + 1) - 100) = true then (if 3600 ≤ μ (c0 + 1) (Int32.toNatClampNeg 0) then
k μ x1
else
gx_b (fn_X7_second kd μ c0) (fun r5 m6 =>
(if r5 < 0 then
lf_X7_leastTolerance_7 kd c0 k n m6 x1
else
gx_b (fn_X7_has kd m6 c0 r5 4) (fun r8 m9 =>
gx_b (fn_X7_size kd m9 r8) (fun r10 m11 =>
(if r10 ≤ x1 then
lf_X7_leastTolerance_7 kd c0 k n m11 x1
else
gx_b (fn_X7_has kd m11 c0 r5 4) (fun r13 m14 =>
gx_b (fn_X7_size kd m14 r13) (fun r15 m16 =>
lf_X7_leastTolerance_7 kd c0 k n m16 r15)))))))) else none)) else none)
def fn_X7_leastTolerance (kd : Nat → Nat) (μ : gx_M) (c : Nat) : Option (Int32 × gx_M) :=
  gx_b (fn_X7_laysAside kd μ c) (fun _ m2 =>
lf_X7_leastTolerance_7 kd c (fun m17 y18 =>
gx_b (fn_X7_bringsBack kd m17 c) (fun _ m20 =>
some (y18, m20))) gx_F m2 (-100004))
def lf_X7_levelFor_29 (kd : Nat → Nat) (c0 : Nat) (q1 : Int32) (q2 : Int32) (k : gx_M → Int32 → Int32 → Option (Int32 × gx_M)) : Nat → gx_M → Int32 → Int32 → Option (Int32 × gx_M)
  | 0, _, _, _ => none
  | n + 1, μ, x3, x4 => gx_b (fn_X7_of kd μ c0 q1 4) (fun r7 m8 =>
(if r7 < x4 then
k m8 x3 x4
else
gx_b (fn_X7_pitchBy kd m8 c0 q1 x4) (fun r10 m11 =>
gx_b (fn_X7_size kd m11 (r10 - q2)) (fun r12 m13 =>
gx_b (fn_X7_pitchBy kd m13 c0 q1 x3) (fun r14 m15 =>
gx_b (fn_X7_size kd m15 (r14 - q2)) (fun r16 m17 =>
(if r16 ≤ r12 then
lf_X7_levelFor_29 kd c0 q1 q2 k n m17 x3 (x4 + 1)
else
lf_X7_levelFor_29 kd c0 q1 q2 k n m17 x4 (x4 + 1))))))))
def fn_X7_levelFor (kd : Nat → Nat) (μ : gx_M) (c : Nat) (p1 : Int32) (p2 : Int32) : Option (Int32 × gx_M) :=
  gx_b (fn_X7_isBowl kd μ c p1) (fun r1 m2 =>
(if r1 = 0 then
some ((-100001), m2)
else
gx_b (fn_X7_in kd m2 p2 (-3000) 6000) (fun r4 m5 =>
(if r4 = 0 then
some ((-100001), m5)
else
lf_X7_levelFor_29 kd c p1 p2 (fun m19 y20 y21 =>
some (y20, m19)) gx_F m5 0 1))))
def fn_X7_mark (kd : Nat → Nat) (μ : gx_M) (c : Nat) (p1 : Int32) (p2 : Int32) : Option (Int32 × gx_M) :=
  gx_b (fn_X7_isBowl kd μ c p1) (fun r1 m2 =>
(if r1 = 0 then
some ((-100001), m2)
else
gx_b (fn_X7_in kd m2 p2 0 1000) (fun r4 m5 =>
(if r4 = 0 then
some ((-100001), m5)
else
gx_b (fn_X7_records kd m5 c) (fun _ m8 =>
gx_b (fn_X7_of kd m8 c p1 3) (fun r9 m10 =>
gx_b (fn_X7_put kd m10 c p1 3 p2) (fun _ m12 =>
some (r9, m12))))))))
def fn_X7_nearest (kd : Nat → Nat) (μ : gx_M) (c : Nat) (p1 : Int32) : Option (Int32 × gx_M) :=
  gx_b (fn_X7_in kd μ p1 0 6000) (fun r1 m2 =>
(if r1 = 0 then
some ((-100001), m2)
else
(if gx_ix 1 (kd (c + 1) - 100) = true then (if m2 (c + 1) (Int32.toNatClampNeg 1) = 0 then
some ((-100004), m2)
else
gx_b (fn_X7_sounds kd m2 c p1) (fun r5 m6 =>
some (r5, m6))) else none)))
def fn_X7_note (kd : Nat → Nat) (μ : gx_M) (c : Nat) (p1 : Int32) (p2 : Int32) : Option (Int32 × gx_M) :=
  gx_b (fn_X7_in kd μ p1 0 3600) (fun r1 m2 =>
(if r1 = 0 then
some ((-100001), m2)
else
gx_b (fn_X7_in kd m2 p2 0 6000) (fun r4 m5 =>
(if r4 = 0 then
some ((-100001), m5)
else
gx_b (fn_X7_noteAt kd m5 c p1) (fun r7 m8 =>
(if r7 < 0 then
(if gx_ix 2 (kd (c + 1) - 100) = true then (if m8 (c + 1) (Int32.toNatClampNeg 2) = 40 then
some ((-100003), m8)
else
gx_b (fn_X7_records kd m8 c) (fun _ m12 =>
gx_b (fn_X7_newNote kd m12 c p1 p2) (fun r13 m14 =>
some (r13, m14)))) else none)
else
some ((-100002), m8)))))))
def fn_X7_noteOf (kd : Nat → Nat) (μ : gx_M) (c : Nat) (p1 : Int32) (p2 : Int32) : Option (Int32 × gx_M) :=
  gx_b (fn_X7_isNote kd μ c p1) (fun r1 m2 =>
(if r1 = 0 then
some ((-100001), m2)
else
gx_b (fn_X7_in kd m2 p2 0 6) (fun r4 m5 =>
(if r4 = 0 then
some ((-100001), m5)
else
gx_b (fn_X7_has kd m5 c p1 2) (fun r7 m8 =>
(if r7 = 1 then
gx_b (fn_X7_has kd m8 c p1 3) (fun r23 m24 =>
(if r23 = (-1) then
(if p2 = 0 then
gx_b (fn_X7_has kd m24 c p1 p2) (fun r27 m28 =>
some (r27, m28))
else
(if p2 = 1 then
gx_b (fn_X7_has kd m24 c p1 p2) (fun r30 m31 =>
some (r30, m31))
else
(if p2 = 2 then
gx_b (fn_X7_phraseOf kd m24 c p1) (fun r33 m34 =>
some (r33, m34))
else
(if p2 = 3 then
gx_b (fn_X7_has kd m24 c p1 2) (fun r36 m37 =>
some (r36, m37))
else
some ((-100004), m24)))))
else
(if p2 = 0 then
gx_b (fn_X7_has kd m24 c p1 p2) (fun r40 m41 =>
some (r40, m41))
else
(if p2 = 1 then
gx_b (fn_X7_has kd m24 c p1 p2) (fun r43 m44 =>
some (r43, m44))
else
(if p2 = 2 then
gx_b (fn_X7_phraseOf kd m24 c p1) (fun r46 m47 =>
some (r46, m47))
else
(if p2 = 3 then
gx_b (fn_X7_has kd m24 c p1 2) (fun r49 m50 =>
some (r49, m50))
else
gx_b (fn_X7_has kd m24 c p1 (p2 - 1)) (fun r52 m53 =>
some (r52, m53))))))))
else
(if p2 = 0 then
gx_b (fn_X7_has kd m8 c p1 p2) (fun r11 m12 =>
some (r11, m12))
else
(if p2 = 1 then
gx_b (fn_X7_has kd m8 c p1 p2) (fun r14 m15 =>
some (r14, m15))
else
(if p2 = 2 then
gx_b (fn_X7_phraseOf kd m8 c p1) (fun r17 m18 =>
some (r17, m18))
else
(if p2 = 3 then
gx_b (fn_X7_has kd m8 c p1 2) (fun r20 m21 =>
some (r20, m21))
else
some ((-100004), m8)))))))))))
def fn_X7_pitchAt (kd : Nat → Nat) (μ : gx_M) (c : Nat) (p1 : Int32) (p2 : Int32) : Option (Int32 × gx_M) :=
  gx_b (fn_X7_isBowl kd μ c p1) (fun r1 m2 =>
(if r1 = 0 then
some ((-100001), m2)
else
(if gx_ix 0 (kd (c + 1) - 100) = true then gx_b (fn_X7_in kd m2 p2 (m2 (c + 1) (Int32.toNatClampNeg 0)) 3600) (fun r4 m5 =>
(if r4 = 0 then
some ((-100001), m5)
else
gx_b (fn_X7_laysAside kd m5 c) (fun _ m8 =>
gx_b (fn_X7_goesTo kd m8 c p2) (fun _ m10 =>
gx_b (fn_X7_pitch kd m10 c p1) (fun r11 m12 =>
gx_b (fn_X7_bringsBack kd m12 c) (fun _ m14 =>
some (r11, m14))))))) else none)))
def fn_X7_pour (kd : Nat → Nat) (μ : gx_M) (c : Nat) (p1 : Int32) (p2 : Int32) : Option (Int32 × gx_M) :=
  gx_b (fn_X7_isBowl kd μ c p1) (fun r1 m2 =>
(if r1 = 0 then
some ((-100001), m2)
else
gx_b (fn_X7_in kd m2 p2 1 1000) (fun r4 m5 =>
(if r4 = 0 then
some ((-100001), m5)
else
gx_b (fn_X7_of kd m5 c p1 2) (fun r7 m8 =>
(if (r7 + p2) ≤ 1000 then
gx_b (fn_X7_records kd m8 c) (fun _ m11 =>
gx_b (fn_X7_comes kd m11 c p1 p2) (fun _ m13 =>
gx_b (fn_X7_of kd m13 c p1 2) (fun r14 m15 =>
some (r14, m15))))
else
some ((-100003), m8)))))))
def lf_X7_remove_48 (kd : Nat → Nat) (c0 : Nat) (q1 : Int32) (k : gx_M → Int32 → Option (Int32 × gx_M)) : Nat → gx_M → Int32 → Option (Int32 × gx_M)
  | 0, _, _ => none
  | n + 1, μ, x2 => (if gx_ix 1 (kd (c0 + 1) - 100) = true then (if (11 + (5 * μ (c0 + 1) (Int32.toNatClampNeg 1))) ≤ x2 then
k μ x2
else
(if gx_ix (x2 + 5) (kd (c0 + 1) - 100) = true then (if gx_ix x2 (kd (c0 + 1) - 100) = true then lf_X7_remove_48 kd c0 q1 k n (gx_u μ (c0 + 1) (Int32.toNatClampNeg x2) (μ (c0 + 1) (Int32.toNatClampNeg (x2 + 5)))) (x2 + 1) else none) else none)) else none)
def fn_X7_remove (kd : Nat → Nat) (μ : gx_M) (c : Nat) (p1 : Int32) : Option (Int32 × gx_M) :=
  gx_b (fn_X7_isBowl kd μ c p1) (fun r1 m2 =>
(if r1 = 0 then
some ((-100001), m2)
else
gx_b (fn_X7_records kd m2 c) (fun _ m5 =>
(if gx_ix 6 (kd (c + 1) - 100) = true then gx_b (fn_X7_of kd m5 c p1 2) (fun r6 m7 =>
(if gx_ix 6 (kd (c + 1) - 100) = true then (if gx_ix 1 (kd (c + 1) - 100) = true then (if gx_ix 1 (kd (c + 1) - 100) = true then lf_X7_remove_48 kd c p1 (fun m9 y10 =>
(if gx_ix 1 (kd (c + 1) - 100) = true then some (m9 (c + 1) (Int32.toNatClampNeg 1), m9) else none)) gx_F (gx_u (gx_u m7 (c + 1) (Int32.toNatClampNeg 6) (m5 (c + 1) (Int32.toNatClampNeg 6) + r6)) (c + 1) (Int32.toNatClampNeg 1) ((gx_u m7 (c + 1) (Int32.toNatClampNeg 6) (m5 (c + 1) (Int32.toNatClampNeg 6) + r6)) (c + 1) (Int32.toNatClampNeg 1) - 1)) (11 + (5 * p1)) else none) else none) else none)) else none))))
def lf_X7_rewind_20 (kd : Nat → Nat) (c0 : Nat) (q1 : Int32) (k : gx_M → Int32 → Option (Int32 × gx_M)) : Nat → gx_M → Int32 → Option (Int32 × gx_M)
  | 0, _, _ => none
  | n + 1, μ, x2 => (if gx_ix 2 (kd (c0 + 1) - 100) = true then (if μ (c0 + 1) (Int32.toNatClampNeg 2) ≤ x2 then
k μ x2
else
gx_b (fn_X7_lay kd μ c0 x2 2 0) (fun _ m5 =>
gx_b (fn_X7_lay kd m5 c0 x2 3 (-1)) (fun _ m7 =>
lf_X7_rewind_20 kd c0 q1 k n m7 (x2 + 1)))) else none)
def fn_X7_rewind (kd : Nat → Nat) (μ : gx_M) (c : Nat) : Option (Int32 × gx_M) :=
  gx_b (fn_X7_records kd μ c) (fun _ m2 =>
(if gx_ix 0 (kd (c + 1) - 100) = true then (if gx_ix 0 (kd (c + 1) - 100) = true then lf_X7_rewind_20 kd c (m2 (c + 1) (Int32.toNatClampNeg 0)) (fun m8 y9 =>
some (m2 (c + 1) (Int32.toNatClampNeg 0), m8)) gx_F (gx_u m2 (c + 1) (Int32.toNatClampNeg 0) 0) 0 else none) else none))
def lf_X7_run_39 (kd : Nat → Nat) (c0 : Nat) (q1 : Int32) (k : gx_M → Int32 → Int32 → Option (Int32 × gx_M)) : Nat → gx_M → Int32 → Int32 → Option (Int32 × gx_M)
  | 0, _, _, _ => none
  | n + 1, μ, x2, x3 => (if q1 ≤ x3 then
k μ x2 x3
else
gx_b (fn_X7_second kd μ c0) (fun r8 m9 =>
(if r8 < 0 then
lf_X7_run_39 kd c0 q1 k n m9 (x2 + 0) (x3 + 1)
else
lf_X7_run_39 kd c0 q1 k n m9 (x2 + 1) (x3 + 1))))
def fn_X7_run (kd : Nat → Nat) (μ : gx_M) (c : Nat) (p1 : Int32) : Option (Int32 × gx_M) :=
  gx_b (fn_X7_in kd μ p1 1 600) (fun r1 m2 =>
(if r1 = 0 then
some ((-100001), m2)
else
(if gx_ix 0 (kd (c + 1) - 100) = true then (if (m2 (c + 1) (Int32.toNatClampNeg 0) + p1) ≤ 3600 then
gx_b (fn_X7_records kd m2 c) (fun _ m6 =>
lf_X7_run_39 kd c p1 (fun m11 y12 y13 =>
some (y12, m11)) gx_F m6 0 0)
else
some ((-100003), m2)) else none)))
def fn_X7_set (kd : Nat → Nat) (μ : gx_M) (c : Nat) (p1 : Int32) (p2 : Int32) : Option (Int32 × gx_M) :=
  gx_b (fn_X7_canBe kd μ p1 p2) (fun r1 m2 =>
(if r1 = 0 then
some ((-100001), m2)
else
gx_b (fn_X7_records kd m2 c) (fun _ m5 =>
gx_b (fn_X7_setting kd m5 c p1) (fun r6 m7 =>
(if gx_ix (7 + p1) (kd (c + 1) - 100) = true then some (r6, (gx_u m7 (c + 1) (Int32.toNatClampNeg (7 + p1)) p2)) else none)))))
def fn_X7_spill (kd : Nat → Nat) (μ : gx_M) (c : Nat) (p1 : Int32) (p2 : Int32) : Option (Int32 × gx_M) :=
  gx_b (fn_X7_isBowl kd μ c p1) (fun r1 m2 =>
(if r1 = 0 then
some ((-100001), m2)
else
gx_b (fn_X7_in kd m2 p2 1 1000) (fun r4 m5 =>
(if r4 = 0 then
some ((-100001), m5)
else
gx_b (fn_X7_of kd m5 c p1 2) (fun r7 m8 =>
(if p2 ≤ r7 then
gx_b (fn_X7_records kd m8 c) (fun _ m11 =>
gx_b (fn_X7_of kd m11 c p1 2) (fun r12 m13 =>
gx_b (fn_X7_put kd m13 c p1 2 (r12 - p2)) (fun _ m15 =>
(if gx_ix 6 (kd (c + 1) - 100) = true then (if gx_ix 6 (kd (c + 1) - 100) = true then gx_b (fn_X7_of kd (gx_u m15 (c + 1) (Int32.toNatClampNeg 6) (m15 (c + 1) (Int32.toNatClampNeg 6) + p2)) c p1 2) (fun r16 m17 =>
some (r16, m17)) else none) else none))))
else
some ((-100002), m8)))))))
def lf_X7_standAhead_4 (kd : Nat → Nat) (c0 : Nat) (q1 : Int32) (k : gx_M → Int32 → Int32 → Option (Int32 × gx_M)) : Nat → gx_M → Int32 → Int32 → Option (Int32 × gx_M)
  | 0, _, _, _ => none
  | n + 1, μ, x2, x3 => (if gx_ix 2 (kd (c0 + 1) - 100) = true then (if μ (c0 + 1) (Int32.toNatClampNeg 2) ≤ x3 then
k μ x2 x3
else
gx_b (fn_X7_has kd μ c0 x3 4) (fun r2 m3 =>
gx_b (fn_X7_size kd m3 r2) (fun r4 m5 =>
gx_b (fn_X7_has kd m5 c0 q1 4) (fun r6 m7 =>
gx_b (fn_X7_size kd m7 r6) (fun r8 m9 =>
gx_b (fn_X7_hasSounded kd m9 c0 x3) (fun r10 m11 =>
(if r10 = 0 then
lf_X7_standAhead_4 kd c0 q1 k n m11 (x2 + 0) (x3 + 1)
else
(if 0 < (r4 - r8) then
lf_X7_standAhead_4 kd c0 q1 k n m11 (x2 + 1) (x3 + 1)
else
(if (r4 - r8) = 0 then
(if q1 ≤ x3 then
lf_X7_standAhead_4 kd c0 q1 k n m11 (x2 + 0) (x3 + 1)
else
lf_X7_standAhead_4 kd c0 q1 k n m11 (x2 + 1) (x3 + 1))
else
lf_X7_standAhead_4 kd c0 q1 k n m11 (x2 + 0) (x3 + 1)))))))))) else none)
def fn_X7_standAhead (kd : Nat → Nat) (μ : gx_M) (c : Nat) (p1 : Int32) : Option (Int32 × gx_M) :=
  lf_X7_standAhead_4 kd c p1 (fun m16 y17 y18 =>
some (y17, m16)) gx_F μ 0 0
def lf_X7_transpose_44 (kd : Nat → Nat) (c0 : Nat) (q1 : Int32) (q2 : Int32) (q3 : Int32) (k : gx_M → Int32 → Option (Int32 × gx_M)) : Nat → gx_M → Int32 → Option (Int32 × gx_M)
  | 0, _, _ => none
  | n + 1, μ, x4 => (if q2 < x4 then
k μ x4
else
gx_b (fn_X7_has kd μ c0 x4 1) (fun r13 m14 =>
gx_b (fn_X7_in kd m14 (r13 + q3) 0 6000) (fun r15 m16 =>
(if r15 = 0 then
some ((-100002), m16)
else
lf_X7_transpose_44 kd c0 q1 q2 q3 k n m16 (x4 + 1)))))
def lf_X7_transpose_85 (kd : Nat → Nat) (c0 : Nat) (q1 : Int32) (q2 : Int32) (q3 : Int32) (k : gx_M → Int32 → Option (Int32 × gx_M)) : Nat → gx_M → Int32 → Option (Int32 × gx_M)
  | 0, _, _ => none
  | n + 1, μ, x4 => (if q2 < x4 then
k μ x4
else
gx_b (fn_X7_has kd μ c0 x4 1) (fun r23 m24 =>
gx_b (fn_X7_lay kd m24 c0 x4 1 (r23 + q3)) (fun _ m26 =>
lf_X7_transpose_85 kd c0 q1 q2 q3 k n m26 (x4 + 1))))
def fn_X7_transpose (kd : Nat → Nat) (μ : gx_M) (c : Nat) (p1 : Int32) (p2 : Int32) (p3 : Int32) : Option (Int32 × gx_M) :=
  gx_b (fn_X7_isNote kd μ c p1) (fun r1 m2 =>
(if r1 = 0 then
some ((-100001), m2)
else
gx_b (fn_X7_isNote kd m2 c p2) (fun r4 m5 =>
(if r4 = 0 then
some ((-100001), m5)
else
(if p2 < p1 then
some ((-100001), m5)
else
(if p3 = 0 then
some ((-100001), m5)
else
gx_b (fn_X7_in kd m5 p3 (-6000) 6000) (fun r9 m10 =>
(if r9 = 0 then
some ((-100001), m10)
else
lf_X7_transpose_44 kd c p1 p2 p3 (fun m18 y19 =>
gx_b (fn_X7_records kd m18 c) (fun _ m21 =>
lf_X7_transpose_85 kd c p1 p2 p3 (fun m27 y28 =>
some (((p2 - p1) + 1), m27)) gx_F m21 p1)) gx_F m10 p1))))))))
def fn_X7_type (kd : Nat → Nat) (μ : gx_M) (c : Nat) (p1 : Int32) : Option (Int32 × gx_M) :=
  gx_b (fn_X7_in kd μ p1 32 126) (fun r1 m2 =>
(if r1 = 0 then
some ((-100001), m2)
else
(if m2 c 5 = 100 then
some ((-100003), m2)
else
(if gx_ix (m2 c 5) (kd (c + 4) - 100) = true then some ((gx_u (gx_u m2 (c + 4) (Int32.toNatClampNeg (m2 c 5)) p1) c 5 ((gx_u m2 (c + 4) (Int32.toNatClampNeg (m2 c 5)) p1) c 5 + 1)) c 5, (gx_u (gx_u m2 (c + 4) (Int32.toNatClampNeg (m2 c 5)) p1) c 5 ((gx_u m2 (c + 4) (Int32.toNatClampNeg (m2 c 5)) p1) c 5 + 1))) else none))))
def lf_X7_undo_22 (kd : Nat → Nat) (c0 : Nat) (k : gx_M → Int32 → Option (Int32 × gx_M)) : Nat → gx_M → Int32 → Option (Int32 × gx_M)
  | 0, _, _ => none
  | n + 1, μ, x1 => (if 301 ≤ x1 then
k μ x1
else
(if gx_ix ((301 * μ c0 3) + x1) (kd (c0 + 2) - 100) = true then (if gx_ix x1 (kd (c0 + 1) - 100) = true then lf_X7_undo_22 kd c0 k n (gx_u μ (c0 + 1) (Int32.toNatClampNeg x1) (μ (c0 + 2) (Int32.toNatClampNeg ((301 * μ c0 3) + x1)))) (x1 + 1) else none) else none))
def fn_X7_undo (kd : Nat → Nat) (μ : gx_M) (c : Nat) : Option (Int32 × gx_M) :=
  (if μ c 3 = 0 then
some ((-100002), μ)
else
lf_X7_undo_22 kd c (fun m3 y4 =>
some (m3 c 3, m3)) gx_F (gx_u μ c 3 (μ c 3 - 1)) 0)
def lf_X7_worst_9 (kd : Nat → Nat) (c0 : Nat) (q1 : Int32) (k : gx_M → Int32 → Option (Int32 × gx_M)) : Nat → gx_M → Int32 → Option (Int32 × gx_M)
  | 0, _, _ => none
  | n + 1, μ, x2 => (if gx_ix 2 (kd (c0 + 1) - 100) = true then (if μ (c0 + 1) (Int32.toNatClampNeg 2) ≤ x2 then
k μ x2
else
gx_b (fn_X7_hasSounded kd μ c0 x2) (fun r3 m4 =>
(if r3 = 0 then
lf_X7_worst_9 kd c0 q1 k n m4 (x2 + 1)
else
gx_b (fn_X7_standAhead kd m4 c0 x2) (fun r6 m7 =>
(if r6 = q1 then
some (x2, m7)
else
lf_X7_worst_9 kd c0 q1 k n m7 (x2 + 1)))))) else none)
def fn_X7_worst (kd : Nat → Nat) (μ : gx_M) (c : Nat) (p1 : Int32) : Option (Int32 × gx_M) :=
  (if 0 ≤ p1 then
lf_X7_worst_9 kd c p1 (fun m9 y10 =>
some ((-100004), m9)) gx_F μ 0
else
some ((-100001), μ))
def fn_X7_wouldBe (kd : Nat → Nat) (μ : gx_M) (c : Nat) (p1 : Int32) : Option (Int32 × gx_M) :=
  gx_b (fn_X7_isNote kd μ c p1) (fun r1 m2 =>
(if r1 = 0 then
some ((-100001), m2)
else
gx_b (fn_X7_isToCome kd m2 c p1) (fun r4 m5 =>
(if r4 = 0 then
some ((-100002), m5)
else
(if gx_ix 1 (kd (c + 1) - 100) = true then (if m5 (c + 1) (Int32.toNatClampNeg 1) = 0 then
some ((-100004), m5)
else
gx_b (fn_X7_laysAside kd m5 c) (fun _ m9 =>
gx_b (fn_X7_has kd m9 c p1 0) (fun r10 m11 =>
gx_b (fn_X7_goesTo kd m11 c r10) (fun _ m13 =>
gx_b (fn_X7_has kd m13 c p1 4) (fun r14 m15 =>
gx_b (fn_X7_bringsBack kd m15 c) (fun _ m17 =>
some (r14, m17))))))) else none)))))
