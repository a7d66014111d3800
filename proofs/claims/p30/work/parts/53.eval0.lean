/-! ===== texts and known, reckoned by the kernel ===== -/
abbrev kd_all : List Nat := kd_mod ++ (kd_bow ++ [10])
def gl_kd : Nat → Nat := fun j => kd_all.getD j 0
def gl_init : gx_M := fun c => if c < 6 then gz_mod c else gz_bow (c - 6)
def ev_1 {α : Type} (x : Option (Int32 × α)) : Bool := match x with
  | some (r, _) => decide (r = 1)
  | none => false
theorem ev_1_of {α : Type} {x : Option (Int32 × α)} (h : ev_1 x = true) : ∃ m, x = some (1, m) := by
  cases x with
  | none => cases h
  | some q =>
    obtain ⟨r, m⟩ := q
    have h1 : r = 1 := of_decide_eq_true h
    exact ⟨m, by rw [h1]⟩
