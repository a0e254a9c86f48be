/-! ===== what the calls answer and leave, as numbers ===== -/
/-- sync's state -/
noncomputable def syS (O χ : Nat → Nat) (cu ct on : Nat) : (Nat → Nat) × (Nat → Nat) × Nat × Nat × Nat :=
  cif (O 0 = 0) (O, χ, cu, ct, on) (fO χ (nxb χ cu) ct O, fX χ (nxb χ cu) ct O, nxb χ cu, fCt χ (nxb χ cu) ct, fOn χ (nxb χ cu) ct on)
def fit (O : Nat → Nat) (k : Nat) : Prop := pl O (O 0) + 1 + k ≤ 16
/-- append's state -/
noncomputable def apS (O χ : Nat → Nat) (cu ne ct on k : Nat) (w : Int64) : (Nat → Nat) × (Nat → Nat) × Nat × Nat × Nat × Nat :=
  cif (fit O k) (adO O ne k w, χ, cu, ne + 1, ct, on) (cif (fOk χ (nxb χ cu) ct) (adO (fun _ => 0) ne k w, fX χ (nxb χ cu) ct O, nxb χ cu, ne + 1, fCt χ (nxb χ cu) ct, on) (O, fX χ (nxb χ cu) ct O, nxb χ cu, ne, fCt χ (nxb χ cu) ct, 0))
theorem fO_ok {χ O : Nat → Nat} {b ct : Nat} (h : fOk χ b ct) : fO χ b ct O = fun _ => 0 := by
  obtain ⟨h1, h2⟩ := h
  unfold fO
  by_cases h8 : plc χ b = 8
  · rw [cif_t h8, cif_f (by have := h2 h8; omega)]
  · rw [cif_f h8, cif_f h1]
theorem fO_no {χ O : Nat → Nat} {b ct : Nat} (h : ¬ fOk χ b ct) : fO χ b ct O = O := by
  unfold fOk at h
  unfold fO
  by_cases h8 : plc χ b = 8
  · rw [cif_t h8, cif_t (by omega)]
  · rw [cif_f h8, cif_t (by omega)]
theorem fOn_ok {χ : Nat → Nat} {b ct on : Nat} (h : fOk χ b ct) : fOn χ b ct on = on := by
  obtain ⟨h1, h2⟩ := h
  unfold fOn
  by_cases h8 : plc χ b = 8
  · rw [cif_t h8, cif_f (by have := h2 h8; omega)]
  · rw [cif_f h8, cif_f h1]
theorem fOn_no {χ : Nat → Nat} {b ct on : Nat} (h : ¬ fOk χ b ct) : fOn χ b ct on = 0 := by
  unfold fOk at h
  unfold fOn
  by_cases h8 : plc χ b = 8
  · rw [cif_t h8, cif_t (by omega)]
  · rw [cif_f h8, cif_t (by omega)]
/-- an event's length and bytes in a row -/
def lnF (F : Nat → Nat) (i : Nat) : Nat := F (pl F (i - (256 * F 1 + F 2)))
def evR (F : Nat → Nat) (i : Nat) : Int64 := evF (fun j => F (pl F (i - (256 * F 1 + F 2)) + j)) (lnF F i) 0
/-- the row that has event i -/
noncomputable def row (O χ : Nat → Nat) (i : Nat) : Nat → Nat := cif (hits O i) O (byt χ (hpg χ i 96 / 16) (hpg χ i 96 % 16))
def lost (O χ : Nat → Nat) (i : Nat) : Prop := ¬ hits O i ∧ hpg χ i 96 = 96
/-- told's answer -/
noncomputable def tol (χ : Nat → Nat) (cu ct on : Nat) (x : Int32) : Int32 :=
  cif (10 ≤ x.toInt ∧ x.toInt < 16) (nI (χ (110 + (x.toInt - 10).toNat))) (cif (x.toInt = 0) (nI cu) (cif (x.toInt = 1) (nI on) (cif (x.toInt = 2) (nI (ern χ 6)) (cif (x.toInt = 3) (nI ct) (mI 0)))))
theorem gx_lt {χ : Nat → Nat} (h : ∀ i, χ i < 65536) (b i : Nat) : ∀ n, gx χ b i n < 65536 := by
  intro n
  induction n with
  | zero => exact (by decide : (0 : Nat) < 65536)
  | succ n ih =>
    simp only [gx]
    split
    · exact Nat.xor_lt_two_pow (n := 16) ih (h _)
    · exact ih
theorem wgd_lt {χ : Nat → Nat} (h : ∀ i, χ i < 65536) (b : Nat) : ∀ i, wgd χ b i < 65536 := by
  intro i
  simp only [wgd, gr]
  have h1 := gm_lt χ b 8 (Nat.le_refl 8)
  have h2 := h i
  (repeat' split) <;> first | exact gx_lt h b _ 8 | omega
