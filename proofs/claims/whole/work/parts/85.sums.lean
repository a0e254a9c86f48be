/-! ===== a guard page's sum: what is rebuilt is what was written ===== -/
/-- the sum of the covered lines below n, byte i -/
noncomputable def cx (χ : Nat → Nat) (b i : Nat) : Nat → Nat
  | 0 => 0
  | n + 1 => cif (cov χ b n) (cx χ b i n ^^^ χ (1000 + 256 * b + (16 * n + i))) (cx χ b i n)
theorem cx_in {χ : Nat → Nat} {b i n : Nat} (h9 : cov χ b n) : cx χ b i (n + 1) = cx χ b i n ^^^ χ (1000 + 256 * b + (16 * n + i)) := cif_t h9
theorem cx_out {χ : Nat → Nat} {b i n : Nat} (h9 : ¬ cov χ b n) : cx χ b i (n + 1) = cx χ b i n := cif_f h9
theorem xfo_cx {χ : Nat → Nat} {b k i : Nat} (hc : cov χ b k) : ∀ n, (n ≤ k → xfo χ b k i n = χ (200 + 17 * b + i) ^^^ cx χ b i n) ∧ (k < n → xfo χ b k i n = χ (200 + 17 * b + i) ^^^ (cx χ b i n ^^^ χ (1000 + 256 * b + (16 * k + i)))) := by
  intro n
  induction n with
  | zero => exact ⟨fun _ => (Nat.xor_zero _).symm, fun q9 => absurd q9 (Nat.not_lt_zero k)⟩
  | succ n ih =>
    obtain ⟨i1, i2⟩ := ih
    refine ⟨fun q9 => ?_, fun q9 => ?_⟩
    · by_cases q8 : cov χ b n
      · rw [xfo_in ⟨by omega, q8⟩, cx_in q8, i1 (by omega), Nat.xor_assoc]
      · rw [xfo_out (fun q7 => q8 q7.2), cx_out q8, i1 (by omega)]
    · by_cases q7 : n = k
      · subst q7
        rw [xfo_out (fun q6 => q6.1 rfl), cx_in hc, i1 (Nat.le_refl _), Nat.xor_assoc (cx χ b i n), Nat.xor_self, Nat.xor_zero]
      · by_cases q8 : cov χ b n
        · rw [xfo_in ⟨q7, q8⟩, cx_in q8, i2 (by omega), Nat.xor_assoc, Nat.xor_assoc (cx χ b i n), Nat.xor_assoc (cx χ b i n), Nat.xor_comm (χ (1000 + 256 * b + (16 * k + i)))]
        · rw [xfo_out (fun q6 => q8 q6.2), cx_out q8, i2 (by omega)]
/-- what is rebuilt is the page's own byte, where the guard page keeps the sum -/
theorem byt_raw {χ : Nat → Nat} {b k i : Nat} (hg : χ (100 + b) = 1 → χ (200 + 17 * b + i) = cx χ b i 8) (hr : rdb χ b k) : byt χ b k i = χ (1000 + 256 * b + (16 * k + i)) := by
  unfold byt
  by_cases q9 : χ (16 * b + k) = 1
  · rw [if_pos q9]
  · rw [if_neg q9]
    obtain ⟨-, ⟨h1, h2, h3⟩, -⟩ := hr.resolve_left q9
    rw [(xfo_cx h3 8).2 h2, hg h1, ← Nat.xor_assoc, Nat.xor_self, Nat.zero_xor]
/-- the bits of the guard page's last byte -/
theorem gm_tb (χ : Nat → Nat) (b k : Nat) : ∀ n, (gm χ b n).testBit k = true ↔ (k < n ∧ χ (16 * b + k) = 1) := by
  intro n
  induction n with
  | zero =>
    constructor
    · intro q9; simp [gm] at q9
    · intro q9; exact absurd q9.1 (Nat.not_lt_zero k)
  | succ n ih =>
    by_cases q9 : χ (16 * b + n) = 1
    · have e2 : gm χ b (n + 1) = gm χ b n ||| 2 ^ n := if_pos q9
      constructor
      · intro q8
        rw [e2, Nat.testBit_or, Nat.testBit_two_pow, Bool.or_eq_true, decide_eq_true_iff] at q8
        rcases q8 with q8 | q8
        · exact ⟨by have q7 := (ih.mp q8).1; omega, (ih.mp q8).2⟩
        · subst q8; exact ⟨by omega, q9⟩
      · rintro ⟨q8, q7⟩
        rw [e2, Nat.testBit_or, Nat.testBit_two_pow, Bool.or_eq_true, decide_eq_true_iff]
        by_cases q6 : n = k
        · exact Or.inr q6
        · exact Or.inl (ih.mpr ⟨by omega, q7⟩)
    · have e2 : gm χ b (n + 1) = gm χ b n := if_neg q9
      rw [e2]
      constructor
      · intro q8; exact ⟨by have q7 := (ih.mp q8).1; omega, (ih.mp q8).2⟩
      · rintro ⟨q8, q7⟩
        by_cases q6 : n = k
        · subst q6; exact absurd q7 q9
        · exact ih.mpr ⟨by omega, q7⟩
theorem gm_bit (χ : Nat → Nat) (b k n : Nat) : gm χ b n / 2 ^ k % 2 = 1 ↔ (k < n ∧ χ (16 * b + k) = 1) := by
  have e1 : gm χ b n / 2 ^ k % 2 = 1 ↔ (gm χ b n).testBit k = true := by rw [Nat.testBit_eq_decide_div_mod_eq]; exact (decide_eq_true_iff).symm
  exact e1.trans (gm_tb χ b k n)
