/-! ===== what every call keeps ===== -/
def raw (χ : Nat → Nat) (b k : Nat) : Nat → Nat := fun i => χ (1000 + 256 * b + (16 * k + i))
/-- a row of events, its numbers below n -/
def rowN (n : Nat) (F : Nat → Nat) : Prop := wf F ∧ 256 * F 1 + F 2 + F 0 ≤ n
theorem rowN_congr {n : Nat} {F G : Nat → Nat} (he : ∀ j, j < 16 → F j = G j) (hr : rowN n F) : rowN n G := ⟨wf_congr he hr.1, by rw [← he 0 (by decide), ← he 1 (by decide), ← he 2 (by decide)]; exact hr.2⟩
/-- a block in order -/
def ivB (n : Nat) (χ : Nat → Nat) (b : Nat) : Prop :=
  (∀ j, j < 16 → χ (16 * b + j) ≤ 2) ∧ χ (100 + b) ≤ 2 ∧ χ (110 + b) ≤ n ∧ (∀ k, k < 16 → χ (16 * b + k) = 1 → rowN n (raw χ b k)) ∧
  (χ (100 + b) = 1 → (∀ i, i < 16 → χ (200 + 17 * b + i) = cx χ b i 8) ∧ ∀ k, k < 8 → cov χ b k → rowN n (raw χ b k)) ∧
  (∀ j, plc χ b ≤ j → j < 16 → χ (16 * b + j) = 0) ∧ (plc χ b < 8 → χ (100 + b) = 0)
theorem ivB_row {n : Nat} {χ : Nat → Nat} {b k : Nat} (h9 : ivB n χ b) (hk : k < 16) (hr : rdb χ b k) : rowN n (byt χ b k) := by
  obtain ⟨-, -, -, h4, h5, -, -⟩ := h9
  have e9 : ∀ j, j < 16 → raw χ b k j = byt χ b k j := fun j hj => (byt_raw (fun q9 => (h5 q9).1 j hj) hr).symm
  refine rowN_congr e9 ?_
  rcases hr with hr | hr
  · exact h4 k hk hr
  · exact (h5 hr.2.1.1).2 k hr.2.1.2.1 hr.2.1.2.2
theorem cx_congr {χ χ' : Nat → Nat} {b i : Nat} (he : ∀ i, inb b i → χ i = χ' i) (hi : i < 16) : ∀ n, n ≤ 8 → cx χ b i n = cx χ' b i n := by
  intro n
  induction n with
  | zero => intro _; rfl
  | succ n ih =>
    intro hn
    by_cases hc : cov χ b n
    · rw [cx_in hc, cx_in ((cov_congr he).mp hc), ih (by omega), he (1000 + 256 * b + (16 * n + i)) (by unfold inb; omega)]
    · rw [cx_out hc, cx_out (fun q9 => hc ((cov_congr he).mpr q9)), ih (by omega)]
theorem ivB_congr {n : Nat} {χ χ' : Nat → Nat} {b : Nat} (he : ∀ i, inb b i → χ i = χ' i) (h9 : ivB n χ b) : ivB n χ' b := by
  obtain ⟨h1, h2, h3, h4, h5, h6, h7⟩ := h9
  have e1 : ∀ j, j < 16 → χ (16 * b + j) = χ' (16 * b + j) := fun j hj => he _ (by unfold inb; omega)
  have e2 : χ (100 + b) = χ' (100 + b) := he _ (by unfold inb; omega)
  have e3 : ∀ k, k < 16 → ∀ j, j < 16 → raw χ b k j = raw χ' b k j := fun k hk j hj => he _ (by unfold inb; omega)
  have e4 : plc χ b = plc χ' b := plc_congr he 16 (Nat.le_refl 16)
  refine ⟨fun j hj => by rw [← e1 j hj]; exact h1 j hj, by rw [← e2]; exact h2, by rw [← he (110 + b) (by unfold inb; omega)]; exact h3, fun k hk hs => rowN_congr (e3 k hk) (h4 k hk (by rw [e1 k hk]; exact hs)), fun hg => ?_, fun j hj hj9 => by rw [← e1 j hj9]; exact h6 j (by rw [e4]; exact hj) hj9, fun hp => by rw [← e2]; exact h7 (by rw [e4]; exact hp)⟩
  obtain ⟨q1, q2⟩ := h5 (by rw [e2]; exact hg)
  exact ⟨fun i hi => by rw [← he (200 + 17 * b + i) (by unfold inb; omega), q1 i hi, cx_congr he hi 8 (Nat.le_refl 8)], fun k hk hc => rowN_congr (e3 k (by omega)) (q2 k hk ((cov_congr he).mpr hc))⟩
theorem rowN_mono {n n' : Nat} {F : Nat → Nat} (hn : n ≤ n') (hr : rowN n F) : rowN n' F := ⟨hr.1, Nat.le_trans hr.2 hn⟩
theorem ivB_mono {n n' : Nat} {χ : Nat → Nat} {b : Nat} (hn : n ≤ n') (h9 : ivB n χ b) : ivB n' χ b := by
  obtain ⟨h1, h2, h3, h4, h5, h6, h7⟩ := h9
  exact ⟨h1, h2, Nat.le_trans h3 hn, fun k hk hs => rowN_mono hn (h4 k hk hs), fun hg => ⟨(h5 hg).1, fun k hk hc => rowN_mono hn ((h5 hg).2 k hk hc)⟩, h6, h7⟩
theorem ivB_ers {n : Nat} {χ : Nat → Nat} {b : Nat} (h9 : ivB n χ b) : ivB (n + 1) (ers χ b) b := by
  obtain ⟨h1, h2, h3, -, -, -, -⟩ := h9
  have e1 : ∀ j, j < 16 → ers χ b (16 * b + j) = 0 := fun j hj => if_pos ⟨by omega, by omega⟩
  have e3 : ers χ b (110 + b) ≤ χ (110 + b) + 1 := by simp only [ers]; (repeat' split) <;> omega
  have e4 : ers χ b (100 + b) = 0 := by
    by_cases q9 : 16 * b ≤ 100 + b ∧ 100 + b < 16 * b + 16
    · exact if_pos q9
    · exact (if_neg q9).trans (if_pos rfl)
  exact ⟨fun j hj => by rw [e1 j hj]; exact Nat.zero_le _, by rw [e4]; exact Nat.zero_le _, by omega, fun k hk hs => absurd (e1 k hk) (by omega), fun hg => absurd e4 (by omega), fun j _ hj => e1 j hj, fun _ => e4⟩
/-- the chip in order, and what the log holds -/
def ivC (n : Nat) (χ : Nat → Nat) : Prop := (∀ i, χ i < 256 ∨ ∃ b, b < 6 ∧ i = 110 + b) ∧ ∀ b, b < 6 → ivB n χ b
theorem ivC_lt {n : Nat} {χ : Nat → Nat} (h9 : ivC n χ) (hn : n ≤ 60000) : ∀ i, χ i < 65000 := fun i => by
  rcases h9.1 i with q9 | ⟨b, hb, rfl⟩
  · omega
  · have q9 := (h9.2 b hb).2.2.1; omega
theorem ivC_wfs {n : Nat} {χ : Nat → Nat} (h9 : ivC n χ) : wfs χ := fun b k hb hk hr => (ivB_row (h9.2 b hb) hk hr).1
theorem ivC_pfx {n : Nat} {χ : Nat → Nat} (h9 : ivC n χ) : pfx χ := fun b hb => ⟨(h9.2 b hb).2.2.2.2.2.1, (h9.2 b hb).2.2.2.2.2.2⟩
/-- one block changed -/
theorem ivC_one {n n' : Nat} {χ χ' : Nat → Nat} {b : Nat} (hb : b < 6) (hn : n ≤ n') (h9 : ivC n χ) (ho : ∀ i, ¬ inb b i → χ' i = χ i) (hl : ∀ i, inb b i → i ≠ 110 + b → χ' i < 256) (hB : ivB n' χ' b) : ivC n' χ' := by
  refine ⟨fun i => ?_, fun b' hb' => ?_⟩
  · by_cases q9 : inb b i
    · by_cases q8 : i = 110 + b
      · exact Or.inr ⟨b, hb, q8⟩
      · exact Or.inl (hl i q9 q8)
    · rw [ho i q9]; exact h9.1 i
  · by_cases q9 : b' = b
    · subst q9; exact hB
    · exact ivB_congr (fun i hi => (ho i (inb_apart hb hb' q9 hi)).symm) (ivB_mono hn (h9.2 b' hb'))
