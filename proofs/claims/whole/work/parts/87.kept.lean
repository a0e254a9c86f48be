/-! ===== the chip's order is kept ===== -/
theorem ers_lt {χ : Nat → Nat} {b : Nat} (hl : ∀ i, χ i < 256 ∨ ∃ b, b < 6 ∧ i = 110 + b) : ∀ i, inb b i → i ≠ 110 + b → b < 6 → ers χ b i < 256 := by
  intro i hi hn hb
  simp only [ers]
  split
  · exact (by decide : (0 : Nat) < 256)
  · split
    · exact (by decide : (0 : Nat) < 256)
    · try rw [if_neg hn]
      rcases hl i with q9 | ⟨b', hb', q9⟩
      · exact q9
      · unfold inb at hi; omega
theorem ivC_seq {K : Nat} {g : Nat → Nat → Nat} (h0 : ivC K (g 0)) (hs : ∀ n, n < 6 → g (n + 1) = ers (g n) n ∨ g (n + 1) = g n) : ∀ n, n ≤ 6 → (∀ i, g n i < 256 ∨ ∃ b, b < 6 ∧ i = 110 + b) ∧ (∀ b, b < 6 → ivB (K + 1) (g n) b) ∧ ∀ b, n ≤ b → b < 6 → ivB K (g n) b := by
  intro n
  induction n with
  | zero => intro _; exact ⟨h0.1, fun b hb => ivB_mono (Nat.le_succ K) (h0.2 b hb), fun b _ hb => h0.2 b hb⟩
  | succ n ih =>
    intro hn
    obtain ⟨i1, i2, i3⟩ := ih (by omega)
    rcases hs n (by omega) with q9 | q9
    · rw [q9]
      refine ⟨fun i => ?_, fun b hb => ?_, fun b hbn hb => ?_⟩
      · by_cases q8 : inb n i
        · by_cases q7 : i = 110 + n
          · exact Or.inr ⟨n, by omega, q7⟩
          · exact Or.inl (ers_lt i1 i q8 q7 (by omega))
        · rw [ers_out i q8]; exact i1 i
      · by_cases q8 : b = n
        · subst q8; exact ivB_ers (i3 b (Nat.le_refl b) hb)
        · exact ivB_congr (fun i hi => (ers_out i (inb_apart (by omega) hb q8 hi)).symm) (i2 b hb)
      · exact ivB_congr (fun i hi => (ers_out i (inb_apart (by omega) hb (by omega) hi)).symm) (i3 b (by omega) hb)
    · rw [q9]
      exact ⟨i1, i2, fun b hbn hb => i3 b (by omega) hb⟩
theorem ivC_eu {K : Nat} {χ : Nat → Nat} (h0 : ivC K χ) : ivC (K + 1) (eu χ 6) := by
  have q9 := ivC_seq (g := eu χ) h0 (fun n _ => by
    by_cases q8 : eu χ n (16 * n) ≠ 0 ∧ grt (eu χ n) n 16 = 0
    · exact Or.inl (eu_in q8)
    · exact Or.inr (eu_out q8)) 6 (Nat.le_refl 6)
  exact ⟨q9.1, q9.2.1⟩
theorem ivC_tr {K : Nat} {χ : Nat → Nat} {cu m : Nat} (h0 : ivC K χ) : ivC (K + 1) (tr χ cu m 6) := by
  have q9 := ivC_seq (g := tr χ cu m) h0 (fun n _ => by
    by_cases q8 : n ≠ cu ∧ tr χ cu m n (16 * n) ≠ 0 ∧ grt (tr χ cu m n) n 16 ≤ m
    · exact Or.inl (tr_in q8).1
    · exact Or.inr (tr_out q8).1) 6 (Nat.le_refl 6)
  exact ⟨q9.1, q9.2.1⟩
/-- only states changed: some are 2 now -/
theorem ivB_set {n : Nat} {χ χ' : Nat → Nat} {b : Nat} (h9 : ivB n χ b) (ho : ∀ i, inb b i → ¬ (16 * b ≤ i ∧ i < 16 * b + 16) → χ' i = χ i) (hb : b < 6) (hs : ∀ j, j < 16 → χ' (16 * b + j) = χ (16 * b + j) ∨ χ' (16 * b + j) = 2)
    (h6' : ∀ j, plc χ' b ≤ j → j < 16 → χ' (16 * b + j) = 0) (h7' : plc χ' b < 8 → χ (100 + b) = 0) : ivB n χ' b := by
  obtain ⟨h1, h2, h3, h4, h5, -, -⟩ := h9
  have e2 : χ' (100 + b) = χ (100 + b) := ho _ (by unfold inb; omega) (by omega)
  have e3 : ∀ k, k < 16 → ∀ j, j < 16 → raw χ b k j = raw χ' b k j := fun k hk j hj => (ho _ (by unfold inb; omega) (by omega)).symm
  have e5 : ∀ i, i < 17 → χ' (200 + 17 * b + i) = χ (200 + 17 * b + i) := fun i hi => ho _ (by unfold inb; omega) (by omega)
  have e6 : ∀ k, cov χ' b k ↔ cov χ b k := fun k => by unfold cov; rw [e5 16 (by decide)]
  have e7 : ∀ i, i < 16 → ∀ m, m ≤ 8 → cx χ' b i m = cx χ b i m := by
    intro i hi m
    induction m with
    | zero => intro _; rfl
    | succ m ih =>
      intro hm
      have e8 : χ' (1000 + 256 * b + (16 * m + i)) = χ (1000 + 256 * b + (16 * m + i)) := ho _ (by unfold inb; omega) (by omega)
      by_cases hc : cov χ b m
      · rw [cx_in hc, cx_in ((e6 m).mpr hc), ih (by omega), e8]
      · rw [cx_out hc, cx_out (fun q9 => hc ((e6 m).mp q9)), ih (by omega)]
  refine ⟨fun j hj => (hs j hj).elim (fun q9 => by rw [q9]; exact h1 j hj) (fun q9 => by rw [q9]; exact Nat.le_refl 2), by rw [e2]; exact h2, by rw [ho (110 + b) (by unfold inb; omega) (by omega)]; exact h3, fun k hk hk1 => rowN_congr (e3 k hk) (h4 k hk ((hs k hk).elim (fun q9 => by rw [← q9]; exact hk1) (fun q9 => absurd q9 (by omega)))), fun hg => ?_, h6', fun hp => by rw [e2]; exact h7' hp⟩
  obtain ⟨q1, q2⟩ := h5 (by rw [← e2]; exact hg)
  exact ⟨fun i hi => by rw [e5 i (by omega), q1 i hi, e7 i hi 8 (Nat.le_refl 8)], fun k hk hc => rowN_congr (e3 k (by omega)) (q2 k hk ((e6 k).mp hc))⟩
