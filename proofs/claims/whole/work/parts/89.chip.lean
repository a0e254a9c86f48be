/-! ===== the chip's order is kept by a flush, by a ruin ===== -/
theorem ivC_in {n : Nat} {χ : Nat → Nat} {b : Nat} (hb : b < 6) (h9 : ivC n χ) : ∀ i, inb b i → i ≠ 110 + b → χ i < 256 := fun i hi hn => by
  rcases h9.1 i with q9 | ⟨b', hb', q9⟩
  · exact q9
  · unfold inb at hi; omega
theorem ivC_cuw {n : Nat} {χ : Nat → Nat} {b : Nat} (hb : b < 6) (hk : plc χ b < 16) (h9 : ivC n χ) : ivC n (cuw χ b (plc χ b)) := by
  refine ivC_one hb (Nat.le_refl n) h9 (fun i hi => ?_) (fun i hi hn => ?_) (ivB_cuw hb hk (h9.2 b hb))
  · unfold inb at hi
    simp only [cuw]
    rw [if_neg (by omega), if_neg (by omega)]
  · have q9 := ivC_in hb h9 i hi hn
    simp only [cuw]
    (repeat' split) <;> omega
theorem ivC_wrt {n : Nat} {χ O : Nat → Nat} {b k : Nat} (hb : b < 6) (hk : plc χ b = k) (hk9 : k < 16) (hO : rowN n O) (hOb : ∀ j, O j < 256) (h9 : ivC n χ) : ivC n (wrt χ b k O) := by
  refine ivC_one hb (Nat.le_refl n) h9 (fun i hi => ?_) (fun i hi hn => ?_) (ivB_wrt hb hk hk9 hO (h9.2 b hb))
  · unfold inb at hi
    exact wrt_ne (by omega) (by omega)
  · have q9 := ivC_in hb h9 i hi hn
    simp only [wrt]
    split
    · decide
    · split
      · exact hOb _
      · exact q9
theorem ivC_gs {n : Nat} {χ : Nat → Nat} {b : Nat} (hb : b < 6) (hk : plc χ b = 8) (h9 : ivC n χ) : ivC n (up χ (100 + b) 2) := by
  refine ivC_one hb (Nat.le_refl n) h9 (fun i hi => up_out (by unfold inb; omega) i hi) (fun i hi hn => ?_) (ivB_gs hb hk (h9.2 b hb))
  have q9 := ivC_in hb h9 i hi hn
  simp only [up]
  split
  · decide
  · exact q9
theorem gx_lt8 {χ : Nat → Nat} {b i : Nat} (he : ∀ m, m < 8 → χ (1000 + 256 * b + (16 * m + i)) < 256) : ∀ n, n ≤ 8 → gx χ b i n < 256 := by
  intro n
  induction n with
  | zero => intro _; exact (by decide : (0 : Nat) < 256)
  | succ n ih =>
    intro hn
    simp only [gx]
    split
    · exact Nat.xor_lt_two_pow (n := 8) (ih (by omega)) (he n (by omega))
    · exact ih (by omega)
theorem ivC_wgd {n : Nat} {χ : Nat → Nat} {b : Nat} (hb : b < 6) (hk : plc χ b = 8) (h9 : ivC n χ) : ivC n (wgd χ b) := by
  refine ivC_one hb (Nat.le_refl n) h9 (fun i hi => ?_) (fun i hi hn => ?_) (ivB_wgd hb hk (h9.2 b hb)).1
  · unfold inb at hi
    exact wgd_ne (by omega) (by omega)
  · have q9 := ivC_in hb h9 i hi hn
    simp only [wgd]
    split
    · decide
    · split
      · simp only [gr]
        split
        · exact gx_lt8 (fun m hm => ivC_in hb h9 _ (by unfold inb; omega) (by omega)) 8 (Nat.le_refl 8)
        · split
          · exact gm_lt χ b 8 (Nat.le_refl 8)
          · decide
      · exact q9
theorem ivC_fX {n : Nat} {χ O : Nat → Nat} {b ct : Nat} (hb : b < 6) (hk : plc χ b < 16) (hO : rowN n O) (hOb : ∀ j, O j < 256) (h9 : ivC n χ) : ivC n (fX χ b ct O) := by
  unfold fX
  by_cases h8 : plc χ b = 8
  · rw [cif_t h8]
    have q1 := ivC_wgd hb h8 h9
    have q2 := (ivB_wgd hb h8 (h9.2 b hb)).2
    by_cases c1 : ct = 1
    · rw [cif_t c1]; exact ivC_gs hb h8 h9
    · rw [cif_f c1]
      by_cases c2 : ct = 2
      · rw [cif_t c2]
        have q3 := ivC_cuw (χ := wgd χ b) hb (by omega) q1
        rw [q2] at q3
        exact q3
      · rw [cif_f c2]; exact ivC_wrt hb q2 (by decide) hO hOb q1
  · rw [cif_f h8]
    by_cases c1 : ct = 1
    · rw [cif_t c1]; exact ivC_cuw hb hk h9
    · rw [cif_f c1]; exact ivC_wrt hb rfl hk hO hOb h9
theorem ivC_ruin {n : Nat} {χ : Nat → Nat} {b k : Nat} (hb : b < 6) (hk : k < 16) (hs : χ (16 * b + k) = 1) (h9 : ivC n χ) : ivC n (up χ (16 * b + k) 2) := by
  have hi : inb b (16 * b + k) := by unfold inb; omega
  have h6 := (h9.2 b hb).2.2.2.2.2.1
  have h7 := (h9.2 b hb).2.2.2.2.2.2
  have hlt : k < plc χ b := Nat.lt_of_not_le (fun q9 => by have q8 := h6 k q9 hk; omega)
  have e4 : plc (up χ (16 * b + k) 2) b = plc χ b := (plc_eq (plc_le χ b) (fun j hj => by
    by_cases q9 : j = k
    · rw [q9, up_same]; decide
    · rw [up_ne χ 2 (by omega)]; exact plc_lt hj) (fun q9 => by rw [up_ne χ 2 (by omega)]; exact plc_at q9)).symm
  refine ivC_one hb (Nat.le_refl n) h9 (fun i hi9 => up_out hi i hi9) (fun i hi9 hn => ?_) (ivB_set (h9.2 b hb) (fun i _ hn => up_ne χ 2 (by omega)) hb (fun j hj => ?_) (fun j hj hj9 => ?_) (fun q9 => h7 (by omega)))
  · have q9 := ivC_in hb h9 i hi9 hn
    simp only [up]
    split
    · decide
    · exact q9
  · by_cases q9 : j = k
    · rw [q9, up_same]; exact Or.inr rfl
    · exact Or.inl (up_ne χ 2 (by omega))
  · rw [up_ne χ 2 (by omega)]; exact h6 j (by omega) hj9
