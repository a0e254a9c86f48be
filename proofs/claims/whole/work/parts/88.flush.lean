/-! ===== what programming keeps ===== -/
theorem plc_next {χ χ' : Nat → Nat} {b : Nat} (hk : plc χ b < 16) (h6 : ∀ j, plc χ b ≤ j → j < 16 → χ (16 * b + j) = 0) (hs : χ' (16 * b + plc χ b) ≠ 0) (hlow : ∀ j, j < plc χ b → χ (16 * b + j) ≠ 0 → χ' (16 * b + j) ≠ 0) (hup : ∀ j, plc χ b < j → j < 16 → χ' (16 * b + j) = χ (16 * b + j)) : plc χ' b = plc χ b + 1 ∧ ∀ j, plc χ' b ≤ j → j < 16 → χ' (16 * b + j) = 0 := by
  have q9 : plc χ b + 1 = plc χ' b := plc_eq (by omega) (fun j hj => by
    by_cases q8 : j = plc χ b
    · rw [q8]; exact hs
    · exact hlow j (by omega) (plc_lt (by omega))) (fun q8 => by rw [hup _ (by omega) q8]; exact h6 _ (by omega) q8)
  exact ⟨q9.symm, fun j hj hj9 => by rw [hup j (by omega) hj9]; exact h6 j (by omega) hj9⟩
theorem ivB_cuw {n : Nat} {χ : Nat → Nat} {b : Nat} (hb : b < 6) (hk : plc χ b < 16) (h9 : ivB n χ b) : ivB n (cuw χ b (plc χ b)) b := by
  obtain ⟨k, hk9⟩ : ∃ k, plc χ b = k := ⟨_, rfl⟩
  have h6 := h9.2.2.2.2.2.1
  have h7 := h9.2.2.2.2.2.2
  obtain ⟨p1, p2⟩ := plc_next (χ' := cuw χ b (plc χ b)) hk h6 (by rw [show cuw χ b (plc χ b) (16 * b + plc χ b) = 2 from if_pos rfl]; decide) (fun j hj hn => by simp only [cuw]; (repeat' split) <;> first | omega | exact hn) (fun j hj hj9 => by
    simp only [cuw]
    rw [if_neg (by omega), if_neg (by omega)])
  refine ivB_set h9 (fun i hi hn => ?_) hb (fun j hj => ?_) p2 (fun q9 => h7 (by omega))
  · simp only [cuw]
    rw [if_neg (by omega), if_neg (by omega)]
  · simp only [cuw]
    (repeat' split) <;> first | exact Or.inr rfl | exact Or.inl rfl
theorem ivB_gs {n : Nat} {χ : Nat → Nat} {b : Nat} (hb : b < 6) (hk : plc χ b = 8) (h9 : ivB n χ b) : ivB n (up χ (100 + b) 2) b := by
  obtain ⟨h1, h2, h3, h4, h5, h6, h7⟩ := h9
  have e1 : ∀ i, i ≠ 100 + b → up χ (100 + b) 2 i = χ i := fun i hi => up_ne χ 2 hi
  have e4 : plc (up χ (100 + b) 2) b = plc χ b := (plc_eq (plc_le χ b) (fun j hj => by rw [e1 _ (by have q9 := plc_le χ b; omega)]; exact plc_lt hj) (fun q9 => by rw [e1 _ (by omega)]; exact plc_at q9)).symm
  refine ⟨fun j hj => by rw [e1 _ (by omega)]; exact h1 j hj, by rw [up_same]; exact Nat.le_refl 2, by rw [e1 _ (by omega)]; exact h3, fun k hk9 hs => rowN_congr (fun j hj => (e1 _ (by omega)).symm) (h4 k hk9 (by rw [e1 _ (by omega)] at hs; exact hs)), fun hg => absurd hg (by rw [up_same]; decide), fun j hj hj9 => by rw [e1 _ (by omega)]; exact h6 j (by omega) hj9, fun q9 => absurd q9 (by omega)⟩
theorem wgd_ne {χ : Nat → Nat} {b i : Nat} (h1 : i ≠ 100 + b) (h2 : ¬ (200 + 17 * b ≤ i ∧ i < 217 + 17 * b)) : wgd χ b i = χ i := by
  simp only [wgd]
  rw [if_neg h1, if_neg h2]
theorem ivB_wgd {n : Nat} {χ : Nat → Nat} {b : Nat} (hb : b < 6) (hk : plc χ b = 8) (h9 : ivB n χ b) : ivB n (wgd χ b) b ∧ plc (wgd χ b) b = 8 := by
  obtain ⟨h1, h2, h3, h4, h5, h6, h7⟩ := h9
  have e1 : ∀ j, j < 16 → wgd χ b (16 * b + j) = χ (16 * b + j) := fun j hj => wgd_ne (by omega) (by omega)
  have e2 : wgd χ b (100 + b) = 1 := if_pos rfl
  have e3 : ∀ k, k < 16 → ∀ j, j < 16 → raw χ b k j = raw (wgd χ b) b k j := fun k hk9 j hj => by unfold raw; exact (wgd_ne (by omega) (by omega)).symm
  have e4 : plc (wgd χ b) b = plc χ b := (plc_eq (plc_le χ b) (fun j hj => by rw [e1 j (by have q9 := plc_le χ b; omega)]; exact plc_lt hj) (fun q9 => by rw [e1 _ q9]; exact plc_at q9)).symm
  have e5 : ∀ i, i < 17 → wgd χ b (200 + 17 * b + i) = gr χ b 8 i := fun i hi => by
    simp only [wgd]
    rw [if_neg (by omega), if_pos (by omega), show 200 + 17 * b + i - (200 + 17 * b) = i by omega]
  have e6 : ∀ k, cov (wgd χ b) b k ↔ (k < 8 ∧ χ (16 * b + k) = 1) := fun k => by
    unfold cov
    rw [e5 16 (by decide), gr_16]
    exact gm_bit χ b k 8
  have e7 : ∀ i, i < 16 → ∀ m, m ≤ 8 → cx (wgd χ b) b i m = gx χ b i m := by
    intro i hi m
    induction m with
    | zero => intro _; rfl
    | succ m ih =>
      intro hm
      simp only [gx]
      by_cases hc : χ (16 * b + m) = 1
      · rw [cx_in ((e6 m).mpr ⟨by omega, hc⟩), if_pos hc, ih (by omega), wgd_ne (by omega) (by omega)]
      · rw [cx_out (fun q9 => hc ((e6 m).mp q9).2), if_neg hc, ih (by omega)]
  refine ⟨⟨fun j hj => by rw [e1 j hj]; exact h1 j hj, by rw [e2]; decide, by rw [wgd_ne (by omega) (by omega)]; exact h3, fun k hk9 hs => rowN_congr (e3 k hk9) (h4 k hk9 (by rw [← e1 k hk9]; exact hs)), fun _ => ⟨fun i hi => by rw [e5 i (by omega), gr_lt hi, e7 i hi 8 (Nat.le_refl 8)], fun k hk9 hc => rowN_congr (e3 k (by omega)) (h4 k (by omega) ((e6 k).mp hc).2)⟩, fun j hj hj9 => by rw [e1 j hj9]; exact h6 j (by omega) hj9, fun q9 => absurd q9 (by omega)⟩, e4.trans hk⟩
theorem wrt_ne {χ O : Nat → Nat} {b k i : Nat} (h1 : i ≠ 16 * b + k) (h2 : ¬ (1000 + 256 * b + 16 * k ≤ i ∧ i < 1000 + 256 * b + 16 * k + 16)) : wrt χ b k O i = χ i := by
  simp only [wrt]
  rw [if_neg h1, if_neg h2]
theorem ivB_wrt {n : Nat} {χ O : Nat → Nat} {b k : Nat} (hb : b < 6) (hk : plc χ b = k) (hk9 : k < 16) (hO : rowN n O) (h9 : ivB n χ b) : ivB n (wrt χ b k O) b := by
  obtain ⟨h1, h2, h3, h4, h5, h6, h7⟩ := h9
  have s1 : wrt χ b k O (16 * b + k) = 1 := if_pos rfl
  have s2 : ∀ j, j < 16 → j ≠ k → wrt χ b k O (16 * b + j) = χ (16 * b + j) := fun j hj hn => wrt_ne (by omega) (by omega)
  have e2 : wrt χ b k O (100 + b) = χ (100 + b) := wrt_ne (by omega) (by omega)
  have r1 : ∀ j, j < 16 → O j = raw (wrt χ b k O) b k j := fun j hj => by
    unfold raw
    simp only [wrt]
    rw [if_neg (by omega), if_pos (by omega)]
    exact congrArg O (by omega)
  have r2 : ∀ k', k' < 16 → k' ≠ k → ∀ j, j < 16 → raw χ b k' j = raw (wrt χ b k O) b k' j := fun k' hk' hn j hj => by
    unfold raw
    exact (wrt_ne (by omega) (by omega)).symm
  have e5 : ∀ i, i < 17 → wrt χ b k O (200 + 17 * b + i) = χ (200 + 17 * b + i) := fun i hi => wrt_ne (by omega) (by omega)
  have e6 : ∀ k', cov (wrt χ b k O) b k' ↔ cov χ b k' := fun k' => by unfold cov; rw [e5 16 (by decide)]
  obtain ⟨p1, p2⟩ := plc_next (χ' := wrt χ b k O) (by omega) h6 (by rw [hk, s1]; decide) (fun j hj hn => by rw [s2 j (by omega) (by omega)]; exact hn) (fun j hj hj9 => s2 j hj9 (by omega))
  have e7 : 8 ≤ k → ∀ i, i < 16 → ∀ m, m ≤ 8 → cx (wrt χ b k O) b i m = cx χ b i m := by
    intro hk8 i hi m
    induction m with
    | zero => intro _; rfl
    | succ m ih =>
      intro hm
      have e8 : wrt χ b k O (1000 + 256 * b + (16 * m + i)) = χ (1000 + 256 * b + (16 * m + i)) := wrt_ne (by omega) (by omega)
      by_cases hc : cov χ b m
      · rw [cx_in hc, cx_in ((e6 m).mpr hc), ih (by omega), e8]
      · rw [cx_out hc, cx_out (fun q9 => hc ((e6 m).mp q9)), ih (by omega)]
  refine ⟨fun j hj => ?_, by rw [e2]; exact h2, by rw [wrt_ne (by omega) (by omega)]; exact h3, fun k' hk' hs => ?_, fun hg => ?_, p2, fun q9 => by rw [e2]; exact h7 (by omega)⟩
  · by_cases q9 : j = k
    · rw [q9, s1]; decide
    · rw [s2 j hj q9]; exact h1 j hj
  · by_cases q9 : k' = k
    · rw [q9]; exact rowN_congr r1 hO
    · exact rowN_congr (r2 k' hk' q9) (h4 k' hk' (by rw [← s2 k' hk' q9]; exact hs))
  · rw [e2] at hg
    have hk8 : 8 ≤ k := Nat.le_of_not_lt (fun q9 => by have q8 := h7 (by omega); omega)
    obtain ⟨q1, q2⟩ := h5 hg
    exact ⟨fun i hi => by rw [e5 i (by omega), q1 i hi, e7 hk8 i hi 8 (Nat.le_refl 8)], fun k' hk' hc => rowN_congr (r2 k' (by omega) (by omega)) (q2 k' hk' ((e6 k').mp hc))⟩
