/-! ===== flush, append, sync keep the state's order ===== -/
theorem fCt_le (χ : Nat → Nat) (b ct : Nat) : fCt χ b ct ≤ ct := by
  unfold fCt
  by_cases q9 : plc χ b = 8
  · rw [cif_t q9]; omega
  · rw [cif_f q9]; omega
theorem iv_flush {n : Nat} {χ O : Nat → Nat} {cu fi ne ct on : Nat} (h9 : iv n χ O cu fi ne ct on) (hO : O 0 ≠ 0) (hnf : ¬ ful χ cu) : iv n (fX χ (nxb χ cu) ct O) (fO χ (nxb χ cu) ct O) (nxb χ cu) fi ne (fCt χ (nxb χ cu) ct) (fOn χ (nxb χ cu) ct on) := by
  obtain ⟨h1, h2, h3, h4, h5, h6, h7, h8, h10⟩ := h9
  obtain ⟨q1, q2⟩ := nxb_ok h5 hnf
  have q3 : ivC n (fX χ (nxb χ cu) ct O) := ivC_fX q1 q2 ⟨h3, by rw [h4.2 hO]; exact h7⟩ h2 h1
  have q4 := fCt_le χ (nxb χ cu) ct
  by_cases q5 : fOk χ (nxb χ cu) ct
  · rw [fO_ok q5, fOn_ok q5]
    exact ⟨q3, fun _ => z256, wf0, hdo_zero, q1, h6, h7, Nat.le_trans q4 h8, h10⟩
  · rw [fO_no q5, fOn_no q5]
    exact ⟨q3, h2, h3, h4, q1, h6, h7, Nat.le_trans q4 h8, Nat.zero_le 1⟩
theorem iv_add {n k : Nat} {χ O : Nat → Nat} {cu fi ne ct on : Nat} {w : Int64} (h9 : iv n χ O cu fi ne ct on) (hn : ne < 65536) (hf : fit O k) (h1k : 1 ≤ k) (h6k : k ≤ 6) : iv (n + 1) χ (adO O ne k w) cu fi (ne + 1) ct on := by
  obtain ⟨h1, h2, h3, h4, h5, h6, h7, h8, h10⟩ := iv_mono (Nat.le_succ n) h9
  exact ⟨h1, adO_lt h3 h2 h6k, wf_adO h3 hf h1k h6k, hdo_adO hn h4, h5, h6, by have q9 := h9.2.2.2.2.2.2.1; omega, h8, h10⟩
