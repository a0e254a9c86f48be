/-! ===== the log's order ===== -/
theorem nxb_ok {χ : Nat → Nat} {cu : Nat} (hcu : cu < 6) (hnf : ¬ ful χ cu) : nxb χ cu < 6 ∧ plc χ (nxb χ cu) < 16 := by
  by_cases q9 : tk χ cu
  · rw [nxb_in q9]; exact ⟨hcu, q9.2⟩
  · rw [nxb_out q9]
    have q8 : χ (16 * ((cu + 1) % 6)) = 0 := Classical.byContradiction (fun q7 => hnf ⟨q9, q7⟩)
    exact ⟨by omega, by rw [plc_zero.mpr q8]; decide⟩
theorem pl_ge {O : Nat → Nat} (hw : wf O) : ∀ i, i ≤ O 0 → 3 + 2 * i ≤ pl O i := by
  intro i
  induction i with
  | zero => intro _; exact Nat.le_refl 3
  | succ i ih =>
    intro hi
    have q9 := ih (by omega)
    have q8 := (hw.2.2.2 i (by omega)).1
    show 3 + 2 * (i + 1) ≤ pl O i + 1 + O (pl O i)
    omega
theorem adO_1 {O : Nat → Nat} {num n : Nat} {w : Int64} : adO O num n w 1 = if O 0 = 0 then num / 2 ^ 8 % 256 else O 1 := by
  have q7 := pl_three (O := O) (O 0)
  simp only [adJ]
  by_cases q9 : O 0 = 0
  · rw [if_neg (by decide), if_pos ⟨trivial, q9⟩, if_pos q9]
  · rw [if_neg (by decide), if_neg (fun q8 => q9 q8.2), if_neg (by omega), if_neg (by omega), if_neg (by omega), if_neg q9]
theorem adO_2 {O : Nat → Nat} {num n : Nat} {w : Int64} : adO O num n w 2 = if O 0 = 0 then num % 256 else O 2 := by
  have q7 := pl_three (O := O) (O 0)
  simp only [adJ]
  by_cases q9 : O 0 = 0
  · rw [if_neg (by decide), if_neg (by omega), if_pos ⟨trivial, q9⟩, if_pos q9]
  · rw [if_neg (by decide), if_neg (by omega), if_neg (fun q8 => q9 q8.2), if_neg (by omega), if_neg (by omega), if_neg q9]
theorem hdo_adO {O : Nat → Nat} {ne n : Nat} {w : Int64} (hn : ne < 65536) (hh : hdo O ne) : hdo (adO O ne n w) (ne + 1) := by
  refine ⟨by rw [adO_hd]; exact Nat.succ_le_succ hh.1, fun _ => ?_⟩
  rw [adO_1, adO_2, adO_hd]
  by_cases q9 : O 0 = 0
  · rw [if_pos q9, if_pos q9, q9]; omega
  · rw [if_neg q9, if_neg q9]; have q8 := hh.2 q9; omega
theorem wf_adO {O : Nat → Nat} {num n : Nat} {w : Int64} (hw : wf O) (hf : fit O n) (h1 : 1 ≤ n) (h6 : n ≤ 6) : wf (adO O num n w) := by
  have q9 := pl_ge hw (O 0) (Nat.le_refl _)
  have q7 := pl_three (O := O) (O 0)
  unfold fit at hf
  have ev : adO O num n w (pl O (O 0)) = n := by
    simp only [adJ]
    rw [if_neg (by omega), if_neg (by omega), if_neg (by omega), if_pos trivial]
  refine ⟨by rw [adO_hd]; omega, by rw [adO_1]; split <;> first | exact hw.2.1 | omega, by rw [adO_2]; split <;> first | exact hw.2.2.1 | omega, fun i hi => ?_⟩
  rw [adO_hd] at hi
  rw [pl_adO i (by omega)]
  by_cases q8 : i = O 0
  · rw [q8, ev]; exact ⟨h1, h6, hf⟩
  · have q6 := hw.2.2.2 i (by omega)
    have q5 := pl_lt_of (O := O) (i := i) (O 0) (by omega)
    have q4 := pl_three (O := O) i
    have e9 : adO O num n w (pl O i) = O (pl O i) := by
      simp only [adJ]
      rw [if_neg (by omega), if_neg (by omega), if_neg (by omega), if_neg (by omega), if_neg (by omega)]
    rw [e9]; exact q6
theorem adO_lt {O : Nat → Nat} {num n : Nat} {w : Int64} (hw : wf O) (hO : ∀ j, O j < 256) (h6 : n ≤ 6) : ∀ j, adO O num n w j < 256 := by
  intro j
  have q9 := hw.1
  simp only [adJ]
  (repeat' split) <;> first | omega | exact wb_lt _ _ | exact hO _
theorem hdo_zero {ne : Nat} : hdo (fun _ => 0) ne := ⟨Nat.zero_le _, fun q9 => absurd rfl q9⟩
