/-! ===== behind a start: the first and the next number ===== -/
theorem grt_le {n : Nat} {χ : Nat → Nat} {b : Nat} (h9 : ivB n χ b) : ∀ m, m ≤ 16 → grt χ b m ≤ n := by
  intro m
  induction m with
  | zero => intro _; exact Nat.zero_le n
  | succ m ih =>
    intro hm
    by_cases hr : rdb χ b m
    · rw [grt_in hr]
      have q9 := ih (by omega)
      have q8 := (ivB_row h9 (by omega) hr).2
      omega
    · rw [grt_out hr]; exact ih (by omega)
theorem lst_le {n : Nat} {χ : Nat → Nat} {b : Nat} (h9 : ivB n χ b) : ∀ m, m ≤ 16 → lst χ b m ≤ n + 1 := by
  intro m
  induction m with
  | zero => intro _; exact Nat.zero_le _
  | succ m ih =>
    intro hm
    by_cases hr : rdb χ b m
    · rw [lst_in hr]
      have q9 := ih (by omega)
      have q8 := (ivB_row h9 (by omega) hr).2
      unfold mn
      (repeat' split) <;> omega
    · rw [lst_out hr]; exact ih (by omega)
theorem grA_le {n : Nat} {χ : Nat → Nat} (h9 : ivC n χ) : ∀ m, m ≤ 6 → grA χ m ≤ n := by
  intro m
  induction m with
  | zero => intro _; exact Nat.zero_le n
  | succ m ih =>
    intro hm
    have q9 := ih (by omega)
    have q8 := grt_le (h9.2 m (by omega)) 16 (Nat.le_refl 16)
    show max (grA χ m) (grt χ m 16) ≤ n
    omega
theorem lsA_le {n : Nat} {χ : Nat → Nat} (h9 : ivC n χ) : ∀ m, m ≤ 6 → lsA χ m ≤ n + 1 := by
  intro m
  induction m with
  | zero => intro _; exact Nat.zero_le _
  | succ m ih =>
    intro hm
    have q9 := ih (by omega)
    have q8 := lst_le (h9.2 m (by omega)) 16 (Nat.le_refl 16)
    show mn (lsA χ m) (lst χ m 16) ≤ n + 1
    unfold mn
    (repeat' split) <;> omega
/-- the whole state in order, n calls done -/
def iv (n : Nat) (χ O : Nat → Nat) (cu fi ne ct on : Nat) : Prop := ivC n χ ∧ (∀ j, O j < 256) ∧ wf O ∧ hdo O ne ∧ cu < 6 ∧ fi ≤ n ∧ ne ≤ n ∧ ct ≤ 60 ∧ on ≤ 1
theorem z256 : (0 : Nat) < 256 := by decide
theorem z01 : ¬ (0 : Nat) = 1 := by decide
theorem iv_new : iv 0 (fun _ => 0) (fun _ => 0) 0 0 0 0 1 := by
  refine ⟨⟨fun _ => Or.inl z256, fun b hb => ⟨fun _ _ => Nat.zero_le _, Nat.zero_le _, Nat.le_refl 0, fun _ _ q9 => absurd q9 z01, fun q9 => absurd q9 z01, fun _ _ _ => rfl, fun _ => rfl⟩⟩, fun _ => z256, wf0, hdo_zero, by decide, Nat.le_refl 0, Nat.le_refl 0, by decide, Nat.le_refl 1⟩
theorem iv_start {n : Nat} {χ O : Nat → Nat} {cu fi ne ct on : Nat} (h9 : iv n χ O cu fi ne ct on) : iv (n + 1) (eu χ 6) (fun _ => 0) (cuA (eu χ 6) 6) (lsA (eu χ 6) 6 - 1) (grA (eu χ 6) 6) ct 1 := by
  obtain ⟨h1, h2, h3, h4, h5, h6, h7, h8, -⟩ := h9
  have q9 := ivC_eu h1
  exact ⟨q9, fun _ => z256, wf0, hdo_zero, cuA_lt _ 6 (Nat.le_refl 6), by have q8 := lsA_le q9 6 (Nat.le_refl 6); omega, grA_le q9 6 (Nat.le_refl 6), h8, Nat.le_refl 1⟩
theorem iv_trim {n k : Nat} {χ O : Nat → Nat} {cu fi ne ct on : Nat} (hk : k ≤ ne) (h9 : iv n χ O cu fi ne ct on) : iv (n + 1) (tr χ cu k 6) O cu k ne ct on := by
  obtain ⟨h1, h2, h3, h4, h5, h6, h7, h8, h10⟩ := h9
  exact ⟨ivC_tr h1, h2, h3, h4, h5, by omega, by omega, h8, h10⟩
theorem iv_mono {n n' : Nat} {χ O : Nat → Nat} {cu fi ne ct on : Nat} (hn : n ≤ n') (h9 : iv n χ O cu fi ne ct on) : iv n' χ O cu fi ne ct on := by
  obtain ⟨h1, h2, h3, h4, h5, h6, h7, h8, h10⟩ := h9
  exact ⟨⟨h1.1, fun b hb => ivB_mono hn (h1.2 b hb)⟩, h2, h3, h4, h5, by omega, by omega, h8, h10⟩
