/-! ===== the log: a block's cell by its number; folds over pages ===== -/
theorem wP_at {cI cB : ClassId} {a h O χ : Nat → Nat} {cu fi ne ct on : Nat} {b : Nat} (hb : b < 6) : (wP cI cB a h O χ cu fi ne ct on)[6 + 4 * b]? = some (a (6 + 4 * b), .inr (0, [.ref (a (7 + 4 * b)), .ref (a (8 + 4 * b)), .ref (a (9 + 4 * b)), .int (nI (χ (100 + b))), .int (nI (χ (110 + b)))])) := by
  rcases (show b = 0 ∨ b = 1 ∨ b = 2 ∨ b = 3 ∨ b = 4 ∨ b = 5 by omega) with rfl | rfl | rfl | rfl | rfl | rfl <;> rfl
theorem up_out {χ : Nat → Nat} {b k x : Nat} (hk : inb b k) : ∀ i, ¬ inb b i → up χ k x i = χ i := fun i hi => up_ne χ x (fun e => hi (e ▸ hk))
theorem wP_gs {cI cB : ClassId} {a h O χ : Nat → Nat} {cu fi ne ct on : Nat} {b : Nat} {x : Nat} (hb : b < 6) : (wP cI cB a h O χ cu fi ne ct on).set (6 + 4 * b) (a (6 + 4 * b), .inr (0, [.ref (a (7 + 4 * b)), .ref (a (8 + 4 * b)), .ref (a (9 + 4 * b)), .int (nI x), .int (nI (χ (110 + b)))])) = wP cI cB a h O (up χ (100 + b) x) cu fi ne ct on := by
  have hχ : ∀ i, ¬ inb b i → up χ (100 + b) x i = χ i := up_out (Or.inr (Or.inl rfl))
  have hX : bX cI a b (fun j => χ (16 * b + j)) (fun j => χ (1000 + 256 * b + j)) (fun j => χ (200 + 17 * b + j)) x (χ (110 + b)) = wB cI a (up χ (100 + b) x) b :=
    bX_eq (fun j hj => (up_ne χ x (by omega)).symm) (fun j hj => (up_ne χ x (by omega)).symm) (fun j hj => (up_ne χ x (by omega)).symm) (up_same χ _ x).symm (up_ne χ x (by omega)).symm
  rcases (show b = 0 ∨ b = 1 ∨ b = 2 ∨ b = 3 ∨ b = 4 ∨ b = 5 by omega) with rfl | rfl | rfl | rfl | rfl | rfl
  · show wH cI cB a h O cu fi ne ct on ++ (bX cI a 0 (fun j => χ (16 * 0 + j)) (fun j => χ (1000 + 256 * 0 + j)) (fun j => χ (200 + 17 * 0 + j)) x (χ (110 + 0)) ++ (wB cI a χ 1 ++ (wB cI a χ 2 ++ (wB cI a χ 3 ++ (wB cI a χ 4 ++ (wB cI a χ 5)))))) = _
    rw [hX, wB_other (b' := 1) hb (by decide) (by decide) hχ, wB_other (b' := 2) hb (by decide) (by decide) hχ, wB_other (b' := 3) hb (by decide) (by decide) hχ, wB_other (b' := 4) hb (by decide) (by decide) hχ, wB_other (b' := 5) hb (by decide) (by decide) hχ]
    rfl
  · show wH cI cB a h O cu fi ne ct on ++ (wB cI a χ 0 ++ (bX cI a 1 (fun j => χ (16 * 1 + j)) (fun j => χ (1000 + 256 * 1 + j)) (fun j => χ (200 + 17 * 1 + j)) x (χ (110 + 1)) ++ (wB cI a χ 2 ++ (wB cI a χ 3 ++ (wB cI a χ 4 ++ (wB cI a χ 5)))))) = _
    rw [hX, wB_other (b' := 0) hb (by decide) (by decide) hχ, wB_other (b' := 2) hb (by decide) (by decide) hχ, wB_other (b' := 3) hb (by decide) (by decide) hχ, wB_other (b' := 4) hb (by decide) (by decide) hχ, wB_other (b' := 5) hb (by decide) (by decide) hχ]
    rfl
  · show wH cI cB a h O cu fi ne ct on ++ (wB cI a χ 0 ++ (wB cI a χ 1 ++ (bX cI a 2 (fun j => χ (16 * 2 + j)) (fun j => χ (1000 + 256 * 2 + j)) (fun j => χ (200 + 17 * 2 + j)) x (χ (110 + 2)) ++ (wB cI a χ 3 ++ (wB cI a χ 4 ++ (wB cI a χ 5)))))) = _
    rw [hX, wB_other (b' := 0) hb (by decide) (by decide) hχ, wB_other (b' := 1) hb (by decide) (by decide) hχ, wB_other (b' := 3) hb (by decide) (by decide) hχ, wB_other (b' := 4) hb (by decide) (by decide) hχ, wB_other (b' := 5) hb (by decide) (by decide) hχ]
    rfl
  · show wH cI cB a h O cu fi ne ct on ++ (wB cI a χ 0 ++ (wB cI a χ 1 ++ (wB cI a χ 2 ++ (bX cI a 3 (fun j => χ (16 * 3 + j)) (fun j => χ (1000 + 256 * 3 + j)) (fun j => χ (200 + 17 * 3 + j)) x (χ (110 + 3)) ++ (wB cI a χ 4 ++ (wB cI a χ 5)))))) = _
    rw [hX, wB_other (b' := 0) hb (by decide) (by decide) hχ, wB_other (b' := 1) hb (by decide) (by decide) hχ, wB_other (b' := 2) hb (by decide) (by decide) hχ, wB_other (b' := 4) hb (by decide) (by decide) hχ, wB_other (b' := 5) hb (by decide) (by decide) hχ]
    rfl
  · show wH cI cB a h O cu fi ne ct on ++ (wB cI a χ 0 ++ (wB cI a χ 1 ++ (wB cI a χ 2 ++ (wB cI a χ 3 ++ (bX cI a 4 (fun j => χ (16 * 4 + j)) (fun j => χ (1000 + 256 * 4 + j)) (fun j => χ (200 + 17 * 4 + j)) x (χ (110 + 4)) ++ (wB cI a χ 5)))))) = _
    rw [hX, wB_other (b' := 0) hb (by decide) (by decide) hχ, wB_other (b' := 1) hb (by decide) (by decide) hχ, wB_other (b' := 2) hb (by decide) (by decide) hχ, wB_other (b' := 3) hb (by decide) (by decide) hχ, wB_other (b' := 5) hb (by decide) (by decide) hχ]
    rfl
  · show wH cI cB a h O cu fi ne ct on ++ (wB cI a χ 0 ++ (wB cI a χ 1 ++ (wB cI a χ 2 ++ (wB cI a χ 3 ++ (wB cI a χ 4 ++ (bX cI a 5 (fun j => χ (16 * 5 + j)) (fun j => χ (1000 + 256 * 5 + j)) (fun j => χ (200 + 17 * 5 + j)) x (χ (110 + 5)))))))) = _
    rw [hX, wB_other (b' := 0) hb (by decide) (by decide) hχ, wB_other (b' := 1) hb (by decide) (by decide) hχ, wB_other (b' := 2) hb (by decide) (by decide) hχ, wB_other (b' := 3) hb (by decide) (by decide) hχ, wB_other (b' := 4) hb (by decide) (by decide) hχ]
    rfl
/-- the greatest event of the readable pages below n, and one more; 0 when there is none -/
noncomputable def grt (χ : Nat → Nat) (b : Nat) : Nat → Nat
  | 0 => 0
  | n + 1 => cif (rdb χ b n) (max (grt χ b n) (256 * byt χ b n 1 + byt χ b n 2 + byt χ b n 0)) (grt χ b n)
theorem grt_in {χ : Nat → Nat} {b n : Nat} (h : rdb χ b n) : grt χ b (n + 1) = max (grt χ b n) (256 * byt χ b n 1 + byt χ b n 2 + byt χ b n 0) := cif_t h
theorem grt_out {χ : Nat → Nat} {b n : Nat} (h : ¬ rdb χ b n) : grt χ b (n + 1) = grt χ b n := cif_f h
/-- the least of two, where 0 is none -/
def mn (x y : Nat) : Nat := if y = 0 then x else if x = 0 ∨ y < x then y else x
/-- the least event of the readable pages below n, and one more; 0 when there is none -/
noncomputable def lst (χ : Nat → Nat) (b : Nat) : Nat → Nat
  | 0 => 0
  | n + 1 => cif (rdb χ b n) (mn (lst χ b n) (256 * byt χ b n 1 + byt χ b n 2 + 1)) (lst χ b n)
theorem lst_in {χ : Nat → Nat} {b n : Nat} (h : rdb χ b n) : lst χ b (n + 1) = mn (lst χ b n) (256 * byt χ b n 1 + byt χ b n 2 + 1) := cif_t h
theorem lst_out {χ : Nat → Nat} {b n : Nat} (h : ¬ rdb χ b n) : lst χ b (n + 1) = lst χ b n := cif_f h
/-- every readable page is a row of events -/
def wfs (χ : Nat → Nat) : Prop := ∀ b k, b < 6 → k < 16 → rdb χ b k → wf (byt χ b k)
theorem grt_lt {χ : Nat → Nat} {b : Nat} (hw : wfs χ) (hb : b < 6) : ∀ n, n ≤ 16 → grt χ b n < 65600 := by
  intro n
  induction n with
  | zero => intro _; exact (by decide : (0 : Nat) < 65600)
  | succ n ih =>
    intro hn
    by_cases h : rdb χ b n
    · rw [grt_in h]
      obtain ⟨h0, h1, h2, -⟩ := hw b n hb (by omega) h
      have h4 := ih (by omega)
      omega
    · rw [grt_out h]; exact ih (by omega)
theorem lst_lt {χ : Nat → Nat} {b : Nat} (hw : wfs χ) (hb : b < 6) : ∀ n, n ≤ 16 → lst χ b n < 65600 := by
  intro n
  induction n with
  | zero => intro _; exact (by decide : (0 : Nat) < 65600)
  | succ n ih =>
    intro hn
    by_cases h : rdb χ b n
    · rw [lst_in h]
      obtain ⟨h0, h1, h2, -⟩ := hw b n hb (by omega) h
      have h4 := ih (by omega)
      unfold mn
      split
      · omega
      · split <;> omega
    · rw [lst_out h]; exact ih (by omega)
theorem nI_mI (n : Nat) : nI n = mI (n + 1) := by
  show nI n = nI (n + 1) - nI 1
  rw [pk_sub (by omega), Nat.add_sub_cancel]
theorem xl_max {x y : Nat} (hx : x < 2 ^ 30) (hy : y < 2 ^ 30) : (if mI x < mI y then mI y else mI x) = mI (max x y) := by
  by_cases h : x < y
  · rw [if_pos (Int32.lt_iff_toInt_lt.mpr (by rw [mI_toInt hx, mI_toInt hy]; omega)), Nat.max_eq_right (by omega)]
  · rw [if_neg (fun h9 => h (by have h8 := Int32.lt_iff_toInt_lt.mp h9; rw [mI_toInt hx, mI_toInt hy] at h8; omega)), Nat.max_eq_left (by omega)]
/-- the page has event i -/
def hits (F : Nat → Nat) (i : Nat) : Prop := F 0 ≠ 0 ∧ 256 * F 1 + F 2 ≤ i ∧ i < 256 * F 1 + F 2 + F 0
def hit (χ : Nat → Nat) (i p : Nat) : Prop := rdb χ (p / 16) (p % 16) ∧ hits (byt χ (p / 16) (p % 16)) i
/-- the first page below n, by its number, that has event i; n when there is none -/
noncomputable def hpg (χ : Nat → Nat) (i : Nat) : Nat → Nat
  | 0 => 0
  | n + 1 => cif (hpg χ i n < n) (hpg χ i n) (cif (hit χ i n) n (n + 1))
theorem hpg_spec (χ : Nat → Nat) (i : Nat) : ∀ n, hpg χ i n ≤ n ∧ (∀ j, j < hpg χ i n → ¬ hit χ i j) ∧ (hpg χ i n < n → hit χ i (hpg χ i n)) := by
  intro n
  induction n with
  | zero => exact ⟨Nat.le_refl 0, fun j hj => absurd hj (Nat.not_lt_zero j), fun h => absurd h (Nat.lt_irrefl 0)⟩
  | succ k ih =>
    obtain ⟨h1, h2, h3⟩ := ih
    simp only [hpg]
    by_cases h4 : hpg χ i k < k
    · rw [cif_t h4]
      exact ⟨by omega, h2, fun _ => h3 h4⟩
    · have h5 : hpg χ i k = k := by omega
      rw [cif_f h4]
      by_cases h6 : hit χ i k
      · rw [cif_t h6]
        exact ⟨by omega, fun j hj => h2 j (by omega), fun _ => h6⟩
      · rw [cif_f h6]
        refine ⟨Nat.le_refl _, fun j hj => ?_, fun h => absurd h (Nat.lt_irrefl _)⟩
        by_cases h7 : j = k
        · rw [h7]; exact h6
        · exact h2 j (by omega)
theorem hpg_eq {χ : Nat → Nat} {i n : Nat} (h1 : n ≤ 96) (h2 : ∀ j, j < n → ¬ hit χ i j) (h3 : n < 96 → hit χ i n) : n = hpg χ i 96 := by
  obtain ⟨g1, g2, g3⟩ := hpg_spec χ i 96
  rcases Nat.lt_trichotomy n (hpg χ i 96) with h | h | h
  · exact absurd (h3 (by omega)) (g2 _ h)
  · exact h
  · exact absurd (g3 (by omega)) (h2 _ h)
/-- the block that is programmed next -/
noncomputable def nxb (χ : Nat → Nat) (cu : Nat) : Nat := cif (tk χ cu) cu ((cu + 1) % 6)
theorem nxb_in {χ : Nat → Nat} {cu : Nat} (h : tk χ cu) : nxb χ cu = cu := cif_t h
theorem nxb_out {χ : Nat → Nat} {cu : Nat} (h : ¬ tk χ cu) : nxb χ cu = (cu + 1) % 6 := cif_f h
/-- the log is full -/
def ful (χ : Nat → Nat) (cu : Nat) : Prop := ¬ tk χ cu ∧ χ (16 * ((cu + 1) % 6)) ≠ 0
/-- what a flush does, on block b: whether it goes through, and what is behind it -/
def fOk (χ : Nat → Nat) (b ct : Nat) : Prop := ct ≠ 1 ∧ (plc χ b = 8 → ct ≠ 2)
noncomputable def fCt (χ : Nat → Nat) (b ct : Nat) : Nat := cif (plc χ b = 8) (ct - 2) (ct - 1)
noncomputable def fOn (χ : Nat → Nat) (b ct on : Nat) : Nat := cif (plc χ b = 8) (cif (ct = 1 ∨ ct = 2) 0 on) (cif (ct = 1) 0 on)
noncomputable def fX (χ : Nat → Nat) (b ct : Nat) (O : Nat → Nat) : Nat → Nat := cif (plc χ b = 8) (cif (ct = 1) (up χ (100 + b) 2) (cif (ct = 2) (cuw (wgd χ b) b 8) (wrt (wgd χ b) b 8 O))) (cif (ct = 1) (cuw χ b (plc χ b)) (wrt χ b (plc χ b) O))
noncomputable def fO (χ : Nat → Nat) (b ct : Nat) (O : Nat → Nat) : Nat → Nat := cif (plc χ b = 8) (cif (ct = 1 ∨ ct = 2) O (fun _ => 0)) (cif (ct = 1) O (fun _ => 0))

