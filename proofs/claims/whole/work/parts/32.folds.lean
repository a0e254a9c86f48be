theorem va_P_nil {D : va_G} {H : Heap} : va_P D vwCl ([] : va_W) H := fun k q h => by simp at h
/-- a page's place -/
def plo (line u : Nat) : Nat := if u = 0 then line else 8 + line
theorem mI_nI {n : Nat} (h : 0 < n) : mI n = nI (n - 1) := by
  obtain ⟨i, rfl⟩ : ∃ i, n = i + 1 := ⟨n - 1, by omega⟩
  exact (nI_mI i).symm
/-- how many blocks below n are erased -/
def ern (χ : Nat → Nat) : Nat → Nat
  | 0 => 0
  | n + 1 => if χ (16 * n) = 0 then ern χ n + 1 else ern χ n
theorem ern_le (χ : Nat → Nat) : ∀ n, ern χ n ≤ n := by
  intro n
  induction n with
  | zero => exact Nat.le_refl 0
  | succ n ih => simp only [ern]; split <;> omega
/-- the blocks below n that have pages, but no readable ones, are erased -/
noncomputable def eu (χ : Nat → Nat) : Nat → Nat → Nat
  | 0 => χ
  | n + 1 => cif (eu χ n (16 * n) ≠ 0 ∧ grt (eu χ n) n 16 = 0) (ers (eu χ n) n) (eu χ n)
theorem eu_in {χ : Nat → Nat} {n : Nat} (h : eu χ n (16 * n) ≠ 0 ∧ grt (eu χ n) n 16 = 0) : eu χ (n + 1) = ers (eu χ n) n := cif_t h
theorem eu_out {χ : Nat → Nat} {n : Nat} (h : ¬ (eu χ n (16 * n) ≠ 0 ∧ grt (eu χ n) n 16 = 0)) : eu χ (n + 1) = eu χ n := cif_f h
/-- what the start finds in the blocks below n -/
noncomputable def lsA (χ : Nat → Nat) : Nat → Nat
  | 0 => 0
  | n + 1 => mn (lsA χ n) (lst χ n 16)
noncomputable def grA (χ : Nat → Nat) : Nat → Nat
  | 0 => 0
  | n + 1 => max (grA χ n) (grt χ n 16)
noncomputable def cuA (χ : Nat → Nat) : Nat → Nat
  | 0 => 0
  | n + 1 => cif (grA χ n < grt χ n 16) n (cuA χ n)
/-- trim: the blocks below m that it erases are erased; how many they are -/
noncomputable def tr (χ : Nat → Nat) (cu n : Nat) : Nat → Nat → Nat
  | 0 => χ
  | m + 1 => cif (m ≠ cu ∧ tr χ cu n m (16 * m) ≠ 0 ∧ grt (tr χ cu n m) m 16 ≤ n) (ers (tr χ cu n m) m) (tr χ cu n m)
noncomputable def trc (χ : Nat → Nat) (cu n : Nat) : Nat → Nat
  | 0 => 0
  | m + 1 => cif (m ≠ cu ∧ tr χ cu n m (16 * m) ≠ 0 ∧ grt (tr χ cu n m) m 16 ≤ n) (trc χ cu n m + 1) (trc χ cu n m)
theorem tr_in {χ : Nat → Nat} {cu n m : Nat} (h : m ≠ cu ∧ tr χ cu n m (16 * m) ≠ 0 ∧ grt (tr χ cu n m) m 16 ≤ n) : tr χ cu n (m + 1) = ers (tr χ cu n m) m ∧ trc χ cu n (m + 1) = trc χ cu n m + 1 := ⟨cif_t h, cif_t h⟩
theorem tr_out {χ : Nat → Nat} {cu n m : Nat} (h : ¬ (m ≠ cu ∧ tr χ cu n m (16 * m) ≠ 0 ∧ grt (tr χ cu n m) m 16 ≤ n)) : tr χ cu n (m + 1) = tr χ cu n m ∧ trc χ cu n (m + 1) = trc χ cu n m := ⟨cif_f h, cif_f h⟩
theorem trc_le (χ : Nat → Nat) (cu n : Nat) : ∀ m, trc χ cu n m ≤ m := by
  intro m
  induction m with
  | zero => exact Nat.le_refl 0
  | succ m ih => rcases cif_or (m ≠ cu ∧ tr χ cu n m (16 * m) ≠ 0 ∧ grt (tr χ cu n m) m 16 ≤ n) (trc χ cu n m + 1) (trc χ cu n m) with ⟨_, h⟩ | ⟨_, h⟩ <;> simp only [trc, h] <;> omega
/-! what holds of a block depends on its own cells alone -/
theorem plc_congr {χ χ' : Nat → Nat} {b : Nat} (h : ∀ i, inb b i → χ i = χ' i) : ∀ n, n ≤ 16 → fpl χ b n = fpl χ' b n := by
  intro n
  induction n with
  | zero => intro _; rfl
  | succ n ih =>
    intro hn
    simp only [fpl]
    rw [ih (by omega), h (16 * b + n) (Or.inl ⟨by omega, by omega⟩)]
theorem cov_congr {χ χ' : Nat → Nat} {b k : Nat} (h : ∀ i, inb b i → χ i = χ' i) : cov χ b k ↔ cov χ' b k := by
  unfold cov
  rw [h (200 + 17 * b + 16) (by unfold inb; omega)]
theorem reb_congr {χ χ' : Nat → Nat} {b k : Nat} (h : ∀ i, inb b i → χ i = χ' i) (hk : k < 16) : reb χ b k → reb χ' b k := by
  rintro ⟨h1, ⟨h2, h3, h4⟩, h5⟩
  refine ⟨by rw [← h (16 * b + k) (by unfold inb; omega)]; exact h1, ⟨by rw [← h (100 + b) (by unfold inb; omega)]; exact h2, h3, (cov_congr h).mp h4⟩, fun j hj hjk hc => ?_⟩
  rw [← h (16 * b + j) (by unfold inb; omega)]
  exact h5 j hj hjk ((cov_congr h).mpr hc)
theorem rdb_congr {χ χ' : Nat → Nat} {b k : Nat} (h : ∀ i, inb b i → χ i = χ' i) (hk : k < 16) : rdb χ b k ↔ rdb χ' b k := by
  constructor
  · exact fun h1 => h1.elim (fun h2 => Or.inl (by rw [← h (16 * b + k) (by unfold inb; omega)]; exact h2)) (fun h2 => Or.inr (reb_congr h hk h2))
  · exact fun h1 => h1.elim (fun h2 => Or.inl (by rw [h (16 * b + k) (by unfold inb; omega)]; exact h2)) (fun h2 => Or.inr (reb_congr (fun i hi => (h i hi).symm) hk h2))
theorem xfo_congr {χ χ' : Nat → Nat} {b k i : Nat} (h : ∀ i, inb b i → χ i = χ' i) (hi : i < 16) : ∀ n, n ≤ 8 → xfo χ b k i n = xfo χ' b k i n := by
  intro n
  induction n with
  | zero => intro _; exact h (200 + 17 * b + i) (by unfold inb; omega)
  | succ n ih =>
    intro hn
    by_cases hc : n ≠ k ∧ cov χ b n
    · rw [xfo_in hc, xfo_in ⟨hc.1, (cov_congr h).mp hc.2⟩, ih (by omega), h (1000 + 256 * b + (16 * n + i)) (by unfold inb; omega)]
    · rw [xfo_out hc, xfo_out (fun h9 => hc ⟨h9.1, (cov_congr h).mpr h9.2⟩), ih (by omega)]
theorem byt_congr {χ χ' : Nat → Nat} {b k i : Nat} (h : ∀ i, inb b i → χ i = χ' i) (hk : k < 16) (hi : i < 16) : byt χ b k i = byt χ' b k i := by
  unfold byt
  rw [h (16 * b + k) (by unfold inb; omega), h (1000 + 256 * b + (16 * k + i)) (by unfold inb; omega), xfo_congr h hi 8 (Nat.le_refl 8)]
theorem grt_congr {χ χ' : Nat → Nat} {b : Nat} (h : ∀ i, inb b i → χ i = χ' i) : ∀ n, n ≤ 16 → grt χ b n = grt χ' b n := by
  intro n
  induction n with
  | zero => intro _; rfl
  | succ n ih =>
    intro hn
    by_cases hr : rdb χ b n
    · rw [grt_in hr, grt_in ((rdb_congr h (by omega)).mp hr), ih (by omega), byt_congr h (by omega) (by decide), byt_congr h (by omega) (by decide), byt_congr h (by omega) (by decide)]
    · rw [grt_out hr, grt_out (fun h9 => hr ((rdb_congr h (by omega)).mpr h9)), ih (by omega)]
theorem lst_congr {χ χ' : Nat → Nat} {b : Nat} (h : ∀ i, inb b i → χ i = χ' i) : ∀ n, n ≤ 16 → lst χ b n = lst χ' b n := by
  intro n
  induction n with
  | zero => intro _; rfl
  | succ n ih =>
    intro hn
    by_cases hr : rdb χ b n
    · rw [lst_in hr, lst_in ((rdb_congr h (by omega)).mp hr), ih (by omega), byt_congr h (by omega) (by decide), byt_congr h (by omega) (by decide)]
    · rw [lst_out hr, lst_out (fun h9 => hr ((rdb_congr h (by omega)).mpr h9)), ih (by omega)]
/-- a row of events is one by its 16 bytes -/
theorem pl_congr {O O' : Nat → Nat} (h : ∀ j, j < 16 → O j = O' j) (hw : wf O) : ∀ i, i ≤ O 0 → pl O i = pl O' i := by
  intro i
  induction i with
  | zero => intro _; rfl
  | succ i ih =>
    intro hi
    have h1 := ih (by omega)
    have h2 := pl_lt hw (i := i) (by omega)
    show pl O i + 1 + O (pl O i) = pl O' i + 1 + O' (pl O' i)
    rw [← h1, h _ (by omega)]
theorem wf_congr {O O' : Nat → Nat} (h : ∀ j, j < 16 → O j = O' j) (hw : wf O) : wf O' := by
  obtain ⟨h1, h2, h3, h4⟩ := id hw
  refine ⟨by rw [← h 0 (by decide)]; exact h1, by rw [← h 1 (by decide)]; exact h2, by rw [← h 2 (by decide)]; exact h3, fun i hi => ?_⟩
  rw [← h 0 (by decide)] at hi
  have h5 := pl_lt hw hi
  rw [← pl_congr h hw i (by omega), ← h _ (by omega)]
  exact h4 i hi
theorem ers_out {χ : Nat → Nat} {b : Nat} : ∀ i, ¬ inb b i → ers χ b i = χ i := fun i hi => by
  unfold inb at hi
  simp only [ers]
  (repeat' split) <;> first | rfl | omega
theorem ers_rdb {χ : Nat → Nat} {b k : Nat} (hk : k < 16) : ¬ rdb (ers χ b) b k := by
  have h : ers χ b (16 * b + k) = 0 := if_pos ⟨by omega, by omega⟩
  rintro (h1 | h1)
  · rw [h] at h1; exact absurd h1 (by decide)
  · have h2 := h1.1
    rw [h] at h2; exact absurd h2 (by decide)
theorem wfs_ers {χ : Nat → Nat} {b : Nat} (hb : b < 6) (hw : wfs χ) : wfs (ers χ b) := by
  intro b' k hb' hk hr
  by_cases he : b' = b
  · subst he
    exact absurd hr (ers_rdb hk)
  · have h : ∀ i, inb b' i → ers χ b i = χ i := fun i hi => ers_out i (inb_apart hb hb' he hi)
    exact wf_congr (fun j hj => (byt_congr h hk hj).symm) (hw b' k hb' hk ((rdb_congr h hk).mp hr))
theorem eu_le {χ : Nat → Nat} : ∀ n, n ≤ 6 → ∀ i, eu χ n i ≤ χ i + 1 ∧ (∀ b, n ≤ b → b < 6 → i = 110 + b → eu χ n i ≤ χ i) := by
  intro n
  induction n with
  | zero => intro _ i; exact ⟨Nat.le_succ _, fun _ _ _ _ => Nat.le_refl _⟩
  | succ n ih =>
    intro hn i
    obtain ⟨h1, h2⟩ := ih (by omega) i
    by_cases h : eu χ n (16 * n) ≠ 0 ∧ grt (eu χ n) n 16 = 0
    · rw [eu_in h]
      refine ⟨?_, fun b hb hb6 he => ?_⟩
      · simp only [ers]
        split
        · omega
        · split
          · omega
          · split
            · have := h2 n (Nat.le_refl n) (by omega) ‹_›; omega
            · exact h1
      · simp only [ers]
        have := h2 b (by omega) hb6 he
        (repeat' split) <;> omega
    · rw [eu_out h]
      exact ⟨h1, fun b hb hb6 he => h2 b (by omega) hb6 he⟩
theorem tr_le {χ : Nat → Nat} {cu m : Nat} : ∀ n, n ≤ 6 → ∀ i, tr χ cu m n i ≤ χ i + 1 ∧ (∀ b, n ≤ b → b < 6 → i = 110 + b → tr χ cu m n i ≤ χ i) := by
  intro n
  induction n with
  | zero => intro _ i; exact ⟨Nat.le_succ _, fun _ _ _ _ => Nat.le_refl _⟩
  | succ n ih =>
    intro hn i
    obtain ⟨h1, h2⟩ := ih (by omega) i
    by_cases h : n ≠ cu ∧ tr χ cu m n (16 * n) ≠ 0 ∧ grt (tr χ cu m n) n 16 ≤ m
    · rw [(tr_in h).1]
      refine ⟨?_, fun b hb hb6 he => ?_⟩
      · simp only [ers]
        split
        · omega
        · split
          · omega
          · split
            · have := h2 n (Nat.le_refl n) (by omega) ‹_›; omega
            · exact h1
      · simp only [ers]
        have := h2 b (by omega) hb6 he
        (repeat' split) <;> omega
    · rw [(tr_out h).1]
      exact ⟨h1, fun b hb hb6 he => h2 b (by omega) hb6 he⟩
theorem wfs_eu {χ : Nat → Nat} (hw : wfs χ) : ∀ n, n ≤ 6 → wfs (eu χ n) := by
  intro n
  induction n with
  | zero => intro _; exact hw
  | succ n ih =>
    intro hn
    by_cases h : eu χ n (16 * n) ≠ 0 ∧ grt (eu χ n) n 16 = 0
    · rw [eu_in h]; exact wfs_ers (by omega) (ih (by omega))
    · rw [eu_out h]; exact ih (by omega)
theorem wfs_tr {χ : Nat → Nat} {cu m : Nat} (hw : wfs χ) : ∀ n, n ≤ 6 → wfs (tr χ cu m n) := by
  intro n
  induction n with
  | zero => intro _; exact hw
  | succ n ih =>
    intro hn
    by_cases h : n ≠ cu ∧ tr χ cu m n (16 * n) ≠ 0 ∧ grt (tr χ cu m n) n 16 ≤ m
    · rw [(tr_in h).1]; exact wfs_ers (by omega) (ih (by omega))
    · rw [(tr_out h).1]; exact ih (by omega)
theorem lsA_lt {χ : Nat → Nat} (hw : wfs χ) : ∀ n, n ≤ 6 → lsA χ n < 65600 := by
  intro n
  induction n with
  | zero => intro _; exact (by decide : (0 : Nat) < 65600)
  | succ n ih =>
    intro hn
    have h1 := ih (by omega)
    have h2 := lst_lt hw (show n < 6 by omega) 16 (Nat.le_refl _)
    simp only [lsA, mn]
    (repeat' split) <;> omega
theorem grA_lt {χ : Nat → Nat} (hw : wfs χ) : ∀ n, n ≤ 6 → grA χ n < 65600 := by
  intro n
  induction n with
  | zero => intro _; exact (by decide : (0 : Nat) < 65600)
  | succ n ih =>
    intro hn
    have h1 := ih (by omega)
    have h2 := grt_lt hw (show n < 6 by omega) 16 (Nat.le_refl _)
    simp only [grA]
    omega
theorem cuA_lt (χ : Nat → Nat) : ∀ n, n ≤ 6 → cuA χ n < 6 := by
  intro n
  induction n with
  | zero => intro _; exact (by decide : (0 : Nat) < 6)
  | succ n ih =>
    intro hn
    simp only [cuA]
    rcases cif_or (grA χ n < grt χ n 16) n (cuA χ n) with ⟨_, h⟩ | ⟨_, h⟩ <;> rw [h]
    · omega
    · exact ih (by omega)
