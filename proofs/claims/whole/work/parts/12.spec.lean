/-! ===== a page's row, as numbers ===== -/
/-- one or the other, by a proposition: nothing that unfolds by itself -/
noncomputable def cif {α : Type} (P : Prop) (x y : α) : α := @ite α P (Classical.propDecidable P) x y
theorem cif_t {α : Type} {P : Prop} {x y : α} (h : P) : cif P x y = x := if_pos h
theorem cif_f {α : Type} {P : Prop} {x y : α} (h : ¬ P) : cif P x y = y := if_neg h
theorem cif_or {α : Type} (P : Prop) (x y : α) : (P ∧ cif P x y = x) ∨ (¬ P ∧ cif P x y = y) := (Classical.em P).elim (fun h => Or.inl ⟨h, cif_t h⟩) (fun h => Or.inr ⟨h, cif_f h⟩)
theorem eW_eq {cI : ClassId} {q0 q1 : Nat} {O O' : Nat → Nat} (h : ∀ j, j < 16 → O j = O' j) : eW cI q0 q1 O = eW cI q0 q1 O' := by
  simp only [eW, ar]
  rw [gd_congr h]
/-- where the row of the event at that index begins -/
def pl (O : Nat → Nat) : Nat → Nat
  | 0 => 3
  | i + 1 => pl O i + 1 + O (pl O i)
def wf (O : Nat → Nat) : Prop := O 0 ≤ 6 ∧ O 1 < 256 ∧ O 2 < 256 ∧ ∀ i, i < O 0 → 1 ≤ O (pl O i) ∧ O (pl O i) ≤ 6 ∧ pl O i + 1 + O (pl O i) ≤ 16
theorem pl_le {O : Nat → Nat} (h : wf O) : ∀ i, i ≤ O 0 → 3 ≤ pl O i ∧ pl O i ≤ 16 := by
  intro i
  induction i with
  | zero => intro _; exact ⟨Nat.le_refl 3, (by decide : (3 : Nat) ≤ 16)⟩
  | succ i ih =>
    intro hi
    have h1 := ih (by omega)
    have h2 := h.2.2.2 i (by omega)
    show 3 ≤ pl O i + 1 + O (pl O i) ∧ pl O i + 1 + O (pl O i) ≤ 16
    omega
theorem pl_lt {O : Nat → Nat} (h : wf O) {i : Nat} (hi : i < O 0) : pl O i < 15 := by
  have h2 := h.2.2.2 i hi
  omega
theorem xl_fst {x y : Nat} (h : y < 256) : x * 2 ^ 8 ||| y = 256 * x + y := by
  rw [Nat.mul_comm x (2 ^ 8), ← Nat.two_pow_add_eq_or_of_lt (show y < 2 ^ 8 from h)]
abbrev fst (O : Nat → Nat) : Nat := 256 * O 1 + O 2
/-- byte k of w -/
def wb (w : Int64) (k : Nat) : Nat := ((w >>> ((nI (8 * k)).toInt64 &&& 63)) &&& 255).toInt32.toNatClampNeg
theorem xl_255 (y : Int64) : ∃ n, n < 256 ∧ (y &&& 255).toInt32 = nI n := by
  refine ⟨(y &&& 255).toBitVec.toNat, ?_, ?_⟩
  · show (y.toBitVec &&& (255 : Int64).toBitVec).toNat < 256
    rw [BitVec.toNat_and]
    exact Nat.lt_of_le_of_lt Nat.and_le_right (by decide)
  · apply Int32.toBitVec_inj.mp
    show (y &&& 255).toBitVec.signExtend 32 = BitVec.ofNat 32 _
    rw [BitVec.signExtend_eq_setWidth_of_le _ (by decide)]
    apply BitVec.eq_of_toNat_eq
    rw [BitVec.toNat_setWidth, BitVec.toNat_ofNat]
theorem wb_eq (w : Int64) (k : Nat) : ((w >>> ((nI (8 * k)).toInt64 &&& 63)) &&& 255).toInt32 = nI (wb w k) := by
  obtain ⟨n, h1, h2⟩ := xl_255 (w >>> ((nI (8 * k)).toInt64 &&& 63))
  unfold wb
  rw [h2, nI_clamp (by omega)]
theorem wb_lt (w : Int64) (k : Nat) : wb w k < 256 := by
  obtain ⟨n, h1, h2⟩ := xl_255 (w >>> ((nI (8 * k)).toInt64 &&& 63))
  unfold wb
  rw [h2, nI_clamp (by omega)]
  exact h1
/-- the row with one event more, of which j bytes are written -/
def adJ (O : Nat → Nat) (num n : Nat) (w : Int64) (j : Nat) : Nat → Nat := fun i =>
  if i = 0 then O 0 + 1 else if i = 1 ∧ O 0 = 0 then num / 2 ^ 8 % 256 else if i = 2 ∧ O 0 = 0 then num % 256 else if i = pl O (O 0) then n else if pl O (O 0) + 1 ≤ i ∧ i < pl O (O 0) + 1 + j then wb w (i - (pl O (O 0) + 1)) else O i
abbrev adO (O : Nat → Nat) (num n : Nat) (w : Int64) : Nat → Nat := adJ O num n w n
/-- an event's bytes, from the last one on -/
def evF (F : Nat → Nat) : Nat → Int64 → Int64
  | 0, v => v
  | j + 1, v => evF F j ((v <<< ((nI 8).toInt64 &&& 63)) ||| (nI (F (j + 1))).toInt64)
theorem xl_dec {j : Nat} (h : 0 < j) : nI j + Int32.ofInt (-1) = nI (j - 1) := by
  obtain ⟨i, rfl⟩ : ∃ i, j = i + 1 := ⟨j - 1, by omega⟩
  exact pk_m1 i
/-! ===== a block's pages ===== -/
/-- the first place that is erased; 16 when there is none -/
noncomputable def fpl (χ : Nat → Nat) (b : Nat) : Nat → Nat
  | 0 => 0
  | k + 1 => cif (fpl χ b k < k) (fpl χ b k) (cif (χ (16 * b + k) = 0) k (k + 1))
noncomputable abbrev plc (χ : Nat → Nat) (b : Nat) : Nat := fpl χ b 16
theorem fpl_spec (χ : Nat → Nat) (b : Nat) : ∀ k, fpl χ b k ≤ k ∧ (∀ j, j < fpl χ b k → χ (16 * b + j) ≠ 0) ∧ (fpl χ b k < k → χ (16 * b + fpl χ b k) = 0) := by
  intro k
  induction k with
  | zero => exact ⟨Nat.le_refl 0, fun j hj => absurd hj (Nat.not_lt_zero j), fun h => absurd h (Nat.lt_irrefl 0)⟩
  | succ k ih =>
    obtain ⟨h1, h2, h3⟩ := ih
    simp only [fpl]
    by_cases h4 : fpl χ b k < k
    · rw [cif_t h4]
      exact ⟨by omega, h2, fun _ => h3 h4⟩
    · have h5 : fpl χ b k = k := by omega
      rw [cif_f h4]
      by_cases h6 : χ (16 * b + k) = 0
      · rw [cif_t h6]
        exact ⟨by omega, fun j hj => h2 j (by omega), fun _ => h6⟩
      · rw [cif_f h6]
        refine ⟨Nat.le_refl _, fun j hj => ?_, fun h => absurd h (Nat.lt_irrefl _)⟩
        by_cases h7 : j = k
        · rw [h7]; exact h6
        · exact h2 j (by omega)
theorem plc_le (χ : Nat → Nat) (b : Nat) : plc χ b ≤ 16 := (fpl_spec χ b 16).1
theorem plc_lt {χ : Nat → Nat} {b j : Nat} (h : j < plc χ b) : χ (16 * b + j) ≠ 0 := (fpl_spec χ b 16).2.1 j h
theorem plc_at {χ : Nat → Nat} {b : Nat} (h : plc χ b < 16) : χ (16 * b + plc χ b) = 0 := (fpl_spec χ b 16).2.2 h
theorem plc_eq {χ : Nat → Nat} {b n : Nat} (h1 : n ≤ 16) (h2 : ∀ j, j < n → χ (16 * b + j) ≠ 0) (h3 : n < 16 → χ (16 * b + n) = 0) : n = plc χ b := by
  rcases Nat.lt_trichotomy n (plc χ b) with h | h | h
  · exact absurd (h3 (by have := plc_le χ b; omega)) (plc_lt h)
  · exact h
  · exact absurd (plc_at (by omega)) (h2 _ h)
theorem plc_zero {χ : Nat → Nat} {b : Nat} : plc χ b = 0 ↔ χ (16 * b) = 0 := by
  constructor
  · intro h
    have h1 := plc_at (χ := χ) (b := b) (by omega)
    rw [h] at h1
    exact h1
  · intro h
    rcases Nat.eq_zero_or_pos (plc χ b) with h1 | h1
    · exact h1
    · exact absurd h (plc_lt h1)
/-- the block takes one page more -/
def tk (χ : Nat → Nat) (b : Nat) : Prop := (∀ j, 8 ≤ j → j < 16 → χ (16 * b + j) ≠ 2) ∧ plc χ b < 16
/-- the guard page covers that line -/
def cov (χ : Nat → Nat) (b k : Nat) : Prop := χ (200 + 17 * b + 16) / 2 ^ k % 2 = 1
/-- the class's own covers: the guard page is written, the place is a lower one, and it is covered -/
def cvr (χ : Nat → Nat) (b k : Nat) : Prop := χ (100 + b) = 1 ∧ k < 8 ∧ cov χ b k
/-- the page is rebuilt -/
def reb (χ : Nat → Nat) (b k : Nat) : Prop := χ (16 * b + k) = 2 ∧ cvr χ b k ∧ ∀ j, j < 8 → j ≠ k → cov χ b j → χ (16 * b + j) = 1
/-- the page is readable -/
def rdb (χ : Nat → Nat) (b k : Nat) : Prop := χ (16 * b + k) = 1 ∨ reb χ b k
/-- the guard page's byte k, with the covered lines below n, but not the page's own -/
noncomputable def xfo (χ : Nat → Nat) (b k i : Nat) : Nat → Nat
  | 0 => χ (200 + 17 * b + i)
  | n + 1 => cif (n ≠ k ∧ cov χ b n) (xfo χ b k i n ^^^ χ (1000 + 256 * b + (16 * n + i))) (xfo χ b k i n)
/-- byte i of a readable page -/
noncomputable def byt (χ : Nat → Nat) (b k i : Nat) : Nat := if χ (16 * b + k) = 1 then χ (1000 + 256 * b + (16 * k + i)) else xfo χ b k i 8
theorem xfo_in {χ : Nat → Nat} {b k i n : Nat} (h : n ≠ k ∧ cov χ b n) : xfo χ b k i (n + 1) = xfo χ b k i n ^^^ χ (1000 + 256 * b + (16 * n + i)) := cif_t h
theorem xfo_out {χ : Nat → Nat} {b k i n : Nat} (h : ¬ (n ≠ k ∧ cov χ b n)) : xfo χ b k i (n + 1) = xfo χ b k i n := cif_f h
/-- what a block is when it was erased -/
def ers (χ : Nat → Nat) (b : Nat) : Nat → Nat := fun i => if 16 * b ≤ i ∧ i < 16 * b + 16 then 0 else if i = 100 + b then 0 else if i = 110 + b then χ i + 1 else χ i
/-- the power was cut while that page was programmed -/
def cuw (χ : Nat → Nat) (b k : Nat) : Nat → Nat := fun i => if i = 16 * b + k then 2 else if 8 ≤ k ∧ i = 16 * b + (k - 8) then 2 else χ i
/-- a page was programmed -/
def wrt (χ : Nat → Nat) (b k : Nat) (O : Nat → Nat) : Nat → Nat := fun i => if i = 16 * b + k then 1 else if 1000 + 256 * b + 16 * k ≤ i ∧ i < 1000 + 256 * b + 16 * k + 16 then O (i - (1000 + 256 * b + 16 * k)) else χ i
/-- the guard page's byte i out of the written lower pages below n -/
def gx (χ : Nat → Nat) (b i : Nat) : Nat → Nat
  | 0 => 0
  | n + 1 => if χ (16 * b + n) = 1 then gx χ b i n ^^^ χ (1000 + 256 * b + (16 * n + i)) else gx χ b i n
def gm (χ : Nat → Nat) (b : Nat) : Nat → Nat
  | 0 => 0
  | n + 1 => if χ (16 * b + n) = 1 then gm χ b n ||| 2 ^ n else gm χ b n
def gr (χ : Nat → Nat) (b n : Nat) : Nat → Nat := fun j => if j < 16 then gx χ b j n else if j = 16 then gm χ b n else 0
/-- the guard page was programmed -/
def wgd (χ : Nat → Nat) (b : Nat) : Nat → Nat := fun i => if i = 100 + b then 1 else if 200 + 17 * b ≤ i ∧ i < 217 + 17 * b then gr χ b 8 (i - (200 + 17 * b)) else χ i
theorem gm_lt (χ : Nat → Nat) (b : Nat) : ∀ n, n ≤ 8 → gm χ b n < 2 ^ n := by
  intro n
  induction n with
  | zero => intro _; exact Nat.one_pos
  | succ n ih =>
    intro hn
    have h := ih (by omega)
    simp only [gm]
    split
    · exact Nat.or_lt_two_pow (Nat.lt_of_lt_of_le h (Nat.pow_le_pow_right (by decide) (Nat.le_succ n))) (Nat.pow_lt_pow_right (by decide) (Nat.lt_succ_self n))
    · exact Nat.lt_of_lt_of_le h (Nat.pow_le_pow_right (by decide) (Nat.le_succ n))
