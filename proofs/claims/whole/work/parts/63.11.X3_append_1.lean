/-- the row with one event more: its places -/
theorem pl_mono {O : Nat → Nat} : ∀ i, pl O i < pl O (i + 1) := fun i => by
  show pl O i < pl O i + 1 + O (pl O i)
  omega
theorem pl_lt_of {O : Nat → Nat} {i : Nat} : ∀ n, i < n → pl O i + 1 ≤ pl O n := by
  intro n
  induction n with
  | zero => intro q9; exact absurd q9 (Nat.not_lt_zero i)
  | succ n ih =>
    intro q9
    have q8 := pl_mono (O := O) n
    rcases Nat.lt_succ_iff_lt_or_eq.mp q9 with q7 | q7
    · have q6 := ih q7; omega
    · subst q7; omega
theorem pl_three {O : Nat → Nat} : ∀ i, 3 ≤ pl O i := by
  intro i
  induction i with
  | zero => exact Nat.le_refl 3
  | succ i ih => have q8 := pl_mono (O := O) i; omega
theorem pl_adO {O : Nat → Nat} {num n : Nat} {w : Int64} : ∀ i, i ≤ O 0 → pl (adO O num n w) i = pl O i := by
  intro i
  induction i with
  | zero => intro _; rfl
  | succ i ih =>
    intro q9
    have q8 := pl_lt_of (O := O) (i := i) (O 0) (by omega)
    have q7 := pl_three (O := O) i
    show pl (adO O num n w) i + 1 + adO O num n w (pl (adO O num n w) i) = pl O i + 1 + O (pl O i)
    rw [ih (by omega)]
    simp only [adJ]
    rw [if_neg (by omega), if_neg (by omega), if_neg (by omega), if_neg (by omega), if_neg (by omega)]
theorem adO_hd {O : Nat → Nat} {num n : Nat} {w : Int64} : adO O num n w 0 = O 0 + 1 := if_pos rfl
theorem pl_adE {O : Nat → Nat} {num n : Nat} {w : Int64} : pl (adO O num n w) (adO O num n w 0) = pl O (O 0) + 1 + n := by
  have q7 := pl_three (O := O) (O 0)
  rw [adO_hd]
  show pl (adO O num n w) (O 0) + 1 + adO O num n w (pl (adO O num n w) (O 0)) = _
  rw [pl_adO (O 0) (Nat.le_refl _)]
  simp only [adJ]
  rw [if_neg (by omega), if_neg (by omega), if_neg (by omega), if_pos trivial]

set_option maxHeartbeats 4000000 in
set_option maxRecDepth 100000 in
theorem c_X3_append_1 (l : Launch) (D : va_G) {cI : ClassId} (r : Nat → Nat) (th fp fa : Int32) (χ O : Nat → Nat) (cu fi ne ct on : Nat) (hon : on = 0) (x : Int32) (w : Int64) (sz : Nat) : Met l yX3_append wsX3_append ({ frames := 0, cells := 0, slots := 0, locals := 0 }) (va_Pc [.ref (r 0), .int (x), .long (w)] (x_U D (tyM cI) (wM cI r th fp fa χ (opn O) (O 0) (pl O (O 0)) cu fi ne ct on) sz)) (va_Qi (fun (x : Int32) (u : Unit) => True) (fun u t => x_E D (tyM cI) (va_A (wM cI r th fp fa χ (opn O) (O 0) (pl O (O 0)) cu fi ne ct on) sz) (wM cI r (nI (1)) fp fa χ (opn O) (O 0) (pl O (O 0)) cu fi ne ct on) t) (va_A (wM cI r th fp fa χ (opn O) (O 0) (pl O (O 0)) cu fi ne ct on) sz)) 0 0 (va_A (wM cI r th fp fa χ (opn O) (O 0) (pl O (O 0)) cu fi ne ct on) sz) := by
  refine Met.ofW (cc := cX3_append) (maxL := 5) (ret := (some .int)) (by decide) rfl ?_
  intro p e s m args below meth c s₁ B hml hv
  obtain ⟨rfl, hsz, hN, hP, hK, hD0⟩ := hv
  have hx := B.exec
  have hb := B.bytes
  have hr := B.returns
  have hts := atoms_spec (ws := wsX3_append) B.pre
  have hown : s.vm.findClass RX3 = some m.cls := findClass_of_methodNamed B.named
  have hlocks := B.notSynchronized
  subst hsz
  have hD := hD0.self (sz := s.heap.size)
  generalize hAe : va_A (wM cI r th fp fa χ (opn O) (O 0) (pl O (O 0)) cu fi ne ct on) s.heap.size = A at hD ⊢
  have hA : ∀ q : Nat, s.heap.size ≤ q → A q := fun q h => by rw [← hAe]; exact Or.inr h
  obtain ⟨H, hH⟩ : ∃ H : Heap, s.heap = H := ⟨_, rfl⟩
  obtain ⟨locs, hlo⟩ : ∃ L : List Loc, ([] : List Loc) = L := ⟨_, rfl⟩
  have hS : va_S A s.heap H locs := by rw [← hH, ← hlo]; exact va_S.rf
  have hP : va_P D vwCl (wM cI r th fp fa χ (opn O) (O 0) (pl O (O 0)) cu fi ne ct on) H := hH ▸ hP
  rw [hH, hlo]
  have hiX3 : ∀ w ∈ u_ws RX3 TX3 16, w ∈ wsX3_append := by decide +kernel
  have hl := lv_entry ([.ref (r 0), .int (x), .long (w)]) (n := 5) (Nat.le_of_ble_eq_true rfl)
  rw [lg_entry_eq]
  generalize (lg_sl ([.ref (r 0), .int (x), .long (w)]) ++ List.replicate (5 - (lg_sl ([.ref (r 0), .int (x), .long (w)])).length) Slot.unset).toArray = ls at hl ⊢
  have hl : lv_has ls 5 [(0, .ref (r 0)), (1, .int (x)), (2, .long (w))] := hl
  refine lv_aload_n hx hb dX3_append_0 rfl (lv_at hl 0 rfl) ?_
  refine lv_aload_n hx hb dX3_append_1 rfl (lv_at hl 0 rfl) ?_
  refine va_get (D := D) (ci := 3) (v := .int (nI (on))) (C := RX3) (T := TX3) (N := 16) hx hb hts hiX3 hown hK hP 0 rfl rfl 6 (by decide) (hts (.fieldLink RX3 25 "PairedCellsModel" "on" "Z") (by decide +kernel)) (fun _ h9 => h9) rfl dX3_append_2 ?_
  refine xz_ne (tgt := 12) hx hb dX3_append_5 (by decide) (nI_toInt (by omega)) (fun c_5 => ?_) (fun c_5 => ?_)
  · exfalso; omega
  · refine lv_iconst (v := nI 1) hx hb dX3_append_8 (by decide) ?_
    refine lv_goto (tgt := 28) hx hb dX3_append_9 (by decide) ?_
    refine va_put (D := D) (ci := 3) (v := .int (nI (1))) (ty := .int) (C := RX3) (T := TX3) (N := 16) hx hb hts hiX3 tyX3 tyX3_ok nmX3 hown hK hP hD hS 0 rfl rfl 0 (by decide) (hts (.fieldLink RX3 36 "PairedCellsModel" "thrown" "I") (by decide +kernel)) (fun _ h9 => h9) rfl (by decide +kernel) rfl rfl (Nat.le_of_ble_eq_true rfl) dX3_append_28 (fun H locs hP hD hS => ?_)
    have hP : va_P D vwCl (wM cI r (nI (1)) fp fa χ (opn O) (O 0) (pl O (O 0)) cu fi ne ct on) H := hP
    have hD : va_D A (wM cI r (nI (1)) fp fa χ (opn O) (O 0) (pl O (O 0)) cu fi ne ct on) := hD
    refine lv_aload_n hx hb dX3_append_31 rfl (lv_at hl 0 rfl) ?_
    refine va_get (D := D) (ci := 3) (v := .int (nI (1))) (C := RX3) (T := TX3) (N := 16) hx hb hts hiX3 hown hK hP 0 rfl rfl 0 (by decide) (hts (.fieldLink RX3 36 "PairedCellsModel" "thrown" "I") (by decide +kernel)) (fun _ h9 => h9) rfl dX3_append_32 ?_
    refine xz_eq (tgt := 40) hx hb dX3_append_35 (by decide) (nI_toInt (by omega)) (fun c_35 => ?_) (fun c_35 => ?_)
    · exfalso; omega
    · refine lv_iconst (v := nI 0) hx hb dX3_append_38 (by decide) ?_
      exact xf_i (post := fun (x : Int32) (u : Unit) => True) (w1 := fun (u : Unit) => wM cI r (nI (1)) fp fa χ (opn O) (O 0) (pl O (O 0)) cu fi ne ct on) () hx hb hr hlocks (trivial) hP hK hD hS dX3_append_39
