set_option maxHeartbeats 4000000 in
set_option maxRecDepth 100000 in
theorem c_X3_guard_1 (l : Launch) (D : va_G) {cI : ClassId} (r : Nat → Nat) (th fp fa : Int32) (χ O : Nat → Nat) (cu fi ne ct on : Nat) (x : Int32) (hx7 : x.toInt < 0 ∨ 5 < x.toInt) (sz : Nat) : Met l yX3_guard wsX3_guard ({ frames := 0, cells := 0, slots := 0, locals := 0 }) (va_Pc [.ref (r 0), .int (x)] (x_U D (tyM cI) (wM cI r th fp fa χ (opn O) (O 0) (pl O (O 0)) cu fi ne ct on) sz)) (va_Qi (fun (x : Int32) (u : Unit) => True) (fun u t => x_E D (tyM cI) (va_A (wM cI r th fp fa χ (opn O) (O 0) (pl O (O 0)) cu fi ne ct on) sz) (wM cI r (nI (1)) fp fa χ (opn O) (O 0) (pl O (O 0)) cu fi ne ct on) t) (va_A (wM cI r th fp fa χ (opn O) (O 0) (pl O (O 0)) cu fi ne ct on) sz)) 0 0 (va_A (wM cI r th fp fa χ (opn O) (O 0) (pl O (O 0)) cu fi ne ct on) sz) := by
  refine Met.ofW (cc := cX3_guard) (maxL := 2) (ret := (some .int)) (by decide) rfl ?_
  intro p e s m args below meth c s₁ B hml hv
  obtain ⟨rfl, hsz, hN, hP, hK, hD0⟩ := hv
  have hx := B.exec
  have hb := B.bytes
  have hr := B.returns
  have hts := atoms_spec (ws := wsX3_guard) B.pre
  have hown : s.vm.findClass RX3 = some m.cls := findClass_of_methodNamed B.named
  have hlocks := B.notSynchronized
  subst hsz
  have hD := hD0.self (sz := s.heap.size)
  generalize hAe : va_A (wM cI r th fp fa χ (opn O) (O 0) (pl O (O 0)) cu fi ne ct on) s.heap.size = A at hD ⊢
  have hA : ∀ q : Nat, s.heap.size ≤ q → A q := fun q h => by rw [← hAe]; exact Or.inr h
  obtain ⟨H, hH⟩ : ∃ H : Heap, s.heap = H := ⟨_, rfl⟩
  obtain ⟨locs, hlo⟩ : ∃ L : List Loc, ([] : List Loc) = L := ⟨_, rfl⟩
  have hS : va_S A s.heap H locs := by rw [← hH, ← hlo]; exact va_S.rf
  have hP : va_P D vwCl (wM cI r th fp fa χ (opn O) (O 0) (pl O (O 0)) cu fi ne ct on) H := hH ▸ hP
  rw [hH, hlo]
  have hiX3 : ∀ w ∈ u_ws RX3 TX3 16, w ∈ wsX3_guard := by decide +kernel
  have hl := lv_entry ([.ref (r 0), .int (x)]) (n := 2) (Nat.le_of_ble_eq_true rfl)
  rw [lg_entry_eq]
  generalize (lg_sl ([.ref (r 0), .int (x)]) ++ List.replicate (2 - (lg_sl ([.ref (r 0), .int (x)])).length) Slot.unset).toArray = ls at hl ⊢
  have hl : lv_has ls 2 [(0, .ref (r 0)), (1, .int (x))] := hl
  refine lv_aload_n hx hb dX3_guard_0 rfl (lv_at hl 0 rfl) ?_
  refine lv_iload_n hx hb dX3_guard_1 rfl (lv_at hl 1 rfl) ?_
  refine xz_lt (tgt := 10) hx hb dX3_guard_2 (by decide) rfl (fun c_2 => ?_) (fun c_2 => ?_)
  · refine lv_iconst (v := nI 1) hx hb dX3_guard_10 (by decide) ?_
    refine lv_goto (tgt := 15) hx hb dX3_guard_11 (by decide) ?_
    refine va_put (D := D) (ci := 3) (v := .int (nI (1))) (ty := .int) (C := RX3) (T := TX3) (N := 16) hx hb hts hiX3 tyX3 tyX3_ok nmX3 hown hK hP hD hS 0 rfl rfl 0 (by decide) (hts (.fieldLink RX3 36 "PairedCellsModel" "thrown" "I") (by decide +kernel)) (fun _ h9 => h9) rfl (by decide +kernel) rfl rfl (Nat.le_of_ble_eq_true rfl) dX3_guard_15 (fun H locs hP hD hS => ?_)
    have hP : va_P D vwCl (wM cI r (nI (1)) fp fa χ (opn O) (O 0) (pl O (O 0)) cu fi ne ct on) H := hP
    have hD : va_D A (wM cI r (nI (1)) fp fa χ (opn O) (O 0) (pl O (O 0)) cu fi ne ct on) := hD
    refine lv_aload_n hx hb dX3_guard_18 rfl (lv_at hl 0 rfl) ?_
    refine va_get (D := D) (ci := 3) (v := .int (nI (1))) (C := RX3) (T := TX3) (N := 16) hx hb hts hiX3 hown hK hP 0 rfl rfl 0 (by decide) (hts (.fieldLink RX3 36 "PairedCellsModel" "thrown" "I") (by decide +kernel)) (fun _ h9 => h9) rfl dX3_guard_19 ?_
    refine xz_ne (tgt := 34) hx hb dX3_guard_22 (by decide) (nI_toInt (by omega)) (fun c_22 => ?_) (fun c_22 => ?_)
    · refine lv_iconst (v := nI 0) hx hb dX3_guard_34 (by decide) ?_
      exact xf_i (post := fun (x : Int32) (u : Unit) => True) (w1 := fun (u : Unit) => wM cI r (nI (1)) fp fa χ (opn O) (O 0) (pl O (O 0)) cu fi ne ct on) () hx hb hr hlocks (trivial) hP hK hD hS dX3_guard_35
    · exfalso; omega
  · refine lv_iload_n hx hb dX3_guard_5 rfl (lv_at hl 1 rfl) ?_
    refine lv_iconst (v := nI 5) hx hb dX3_guard_6 (by decide) ?_
    refine xi_le (tgt := 14) hx hb dX3_guard_7 (by decide) rfl (nI_toInt (by omega)) (fun c_7 => ?_) (fun c_7 => ?_)
    · exfalso; omega
    · refine lv_iconst (v := nI 1) hx hb dX3_guard_10 (by decide) ?_
      refine lv_goto (tgt := 15) hx hb dX3_guard_11 (by decide) ?_
      refine va_put (D := D) (ci := 3) (v := .int (nI (1))) (ty := .int) (C := RX3) (T := TX3) (N := 16) hx hb hts hiX3 tyX3 tyX3_ok nmX3 hown hK hP hD hS 0 rfl rfl 0 (by decide) (hts (.fieldLink RX3 36 "PairedCellsModel" "thrown" "I") (by decide +kernel)) (fun _ h9 => h9) rfl (by decide +kernel) rfl rfl (Nat.le_of_ble_eq_true rfl) dX3_guard_15 (fun H locs hP hD hS => ?_)
      have hP : va_P D vwCl (wM cI r (nI (1)) fp fa χ (opn O) (O 0) (pl O (O 0)) cu fi ne ct on) H := hP
      have hD : va_D A (wM cI r (nI (1)) fp fa χ (opn O) (O 0) (pl O (O 0)) cu fi ne ct on) := hD
      refine lv_aload_n hx hb dX3_guard_18 rfl (lv_at hl 0 rfl) ?_
      refine va_get (D := D) (ci := 3) (v := .int (nI (1))) (C := RX3) (T := TX3) (N := 16) hx hb hts hiX3 hown hK hP 0 rfl rfl 0 (by decide) (hts (.fieldLink RX3 36 "PairedCellsModel" "thrown" "I") (by decide +kernel)) (fun _ h9 => h9) rfl dX3_guard_19 ?_
      refine xz_ne (tgt := 34) hx hb dX3_guard_22 (by decide) (nI_toInt (by omega)) (fun c_22 => ?_) (fun c_22 => ?_)
      · refine lv_iconst (v := nI 0) hx hb dX3_guard_34 (by decide) ?_
        exact xf_i (post := fun (x : Int32) (u : Unit) => True) (w1 := fun (u : Unit) => wM cI r (nI (1)) fp fa χ (opn O) (O 0) (pl O (O 0)) cu fi ne ct on) () hx hb hr hlocks (trivial) hP hK hD hS dX3_guard_35
      · exfalso; omega
