set_option maxHeartbeats 4000000 in
set_option maxRecDepth 100000 in
theorem c_X3_ruin_0 (l : Launch) (D : va_G) {cI : ClassId} (r : Nat → Nat) (th fp fa : Int32) (χ O : Nat → Nat) (cu fi ne ct on : Nat) (b k u9 : Nat) (hb6 : b < 6) (hk8 : k < 8) (hu : u9 < 2) (hχ : ∀ i, χ i < 65536) (sz : Nat) : Met l yX3_ruin wsX3_ruin ({ frames := 1, cells := 0, slots := 0, locals := 22 }) (va_Pc [.ref (r 0), .int (nI (b)), .int (nI (k)), .int (nI (u9))] (x_U D (tyM cI) (wM cI r th fp fa χ (opn O) (O 0) (pl O (O 0)) cu fi ne ct on) sz)) (va_Qi (fun (x : Int32) (u : Nat → Nat) => (x = nI 1 ∧ χ (16 * b + plo k u9) = 1 ∧ u = up χ (16 * b + plo k u9) 2) ∨ (x = nI 0 ∧ χ (16 * b + plo k u9) ≠ 1 ∧ u = χ)) (fun u t => x_E D (tyM cI) (va_A (wM cI r th fp fa χ (opn O) (O 0) (pl O (O 0)) cu fi ne ct on) sz) (wM cI r (nI (0)) fp fa u (opn O) (O 0) (pl O (O 0)) cu fi ne ct on) t) (va_A (wM cI r th fp fa χ (opn O) (O 0) (pl O (O 0)) cu fi ne ct on) sz)) 0 0 (va_A (wM cI r th fp fa χ (opn O) (O 0) (pl O (O 0)) cu fi ne ct on) sz) := by
  refine Met.ofW (cc := cX3_ruin) (maxL := 4) (ret := (some .boolean)) (by decide) rfl ?_
  intro p e s m args below meth c s₁ B hml hv
  obtain ⟨rfl, hsz, hN, hP, hK, hD0⟩ := hv
  have hx := B.exec
  have hb := B.bytes
  have hr := B.returns
  have hts := atoms_spec (ws := wsX3_ruin) B.pre
  have hown : s.vm.findClass RX3 = some m.cls := findClass_of_methodNamed B.named
  have hlocks := B.notSynchronized
  subst hsz
  have hD := hD0.self (sz := s.heap.size)
  generalize hAe : va_A (wM cI r th fp fa χ (opn O) (O 0) (pl O (O 0)) cu fi ne ct on) s.heap.size = A at hD ⊢
  have hA : ∀ q : Nat, s.heap.size ≤ q → A q := fun q h => by rw [← hAe]; exact Or.inr h
  obtain ⟨H, hH⟩ : ∃ H : Heap, s.heap = H := ⟨_, rfl⟩
  obtain ⟨locs, hlo⟩ : ∃ L : List Loc, ([] : List Loc) = L := ⟨_, rfl⟩
  have hS : va_S A s.heap H locs := by rw [← hH, ← hlo]; exact va_S.rf
  have hP : va_P D vwCl (wM cI r th fp fa χ (opn O) (O 0) (pl O (O 0)) cu fi ne ct on) H := hH ▸ hP
  rw [hH, hlo]
  have hiX3 : ∀ w ∈ u_ws RX3 TX3 16, w ∈ wsX3_ruin := by decide +kernel
  have hl := lv_entry ([.ref (r 0), .int (nI (b)), .int (nI (k)), .int (nI (u9))]) (n := 4) (Nat.le_of_ble_eq_true rfl)
  rw [lg_entry_eq]
  generalize (lg_sl ([.ref (r 0), .int (nI (b)), .int (nI (k)), .int (nI (u9))]) ++ List.replicate (4 - (lg_sl ([.ref (r 0), .int (nI (b)), .int (nI (k)), .int (nI (u9))])).length) Slot.unset).toArray = ls at hl ⊢
  have hl : lv_has ls 4 [(0, .ref (r 0)), (1, .int (nI (b))), (2, .int (nI (k))), (3, .int (nI (u9)))] := hl
  have hpl : plo k u9 < 16 := by unfold plo; split <;> omega
  refine lv_aload_n hx hb dX3_ruin_0 rfl (lv_at hl 0 rfl) ?_
  refine lv_iload_n hx hb dX3_ruin_1 rfl (lv_at hl 1 rfl) ?_
  refine lv_iload_n hx hb dX3_ruin_2 rfl (lv_at hl 2 rfl) ?_
  refine xc_Si (rest := [.ref (r 0)]) (As := [.int (nI (b)), .int (nI (k))]) ⟨hx, hb, hml, hown, hts⟩ (c_X3_noPage_0 l D b k hb6 hk8) (va_cwS 2 hts gX3_ruin_X3_noPage rfl rfl rfl (by decide +kernel) ⟨Nat.le_of_ble_eq_true rfl, Nat.le_of_ble_eq_true rfl⟩) hN hK (va_P_nil) rfl hl.1 rfl (Nat.le_of_ble_eq_true rfl) dX3_ruin_3 ⟨Nat.le_of_ble_eq_true rfl, Nat.le_of_ble_eq_true rfl⟩ (fun r_3 hw_3 => ?_)
  subst hw_3
  refine xz_eq (tgt := 13) hx hb dX3_ruin_6 (by decide) (nI_toInt (by omega)) (fun c_6 => ?_) (fun c_6 => ?_)
  · refine lv_iconst (v := nI 0) hx hb dX3_ruin_13 (by decide) ?_
    refine va_put (D := D) (ci := 3) (v := .int (nI (0))) (ty := .int) (C := RX3) (T := TX3) (N := 16) hx hb hts hiX3 tyX3 tyX3_ok nmX3 hown hK hP hD hS 0 rfl rfl 0 (by decide) (hts (.fieldLink RX3 36 "PairedCellsModel" "thrown" "I") (by decide +kernel)) (fun _ h9 => h9) rfl (by decide +kernel) rfl rfl (Nat.le_of_ble_eq_true rfl) dX3_ruin_14 (fun H locs hP hD hS => ?_)
    have hP : va_P D vwCl (wM cI r (nI (0)) fp fa χ (opn O) (O 0) (pl O (O 0)) cu fi ne ct on) H := hP
    have hD : va_D A (wM cI r (nI (0)) fp fa χ (opn O) (O 0) (pl O (O 0)) cu fi ne ct on) := hD
    refine lv_aload_n hx hb dX3_ruin_17 rfl (lv_at hl 0 rfl) ?_
    refine va_get (D := D) (ci := 3) (v := .int (nI (0))) (C := RX3) (T := TX3) (N := 16) hx hb hts hiX3 hown hK hP 0 rfl rfl 0 (by decide) (hts (.fieldLink RX3 36 "PairedCellsModel" "thrown" "I") (by decide +kernel)) (fun _ h9 => h9) rfl dX3_ruin_18 ?_
    refine xz_ne (tgt := 39) hx hb dX3_ruin_21 (by decide) (nI_toInt (by omega)) (fun c_21 => ?_) (fun c_21 => ?_)
    · exfalso; omega
    · refine lv_aload_n hx hb dX3_ruin_24 rfl (lv_at hl 0 rfl) ?_
      refine va_get (D := D) (ci := 3) (v := .ref (r 1)) (C := RX3) (T := TX3) (N := 16) hx hb hts hiX3 hown hK hP 0 rfl rfl 1 (by decide) (hts (.fieldLink RX3 7 "PairedCellsModel" "states" "[I") (by decide +kernel)) (fun _ h9 => h9) rfl dX3_ruin_25 ?_
      refine lv_iload_n hx hb dX3_ruin_28 rfl (lv_at hl 1 rfl) ?_
      refine lv_iload_n hx hb dX3_ruin_29 rfl (lv_at hl 2 rfl) ?_
      refine lv_iload_n hx hb dX3_ruin_30 rfl (lv_at hl 3 rfl) ?_
      refine xc_Si (rest := [.ref (r 1)]) (As := [.int (nI (b)), .int (nI (k)), .int (nI (u9))]) ⟨hx, hb, hml, hown, hts⟩ (c_X3_place_0 l D b k u9 hb6 hk8 hu) (va_cwS 3 hts gX3_ruin_X3_place rfl rfl rfl (by decide +kernel) ⟨Nat.le_of_ble_eq_true rfl, Nat.le_of_ble_eq_true rfl⟩) hN hK (va_P_nil) rfl hl.1 rfl (Nat.le_of_ble_eq_true rfl) dX3_ruin_31 ⟨Nat.le_of_ble_eq_true rfl, Nat.le_of_ble_eq_true rfl⟩ (fun r_31 hw_31 => ?_)
      subst hw_31
      refine xr_iald hx hb hK hP 1 0 rfl rfl (by omega) (by decide) dX3_ruin_34 ?_
      have hb_34 := hχ (16 * b + plo k u9)
      refine lv_iconst (v := nI 1) hx hb dX3_ruin_35 (by decide) ?_
      refine xi_eq (tgt := 41) hx hb dX3_ruin_36 (by decide) (nI_toInt (by omega)) (nI_toInt (by omega)) (fun c_36 => ?_) (fun c_36 => ?_)
      · refine lv_aload_n hx hb dX3_ruin_41 rfl (lv_at hl 0 rfl) ?_
        refine va_get (D := D) (ci := 3) (v := .ref (r 1)) (C := RX3) (T := TX3) (N := 16) hx hb hts hiX3 hown hK hP 0 rfl rfl 1 (by decide) (hts (.fieldLink RX3 7 "PairedCellsModel" "states" "[I") (by decide +kernel)) (fun _ h9 => h9) rfl dX3_ruin_42 ?_
        refine lv_iload_n hx hb dX3_ruin_45 rfl (lv_at hl 1 rfl) ?_
        refine lv_iload_n hx hb dX3_ruin_46 rfl (lv_at hl 2 rfl) ?_
        refine lv_iload_n hx hb dX3_ruin_47 rfl (lv_at hl 3 rfl) ?_
        refine xc_Si (rest := [.ref (r 1)]) (As := [.int (nI (b)), .int (nI (k)), .int (nI (u9))]) ⟨hx, hb, hml, hown, hts⟩ (c_X3_place_0 l D b k u9 hb6 hk8 hu) (va_cwS 3 hts gX3_ruin_X3_place rfl rfl rfl (by decide +kernel) ⟨Nat.le_of_ble_eq_true rfl, Nat.le_of_ble_eq_true rfl⟩) hN hK (va_P_nil) rfl hl.1 rfl (Nat.le_of_ble_eq_true rfl) dX3_ruin_48 ⟨Nat.le_of_ble_eq_true rfl, Nat.le_of_ble_eq_true rfl⟩ (fun r_48 hw_48 => ?_)
        subst hw_48
        refine lv_iconst (v := nI 2) hx hb dX3_ruin_51 (by decide) ?_
        refine xr_iast hx hb hK hP hD hS 1 0 rfl rfl (by omega) (by decide) dX3_ruin_52 (fun H locs hP hD hS => ?_)
        have hP : va_P D vwCl (mX cI r (nI (0)) fp fa (up (fun j => χ j) (16 * b + plo k u9) (2)) (fun j => χ (1000 + j)) (fun j => χ (100 + j)) (fun j => χ (200 + j)) (fun j => χ (110 + j)) (opn O) (O 0) (pl O (O 0)) cu fi ne ct on) H := hP
        have hD : va_D A (mX cI r (nI (0)) fp fa (up (fun j => χ j) (16 * b + plo k u9) (2)) (fun j => χ (1000 + j)) (fun j => χ (100 + j)) (fun j => χ (200 + j)) (fun j => χ (110 + j)) (opn O) (O 0) (pl O (O 0)) cu fi ne ct on) := hD
        refine lv_iconst (v := nI 1) hx hb dX3_ruin_53 (by decide) ?_
        have hq9 : (mX cI r (nI (0)) fp fa (up (fun j => χ j) (16 * b + plo k u9) (2)) (fun j => χ (1000 + j)) (fun j => χ (100 + j)) (fun j => χ (200 + j)) (fun j => χ (110 + j)) (opn O) (O 0) (pl O (O 0)) cu fi ne ct on : va_W) = wM cI r (nI (0)) fp fa (up χ (16 * b + plo k u9) 2) (opn O) (O 0) (pl O (O 0)) cu fi ne ct on := (wM_eq (fun j hj => (by first | rfl | exact (by simp only [up]; (repeat' split) <;> first | rfl | omega | (exfalso; omega) | (congr 1; omega)))) (fun j hj => (by first | rfl | exact (by simp only [up]; (repeat' split) <;> first | rfl | omega | (exfalso; omega) | (congr 1; omega)))) (fun j hj => (by first | rfl | exact (by simp only [up]; (repeat' split) <;> first | rfl | omega | (exfalso; omega) | (congr 1; omega)))) (fun j hj => (by first | rfl | exact (by simp only [up]; (repeat' split) <;> first | rfl | omega | (exfalso; omega) | (congr 1; omega)))) (fun j hj => (by first | rfl | exact (by simp only [up]; (repeat' split) <;> first | rfl | omega | (exfalso; omega) | (congr 1; omega)))) (fun j hj => rfl))
        exact xf_z (post := fun (x : Int32) (u : Nat → Nat) => (x = nI 1 ∧ χ (16 * b + plo k u9) = 1 ∧ u = up χ (16 * b + plo k u9) 2) ∨ (x = nI 0 ∧ χ (16 * b + plo k u9) ≠ 1 ∧ u = χ)) (w1 := fun (u : Nat → Nat) => wM cI r (nI (0)) fp fa u (opn O) (O 0) (pl O (O 0)) cu fi ne ct on) (up χ (16 * b + plo k u9) 2) hx hb hr hlocks rfl (Or.inl ⟨rfl, by omega, rfl⟩) (va_P.eqw hq9 hP) hK (va_D.eqw hq9 hD) hS dX3_ruin_54
      · refine lv_iconst (v := nI 0) hx hb dX3_ruin_39 (by decide) ?_
        exact xf_z (post := fun (x : Int32) (u : Nat → Nat) => (x = nI 1 ∧ χ (16 * b + plo k u9) = 1 ∧ u = up χ (16 * b + plo k u9) 2) ∨ (x = nI 0 ∧ χ (16 * b + plo k u9) ≠ 1 ∧ u = χ)) (w1 := fun (u : Nat → Nat) => wM cI r (nI (0)) fp fa u (opn O) (O 0) (pl O (O 0)) cu fi ne ct on) χ hx hb hr hlocks rfl (Or.inr ⟨rfl, by omega, rfl⟩) hP hK hD hS dX3_ruin_40
  · exfalso; omega
