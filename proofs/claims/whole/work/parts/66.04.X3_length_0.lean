set_option maxHeartbeats 4000000 in
set_option maxRecDepth 100000 in
theorem c_X3_length_0 (l : Launch) (D : va_G) {cI : ClassId} (r : Nat → Nat) (th fp fa : Int32) (χ O : Nat → Nat) (cu fi ne ct on : Nat) (hon : on = 1) (k : Nat) (h1 : fi ≤ k) (hk2 : k < ne) (hne : ne < 65536) (hχ : ∀ i, χ i < 65536) (hwf : wfs χ) (hwO : wf O) (hh : hdo O ne) (sz : Nat) : Met l yX3_length wsX3_length ({ frames := 5, cells := 0, slots := 0, locals := 112 }) (va_Pc [.ref (r 0), .int (nI (k))] (x_U D (tyM cI) (wM cI r th fp fa χ (opn O) (O 0) (pl O (O 0)) cu fi ne ct on) sz)) (va_Qi (fun (x : Int32) (u : Int32 × Int32) => (¬ lost O χ k ∧ x = nI (lnF (row O χ k) k)) ∨ (lost O χ k ∧ x = mI 0)) (fun u t => x_E D (tyM cI) (va_A (wM cI r th fp fa χ (opn O) (O 0) (pl O (O 0)) cu fi ne ct on) sz) (wM cI r (nI 0) u.1 u.2 χ (opn O) (O 0) (pl O (O 0)) cu fi ne ct on) t) (va_A (wM cI r th fp fa χ (opn O) (O 0) (pl O (O 0)) cu fi ne ct on) sz)) 0 0 (va_A (wM cI r th fp fa χ (opn O) (O 0) (pl O (O 0)) cu fi ne ct on) sz) := by
  refine Met.ofW (cc := cX3_length) (maxL := 2) (ret := (some .int)) (by decide) rfl ?_
  intro p e s m args below meth c s₁ B hml hv
  obtain ⟨rfl, hsz, hN, hP, hK, hD0⟩ := hv
  have hx := B.exec
  have hb := B.bytes
  have hr := B.returns
  have hts := atoms_spec (ws := wsX3_length) B.pre
  have hown : s.vm.findClass RX3 = some m.cls := findClass_of_methodNamed B.named
  have hlocks := B.notSynchronized
  subst hsz
  have hD := hD0.self (sz := s.heap.size)
  generalize hAe : va_A (wM cI r th fp fa χ (opn O) (O 0) (pl O (O 0)) cu fi ne ct on) s.heap.size = A at hD ⊢
  have hA : ∀ q : Nat, s.heap.size ≤ q → A q := fun q h => by rw [← hAe]; exact Or.inr h
  obtain ⟨H, hH⟩ : ∃ H : Heap, s.heap = H := ⟨_, rfl⟩
  obtain ⟨locs, hlo⟩ : ∃ L : List Loc, ([] : List Loc) = L := ⟨_, rfl⟩
  have hS : va_S A s.heap H locs := by rw [← hH, ← hlo]; exact va_S.rf
  have hP : va_P D vwCl (wM cI r th fp fa χ (opn O) (O 0) (pl O (O 0)) cu fi ne ct on) H := hH ▸ hP
  rw [hH, hlo]
  have hiX3 : ∀ w ∈ u_ws RX3 TX3 16, w ∈ wsX3_length := by decide +kernel
  have hl := lv_entry ([.ref (r 0), .int (nI (k))]) (n := 2) (Nat.le_of_ble_eq_true rfl)
  rw [lg_entry_eq]
  generalize (lg_sl ([.ref (r 0), .int (nI (k))]) ++ List.replicate (2 - (lg_sl ([.ref (r 0), .int (nI (k))])).length) Slot.unset).toArray = ls at hl ⊢
  have hl : lv_has ls 2 [(0, .ref (r 0)), (1, .int (nI (k)))] := hl
  refine lv_aload_n hx hb dX3_length_0 rfl (lv_at hl 0 rfl) ?_
  refine lv_aload_n hx hb dX3_length_1 rfl (lv_at hl 0 rfl) ?_
  refine va_get (D := D) (ci := 3) (v := .int (nI (on))) (C := RX3) (T := TX3) (N := 16) hx hb hts hiX3 hown hK hP 0 rfl rfl 6 (by decide) (hts (.fieldLink RX3 25 "PairedCellsModel" "on" "Z") (by decide +kernel)) (fun _ h9 => h9) rfl dX3_length_2 ?_
  refine xz_ne (tgt := 12) hx hb dX3_length_5 (by decide) (nI_toInt (by omega)) (fun c_5 => ?_) (fun c_5 => ?_)
  · refine lv_iload_n hx hb dX3_length_12 rfl (lv_at hl 1 rfl) ?_
    refine lv_aload_n hx hb dX3_length_13 rfl (lv_at hl 0 rfl) ?_
    refine va_get (D := D) (ci := 3) (v := .int (nI (fi))) (C := RX3) (T := TX3) (N := 16) hx hb hts hiX3 hown hK hP 0 rfl rfl 9 (by decide) (hts (.fieldLink RX3 107 "PairedCellsModel" "least" "I") (by decide +kernel)) (fun _ h9 => h9) rfl dX3_length_14 ?_
    refine xi_lt (tgt := 28) hx hb dX3_length_17 (by decide) (nI_toInt (by omega)) (nI_toInt (by omega)) (fun c_17 => ?_) (fun c_17 => ?_)
    · exfalso; omega
    · refine lv_iload_n hx hb dX3_length_20 rfl (lv_at hl 1 rfl) ?_
      refine lv_aload_n hx hb dX3_length_21 rfl (lv_at hl 0 rfl) ?_
      refine va_get (D := D) (ci := 3) (v := .int (nI (ne))) (C := RX3) (T := TX3) (N := 16) hx hb hts hiX3 hown hK hP 0 rfl rfl 10 (by decide) (hts (.fieldLink RX3 73 "PairedCellsModel" "next" "I") (by decide +kernel)) (fun _ h9 => h9) rfl dX3_length_22 ?_
      refine xi_lt (tgt := 32) hx hb dX3_length_25 (by decide) (nI_toInt (by omega)) (nI_toInt (by omega)) (fun c_25 => ?_) (fun c_25 => ?_)
      · refine lv_iconst (v := nI 0) hx hb dX3_length_32 (by decide) ?_
        refine va_put (D := D) (ci := 3) (v := .int (nI (0))) (ty := .int) (C := RX3) (T := TX3) (N := 16) hx hb hts hiX3 tyX3 tyX3_ok nmX3 hown hK hP hD hS 0 rfl rfl 0 (by decide) (hts (.fieldLink RX3 36 "PairedCellsModel" "thrown" "I") (by decide +kernel)) (fun _ h9 => h9) rfl (by decide +kernel) rfl rfl (Nat.le_of_ble_eq_true rfl) dX3_length_33 (fun H locs hP hD hS => ?_)
        have hP : va_P D vwCl (wM cI r (nI (0)) fp fa χ (opn O) (O 0) (pl O (O 0)) cu fi ne ct on) H := hP
        have hD : va_D A (wM cI r (nI (0)) fp fa χ (opn O) (O 0) (pl O (O 0)) cu fi ne ct on) := hD
        refine lv_aload_n hx hb dX3_length_36 rfl (lv_at hl 0 rfl) ?_
        refine va_get (D := D) (ci := 3) (v := .int (nI (0))) (C := RX3) (T := TX3) (N := 16) hx hb hts hiX3 hown hK hP 0 rfl rfl 0 (by decide) (hts (.fieldLink RX3 36 "PairedCellsModel" "thrown" "I") (by decide +kernel)) (fun _ h9 => h9) rfl dX3_length_37 ?_
        refine xz_eq (tgt := 45) hx hb dX3_length_40 (by decide) (nI_toInt (by omega)) (fun c_40 => ?_) (fun c_40 => ?_)
        · refine lv_aload_n hx hb dX3_length_45 rfl (lv_at hl 0 rfl) ?_
          refine lv_iload_n hx hb dX3_length_46 rfl (lv_at hl 1 rfl) ?_
          have hF9 := x_hF (hD) hS hA
          refine xw_Vv (ci := 3) (rest := []) (As := [.int (nI (k))]) ⟨hx, hb, hml, hown, hts⟩ (c_X3_find l D r (nI 0) fp fa χ O cu fi ne ct on k hk2 hne hχ hwf hwO hh H.size) (cwV 1 hts gX3_length_X3_find rfl rfl rfl (by decide +kernel) ⟨Nat.le_of_ble_eq_true rfl, Nat.le_of_ble_eq_true rfl⟩) hN hK (hP) (hD) hS hA rfl 0 rfl rfl hl.1 rfl (Nat.le_of_ble_eq_true rfl) dX3_length_47 ⟨Nat.le_of_ble_eq_true rfl, Nat.le_of_ble_eq_true rfl⟩ (fun u_47 H1 locs hw_47 hP1 hD1 hDA hk9 hS => ?_)
          rcases hw_47 with ⟨hye, rfl⟩ | ⟨hno, hlt, rfl⟩ | ⟨hno, hlo, rfl⟩
          · have hP := hP1
            have hD := hDA
            generalize H1 = H at hP hS ⊢
            have hP : va_P D vwCl (wM cI r (nI (0)) (nI (96)) (nI (pl O (k - (256 * O 1 + O 2)))) χ (opn O) (O 0) (pl O (O 0)) cu fi ne ct on) H := hP
            have hD : va_D A (wM cI r (nI (0)) (nI (96)) (nI (pl O (k - (256 * O 1 + O 2)))) χ (opn O) (O 0) (pl O (O 0)) cu fi ne ct on) := hD
            refine lv_aload_n hx hb dX3_length_50 rfl (lv_at hl 0 rfl) ?_
            refine va_get (D := D) (ci := 3) (v := .int (nI (96))) (C := RX3) (T := TX3) (N := 16) hx hb hts hiX3 hown hK hP 0 rfl rfl 14 (by decide) (hts (.fieldLink RX3 110 "PairedCellsModel" "foundPage" "I") (by decide +kernel)) (fun _ h9 => h9) rfl dX3_length_51 ?_
            refine xz_ge (tgt := 61) hx hb dX3_length_54 (by decide) (nI_toInt (by omega)) (fun c_54 => ?_) (fun c_54 => ?_)
            · obtain ⟨hy0, hy1, hy2⟩ := id hye
              have hp9 := pl_lt hwO (show k - (256 * O 1 + O 2) < O 0 by omega)
              have hp3 := pl_three (O := O) (k - (256 * O 1 + O 2))
              have hp8 := hwO.2.2.2 (k - (256 * O 1 + O 2)) (by omega)
              refine lv_aload_n hx hb dX3_length_61 rfl (lv_at hl 0 rfl) ?_
              refine lv_aload_n hx hb dX3_length_62 rfl (lv_at hl 0 rfl) ?_
              refine va_get (D := D) (ci := 3) (v := .int (nI (pl O (k - (256 * O 1 + O 2))))) (C := RX3) (T := TX3) (N := 16) hx hb hts hiX3 hown hK hP 0 rfl rfl 15 (by decide) (hts (.fieldLink RX3 113 "PairedCellsModel" "foundAt" "I") (by decide +kernel)) (fun _ h9 => h9) rfl dX3_length_63 ?_
              refine xc_Vi (ci := 3) (rest := []) (As := [.int (nI (pl O (k - (256 * O 1 + O 2))))]) ⟨hx, hb, hml, hown, hts⟩ (c_X3_foundByte_o l D r (nI (0)) (nI (pl O (k - (256 * O 1 + O 2)))) χ O cu fi ne ct on (pl O (k - (256 * O 1 + O 2))) (by omega) (by omega)) (cwV 1 hts gX3_length_X3_foundByte rfl rfl rfl (by decide +kernel) ⟨Nat.le_of_ble_eq_true rfl, Nat.le_of_ble_eq_true rfl⟩) hN hK (hP) rfl 0 rfl rfl hl.1 rfl (Nat.le_of_ble_eq_true rfl) dX3_length_66 ⟨Nat.le_of_ble_eq_true rfl, Nat.le_of_ble_eq_true rfl⟩ (fun r_66 hw_66 => ?_)
              subst hw_66
              exact xf_i (post := fun (x : Int32) (u : Int32 × Int32) => (¬ lost O χ k ∧ x = nI (lnF (row O χ k) k)) ∨ (lost O χ k ∧ x = mI 0)) (w1 := fun (u : Int32 × Int32) => wM cI r (nI 0) u.1 u.2 χ (opn O) (O 0) (pl O (O 0)) cu fi ne ct on) (nI 96, nI (pl O (k - (256 * O 1 + O 2)))) hx hb hr hlocks (Or.inl ⟨fun h7 => h7.1 hye, by rw [row, cif_t hye]; rfl⟩) hP hK hD hS dX3_length_69
            · exfalso; omega
          · obtain ⟨hrd, hht⟩ := (hpg_spec χ k 96).2.2 hlt
            obtain ⟨b9, hb8⟩ : ∃ b, hpg χ k 96 / 16 = b := ⟨_, rfl⟩
            obtain ⟨k9, hk8⟩ : ∃ q, hpg χ k 96 % 16 = q := ⟨_, rfl⟩
            have hpe : hpg χ k 96 = 16 * b9 + k9 := by omega
            rw [hb8, hk8] at hrd hht hP1 hDA
            rw [hpe] at hP1 hDA
            have hb9 : b9 < 6 := by omega
            have hk9 : k9 < 16 := by omega
            have hw9 := hwf b9 k9 hb9 hk9 hrd
            obtain ⟨hh7, hh8, hh9⟩ := hht
            have hP := hP1
            have hD := hDA
            generalize H1 = H at hP hS ⊢
            have hP : va_P D vwCl (wM cI r (nI (0)) (nI (16 * b9 + k9)) (nI (pl (byt χ b9 k9) (k - (256 * byt χ b9 k9 1 + byt χ b9 k9 2)))) χ (opn O) (O 0) (pl O (O 0)) cu fi ne ct on) H := hP
            have hD : va_D A (wM cI r (nI (0)) (nI (16 * b9 + k9)) (nI (pl (byt χ b9 k9) (k - (256 * byt χ b9 k9 1 + byt χ b9 k9 2)))) χ (opn O) (O 0) (pl O (O 0)) cu fi ne ct on) := hD
            refine lv_aload_n hx hb dX3_length_50 rfl (lv_at hl 0 rfl) ?_
            refine va_get (D := D) (ci := 3) (v := .int (nI (16 * b9 + k9))) (C := RX3) (T := TX3) (N := 16) hx hb hts hiX3 hown hK hP 0 rfl rfl 14 (by decide) (hts (.fieldLink RX3 110 "PairedCellsModel" "foundPage" "I") (by decide +kernel)) (fun _ h9 => h9) rfl dX3_length_51 ?_
            refine xz_ge (tgt := 61) hx hb dX3_length_54 (by decide) (nI_toInt (by omega)) (fun c_54 => ?_) (fun c_54 => ?_)
            · have hp9 := pl_lt hw9 (show k - (256 * byt χ b9 k9 1 + byt χ b9 k9 2) < (byt χ b9 k9) 0 by omega)
              have hp3 := pl_three (O := (byt χ b9 k9)) (k - (256 * byt χ b9 k9 1 + byt χ b9 k9 2))
              have hp8 := hw9.2.2.2 (k - (256 * byt χ b9 k9 1 + byt χ b9 k9 2)) (by omega)
              refine lv_aload_n hx hb dX3_length_61 rfl (lv_at hl 0 rfl) ?_
              refine lv_aload_n hx hb dX3_length_62 rfl (lv_at hl 0 rfl) ?_
              refine va_get (D := D) (ci := 3) (v := .int (nI (pl (byt χ b9 k9) (k - (256 * byt χ b9 k9 1 + byt χ b9 k9 2))))) (C := RX3) (T := TX3) (N := 16) hx hb hts hiX3 hown hK hP 0 rfl rfl 15 (by decide) (hts (.fieldLink RX3 113 "PairedCellsModel" "foundAt" "I") (by decide +kernel)) (fun _ h9 => h9) rfl dX3_length_63 ?_
              refine xc_Vi (ci := 3) (rest := []) (As := [.int (nI (pl (byt χ b9 k9) (k - (256 * byt χ b9 k9 1 + byt χ b9 k9 2))))]) ⟨hx, hb, hml, hown, hts⟩ (c_X3_foundByte_p l D r (nI (0)) (nI (pl (byt χ b9 k9) (k - (256 * byt χ b9 k9 1 + byt χ b9 k9 2)))) χ O cu fi ne ct on b9 k9 hb9 hk9 hχ (pl (byt χ b9 k9) (k - (256 * byt χ b9 k9 1 + byt χ b9 k9 2))) (by omega) hrd) (cwV 1 hts gX3_length_X3_foundByte rfl rfl rfl (by decide +kernel) ⟨Nat.le_of_ble_eq_true rfl, Nat.le_of_ble_eq_true rfl⟩) hN hK (hP) rfl 0 rfl rfl hl.1 rfl (Nat.le_of_ble_eq_true rfl) dX3_length_66 ⟨Nat.le_of_ble_eq_true rfl, Nat.le_of_ble_eq_true rfl⟩ (fun r_66 hw_66 => ?_)
              subst hw_66
              exact xf_i (post := fun (x : Int32) (u : Int32 × Int32) => (¬ lost O χ k ∧ x = nI (lnF (row O χ k) k)) ∨ (lost O χ k ∧ x = mI 0)) (w1 := fun (u : Int32 × Int32) => wM cI r (nI 0) u.1 u.2 χ (opn O) (O 0) (pl O (O 0)) cu fi ne ct on) (nI (16 * b9 + k9), nI (pl (byt χ b9 k9) (k - (256 * byt χ b9 k9 1 + byt χ b9 k9 2)))) hx hb hr hlocks (Or.inl ⟨fun h7 => absurd h7.2 (by omega), by rw [row, cif_f hno, hb8, hk8]; rfl⟩) hP hK hD hS dX3_length_69
            · exfalso; omega
          · have hP := hP1
            have hD := hDA
            generalize H1 = H at hP hS ⊢
            have hP : va_P D vwCl (wM cI r (nI (0)) (mI (0)) (nI (3)) χ (opn O) (O 0) (pl O (O 0)) cu fi ne ct on) H := hP
            have hD : va_D A (wM cI r (nI (0)) (mI (0)) (nI (3)) χ (opn O) (O 0) (pl O (O 0)) cu fi ne ct on) := hD
            refine lv_aload_n hx hb dX3_length_50 rfl (lv_at hl 0 rfl) ?_
            refine va_get (D := D) (ci := 3) (v := .int (mI (0))) (C := RX3) (T := TX3) (N := 16) hx hb hts hiX3 hown hK hP 0 rfl rfl 14 (by decide) (hts (.fieldLink RX3 110 "PairedCellsModel" "foundPage" "I") (by decide +kernel)) (fun _ h9 => h9) rfl dX3_length_51 ?_
            refine xz_ge (tgt := 61) hx hb dX3_length_54 (by decide) (mI_toInt (by omega)) (fun c_54 => ?_) (fun c_54 => ?_)
            · exfalso; omega
            · refine lv_iconst (v := mI 0) hx hb dX3_length_57 (by decide) ?_
              refine lv_goto (tgt := 69) hx hb dX3_length_58 (by decide) ?_
              exact xf_i (post := fun (x : Int32) (u : Int32 × Int32) => (¬ lost O χ k ∧ x = nI (lnF (row O χ k) k)) ∨ (lost O χ k ∧ x = mI 0)) (w1 := fun (u : Int32 × Int32) => wM cI r (nI 0) u.1 u.2 χ (opn O) (O 0) (pl O (O 0)) cu fi ne ct on) (mI 0, nI 3) hx hb hr hlocks (Or.inr ⟨⟨hno, hlo⟩, rfl⟩) hP hK hD hS dX3_length_69
        · exfalso; omega
      · exfalso; omega
  · exfalso; omega
