set_option maxHeartbeats 4000000 in
set_option maxRecDepth 100000 in
theorem c_X3_event_0 (l : Launch) (D : va_G) {cI : ClassId} (r : Nat → Nat) (th fp fa : Int32) (χ O : Nat → Nat) (cu fi ne ct on : Nat) (hon : on = 1) (k : Nat) (h1 : fi ≤ k) (hk2 : k < ne) (hne : ne < 65536) (hχ : ∀ i, χ i < 65536) (hwf : wfs χ) (hwO : wf O) (hh : hdo O ne) (hlost : ¬ lost O χ k) (sz : Nat) : Met l yX3_event wsX3_event ({ frames := 5, cells := 0, slots := 0, locals := 112 }) (va_Pc [.ref (r 0), .int (nI (k))] (x_U D (tyM cI) (wM cI r th fp fa χ (opn O) (O 0) (pl O (O 0)) cu fi ne ct on) sz)) (va_Ql (fun (x : Int64) (u : Int32 × Int32) => x = evR (row O χ k) k) (fun u t => x_E D (tyM cI) (va_A (wM cI r th fp fa χ (opn O) (O 0) (pl O (O 0)) cu fi ne ct on) sz) (wM cI r (nI 0) u.1 u.2 χ (opn O) (O 0) (pl O (O 0)) cu fi ne ct on) t) (va_A (wM cI r th fp fa χ (opn O) (O 0) (pl O (O 0)) cu fi ne ct on) sz)) 0 0 (va_A (wM cI r th fp fa χ (opn O) (O 0) (pl O (O 0)) cu fi ne ct on) sz) := by
  refine Met.ofW (cc := cX3_event) (maxL := 5) (ret := (some .long)) (by decide) rfl ?_
  intro p e s m args below meth c s₁ B hml hv
  obtain ⟨rfl, hsz, hN, hP, hK, hD0⟩ := hv
  have hx := B.exec
  have hb := B.bytes
  have hr := B.returns
  have hts := atoms_spec (ws := wsX3_event) B.pre
  have hown : s.vm.findClass RX3 = some m.cls := findClass_of_methodNamed B.named
  have hlocks := B.notSynchronized
  subst hsz
  have hD := hD0.self (sz := s.heap.size)
  generalize hAe : va_A (wM cI r th fp fa χ (opn O) (O 0) (pl O (O 0)) cu fi ne ct on) s.heap.size = A at hD ⊢
  have hA : ∀ q : Nat, s.heap.size ≤ q → A q := fun q h => by rw [← hAe]; exact Or.inr h
  obtain ⟨H, hH⟩ : ∃ H : Heap, s.heap = H := ⟨_, rfl⟩
  obtain ⟨locs, hlo⟩ : ∃ L : List Loc, ([] : List Loc) = L := ⟨_, rfl⟩
  have hS : va_S A s.heap H locs := by rw [← hH, ← hlo]; exact va_S.rf
  have hP : va_P D vwCl (wM cI r th fp fa χ (opn O) (O 0) (pl O (O 0)) cu fi ne ct on) H := hH ▸ hP
  rw [hH, hlo]
  have hiX3 : ∀ w ∈ u_ws RX3 TX3 16, w ∈ wsX3_event := by decide +kernel
  have hl := lv_entry ([.ref (r 0), .int (nI (k))]) (n := 5) (Nat.le_of_ble_eq_true rfl)
  rw [lg_entry_eq]
  generalize (lg_sl ([.ref (r 0), .int (nI (k))]) ++ List.replicate (5 - (lg_sl ([.ref (r 0), .int (nI (k))])).length) Slot.unset).toArray = ls at hl ⊢
  have hl : lv_has ls 5 [(0, .ref (r 0)), (1, .int (nI (k)))] := hl
  refine lv_aload_n hx hb dX3_event_0 rfl (lv_at hl 0 rfl) ?_
  refine lv_aload_n hx hb dX3_event_1 rfl (lv_at hl 0 rfl) ?_
  refine va_get (D := D) (ci := 3) (v := .int (nI (on))) (C := RX3) (T := TX3) (N := 16) hx hb hts hiX3 hown hK hP 0 rfl rfl 6 (by decide) (hts (.fieldLink RX3 25 "PairedCellsModel" "on" "Z") (by decide +kernel)) (fun _ h9 => h9) rfl dX3_event_2 ?_
  refine xz_ne (tgt := 12) hx hb dX3_event_5 (by decide) (nI_toInt (by omega)) (fun c_5 => ?_) (fun c_5 => ?_)
  · refine lv_iload_n hx hb dX3_event_12 rfl (lv_at hl 1 rfl) ?_
    refine lv_aload_n hx hb dX3_event_13 rfl (lv_at hl 0 rfl) ?_
    refine va_get (D := D) (ci := 3) (v := .int (nI (fi))) (C := RX3) (T := TX3) (N := 16) hx hb hts hiX3 hown hK hP 0 rfl rfl 9 (by decide) (hts (.fieldLink RX3 107 "PairedCellsModel" "least" "I") (by decide +kernel)) (fun _ h9 => h9) rfl dX3_event_14 ?_
    refine xi_lt (tgt := 28) hx hb dX3_event_17 (by decide) (nI_toInt (by omega)) (nI_toInt (by omega)) (fun c_17 => ?_) (fun c_17 => ?_)
    · exfalso; omega
    · refine lv_iload_n hx hb dX3_event_20 rfl (lv_at hl 1 rfl) ?_
      refine lv_aload_n hx hb dX3_event_21 rfl (lv_at hl 0 rfl) ?_
      refine va_get (D := D) (ci := 3) (v := .int (nI (ne))) (C := RX3) (T := TX3) (N := 16) hx hb hts hiX3 hown hK hP 0 rfl rfl 10 (by decide) (hts (.fieldLink RX3 73 "PairedCellsModel" "next" "I") (by decide +kernel)) (fun _ h9 => h9) rfl dX3_event_22 ?_
      refine xi_lt (tgt := 32) hx hb dX3_event_25 (by decide) (nI_toInt (by omega)) (nI_toInt (by omega)) (fun c_25 => ?_) (fun c_25 => ?_)
      · refine lv_iconst (v := nI 0) hx hb dX3_event_32 (by decide) ?_
        refine va_put (D := D) (ci := 3) (v := .int (nI (0))) (ty := .int) (C := RX3) (T := TX3) (N := 16) hx hb hts hiX3 tyX3 tyX3_ok nmX3 hown hK hP hD hS 0 rfl rfl 0 (by decide) (hts (.fieldLink RX3 36 "PairedCellsModel" "thrown" "I") (by decide +kernel)) (fun _ h9 => h9) rfl (by decide +kernel) rfl rfl (Nat.le_of_ble_eq_true rfl) dX3_event_33 (fun H locs hP hD hS => ?_)
        have hP : va_P D vwCl (wM cI r (nI (0)) fp fa χ (opn O) (O 0) (pl O (O 0)) cu fi ne ct on) H := hP
        have hD : va_D A (wM cI r (nI (0)) fp fa χ (opn O) (O 0) (pl O (O 0)) cu fi ne ct on) := hD
        refine lv_aload_n hx hb dX3_event_36 rfl (lv_at hl 0 rfl) ?_
        refine va_get (D := D) (ci := 3) (v := .int (nI (0))) (C := RX3) (T := TX3) (N := 16) hx hb hts hiX3 hown hK hP 0 rfl rfl 0 (by decide) (hts (.fieldLink RX3 36 "PairedCellsModel" "thrown" "I") (by decide +kernel)) (fun _ h9 => h9) rfl dX3_event_37 ?_
        refine xz_eq (tgt := 45) hx hb dX3_event_40 (by decide) (nI_toInt (by omega)) (fun c_40 => ?_) (fun c_40 => ?_)
        · refine lv_aload_n hx hb dX3_event_45 rfl (lv_at hl 0 rfl) ?_
          refine lv_iload_n hx hb dX3_event_46 rfl (lv_at hl 1 rfl) ?_
          have hF9 := x_hF (hD) hS hA
          refine xw_Vv (ci := 3) (rest := []) (As := [.int (nI (k))]) ⟨hx, hb, hml, hown, hts⟩ (c_X3_find l D r (nI 0) fp fa χ O cu fi ne ct on k hk2 hne hχ hwf hwO hh H.size) (cwV 1 hts gX3_event_X3_find rfl rfl rfl (by decide +kernel) ⟨Nat.le_of_ble_eq_true rfl, Nat.le_of_ble_eq_true rfl⟩) hN hK (hP) (hD) hS hA rfl 0 rfl rfl hl.1 rfl (Nat.le_of_ble_eq_true rfl) dX3_event_47 ⟨Nat.le_of_ble_eq_true rfl, Nat.le_of_ble_eq_true rfl⟩ (fun u_47 H1 locs hw_47 hP1 hD1 hDA hk9 hS => ?_)
          rcases hw_47 with ⟨hye, rfl⟩ | ⟨hno, hlt, rfl⟩ | ⟨hno, hlo, rfl⟩
          · have hP := hP1
            have hD := hDA
            generalize H1 = H at hP hS ⊢
            have hP : va_P D vwCl (wM cI r (nI (0)) (nI (96)) (nI (pl O (k - (256 * O 1 + O 2)))) χ (opn O) (O 0) (pl O (O 0)) cu fi ne ct on) H := hP
            have hD : va_D A (wM cI r (nI (0)) (nI (96)) (nI (pl O (k - (256 * O 1 + O 2)))) χ (opn O) (O 0) (pl O (O 0)) cu fi ne ct on) := hD
            refine lv_aload_n hx hb dX3_event_50 rfl (lv_at hl 0 rfl) ?_
            refine lv_aload_n hx hb dX3_event_51 rfl (lv_at hl 0 rfl) ?_
            refine va_get (D := D) (ci := 3) (v := .int (nI (96))) (C := RX3) (T := TX3) (N := 16) hx hb hts hiX3 hown hK hP 0 rfl rfl 14 (by decide) (hts (.fieldLink RX3 110 "PairedCellsModel" "foundPage" "I") (by decide +kernel)) (fun _ h9 => h9) rfl dX3_event_52 ?_
            refine xz_ge (tgt := 62) hx hb dX3_event_55 (by decide) (nI_toInt (by omega)) (fun c_55 => ?_) (fun c_55 => ?_)
            · refine lv_iconst (v := nI 0) hx hb dX3_event_62 (by decide) ?_
              refine va_put (D := D) (ci := 3) (v := .int (nI (0))) (ty := .int) (C := RX3) (T := TX3) (N := 16) hx hb hts hiX3 tyX3 tyX3_ok nmX3 hown hK hP hD hS 0 rfl rfl 0 (by decide) (hts (.fieldLink RX3 36 "PairedCellsModel" "thrown" "I") (by decide +kernel)) (fun _ h9 => h9) rfl (by decide +kernel) rfl rfl (Nat.le_of_ble_eq_true rfl) dX3_event_63 (fun H locs hP hD hS => ?_)
              have hP : va_P D vwCl (wM cI r (nI (0)) (nI (96)) (nI (pl O (k - (256 * O 1 + O 2)))) χ (opn O) (O 0) (pl O (O 0)) cu fi ne ct on) H := hP
              have hD : va_D A (wM cI r (nI (0)) (nI (96)) (nI (pl O (k - (256 * O 1 + O 2)))) χ (opn O) (O 0) (pl O (O 0)) cu fi ne ct on) := hD
              refine lv_lconst (v := 0) hx hb dX3_event_66 (by decide) ?_
              refine lv_lstore_n (lv' := [(2, .long (0)), (0, .ref (r 0)), (1, .int (nI (k)))]) hx hb dX3_event_67 rfl hl (by decide) rfl (fun ls hl => ?_)
              refine lv_aload_n hx hb dX3_event_68 rfl (lv_at hl 1 rfl) ?_
              refine va_get (D := D) (ci := 3) (v := .int (nI (0))) (C := RX3) (T := TX3) (N := 16) hx hb hts hiX3 hown hK hP 0 rfl rfl 0 (by decide) (hts (.fieldLink RX3 36 "PairedCellsModel" "thrown" "I") (by decide +kernel)) (fun _ h9 => h9) rfl dX3_event_69 ?_
              refine xz_ne (tgt := 86) hx hb dX3_event_72 (by decide) (nI_toInt (by omega)) (fun c_72 => ?_) (fun c_72 => ?_)
              · exfalso; omega
              · obtain ⟨hy0, hy1, hy2⟩ := id hye
                have hp9 := pl_lt hwO (show k - (256 * O 1 + O 2) < O 0 by omega)
                have hp3 := pl_three (O := O) (k - (256 * O 1 + O 2))
                have hp8 := hwO.2.2.2 (k - (256 * O 1 + O 2)) (by omega)
                refine lv_aload_n hx hb dX3_event_75 rfl (lv_at hl 1 rfl) ?_
                refine lv_aload_n hx hb dX3_event_76 rfl (lv_at hl 1 rfl) ?_
                refine va_get (D := D) (ci := 3) (v := .int (nI (pl O (k - (256 * O 1 + O 2))))) (C := RX3) (T := TX3) (N := 16) hx hb hts hiX3 hown hK hP 0 rfl rfl 15 (by decide) (hts (.fieldLink RX3 113 "PairedCellsModel" "foundAt" "I") (by decide +kernel)) (fun _ h9 => h9) rfl dX3_event_77 ?_
                refine xc_Vi (ci := 3) (rest := []) (As := [.int (nI (pl O (k - (256 * O 1 + O 2))))]) ⟨hx, hb, hml, hown, hts⟩ (c_X3_foundByte_o l D r (nI (0)) (nI (pl O (k - (256 * O 1 + O 2)))) χ O cu fi ne ct on (pl O (k - (256 * O 1 + O 2))) (by omega) (by omega)) (cwV 1 hts gX3_event_X3_foundByte rfl rfl rfl (by decide +kernel) ⟨Nat.le_of_ble_eq_true rfl, Nat.le_of_ble_eq_true rfl⟩) hN hK (hP) rfl 0 rfl rfl hl.1 rfl (Nat.le_of_ble_eq_true rfl) dX3_event_80 ⟨Nat.le_of_ble_eq_true rfl, Nat.le_of_ble_eq_true rfl⟩ (fun r_80 hw_80 => ?_)
                subst hw_80
                refine lv_goto (tgt := 87) hx hb dX3_event_83 (by decide) ?_
                refine lv_istore (lv' := [(4, .int (nI (O (pl O (k - (256 * O 1 + O 2)))))), (2, .long (0)), (0, .ref (r 0)), (1, .int (nI (k)))]) hx hb dX3_event_87 hl (by decide) rfl (fun ls hl => ?_)
                refine lpW (α := Nat × Int64) (fun (j, v) H locs => (j ≤ O (pl O (k - (256 * O 1 + O 2))) ∧ evF (fun i => O (pl O (k - (256 * O 1 + O 2)) + i)) j v = evF (fun i => O (pl O (k - (256 * O 1 + O 2)) + i)) (O (pl O (k - (256 * O 1 + O 2)))) 0) ∧ va_P D vwCl (wM cI r (nI (0)) (nI (96)) (nI (pl O (k - (256 * O 1 + O 2)))) χ (opn O) (O 0) (pl O (O 0)) cu fi ne ct on) H ∧ va_D A (wM cI r (nI (0)) (nI (96)) (nI (pl O (k - (256 * O 1 + O 2)))) χ (opn O) (O 0) (pl O (O 0)) cu fi ne ct on) ∧ va_S A s.heap H locs) (fun (j, v) => [(0, .ref (r 0)), (1, .int (nI (k))), (2, .long (v)), (4, .int (nI (j)))]) 5 (fun (j, v) => j) (O (pl O (k - (256 * O 1 + O 2))), 0) (⟨⟨Nat.le_refl _, rfl⟩, hP, hD, hS⟩) (lv_sub hl [2, 3, 1, 0] rfl) (fun s9 H locs ls hI9 hl9 ih_89 => ?_)
                obtain ⟨j, v⟩ := s9
                have hl : lv_has ls 5 [(0, .ref (r 0)), (1, .int (nI (k))), (2, .long (v)), (4, .int (nI (j)))] := hl9
                obtain ⟨⟨hj, hv⟩, hP, hD, hS⟩ : (j ≤ O (pl O (k - (256 * O 1 + O 2))) ∧ evF (fun i => O (pl O (k - (256 * O 1 + O 2)) + i)) j v = evF (fun i => O (pl O (k - (256 * O 1 + O 2)) + i)) (O (pl O (k - (256 * O 1 + O 2)))) 0) ∧ va_P D vwCl (wM cI r (nI (0)) (nI (96)) (nI (pl O (k - (256 * O 1 + O 2)))) χ (opn O) (O 0) (pl O (O 0)) cu fi ne ct on) H ∧ va_D A (wM cI r (nI (0)) (nI (96)) (nI (pl O (k - (256 * O 1 + O 2)))) χ (opn O) (O 0) (pl O (O 0)) cu fi ne ct on) ∧ va_S A s.heap H locs := hI9
                refine lv_iload hx hb dX3_event_89 (lv_at hl 3 rfl) ?_
                refine xz_le (tgt := 118) hx hb dX3_event_91 (by decide) (nI_toInt (by omega)) (fun c_91 => ?_) (fun c_91 => ?_)
                · refine lv_lload_n hx hb dX3_event_118 rfl (lv_at hl 2 rfl) ?_
                  have hj0 : j = 0 := by omega
                  rw [hj0] at hv
                  exact xf_l (post := fun (x : Int64) (u : Int32 × Int32) => x = evR (row O χ k) k) (w1 := fun (u : Int32 × Int32) => wM cI r (nI 0) u.1 u.2 χ (opn O) (O 0) (pl O (O 0)) cu fi ne ct on) (nI 96, nI (pl O (k - (256 * O 1 + O 2)))) hx hb hr hlocks (by show v = evR (row O χ k) k; rw [row, cif_t hye]; exact hv) hP hK hD hS dX3_event_119
                · refine lv_lload_n hx hb dX3_event_94 rfl (lv_at hl 2 rfl) ?_
                  refine lv_bipush (v := nI 8) hx hb dX3_event_95 (by decide) ?_
                  refine lv_lshl hx hb dX3_event_97 rfl ?_
                  refine lv_aload_n hx hb dX3_event_98 rfl (lv_at hl 0 rfl) ?_
                  refine lv_aload_n hx hb dX3_event_99 rfl (lv_at hl 0 rfl) ?_
                  refine va_get (D := D) (ci := 3) (v := .int (nI (pl O (k - (256 * O 1 + O 2))))) (C := RX3) (T := TX3) (N := 16) hx hb hts hiX3 hown hK hP 0 rfl rfl 15 (by decide) (hts (.fieldLink RX3 113 "PairedCellsModel" "foundAt" "I") (by decide +kernel)) (fun _ h9 => h9) rfl dX3_event_100 ?_
                  refine lv_iload hx hb dX3_event_103 (lv_at hl 3 rfl) ?_
                  refine xr_add hx hb dX3_event_105 ?_
                  refine xc_Vi (ci := 3) (rest := [.long (v <<< ((nI 8).toInt64 &&& 63))]) (As := [.int (nI (pl O (k - (256 * O 1 + O 2)) + j))]) ⟨hx, hb, hml, hown, hts⟩ (c_X3_foundByte_o l D r (nI (0)) (nI (pl O (k - (256 * O 1 + O 2)))) χ O cu fi ne ct on (pl O (k - (256 * O 1 + O 2)) + j) (by omega) (by omega)) (cwV 1 hts gX3_event_X3_foundByte rfl rfl rfl (by decide +kernel) ⟨Nat.le_of_ble_eq_true rfl, Nat.le_of_ble_eq_true rfl⟩) hN hK (hP) rfl 0 rfl rfl hl.1 rfl (Nat.le_of_ble_eq_true rfl) dX3_event_106 ⟨Nat.le_of_ble_eq_true rfl, Nat.le_of_ble_eq_true rfl⟩ (fun r_106 hw_106 => ?_)
                  subst hw_106
                  refine lv_i2l hx hb dX3_event_109 rfl ?_
                  refine lv_lor hx hb dX3_event_110 ?_
                  refine lv_lstore_n (lv' := [(2, .long ((v <<< ((nI 8).toInt64 &&& 63)) ||| (nI (O (pl O (k - (256 * O 1 + O 2)) + j))).toInt64)), (0, .ref (r 0)), (1, .int (nI (k))), (4, .int (nI (j)))]) hx hb dX3_event_111 rfl hl (by decide) rfl (fun ls hl => ?_)
                  refine lv_iinc (v := nI (j - 1)) (lv' := [(4, .int (nI (j - 1))), (2, .long ((v <<< ((nI 8).toInt64 &&& 63)) ||| (nI (O (pl O (k - (256 * O 1 + O 2)) + j))).toInt64)), (0, .ref (r 0)), (1, .int (nI (k)))]) hx hb dX3_event_112 hl (k := 3) rfl (xl_dec (by omega)) (by decide) rfl (fun ls hl => ?_)
                  refine lv_goto (tgt := 89) hx hb dX3_event_115 (by decide) ?_
                  exact ih_89 (j - 1, (v <<< ((nI 8).toInt64 &&& 63)) ||| (nI (O (pl O (k - (256 * O 1 + O 2)) + j))).toInt64) _ _ _ (⟨⟨by omega, by rw [← hv, show j = (j - 1) + 1 by omega]; rfl⟩, hP, hD, hS⟩) (by first | omega | (dsimp only; omega)) (lv_sub hl [2, 3, 1, 0] rfl)
            · exfalso; omega
          · obtain ⟨hrd, hht⟩ := (hpg_spec χ k 96).2.2 hlt
            obtain ⟨b9, hb8⟩ : ∃ b, hpg χ k 96 / 16 = b := ⟨_, rfl⟩
            obtain ⟨k9, hk8⟩ : ∃ q, hpg χ k 96 % 16 = q := ⟨_, rfl⟩
            have hpe : hpg χ k 96 = 16 * b9 + k9 := by omega
            rw [hb8, hk8] at hrd hht hP1 hDA
            rw [hpe] at hP1 hDA
            have hb9 : b9 < 6 := by omega
            have hk9 : k9 < 16 := by omega
            have hw9 := hwf b9 k9 hb9 hk9 hrd
            obtain ⟨hh7, hh8, hh9⟩ := hht
            have hP := hP1
            have hD := hDA
            generalize H1 = H at hP hS ⊢
            have hP : va_P D vwCl (wM cI r (nI (0)) (nI (16 * b9 + k9)) (nI (pl (byt χ b9 k9) (k - (256 * byt χ b9 k9 1 + byt χ b9 k9 2)))) χ (opn O) (O 0) (pl O (O 0)) cu fi ne ct on) H := hP
            have hD : va_D A (wM cI r (nI (0)) (nI (16 * b9 + k9)) (nI (pl (byt χ b9 k9) (k - (256 * byt χ b9 k9 1 + byt χ b9 k9 2)))) χ (opn O) (O 0) (pl O (O 0)) cu fi ne ct on) := hD
            refine lv_aload_n hx hb dX3_event_50 rfl (lv_at hl 0 rfl) ?_
            refine lv_aload_n hx hb dX3_event_51 rfl (lv_at hl 0 rfl) ?_
            refine va_get (D := D) (ci := 3) (v := .int (nI (16 * b9 + k9))) (C := RX3) (T := TX3) (N := 16) hx hb hts hiX3 hown hK hP 0 rfl rfl 14 (by decide) (hts (.fieldLink RX3 110 "PairedCellsModel" "foundPage" "I") (by decide +kernel)) (fun _ h9 => h9) rfl dX3_event_52 ?_
            refine xz_ge (tgt := 62) hx hb dX3_event_55 (by decide) (nI_toInt (by omega)) (fun c_55 => ?_) (fun c_55 => ?_)
            · refine lv_iconst (v := nI 0) hx hb dX3_event_62 (by decide) ?_
              refine va_put (D := D) (ci := 3) (v := .int (nI (0))) (ty := .int) (C := RX3) (T := TX3) (N := 16) hx hb hts hiX3 tyX3 tyX3_ok nmX3 hown hK hP hD hS 0 rfl rfl 0 (by decide) (hts (.fieldLink RX3 36 "PairedCellsModel" "thrown" "I") (by decide +kernel)) (fun _ h9 => h9) rfl (by decide +kernel) rfl rfl (Nat.le_of_ble_eq_true rfl) dX3_event_63 (fun H locs hP hD hS => ?_)
              have hP : va_P D vwCl (wM cI r (nI (0)) (nI (16 * b9 + k9)) (nI (pl (byt χ b9 k9) (k - (256 * byt χ b9 k9 1 + byt χ b9 k9 2)))) χ (opn O) (O 0) (pl O (O 0)) cu fi ne ct on) H := hP
              have hD : va_D A (wM cI r (nI (0)) (nI (16 * b9 + k9)) (nI (pl (byt χ b9 k9) (k - (256 * byt χ b9 k9 1 + byt χ b9 k9 2)))) χ (opn O) (O 0) (pl O (O 0)) cu fi ne ct on) := hD
              refine lv_lconst (v := 0) hx hb dX3_event_66 (by decide) ?_
              refine lv_lstore_n (lv' := [(2, .long (0)), (0, .ref (r 0)), (1, .int (nI (k)))]) hx hb dX3_event_67 rfl hl (by decide) rfl (fun ls hl => ?_)
              refine lv_aload_n hx hb dX3_event_68 rfl (lv_at hl 1 rfl) ?_
              refine va_get (D := D) (ci := 3) (v := .int (nI (0))) (C := RX3) (T := TX3) (N := 16) hx hb hts hiX3 hown hK hP 0 rfl rfl 0 (by decide) (hts (.fieldLink RX3 36 "PairedCellsModel" "thrown" "I") (by decide +kernel)) (fun _ h9 => h9) rfl dX3_event_69 ?_
              refine xz_ne (tgt := 86) hx hb dX3_event_72 (by decide) (nI_toInt (by omega)) (fun c_72 => ?_) (fun c_72 => ?_)
              · exfalso; omega
              · have hp9 := pl_lt hw9 (show k - (256 * byt χ b9 k9 1 + byt χ b9 k9 2) < (byt χ b9 k9) 0 by omega)
                have hp3 := pl_three (O := (byt χ b9 k9)) (k - (256 * byt χ b9 k9 1 + byt χ b9 k9 2))
                have hp8 := hw9.2.2.2 (k - (256 * byt χ b9 k9 1 + byt χ b9 k9 2)) (by omega)
                refine lv_aload_n hx hb dX3_event_75 rfl (lv_at hl 1 rfl) ?_
                refine lv_aload_n hx hb dX3_event_76 rfl (lv_at hl 1 rfl) ?_
                refine va_get (D := D) (ci := 3) (v := .int (nI (pl (byt χ b9 k9) (k - (256 * byt χ b9 k9 1 + byt χ b9 k9 2))))) (C := RX3) (T := TX3) (N := 16) hx hb hts hiX3 hown hK hP 0 rfl rfl 15 (by decide) (hts (.fieldLink RX3 113 "PairedCellsModel" "foundAt" "I") (by decide +kernel)) (fun _ h9 => h9) rfl dX3_event_77 ?_
                refine xc_Vi (ci := 3) (rest := []) (As := [.int (nI (pl (byt χ b9 k9) (k - (256 * byt χ b9 k9 1 + byt χ b9 k9 2))))]) ⟨hx, hb, hml, hown, hts⟩ (c_X3_foundByte_p l D r (nI (0)) (nI (pl (byt χ b9 k9) (k - (256 * byt χ b9 k9 1 + byt χ b9 k9 2)))) χ O cu fi ne ct on b9 k9 hb9 hk9 hχ (pl (byt χ b9 k9) (k - (256 * byt χ b9 k9 1 + byt χ b9 k9 2))) (by omega) hrd) (cwV 1 hts gX3_event_X3_foundByte rfl rfl rfl (by decide +kernel) ⟨Nat.le_of_ble_eq_true rfl, Nat.le_of_ble_eq_true rfl⟩) hN hK (hP) rfl 0 rfl rfl hl.1 rfl (Nat.le_of_ble_eq_true rfl) dX3_event_80 ⟨Nat.le_of_ble_eq_true rfl, Nat.le_of_ble_eq_true rfl⟩ (fun r_80 hw_80 => ?_)
                subst hw_80
                refine lv_goto (tgt := 87) hx hb dX3_event_83 (by decide) ?_
                refine lv_istore (lv' := [(4, .int (nI (byt χ b9 k9 (pl (byt χ b9 k9) (k - (256 * byt χ b9 k9 1 + byt χ b9 k9 2)))))), (2, .long (0)), (0, .ref (r 0)), (1, .int (nI (k)))]) hx hb dX3_event_87 hl (by decide) rfl (fun ls hl => ?_)
                refine lpW (α := Nat × Int64) (fun (j, v) H locs => (j ≤ (byt χ b9 k9) (pl (byt χ b9 k9) (k - (256 * byt χ b9 k9 1 + byt χ b9 k9 2))) ∧ evF (fun i => (byt χ b9 k9) (pl (byt χ b9 k9) (k - (256 * byt χ b9 k9 1 + byt χ b9 k9 2)) + i)) j v = evF (fun i => (byt χ b9 k9) (pl (byt χ b9 k9) (k - (256 * byt χ b9 k9 1 + byt χ b9 k9 2)) + i)) ((byt χ b9 k9) (pl (byt χ b9 k9) (k - (256 * byt χ b9 k9 1 + byt χ b9 k9 2)))) 0) ∧ va_P D vwCl (wM cI r (nI (0)) (nI (16 * b9 + k9)) (nI (pl (byt χ b9 k9) (k - (256 * byt χ b9 k9 1 + byt χ b9 k9 2)))) χ (opn O) (O 0) (pl O (O 0)) cu fi ne ct on) H ∧ va_D A (wM cI r (nI (0)) (nI (16 * b9 + k9)) (nI (pl (byt χ b9 k9) (k - (256 * byt χ b9 k9 1 + byt χ b9 k9 2)))) χ (opn O) (O 0) (pl O (O 0)) cu fi ne ct on) ∧ va_S A s.heap H locs) (fun (j, v) => [(0, .ref (r 0)), (1, .int (nI (k))), (2, .long (v)), (4, .int (nI (j)))]) 5 (fun (j, v) => j) ((byt χ b9 k9) (pl (byt χ b9 k9) (k - (256 * byt χ b9 k9 1 + byt χ b9 k9 2))), 0) (⟨⟨Nat.le_refl _, rfl⟩, hP, hD, hS⟩) (lv_sub hl [2, 3, 1, 0] rfl) (fun s9 H locs ls hI9 hl9 ih_89 => ?_)
                obtain ⟨j, v⟩ := s9
                have hl : lv_has ls 5 [(0, .ref (r 0)), (1, .int (nI (k))), (2, .long (v)), (4, .int (nI (j)))] := hl9
                obtain ⟨⟨hj, hv⟩, hP, hD, hS⟩ : (j ≤ (byt χ b9 k9) (pl (byt χ b9 k9) (k - (256 * byt χ b9 k9 1 + byt χ b9 k9 2))) ∧ evF (fun i => (byt χ b9 k9) (pl (byt χ b9 k9) (k - (256 * byt χ b9 k9 1 + byt χ b9 k9 2)) + i)) j v = evF (fun i => (byt χ b9 k9) (pl (byt χ b9 k9) (k - (256 * byt χ b9 k9 1 + byt χ b9 k9 2)) + i)) ((byt χ b9 k9) (pl (byt χ b9 k9) (k - (256 * byt χ b9 k9 1 + byt χ b9 k9 2)))) 0) ∧ va_P D vwCl (wM cI r (nI (0)) (nI (16 * b9 + k9)) (nI (pl (byt χ b9 k9) (k - (256 * byt χ b9 k9 1 + byt χ b9 k9 2)))) χ (opn O) (O 0) (pl O (O 0)) cu fi ne ct on) H ∧ va_D A (wM cI r (nI (0)) (nI (16 * b9 + k9)) (nI (pl (byt χ b9 k9) (k - (256 * byt χ b9 k9 1 + byt χ b9 k9 2)))) χ (opn O) (O 0) (pl O (O 0)) cu fi ne ct on) ∧ va_S A s.heap H locs := hI9
                refine lv_iload hx hb dX3_event_89 (lv_at hl 3 rfl) ?_
                refine xz_le (tgt := 118) hx hb dX3_event_91 (by decide) (nI_toInt (by omega)) (fun c_91 => ?_) (fun c_91 => ?_)
                · refine lv_lload_n hx hb dX3_event_118 rfl (lv_at hl 2 rfl) ?_
                  have hj0 : j = 0 := by omega
                  rw [hj0] at hv
                  exact xf_l (post := fun (x : Int64) (u : Int32 × Int32) => x = evR (row O χ k) k) (w1 := fun (u : Int32 × Int32) => wM cI r (nI 0) u.1 u.2 χ (opn O) (O 0) (pl O (O 0)) cu fi ne ct on) (nI (16 * b9 + k9), nI (pl (byt χ b9 k9) (k - (256 * byt χ b9 k9 1 + byt χ b9 k9 2)))) hx hb hr hlocks (by show v = evR (row O χ k) k; rw [row, cif_f hno, hb8, hk8]; exact hv) hP hK hD hS dX3_event_119
                · refine lv_lload_n hx hb dX3_event_94 rfl (lv_at hl 2 rfl) ?_
                  refine lv_bipush (v := nI 8) hx hb dX3_event_95 (by decide) ?_
                  refine lv_lshl hx hb dX3_event_97 rfl ?_
                  refine lv_aload_n hx hb dX3_event_98 rfl (lv_at hl 0 rfl) ?_
                  refine lv_aload_n hx hb dX3_event_99 rfl (lv_at hl 0 rfl) ?_
                  refine va_get (D := D) (ci := 3) (v := .int (nI (pl (byt χ b9 k9) (k - (256 * byt χ b9 k9 1 + byt χ b9 k9 2))))) (C := RX3) (T := TX3) (N := 16) hx hb hts hiX3 hown hK hP 0 rfl rfl 15 (by decide) (hts (.fieldLink RX3 113 "PairedCellsModel" "foundAt" "I") (by decide +kernel)) (fun _ h9 => h9) rfl dX3_event_100 ?_
                  refine lv_iload hx hb dX3_event_103 (lv_at hl 3 rfl) ?_
                  refine xr_add hx hb dX3_event_105 ?_
                  refine xc_Vi (ci := 3) (rest := [.long (v <<< ((nI 8).toInt64 &&& 63))]) (As := [.int (nI (pl (byt χ b9 k9) (k - (256 * byt χ b9 k9 1 + byt χ b9 k9 2)) + j))]) ⟨hx, hb, hml, hown, hts⟩ (c_X3_foundByte_p l D r (nI (0)) (nI (pl (byt χ b9 k9) (k - (256 * byt χ b9 k9 1 + byt χ b9 k9 2)))) χ O cu fi ne ct on b9 k9 hb9 hk9 hχ (pl (byt χ b9 k9) (k - (256 * byt χ b9 k9 1 + byt χ b9 k9 2)) + j) (by omega) hrd) (cwV 1 hts gX3_event_X3_foundByte rfl rfl rfl (by decide +kernel) ⟨Nat.le_of_ble_eq_true rfl, Nat.le_of_ble_eq_true rfl⟩) hN hK (hP) rfl 0 rfl rfl hl.1 rfl (Nat.le_of_ble_eq_true rfl) dX3_event_106 ⟨Nat.le_of_ble_eq_true rfl, Nat.le_of_ble_eq_true rfl⟩ (fun r_106 hw_106 => ?_)
                  subst hw_106
                  refine lv_i2l hx hb dX3_event_109 rfl ?_
                  refine lv_lor hx hb dX3_event_110 ?_
                  refine lv_lstore_n (lv' := [(2, .long ((v <<< ((nI 8).toInt64 &&& 63)) ||| (nI (byt χ b9 k9 (pl (byt χ b9 k9) (k - (256 * byt χ b9 k9 1 + byt χ b9 k9 2)) + j))).toInt64)), (0, .ref (r 0)), (1, .int (nI (k))), (4, .int (nI (j)))]) hx hb dX3_event_111 rfl hl (by decide) rfl (fun ls hl => ?_)
                  refine lv_iinc (v := nI (j - 1)) (lv' := [(4, .int (nI (j - 1))), (2, .long ((v <<< ((nI 8).toInt64 &&& 63)) ||| (nI (byt χ b9 k9 (pl (byt χ b9 k9) (k - (256 * byt χ b9 k9 1 + byt χ b9 k9 2)) + j))).toInt64)), (0, .ref (r 0)), (1, .int (nI (k)))]) hx hb dX3_event_112 hl (k := 3) rfl (xl_dec (by omega)) (by decide) rfl (fun ls hl => ?_)
                  refine lv_goto (tgt := 89) hx hb dX3_event_115 (by decide) ?_
                  exact ih_89 (j - 1, (v <<< ((nI 8).toInt64 &&& 63)) ||| (nI ((byt χ b9 k9) (pl (byt χ b9 k9) (k - (256 * byt χ b9 k9 1 + byt χ b9 k9 2)) + j))).toInt64) _ _ _ (⟨⟨by omega, by rw [← hv, show j = (j - 1) + 1 by omega]; rfl⟩, hP, hD, hS⟩) (by first | omega | (dsimp only; omega)) (lv_sub hl [2, 3, 1, 0] rfl)
            · exfalso; omega
          · exact absurd ⟨hno, hlo⟩ hlost
        · exfalso; omega
      · exfalso; omega
  · exfalso; omega
