set_option maxHeartbeats 4000000 in
set_option maxRecDepth 100000 in
theorem c_X2_append_f (l : Launch) (D : va_G) {cI cB : ClassId} (a shw O χ : Nat → Nat) (cu fi ne ct on : Nat) (hon : on = 1) (hO0 : O 0 < 65536) (k : Nat) (w : Int64) (hwO : wf O) (hne : ne < 65536) (hk1 : 1 ≤ k) (hk6 : k ≤ 6) (hft : fit O k) (sz : Nat) : Met l yX2_append wsX2_append ({ frames := 3, cells := 0, slots := 0, locals := 66 }) (va_Pc [.ref (a 0), .int (nI (k)), .long (w)] (x_U D (tyP cI cB) (wP cI cB a shw O χ cu fi ne ct on) sz)) (va_Qi (fun (r : Int32) (u : Unit) => r = nI ne) (fun u t => x_E D (tyP cI cB) (va_A (wP cI cB a shw O χ cu fi ne ct on) sz) (wP cI cB a shw (adO O ne k w) χ cu fi (ne + 1) ct on) t) (va_A (wP cI cB a shw O χ cu fi ne ct on) sz)) 0 0 (va_A (wP cI cB a shw O χ cu fi ne ct on) sz) := by
  refine Met.ofW (cc := cX2_append) (maxL := 4) (ret := (some .int)) (by decide) rfl ?_
  intro p e s m args below meth c s₁ B hml hv
  obtain ⟨rfl, hsz, hN, hP, hK, hD0⟩ := hv
  have hx := B.exec
  have hb := B.bytes
  have hr := B.returns
  have hts := atoms_spec (ws := wsX2_append) B.pre
  have hown : s.vm.findClass RX2 = some m.cls := findClass_of_methodNamed B.named
  have hlocks := B.notSynchronized
  subst hsz
  have hD := hD0.self (sz := s.heap.size)
  generalize hAe : va_A (wP cI cB a shw O χ cu fi ne ct on) s.heap.size = A at hD ⊢
  have hA : ∀ q : Nat, s.heap.size ≤ q → A q := fun q h => by rw [← hAe]; exact Or.inr h
  obtain ⟨H, hH⟩ : ∃ H : Heap, s.heap = H := ⟨_, rfl⟩
  obtain ⟨locs, hlo⟩ : ∃ L : List Loc, ([] : List Loc) = L := ⟨_, rfl⟩
  have hS : va_S A s.heap H locs := by rw [← hH, ← hlo]; exact va_S.rf
  have hP : va_P D vwCl (wP cI cB a shw O χ cu fi ne ct on) H := hH ▸ hP
  rw [hH, hlo]
  have hiX2 : ∀ w ∈ u_ws RX2 TX2 8, w ∈ wsX2_append := by decide +kernel
  have hl := lv_entry ([.ref (a 0), .int (nI (k)), .long (w)]) (n := 4) (Nat.le_of_ble_eq_true rfl)
  rw [lg_entry_eq]
  generalize (lg_sl ([.ref (a 0), .int (nI (k)), .long (w)]) ++ List.replicate (4 - (lg_sl ([.ref (a 0), .int (nI (k)), .long (w)])).length) Slot.unset).toArray = ls at hl ⊢
  have hl : lv_has ls 4 [(0, .ref (a 0)), (1, .int (nI (k))), (2, .long (w))] := hl
  refine lv_aload_n hx hb dX2_append_0 rfl (lv_at hl 0 rfl) ?_
  refine xc_Vv (ci := 2) (rest := []) (As := []) ⟨hx, hb, hml, hown, hts⟩ (c_X2_requirePower l D a shw O χ cu fi ne ct on hon) (cwV 0 hts gX2_append_X2_requirePower rfl rfl rfl (by decide +kernel) ⟨Nat.le_of_ble_eq_true rfl, Nat.le_of_ble_eq_true rfl⟩) hN (hK) (hP) rfl 0 rfl rfl hl.1 rfl (Nat.le_of_ble_eq_true rfl) dX2_append_1 ⟨Nat.le_of_ble_eq_true rfl, Nat.le_of_ble_eq_true rfl⟩ (fun hw_1 => ?_)
  refine lv_iload_n hx hb dX2_append_4 rfl (lv_at hl 1 rfl) ?_
  refine lv_iconst (v := nI 1) hx hb dX2_append_5 (by decide) ?_
  refine xi_lt (tgt := 15) hx hb dX2_append_6 (by decide) (nI_toInt (by omega)) (nI_toInt (by omega)) (fun c_6 => ?_) (fun c_6 => ?_)
  · exfalso; omega
  · refine lv_iload_n hx hb dX2_append_9 rfl (lv_at hl 1 rfl) ?_
    refine lv_bipush (v := nI 6) hx hb dX2_append_10 (by decide) ?_
    refine xi_le (tgt := 25) hx hb dX2_append_12 (by decide) (nI_toInt (by omega)) (nI_toInt (by omega)) (fun c_12 => ?_) (fun c_12 => ?_)
    · refine lv_aload_n hx hb dX2_append_25 rfl (lv_at hl 0 rfl) ?_
      refine va_get (D := D) (ci := 2) (v := .ref (a 2)) (C := RX2) (T := TX2) (N := 8) hx hb hts hiX2 hown hK hP 0 rfl rfl 1 (by decide) (hts (.fieldLink RX2 18 "PairedCells" "openPage" "LPairedCells$EventPage;") (by decide +kernel)) (fun _ h9 => h9) rfl dX2_append_26 ?_
      refine lv_iload_n hx hb dX2_append_29 rfl (lv_at hl 1 rfl) ?_
      refine xc_Vi (ci := 1) (rest := []) (As := [.int (nI (k))]) ⟨hx, hb, hml, hown, hts⟩ (c_X1_fits l D (a 2) (a 3) O hO0 hwO k (by omega)) (cwV 1 hts gX2_append_X1_fits rfl rfl rfl (by decide +kernel) ⟨Nat.le_of_ble_eq_true rfl, Nat.le_of_ble_eq_true rfl⟩) hN (hK) (wP_open hP) rfl 0 rfl rfl hl.1 rfl (Nat.le_of_ble_eq_true rfl) dX2_append_30 ⟨Nat.le_of_ble_eq_true rfl, Nat.le_of_ble_eq_true rfl⟩ (fun r_30 hw_30 => ?_)
      refine xz_ne (tgt := 46) hx hb dX2_append_33 (by decide) rfl (fun c_33 => ?_) (fun c_33 => ?_)
      · have h_33 := bo.t hw_30 c_33
        refine lv_aload_n hx hb dX2_append_46 rfl (lv_at hl 0 rfl) ?_
        refine va_get (D := D) (ci := 2) (v := .ref (a 2)) (C := RX2) (T := TX2) (N := 8) hx hb hts hiX2 hown hK hP 0 rfl rfl 1 (by decide) (hts (.fieldLink RX2 18 "PairedCells" "openPage" "LPairedCells$EventPage;") (by decide +kernel)) (fun _ h9 => h9) rfl dX2_append_47 ?_
        refine lv_aload_n hx hb dX2_append_50 rfl (lv_at hl 0 rfl) ?_
        refine va_get (D := D) (ci := 2) (v := .int (nI (ne))) (C := RX2) (T := TX2) (N := 8) hx hb hts hiX2 hown hK hP 0 rfl rfl 5 (by decide) (hts (.fieldLink RX2 32 "PairedCells" "nextEvent" "I") (by decide +kernel)) (fun _ h9 => h9) rfl dX2_append_51 ?_
        refine lv_iload_n hx hb dX2_append_54 rfl (lv_at hl 1 rfl) ?_
        refine lv_lload_n hx hb dX2_append_55 rfl (lv_at hl 2 rfl) ?_
        have hF9 := x_hF (dP_open hD) hS hA
        refine xw_Vv (ci := 1) (rest := []) (As := [.int (nI (ne)), .int (nI (k)), .long (w)]) ⟨hx, hb, hml, hown, hts⟩ (c_X1_add l D (a 2) (a 3) O hO0 hwO ne k w hne (by omega) hft H.size) (cwV 3 hts gX2_append_X1_add rfl rfl rfl (by decide +kernel) ⟨Nat.le_of_ble_eq_true rfl, Nat.le_of_ble_eq_true rfl⟩) hN (hK) (wP_open hP) (dP_open hD) hS hA rfl 0 rfl rfl hl.1 rfl (Nat.le_of_ble_eq_true rfl) dX2_append_56 ⟨Nat.le_of_ble_eq_true rfl, Nat.le_of_ble_eq_true rfl⟩ (fun u_56 H1 locs hw_56 hP1 hD1 hDA hk9 hS => ?_)
        obtain ⟨hP, hD⟩ := jP_open hP hD hF9 hk9 hP1 hD1
        generalize H1 = H at hP hS ⊢
        have hP : va_P D vwCl (wP cI cB a shw (adO O ne k w) χ cu fi ne ct on) H := hP
        have hD : va_D A (wP cI cB a shw (adO O ne k w) χ cu fi ne ct on) := hD
        refine lv_aload_n hx hb dX2_append_59 rfl (lv_at hl 0 rfl) ?_
        refine lv_dup hx hb dX2_append_60 rfl ?_
        refine va_get (D := D) (ci := 2) (v := .int (nI (ne))) (C := RX2) (T := TX2) (N := 8) hx hb hts hiX2 hown hK hP 0 rfl rfl 5 (by decide) (hts (.fieldLink RX2 32 "PairedCells" "nextEvent" "I") (by decide +kernel)) (fun _ h9 => h9) rfl dX2_append_61 ?_
        refine lv_iconst (v := nI 1) hx hb dX2_append_64 (by decide) ?_
        refine xr_add hx hb dX2_append_65 ?_
        refine va_put (D := D) (ci := 2) (v := .int (nI (ne + 1))) (ty := .int) (C := RX2) (T := TX2) (N := 8) hx hb hts hiX2 tyX2 tyX2_ok nmX2 hown hK hP hD hS 0 rfl rfl 5 (by decide) (hts (.fieldLink RX2 32 "PairedCells" "nextEvent" "I") (by decide +kernel)) (fun _ h9 => h9) rfl (by decide +kernel) rfl rfl (Nat.le_of_ble_eq_true rfl) dX2_append_66 (fun H locs hP hD hS => ?_)
        have hP : va_P D vwCl (wP cI cB a shw (adO O ne k w) χ cu fi (ne + 1) ct on) H := hP
        have hD : va_D A (wP cI cB a shw (adO O ne k w) χ cu fi (ne + 1) ct on) := hD
        refine lv_aload_n hx hb dX2_append_69 rfl (lv_at hl 0 rfl) ?_
        refine va_get (D := D) (ci := 2) (v := .int (nI (ne + 1))) (C := RX2) (T := TX2) (N := 8) hx hb hts hiX2 hown hK hP 0 rfl rfl 5 (by decide) (hts (.fieldLink RX2 32 "PairedCells" "nextEvent" "I") (by decide +kernel)) (fun _ h9 => h9) rfl dX2_append_70 ?_
        refine lv_iconst (v := nI 1) hx hb dX2_append_73 (by decide) ?_
        refine xr_sub hx hb (by omega) dX2_append_74 ?_
        exact xf_i (post := fun (r : Int32) (u : Unit) => r = nI ne) (w1 := fun (u : Unit) => wP cI cB a shw (adO O ne k w) χ cu fi (ne + 1) ct on) () hx hb hr hlocks (rfl) hP hK hD hS dX2_append_75
      · exact absurd hft (bo.f hw_30 c_33)
    · exfalso; omega
