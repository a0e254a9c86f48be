set_option maxHeartbeats 4000000 in
set_option maxRecDepth 100000 in
theorem c_X2_requirePower (l : Launch) (D : va_G) {cI cB : ClassId} (a shw O χ : Nat → Nat) (cu fi ne ct on : Nat) (hon : on = 1) : Met l yX2_requirePower wsX2_requirePower ({ frames := 0, cells := 0, slots := 0, locals := 0 }) (va_Pc [.ref (a 0)] (x_R D (tyP cI cB) (wP cI cB a shw O χ cu fi ne ct on))) (va_Sv (fun _ => True)) 0 0 (fun _ => False) := by
  refine Met.ofW (cc := cX2_requirePower) (maxL := 1) (ret := none) (by decide) rfl ?_
  intro p e s m args below meth c s₁ B hml hv
  obtain ⟨rfl, hN, hP, hK⟩ := hv
  have hx := B.exec
  have hb := B.bytes
  have hr := B.returns
  have hts := atoms_spec (ws := wsX2_requirePower) B.pre
  have hown : s.vm.findClass RX2 = some m.cls := findClass_of_methodNamed B.named
  have hlocks := B.notSynchronized
  have hiX2 : ∀ w ∈ u_ws RX2 TX2 8, w ∈ wsX2_requirePower := by decide +kernel
  have hl := lv_entry ([.ref (a 0)]) (n := 1) (Nat.le_of_ble_eq_true rfl)
  rw [lg_entry_eq]
  generalize (lg_sl ([.ref (a 0)]) ++ List.replicate (1 - (lg_sl ([.ref (a 0)])).length) Slot.unset).toArray = ls at hl ⊢
  have hl : lv_has ls 1 [(0, .ref (a 0))] := hl
  refine lv_aload_n hx hb dX2_requirePower_0 rfl (lv_at hl 0 rfl) ?_
  refine va_get (D := D) (ci := 2) (v := .int (nI (on))) (C := RX2) (T := TX2) (N := 8) hx hb hts hiX2 hown hK hP 0 rfl rfl 7 (by decide) (hts (.fieldLink RX2 38 "PairedCells" "powerOn" "Z") (by decide +kernel)) (fun _ h9 => h9) rfl dX2_requirePower_1 ?_
  refine xz_ne (tgt := 17) hx hb dX2_requirePower_4 (by decide) (nI_toInt (by omega)) (fun c_4 => ?_) (fun c_4 => ?_)
  · exact xe_v hx hb hr hlocks (trivial) rfl rfl dX2_requirePower_17
  · exfalso; omega

set_option maxHeartbeats 4000000 in
set_option maxRecDepth 100000 in
theorem c_X2_requireEvent (l : Launch) (D : va_G) {cI cB : ClassId} (a shw O χ : Nat → Nat) (cu fi ne ct on : Nat) (k : Nat) (h1 : fi ≤ k) (h2 : k < ne) (h3 : ne < 100000) : Met l yX2_requireEvent wsX2_requireEvent ({ frames := 0, cells := 0, slots := 0, locals := 0 }) (va_Pc [.ref (a 0), .int (nI (k))] (x_R D (tyP cI cB) (wP cI cB a shw O χ cu fi ne ct on))) (va_Sv (fun _ => True)) 0 0 (fun _ => False) := by
  refine Met.ofW (cc := cX2_requireEvent) (maxL := 2) (ret := none) (by decide) rfl ?_
  intro p e s m args below meth c s₁ B hml hv
  obtain ⟨rfl, hN, hP, hK⟩ := hv
  have hx := B.exec
  have hb := B.bytes
  have hr := B.returns
  have hts := atoms_spec (ws := wsX2_requireEvent) B.pre
  have hown : s.vm.findClass RX2 = some m.cls := findClass_of_methodNamed B.named
  have hlocks := B.notSynchronized
  have hiX2 : ∀ w ∈ u_ws RX2 TX2 8, w ∈ wsX2_requireEvent := by decide +kernel
  have hl := lv_entry ([.ref (a 0), .int (nI (k))]) (n := 2) (Nat.le_of_ble_eq_true rfl)
  rw [lg_entry_eq]
  generalize (lg_sl ([.ref (a 0), .int (nI (k))]) ++ List.replicate (2 - (lg_sl ([.ref (a 0), .int (nI (k))])).length) Slot.unset).toArray = ls at hl ⊢
  have hl : lv_has ls 2 [(0, .ref (a 0)), (1, .int (nI (k)))] := hl
  refine lv_iload_n hx hb dX2_requireEvent_0 rfl (lv_at hl 1 rfl) ?_
  refine lv_aload_n hx hb dX2_requireEvent_1 rfl (lv_at hl 0 rfl) ?_
  refine va_get (D := D) (ci := 2) (v := .int (nI (fi))) (C := RX2) (T := TX2) (N := 8) hx hb hts hiX2 hown hK hP 0 rfl rfl 4 (by decide) (hts (.fieldLink RX2 29 "PairedCells" "firstEvent" "I") (by decide +kernel)) (fun _ h9 => h9) rfl dX2_requireEvent_2 ?_
  refine xi_lt (tgt := 16) hx hb dX2_requireEvent_5 (by decide) (nI_toInt (by omega)) (nI_toInt (by omega)) (fun c_5 => ?_) (fun c_5 => ?_)
  · exfalso; omega
  · refine lv_iload_n hx hb dX2_requireEvent_8 rfl (lv_at hl 1 rfl) ?_
    refine lv_aload_n hx hb dX2_requireEvent_9 rfl (lv_at hl 0 rfl) ?_
    refine va_get (D := D) (ci := 2) (v := .int (nI (ne))) (C := RX2) (T := TX2) (N := 8) hx hb hts hiX2 hown hK hP 0 rfl rfl 5 (by decide) (hts (.fieldLink RX2 32 "PairedCells" "nextEvent" "I") (by decide +kernel)) (fun _ h9 => h9) rfl dX2_requireEvent_10 ?_
    refine xi_lt (tgt := 26) hx hb dX2_requireEvent_13 (by decide) (nI_toInt (by omega)) (nI_toInt (by omega)) (fun c_13 => ?_) (fun c_13 => ?_)
    · exact xe_v hx hb hr hlocks (trivial) rfl rfl dX2_requireEvent_26
    · exfalso; omega

set_option maxHeartbeats 4000000 in
set_option maxRecDepth 100000 in
theorem c_X2_requireBlock (l : Launch) (D : va_G) {cI cB : ClassId} (b : Nat) (hb6 : b < 6) : Met l yX2_requireBlock wsX2_requireBlock ({ frames := 0, cells := 0, slots := 0, locals := 0 }) (va_Pc [.int (nI (b))] (x_R D (tyP cI cB) (([] : va_W)))) (va_Sv (fun _ => True)) 0 0 (fun _ => False) := by
  refine Met.ofW (cc := cX2_requireBlock) (maxL := 1) (ret := none) (by decide) rfl ?_
  intro p e s m args below meth c s₁ B hml hv
  obtain ⟨rfl, hN, hP, hK⟩ := hv
  have hx := B.exec
  have hb := B.bytes
  have hr := B.returns
  have hts := atoms_spec (ws := wsX2_requireBlock) B.pre
  have hown : s.vm.findClass RX2 = some m.cls := findClass_of_methodNamed B.named
  have hlocks := B.notSynchronized
  have hl := lv_entry ([.int (nI (b))]) (n := 1) (Nat.le_of_ble_eq_true rfl)
  rw [lg_entry_eq]
  generalize (lg_sl ([.int (nI (b))]) ++ List.replicate (1 - (lg_sl ([.int (nI (b))])).length) Slot.unset).toArray = ls at hl ⊢
  have hl : lv_has ls 1 [(0, .int (nI (b)))] := hl
  refine lv_iload_n hx hb dX2_requireBlock_0 rfl (lv_at hl 0 rfl) ?_
  refine xz_lt (tgt := 10) hx hb dX2_requireBlock_1 (by decide) (nI_toInt (by omega)) (fun c_1 => ?_) (fun c_1 => ?_)
  · exfalso; omega
  · refine lv_iload_n hx hb dX2_requireBlock_4 rfl (lv_at hl 0 rfl) ?_
    refine lv_bipush (v := nI 6) hx hb dX2_requireBlock_5 (by decide) ?_
    refine xi_lt (tgt := 20) hx hb dX2_requireBlock_7 (by decide) (nI_toInt (by omega)) (nI_toInt (by omega)) (fun c_7 => ?_) (fun c_7 => ?_)
    · exact xe_v hx hb hr hlocks (trivial) rfl rfl dX2_requireBlock_20
    · exfalso; omega

set_option maxHeartbeats 4000000 in
set_option maxRecDepth 100000 in
theorem c_X2_requireLine (l : Launch) (D : va_G) {cI cB : ClassId} (b k : Nat) (hb6 : b < 6) (hk8 : k < 8) : Met l yX2_requireLine wsX2_requireLine ({ frames := 1, cells := 0, slots := 0, locals := 20 }) (va_Pc [.int (nI (b)), .int (nI (k))] (x_R D (tyP cI cB) (([] : va_W)))) (va_Sv (fun _ => True)) 0 0 (fun _ => False) := by
  refine Met.ofW (cc := cX2_requireLine) (maxL := 2) (ret := none) (by decide) rfl ?_
  intro p e s m args below meth c s₁ B hml hv
  obtain ⟨rfl, hN, hP, hK⟩ := hv
  have hx := B.exec
  have hb := B.bytes
  have hr := B.returns
  have hts := atoms_spec (ws := wsX2_requireLine) B.pre
  have hown : s.vm.findClass RX2 = some m.cls := findClass_of_methodNamed B.named
  have hlocks := B.notSynchronized
  have hl := lv_entry ([.int (nI (b)), .int (nI (k))]) (n := 2) (Nat.le_of_ble_eq_true rfl)
  rw [lg_entry_eq]
  generalize (lg_sl ([.int (nI (b)), .int (nI (k))]) ++ List.replicate (2 - (lg_sl ([.int (nI (b)), .int (nI (k))])).length) Slot.unset).toArray = ls at hl ⊢
  have hl : lv_has ls 2 [(0, .int (nI (b))), (1, .int (nI (k)))] := hl
  refine lv_iload_n hx hb dX2_requireLine_0 rfl (lv_at hl 0 rfl) ?_
  refine xc_Sv (rest := []) (As := [.int (nI (b))]) ⟨hx, hb, hml, hown, hts⟩ (c_X2_requireBlock l D b hb6) (va_cwS 1 hts gX2_requireLine_X2_requireBlock rfl rfl rfl (by decide +kernel) ⟨Nat.le_of_ble_eq_true rfl, Nat.le_of_ble_eq_true rfl⟩) hN hK (va_P_nil) rfl hl.1 rfl (Nat.le_of_ble_eq_true rfl) dX2_requireLine_1 ⟨Nat.le_of_ble_eq_true rfl, Nat.le_of_ble_eq_true rfl⟩ (fun hw_1 => ?_)
  refine lv_iload_n hx hb dX2_requireLine_4 rfl (lv_at hl 1 rfl) ?_
  refine xz_lt (tgt := 14) hx hb dX2_requireLine_5 (by decide) (nI_toInt (by omega)) (fun c_5 => ?_) (fun c_5 => ?_)
  · exfalso; omega
  · refine lv_iload_n hx hb dX2_requireLine_8 rfl (lv_at hl 1 rfl) ?_
    refine lv_bipush (v := nI 8) hx hb dX2_requireLine_9 (by decide) ?_
    refine xi_lt (tgt := 24) hx hb dX2_requireLine_11 (by decide) (nI_toInt (by omega)) (nI_toInt (by omega)) (fun c_11 => ?_) (fun c_11 => ?_)
    · exact xe_v hx hb hr hlocks (trivial) rfl rfl dX2_requireLine_24
    · exfalso; omega

set_option maxHeartbeats 4000000 in
set_option maxRecDepth 100000 in
theorem c_X2_placeOf (l : Launch) (D : va_G) {cI cB : ClassId} (k u : Nat) (hu : u < 2) : Met l yX2_placeOf wsX2_placeOf ({ frames := 0, cells := 0, slots := 0, locals := 0 }) (va_Pc [.int (nI (k)), .int (nI (u))] (x_R D (tyP cI cB) (([] : va_W)))) (vp_Si (fun r => r = nI (plo k u))) 0 0 (fun _ => False) := by
  refine Met.ofW (cc := cX2_placeOf) (maxL := 2) (ret := (some .int)) (by decide) rfl ?_
  intro p e s m args below meth c s₁ B hml hv
  obtain ⟨rfl, hN, hP, hK⟩ := hv
  have hx := B.exec
  have hb := B.bytes
  have hr := B.returns
  have hts := atoms_spec (ws := wsX2_placeOf) B.pre
  have hown : s.vm.findClass RX2 = some m.cls := findClass_of_methodNamed B.named
  have hlocks := B.notSynchronized
  have hl := lv_entry ([.int (nI (k)), .int (nI (u))]) (n := 2) (Nat.le_of_ble_eq_true rfl)
  rw [lg_entry_eq]
  generalize (lg_sl ([.int (nI (k)), .int (nI (u))]) ++ List.replicate (2 - (lg_sl ([.int (nI (k)), .int (nI (u))])).length) Slot.unset).toArray = ls at hl ⊢
  have hl : lv_has ls 2 [(0, .int (nI (k))), (1, .int (nI (u)))] := hl
  refine lv_iload_n hx hb dX2_placeOf_0 rfl (lv_at hl 1 rfl) ?_
  refine xz_eq (tgt := 11) hx hb dX2_placeOf_1 (by decide) (nI_toInt (by omega)) (fun c_1 => ?_) (fun c_1 => ?_)
  · refine lv_iload_n hx hb dX2_placeOf_11 rfl (lv_at hl 0 rfl) ?_
    exact xe_i hx hb hr hlocks (by rw [plo, if_pos (by omega)]) rfl rfl dX2_placeOf_12
  · refine lv_bipush (v := nI 8) hx hb dX2_placeOf_4 (by decide) ?_
    refine lv_iload_n hx hb dX2_placeOf_6 rfl (lv_at hl 0 rfl) ?_
    refine xr_add hx hb dX2_placeOf_7 ?_
    refine lv_goto (tgt := 12) hx hb dX2_placeOf_8 (by decide) ?_
    exact xe_i hx hb hr hlocks (by rw [plo, if_neg (by omega)]) rfl rfl dX2_placeOf_12

set_option maxHeartbeats 4000000 in
set_option maxRecDepth 100000 in
theorem c_X2_cutIsDue (l : Launch) (D : va_G) {cI cB : ClassId} (a shw O χ : Nat → Nat) (cu fi ne ct on : Nat) (hct : ct < 100) (sz : Nat) : Met l yX2_cutIsDue wsX2_cutIsDue ({ frames := 0, cells := 0, slots := 0, locals := 0 }) (va_Pc [.ref (a 0)] (x_U D (tyP cI cB) (wP cI cB a shw O χ cu fi ne ct on) sz)) (va_Qi (fun (r : Int32) (u : Nat × Nat) => (ct = 1 ∧ r = nI 1 ∧ u = (0, 0)) ∨ (ct ≠ 1 ∧ r = nI 0 ∧ u = (ct - 1, on))) (fun u t => x_E D (tyP cI cB) (va_A (wP cI cB a shw O χ cu fi ne ct on) sz) (wP cI cB a shw O χ cu fi ne u.1 u.2) t) (va_A (wP cI cB a shw O χ cu fi ne ct on) sz)) 0 0 (va_A (wP cI cB a shw O χ cu fi ne ct on) sz) := by
  refine Met.ofW (cc := cX2_cutIsDue) (maxL := 1) (ret := (some .boolean)) (by decide) rfl ?_
  intro p e s m args below meth c s₁ B hml hv
  obtain ⟨rfl, hsz, hN, hP, hK, hD0⟩ := hv
  have hx := B.exec
  have hb := B.bytes
  have hr := B.returns
  have hts := atoms_spec (ws := wsX2_cutIsDue) B.pre
  have hown : s.vm.findClass RX2 = some m.cls := findClass_of_methodNamed B.named
  have hlocks := B.notSynchronized
  subst hsz
  have hD := hD0.self (sz := s.heap.size)
  generalize hAe : va_A (wP cI cB a shw O χ cu fi ne ct on) s.heap.size = A at hD ⊢
  have hA : ∀ q : Nat, s.heap.size ≤ q → A q := fun q h => by rw [← hAe]; exact Or.inr h
  obtain ⟨H, hH⟩ : ∃ H : Heap, s.heap = H := ⟨_, rfl⟩
  obtain ⟨locs, hlo⟩ : ∃ L : List Loc, ([] : List Loc) = L := ⟨_, rfl⟩
  have hS : va_S A s.heap H locs := by rw [← hH, ← hlo]; exact va_S.rf
  have hP : va_P D vwCl (wP cI cB a shw O χ cu fi ne ct on) H := hH ▸ hP
  rw [hH, hlo]
  have hiX2 : ∀ w ∈ u_ws RX2 TX2 8, w ∈ wsX2_cutIsDue := by decide +kernel
  have hl := lv_entry ([.ref (a 0)]) (n := 1) (Nat.le_of_ble_eq_true rfl)
  rw [lg_entry_eq]
  generalize (lg_sl ([.ref (a 0)]) ++ List.replicate (1 - (lg_sl ([.ref (a 0)])).length) Slot.unset).toArray = ls at hl ⊢
  have hl : lv_has ls 1 [(0, .ref (a 0))] := hl
  refine lv_aload_n hx hb dX2_cutIsDue_0 rfl (lv_at hl 0 rfl) ?_
  refine va_get (D := D) (ci := 2) (v := .int (nI (ct))) (C := RX2) (T := TX2) (N := 8) hx hb hts hiX2 hown hK hP 0 rfl rfl 6 (by decide) (hts (.fieldLink RX2 35 "PairedCells" "cutIn" "I") (by decide +kernel)) (fun _ h9 => h9) rfl dX2_cutIsDue_1 ?_
  refine xz_ne (tgt := 9) hx hb dX2_cutIsDue_4 (by decide) (nI_toInt (by omega)) (fun c_4 => ?_) (fun c_4 => ?_)
  · refine lv_aload_n hx hb dX2_cutIsDue_9 rfl (lv_at hl 0 rfl) ?_
    refine lv_dup hx hb dX2_cutIsDue_10 rfl ?_
    refine va_get (D := D) (ci := 2) (v := .int (nI (ct))) (C := RX2) (T := TX2) (N := 8) hx hb hts hiX2 hown hK hP 0 rfl rfl 6 (by decide) (hts (.fieldLink RX2 35 "PairedCells" "cutIn" "I") (by decide +kernel)) (fun _ h9 => h9) rfl dX2_cutIsDue_11 ?_
    refine lv_iconst (v := nI 1) hx hb dX2_cutIsDue_14 (by decide) ?_
    refine xr_sub hx hb (by omega) dX2_cutIsDue_15 ?_
    refine va_put (D := D) (ci := 2) (v := .int (nI (ct - 1))) (ty := .int) (C := RX2) (T := TX2) (N := 8) hx hb hts hiX2 tyX2 tyX2_ok nmX2 hown hK hP hD hS 0 rfl rfl 6 (by decide) (hts (.fieldLink RX2 35 "PairedCells" "cutIn" "I") (by decide +kernel)) (fun _ h9 => h9) rfl (by decide +kernel) rfl rfl (Nat.le_of_ble_eq_true rfl) dX2_cutIsDue_16 (fun H locs hP hD hS => ?_)
    have hP : va_P D vwCl (wP cI cB a shw O χ cu fi ne (ct - 1) on) H := hP
    have hD : va_D A (wP cI cB a shw O χ cu fi ne (ct - 1) on) := hD
    refine lv_aload_n hx hb dX2_cutIsDue_19 rfl (lv_at hl 0 rfl) ?_
    refine va_get (D := D) (ci := 2) (v := .int (nI (ct - 1))) (C := RX2) (T := TX2) (N := 8) hx hb hts hiX2 hown hK hP 0 rfl rfl 6 (by decide) (hts (.fieldLink RX2 35 "PairedCells" "cutIn" "I") (by decide +kernel)) (fun _ h9 => h9) rfl dX2_cutIsDue_20 ?_
    refine xz_le (tgt := 28) hx hb dX2_cutIsDue_23 (by decide) (nI_toInt (by omega)) (fun c_23 => ?_) (fun c_23 => ?_)
    · refine lv_aload_n hx hb dX2_cutIsDue_28 rfl (lv_at hl 0 rfl) ?_
      refine lv_iconst (v := nI 0) hx hb dX2_cutIsDue_29 (by decide) ?_
      refine va_put (D := D) (ci := 2) (v := .int (nI (0))) (ty := .boolean) (C := RX2) (T := TX2) (N := 8) hx hb hts hiX2 tyX2 tyX2_ok nmX2 hown hK hP hD hS 0 rfl rfl 7 (by decide) (hts (.fieldLink RX2 38 "PairedCells" "powerOn" "Z") (by decide +kernel)) (fun _ h9 => h9) rfl (by decide +kernel) rfl rfl (Nat.le_of_ble_eq_true rfl) dX2_cutIsDue_30 (fun H locs hP hD hS => ?_)
      have hP : va_P D vwCl (wP cI cB a shw O χ cu fi ne (ct - 1) 0) H := hP
      have hD : va_D A (wP cI cB a shw O χ cu fi ne (ct - 1) 0) := hD
      refine lv_iconst (v := nI 1) hx hb dX2_cutIsDue_33 (by decide) ?_
      have hq9 : (wP cI cB a shw O χ cu fi ne (ct - 1) 0 : va_W) = wP cI cB a shw O χ cu fi ne 0 0 := (by rw [show ct - 1 = 0 by omega])
      exact xf_z (post := fun (r : Int32) (u : Nat × Nat) => (ct = 1 ∧ r = nI 1 ∧ u = (0, 0)) ∨ (ct ≠ 1 ∧ r = nI 0 ∧ u = (ct - 1, on))) (w1 := fun (u : Nat × Nat) => wP cI cB a shw O χ cu fi ne u.1 u.2) (0, 0) hx hb hr hlocks rfl (Or.inl ⟨by omega, rfl, rfl⟩) (va_P.eqw hq9 hP) hK (va_D.eqw hq9 hD) hS dX2_cutIsDue_34
    · refine lv_iconst (v := nI 0) hx hb dX2_cutIsDue_26 (by decide) ?_
      exact xf_z (post := fun (r : Int32) (u : Nat × Nat) => (ct = 1 ∧ r = nI 1 ∧ u = (0, 0)) ∨ (ct ≠ 1 ∧ r = nI 0 ∧ u = (ct - 1, on))) (w1 := fun (u : Nat × Nat) => wP cI cB a shw O χ cu fi ne u.1 u.2) (ct - 1, on) hx hb hr hlocks rfl (Or.inr ⟨by omega, rfl, rfl⟩) hP hK hD hS dX2_cutIsDue_27
  · refine lv_iconst (v := nI 0) hx hb dX2_cutIsDue_7 (by decide) ?_
    have hq9 : (wP cI cB a shw O χ cu fi ne ct on : va_W) = wP cI cB a shw O χ cu fi ne (ct - 1) on := (by rw [show ct - 1 = ct by omega])
    exact xf_z (post := fun (r : Int32) (u : Nat × Nat) => (ct = 1 ∧ r = nI 1 ∧ u = (0, 0)) ∨ (ct ≠ 1 ∧ r = nI 0 ∧ u = (ct - 1, on))) (w1 := fun (u : Nat × Nat) => wP cI cB a shw O χ cu fi ne u.1 u.2) (ct - 1, on) hx hb hr hlocks rfl (Or.inr ⟨by omega, rfl, rfl⟩) (va_P.eqw hq9 hP) hK (va_D.eqw hq9 hD) hS dX2_cutIsDue_8

set_option maxHeartbeats 4000000 in
set_option maxRecDepth 100000 in
theorem c_X2_programGuard (l : Launch) (D : va_G) {cI cB : ClassId} (a shw O χ : Nat → Nat) (cu fi ne ct on : Nat) (hct : ct < 100) (b : Nat) (hb6 : b < 6) (hχ : ∀ i, χ i < 65536) (sz : Nat) : Met l yX2_programGuard wsX2_programGuard ({ frames := 2, cells := 0, slots := 0, locals := 45 }) (va_Pc [.ref (a 0), .ref (a (6 + 4 * b))] (x_U D (tyP cI cB) (wP cI cB a shw O χ cu fi ne ct on) sz)) (va_Qi (fun (r : Int32) (u : (Nat → Nat) × Nat × Nat) => (ct = 1 ∧ r = nI 0 ∧ u = (up χ (100 + b) 2, 0, 0)) ∨ (ct ≠ 1 ∧ r = nI 1 ∧ u = (wgd χ b, ct - 1, on))) (fun u t => x_E D (tyP cI cB) (va_A (wP cI cB a shw O χ cu fi ne ct on) sz) (wP cI cB a shw O u.1 cu fi ne u.2.1 u.2.2) t) (va_A (wP cI cB a shw O χ cu fi ne ct on) sz)) 0 0 (va_A (wP cI cB a shw O χ cu fi ne ct on) sz) := by
  refine Met.ofW (cc := cX2_programGuard) (maxL := 2) (ret := (some .boolean)) (by decide) rfl ?_
  intro p e s m args below meth c s₁ B hml hv
  obtain ⟨rfl, hsz, hN, hP, hK, hD0⟩ := hv
  have hx := B.exec
  have hb := B.bytes
  have hr := B.returns
  have hts := atoms_spec (ws := wsX2_programGuard) B.pre
  have hown : s.vm.findClass RX2 = some m.cls := findClass_of_methodNamed B.named
  have hlocks := B.notSynchronized
  subst hsz
  have hD := hD0.self (sz := s.heap.size)
  generalize hAe : va_A (wP cI cB a shw O χ cu fi ne ct on) s.heap.size = A at hD ⊢
  have hA : ∀ q : Nat, s.heap.size ≤ q → A q := fun q h => by rw [← hAe]; exact Or.inr h
  obtain ⟨H, hH⟩ : ∃ H : Heap, s.heap = H := ⟨_, rfl⟩
  obtain ⟨locs, hlo⟩ : ∃ L : List Loc, ([] : List Loc) = L := ⟨_, rfl⟩
  have hS : va_S A s.heap H locs := by rw [← hH, ← hlo]; exact va_S.rf
  have hP : va_P D vwCl (wP cI cB a shw O χ cu fi ne ct on) H := hH ▸ hP
  rw [hH, hlo]
  have hiX0 : ∀ w ∈ u_ws RX0 TX0 5, w ∈ wsX2_programGuard := by decide +kernel
  have hl := lv_entry ([.ref (a 0), .ref (a (6 + 4 * b))]) (n := 2) (Nat.le_of_ble_eq_true rfl)
  rw [lg_entry_eq]
  generalize (lg_sl ([.ref (a 0), .ref (a (6 + 4 * b))]) ++ List.replicate (2 - (lg_sl ([.ref (a 0), .ref (a (6 + 4 * b))])).length) Slot.unset).toArray = ls at hl ⊢
  have hl : lv_has ls 2 [(0, .ref (a 0)), (1, .ref (a (6 + 4 * b)))] := hl
  refine lv_aload_n hx hb dX2_programGuard_0 rfl (lv_at hl 0 rfl) ?_
  have hF9 := x_hF (hD) hS hA
  refine xw_Vi (ci := 2) (rest := []) (As := []) ⟨hx, hb, hml, hown, hts⟩ (c_X2_cutIsDue l D a shw O χ cu fi ne ct on hct H.size) (cwV 0 hts gX2_programGuard_X2_cutIsDue rfl rfl rfl (by decide +kernel) ⟨Nat.le_of_ble_eq_true rfl, Nat.le_of_ble_eq_true rfl⟩) hN hK (hP) (hD) hS hA rfl 0 rfl rfl hl.1 rfl (Nat.le_of_ble_eq_true rfl) dX2_programGuard_1 ⟨Nat.le_of_ble_eq_true rfl, Nat.le_of_ble_eq_true rfl⟩ (fun r_1 u_1 H1 locs hw_1 hP1 hD1 hDA hk9 hS => ?_)
  rcases hw_1 with ⟨hc1, rfl, rfl⟩ | ⟨hc1, rfl, rfl⟩
  · have hP := hP1
    have hD := hDA
    generalize H1 = H at hP hS ⊢
    have hP : va_P D vwCl (wP cI cB a shw O χ cu fi ne 0 0) H := hP
    have hD : va_D A (wP cI cB a shw O χ cu fi ne 0 0) := hD
    refine xz_eq (tgt := 14) hx hb dX2_programGuard_4 (by decide) (nI_toInt (by omega)) (fun c_4 => ?_) (fun c_4 => ?_)
    · exfalso; omega
    · refine lv_aload_n hx hb dX2_programGuard_7 rfl (lv_at hl 1 rfl) ?_
      refine lv_iconst (v := nI 2) hx hb dX2_programGuard_8 (by decide) ?_
      refine va_putN (D := D) (ci := 0) (v := .int (nI 2)) (ty := .int) (C := RX0) (T := TX0) (N := 5) hx hb hts hiX0 tyX0 tyX0_ok nmX0 hown hK hP hD hS (6 + 4 * b) (wP_at hb6) rfl 3 (by decide) (va_Nw.use rfl hN.2.2.1) (fun _ h9 => h9) rfl (by decide +kernel) rfl rfl (Nat.le_of_ble_eq_true rfl) dX2_programGuard_9 (fun H locs hP hD hS => ?_)
      have hP : va_P D vwCl (wP cI cB a shw O (up χ (100 + b) 2) cu fi ne 0 0) H := va_P.eqw (wP_gs hb6) hP
      have hD : va_D A (wP cI cB a shw O (up χ (100 + b) 2) cu fi ne 0 0) := va_D.eqw (wP_gs hb6) hD
      refine lv_iconst (v := nI 0) hx hb dX2_programGuard_12 (by decide) ?_
      exact xf_z (post := fun (r : Int32) (u : (Nat → Nat) × Nat × Nat) => (ct = 1 ∧ r = nI 0 ∧ u = (up χ (100 + b) 2, 0, 0)) ∨ (ct ≠ 1 ∧ r = nI 1 ∧ u = (wgd χ b, ct - 1, on))) (w1 := fun (u : (Nat → Nat) × Nat × Nat) => wP cI cB a shw O u.1 cu fi ne u.2.1 u.2.2) (up χ (100 + b) 2, 0, 0) hx hb hr hlocks rfl (Or.inl ⟨hc1, rfl, rfl⟩) hP hK hD hS dX2_programGuard_13
  · have hP := hP1
    have hD := hDA
    generalize H1 = H at hP hS ⊢
    have hP : va_P D vwCl (wP cI cB a shw O χ cu fi ne (ct - 1) on) H := hP
    have hD : va_D A (wP cI cB a shw O χ cu fi ne (ct - 1) on) := hD
    refine xz_eq (tgt := 14) hx hb dX2_programGuard_4 (by decide) (nI_toInt (by omega)) (fun c_4 => ?_) (fun c_4 => ?_)
    · refine lv_aload_n hx hb dX2_programGuard_14 rfl (lv_at hl 1 rfl) ?_
      have hF9 := x_hF (dP_blk hb6 hD) hS hA
      refine xw_Vv (ci := 0) (rest := []) (As := []) ⟨hx, hb, hml, hown, hts⟩ (c_X0_writeGuard l D a χ b hb6 hχ H.size) (cwV 0 hts gX2_programGuard_X0_writeGuard rfl rfl rfl (by decide +kernel) ⟨Nat.le_of_ble_eq_true rfl, Nat.le_of_ble_eq_true rfl⟩) hN hK (wP_blk hb6 hP) (dP_blk hb6 hD) hS hA rfl 0 rfl rfl hl.1 rfl (Nat.le_of_ble_eq_true rfl) dX2_programGuard_15 ⟨Nat.le_of_ble_eq_true rfl, Nat.le_of_ble_eq_true rfl⟩ (fun u_15 H1 locs hw_15 hP1 hD1 hDA hk9 hS => ?_)
      obtain ⟨hP, hD⟩ := jP_blk hb6 hP hD hF9 hk9 hP1 hD1 (fun i hi => by unfold inb at hi; simp only [wgd]; (repeat' split) <;> first | rfl | omega)
      generalize H1 = H at hP hS ⊢
      have hP : va_P D vwCl (wP cI cB a shw O (wgd χ b) cu fi ne (ct - 1) on) H := hP
      have hD : va_D A (wP cI cB a shw O (wgd χ b) cu fi ne (ct - 1) on) := hD
      refine lv_iconst (v := nI 1) hx hb dX2_programGuard_18 (by decide) ?_
      exact xf_z (post := fun (r : Int32) (u : (Nat → Nat) × Nat × Nat) => (ct = 1 ∧ r = nI 0 ∧ u = (up χ (100 + b) 2, 0, 0)) ∨ (ct ≠ 1 ∧ r = nI 1 ∧ u = (wgd χ b, ct - 1, on))) (w1 := fun (u : (Nat → Nat) × Nat × Nat) => wP cI cB a shw O u.1 cu fi ne u.2.1 u.2.2) (wgd χ b, ct - 1, on) hx hb hr hlocks rfl (Or.inr ⟨hc1, rfl, rfl⟩) hP hK hD hS dX2_programGuard_19
    · exfalso; omega

set_option maxHeartbeats 4000000 in
set_option maxRecDepth 100000 in
theorem c_X2_blockToProgram (l : Launch) (D : va_G) {cI cB : ClassId} (a shw O χ : Nat → Nat) (cu fi ne ct on : Nat) (hcu : cu < 6) (hχ : ∀ i, χ i < 65536) (hnf : ¬ ful χ cu) : Met l yX2_blockToProgram wsX2_blockToProgram ({ frames := 2, cells := 0, slots := 0, locals := 42 }) (va_Pc [.ref (a 0)] (x_R D (tyP cI cB) (wP cI cB a shw O χ cu fi ne ct on))) (vp_Si (fun r => r = nI (nxb χ cu))) 0 0 (fun _ => False) := by
  refine Met.ofW (cc := cX2_blockToProgram) (maxL := 2) (ret := (some .int)) (by decide) rfl ?_
  intro p e s m args below meth c s₁ B hml hv
  obtain ⟨rfl, hN, hP, hK⟩ := hv
  have hx := B.exec
  have hb := B.bytes
  have hr := B.returns
  have hts := atoms_spec (ws := wsX2_blockToProgram) B.pre
  have hown : s.vm.findClass RX2 = some m.cls := findClass_of_methodNamed B.named
  have hlocks := B.notSynchronized
  have hiX2 : ∀ w ∈ u_ws RX2 TX2 8, w ∈ wsX2_blockToProgram := by decide +kernel
  have hl := lv_entry ([.ref (a 0)]) (n := 2) (Nat.le_of_ble_eq_true rfl)
  rw [lg_entry_eq]
  generalize (lg_sl ([.ref (a 0)]) ++ List.replicate (2 - (lg_sl ([.ref (a 0)])).length) Slot.unset).toArray = ls at hl ⊢
  have hl : lv_has ls 2 [(0, .ref (a 0))] := hl
  refine lv_aload_n hx hb dX2_blockToProgram_0 rfl (lv_at hl 0 rfl) ?_
  refine va_get (D := D) (ci := 2) (v := .ref (a 1)) (C := RX2) (T := TX2) (N := 8) hx hb hts hiX2 hown hK hP 0 rfl rfl 0 (by decide) (hts (.fieldLink RX2 11 "PairedCells" "blocks" "[LPairedCells$Block;") (by decide +kernel)) (fun _ h9 => h9) rfl dX2_blockToProgram_1 ?_
  refine lv_aload_n hx hb dX2_blockToProgram_4 rfl (lv_at hl 0 rfl) ?_
  refine va_get (D := D) (ci := 2) (v := .int (nI (cu))) (C := RX2) (T := TX2) (N := 8) hx hb hts hiX2 hown hK hP 0 rfl rfl 3 (by decide) (hts (.fieldLink RX2 25 "PairedCells" "current" "I") (by decide +kernel)) (fun _ h9 => h9) rfl dX2_blockToProgram_5 ?_
  refine xr_aald hx hb hK hP 1 1 rfl rfl (by omega) (by decide) dX2_blockToProgram_8 ?_
  refine xc_Vi (ci := 0) (rest := []) (As := []) ⟨hx, hb, hml, hown, hts⟩ (c_X0_takesMore l D a χ cu hcu hχ) (cwV 0 hts gX2_blockToProgram_X0_takesMore rfl rfl rfl (by decide +kernel) ⟨Nat.le_of_ble_eq_true rfl, Nat.le_of_ble_eq_true rfl⟩) hN hK (wP_blk hcu hP) rfl 0 rfl rfl hl.1 rfl (Nat.le_of_ble_eq_true rfl) dX2_blockToProgram_9 ⟨Nat.le_of_ble_eq_true rfl, Nat.le_of_ble_eq_true rfl⟩ (fun r_9 hw_9 => ?_)
  refine xz_eq (tgt := 20) hx hb dX2_blockToProgram_12 (by decide) rfl (fun c_12 => ?_) (fun c_12 => ?_)
  · have h_12 := bo.f hw_9 c_12
    refine lv_aload_n hx hb dX2_blockToProgram_20 rfl (lv_at hl 0 rfl) ?_
    refine va_get (D := D) (ci := 2) (v := .int (nI (cu))) (C := RX2) (T := TX2) (N := 8) hx hb hts hiX2 hown hK hP 0 rfl rfl 3 (by decide) (hts (.fieldLink RX2 25 "PairedCells" "current" "I") (by decide +kernel)) (fun _ h9 => h9) rfl dX2_blockToProgram_21 ?_
    refine lv_iconst (v := nI 1) hx hb dX2_blockToProgram_24 (by decide) ?_
    refine xr_add hx hb dX2_blockToProgram_25 ?_
    refine lv_bipush (v := nI 6) hx hb dX2_blockToProgram_26 (by decide) ?_
    refine xr_rem hx hb (by omega) (by decide) (by decide) dX2_blockToProgram_28 ?_
    refine lv_istore_n (lv' := [(1, .int (nI ((cu + 1) % 6))), (0, .ref (a 0))]) hx hb dX2_blockToProgram_29 rfl hl (by decide) rfl (fun ls hl => ?_)
    refine lv_aload_n hx hb dX2_blockToProgram_30 rfl (lv_at hl 1 rfl) ?_
    refine va_get (D := D) (ci := 2) (v := .ref (a 1)) (C := RX2) (T := TX2) (N := 8) hx hb hts hiX2 hown hK hP 0 rfl rfl 0 (by decide) (hts (.fieldLink RX2 11 "PairedCells" "blocks" "[LPairedCells$Block;") (by decide +kernel)) (fun _ h9 => h9) rfl dX2_blockToProgram_31 ?_
    refine lv_iload_n hx hb dX2_blockToProgram_34 rfl (lv_at hl 0 rfl) ?_
    refine xr_aald hx hb hK hP 1 1 rfl rfl (by omega) (by decide) dX2_blockToProgram_35 ?_
    refine xc_Vi (ci := 0) (rest := []) (As := []) ⟨hx, hb, hml, hown, hts⟩ (c_X0_isErased l D a χ ((cu + 1) % 6) (show (cu + 1) % 6 < 6 by omega) hχ) (cwV 0 hts gX2_blockToProgram_X0_isErased rfl rfl rfl (by decide +kernel) ⟨Nat.le_of_ble_eq_true rfl, Nat.le_of_ble_eq_true rfl⟩) hN hK (wP_blk (show (cu + 1) % 6 < 6 by omega) hP) rfl 0 rfl rfl hl.1 rfl (Nat.le_of_ble_eq_true rfl) dX2_blockToProgram_36 ⟨Nat.le_of_ble_eq_true rfl, Nat.le_of_ble_eq_true rfl⟩ (fun r_36 hw_36 => ?_)
    refine xz_ne (tgt := 52) hx hb dX2_blockToProgram_39 (by decide) rfl (fun c_39 => ?_) (fun c_39 => ?_)
    · have h_39 := bo.t hw_36 c_39
      refine lv_iload_n hx hb dX2_blockToProgram_52 rfl (lv_at hl 0 rfl) ?_
      exact xe_i hx hb hr hlocks (by rw [nxb_out h_12]) rfl rfl dX2_blockToProgram_53
    · exact absurd ⟨h_12, bo.f hw_36 c_39⟩ hnf
  · have h_12 := bo.t hw_9 c_12
    refine lv_aload_n hx hb dX2_blockToProgram_15 rfl (lv_at hl 0 rfl) ?_
    refine va_get (D := D) (ci := 2) (v := .int (nI (cu))) (C := RX2) (T := TX2) (N := 8) hx hb hts hiX2 hown hK hP 0 rfl rfl 3 (by decide) (hts (.fieldLink RX2 25 "PairedCells" "current" "I") (by decide +kernel)) (fun _ h9 => h9) rfl dX2_blockToProgram_16 ?_
    exact xe_i hx hb hr hlocks (by rw [nxb_in h_12]) rfl rfl dX2_blockToProgram_19

set_option maxHeartbeats 4000000 in
set_option maxRecDepth 100000 in
theorem c_X2_flush (l : Launch) (D : va_G) {cI cB : ClassId} (a shw O χ : Nat → Nat) (cu fi ne ct on : Nat) (hcu : cu < 6) (hχ : ∀ i, χ i < 65536) (hct : ct < 100) (hO0 : O 0 < 65536) (hnf : ¬ ful χ cu) (b : Nat) (hbe : b = nxb χ cu) (hb6 : b < 6) (hp16 : plc χ b < 16) (hχg : ∀ i, wgd χ b i < 65536) (sz : Nat) : Met l yX2_flush wsX2_flush ({ frames := 3, cells := 0, slots := 0, locals := 82 }) (va_Pc [.ref (a 0)] (x_U D (tyP cI cB) (wP cI cB a shw O χ cu fi ne ct on) sz)) (va_Qi (fun (r : Int32) (u : (Nat → Nat) × (Nat → Nat) × Nat × Nat) => bo r (fOk χ b ct) ∧ u = (fO χ b ct O, fX χ b ct O, fCt χ b ct, fOn χ b ct on)) (fun u t => x_E D (tyP cI cB) (va_A (wP cI cB a shw O χ cu fi ne ct on) sz) (wP cI cB a shw u.1 u.2.1 b fi ne u.2.2.1 u.2.2.2) t) (va_A (wP cI cB a shw O χ cu fi ne ct on) sz)) 0 0 (va_A (wP cI cB a shw O χ cu fi ne ct on) sz) := by
  refine Met.ofW (cc := cX2_flush) (maxL := 3) (ret := (some .boolean)) (by decide) rfl ?_
  intro p e s m args below meth c s₁ B hml hv
  obtain ⟨rfl, hsz, hN, hP, hK, hD0⟩ := hv
  have hx := B.exec
  have hb := B.bytes
  have hr := B.returns
  have hts := atoms_spec (ws := wsX2_flush) B.pre
  have hown : s.vm.findClass RX2 = some m.cls := findClass_of_methodNamed B.named
  have hlocks := B.notSynchronized
  subst hsz
  have hD := hD0.self (sz := s.heap.size)
  generalize hAe : va_A (wP cI cB a shw O χ cu fi ne ct on) s.heap.size = A at hD ⊢
  have hA : ∀ q : Nat, s.heap.size ≤ q → A q := fun q h => by rw [← hAe]; exact Or.inr h
  obtain ⟨H, hH⟩ : ∃ H : Heap, s.heap = H := ⟨_, rfl⟩
  obtain ⟨locs, hlo⟩ : ∃ L : List Loc, ([] : List Loc) = L := ⟨_, rfl⟩
  have hS : va_S A s.heap H locs := by rw [← hH, ← hlo]; exact va_S.rf
  have hP : va_P D vwCl (wP cI cB a shw O χ cu fi ne ct on) H := hH ▸ hP
  rw [hH, hlo]
  have hiX2 : ∀ w ∈ u_ws RX2 TX2 8, w ∈ wsX2_flush := by decide +kernel
  have hl := lv_entry ([.ref (a 0)]) (n := 3) (Nat.le_of_ble_eq_true rfl)
  rw [lg_entry_eq]
  generalize (lg_sl ([.ref (a 0)]) ++ List.replicate (3 - (lg_sl ([.ref (a 0)])).length) Slot.unset).toArray = ls at hl ⊢
  have hl : lv_has ls 3 [(0, .ref (a 0))] := hl
  refine lv_aload_n hx hb dX2_flush_0 rfl (lv_at hl 0 rfl) ?_
  refine lv_aload_n hx hb dX2_flush_1 rfl (lv_at hl 0 rfl) ?_
  refine xc_Vi (ci := 2) (rest := [.ref (a 0)]) (As := []) ⟨hx, hb, hml, hown, hts⟩ (c_X2_blockToProgram l D a shw O χ cu fi ne ct on hcu hχ hnf) (cwV 0 hts gX2_flush_X2_blockToProgram rfl rfl rfl (by decide +kernel) ⟨Nat.le_of_ble_eq_true rfl, Nat.le_of_ble_eq_true rfl⟩) hN hK (hP) rfl 0 rfl rfl hl.1 rfl (Nat.le_of_ble_eq_true rfl) dX2_flush_2 ⟨Nat.le_of_ble_eq_true rfl, Nat.le_of_ble_eq_true rfl⟩ (fun r_2 hw_2 => ?_)
  rw [← hbe] at hw_2
  subst hw_2
  refine va_put (D := D) (ci := 2) (v := .int (nI (b))) (ty := .int) (C := RX2) (T := TX2) (N := 8) hx hb hts hiX2 tyX2 tyX2_ok nmX2 hown hK hP hD hS 0 rfl rfl 3 (by decide) (hts (.fieldLink RX2 25 "PairedCells" "current" "I") (by decide +kernel)) (fun _ h9 => h9) rfl (by decide +kernel) rfl rfl (Nat.le_of_ble_eq_true rfl) dX2_flush_5 (fun H locs hP hD hS => ?_)
  have hP : va_P D vwCl (wP cI cB a shw O χ b fi ne ct on) H := hP
  have hD : va_D A (wP cI cB a shw O χ b fi ne ct on) := hD
  refine lv_aload_n hx hb dX2_flush_8 rfl (lv_at hl 0 rfl) ?_
  refine va_get (D := D) (ci := 2) (v := .ref (a 1)) (C := RX2) (T := TX2) (N := 8) hx hb hts hiX2 hown hK hP 0 rfl rfl 0 (by decide) (hts (.fieldLink RX2 11 "PairedCells" "blocks" "[LPairedCells$Block;") (by decide +kernel)) (fun _ h9 => h9) rfl dX2_flush_9 ?_
  refine lv_aload_n hx hb dX2_flush_12 rfl (lv_at hl 0 rfl) ?_
  refine va_get (D := D) (ci := 2) (v := .int (nI (b))) (C := RX2) (T := TX2) (N := 8) hx hb hts hiX2 hown hK hP 0 rfl rfl 3 (by decide) (hts (.fieldLink RX2 25 "PairedCells" "current" "I") (by decide +kernel)) (fun _ h9 => h9) rfl dX2_flush_13 ?_
  refine xr_aald hx hb hK hP 1 1 rfl rfl (by omega) (by decide) dX2_flush_16 ?_
  refine lv_astore_n (lv' := [(1, .ref (a (6 + 4 * b))), (0, .ref (a 0))]) hx hb dX2_flush_17 rfl hl (by decide) rfl (fun ls hl => ?_)
  refine lv_aload_n hx hb dX2_flush_18 rfl (lv_at hl 0 rfl) ?_
  refine xc_Vi (ci := 0) (rest := []) (As := []) ⟨hx, hb, hml, hown, hts⟩ (c_X0_nextPlace l D a χ b hb6 hχ) (cwV 0 hts gX2_flush_X0_nextPlace rfl rfl rfl (by decide +kernel) ⟨Nat.le_of_ble_eq_true rfl, Nat.le_of_ble_eq_true rfl⟩) hN hK (wP_blk hb6 hP) rfl 0 rfl rfl hl.1 rfl (Nat.le_of_ble_eq_true rfl) dX2_flush_19 ⟨Nat.le_of_ble_eq_true rfl, Nat.le_of_ble_eq_true rfl⟩ (fun r_19 hw_19 => ?_)
  subst hw_19
  refine lv_istore_n (lv' := [(2, .int (nI (plc χ b))), (1, .ref (a (6 + 4 * b))), (0, .ref (a 0))]) hx hb dX2_flush_22 rfl hl (by decide) rfl (fun ls hl => ?_)
  refine lv_iload_n hx hb dX2_flush_23 rfl (lv_at hl 0 rfl) ?_
  refine lv_bipush (v := nI 8) hx hb dX2_flush_24 (by decide) ?_
  refine xi_ne (tgt := 39) hx hb dX2_flush_26 (by decide) (nI_toInt (by omega)) (nI_toInt (by omega)) (fun c_26 => ?_) (fun c_26 => ?_)
  · refine lv_aload_n hx hb dX2_flush_39 rfl (lv_at hl 2 rfl) ?_
    have hF9 := x_hF (hD) hS hA
    refine xw_Vi (ci := 2) (rest := []) (As := []) ⟨hx, hb, hml, hown, hts⟩ (c_X2_cutIsDue l D a shw O χ b fi ne ct on (by omega) H.size) (cwV 0 hts gX2_flush_X2_cutIsDue rfl rfl rfl (by decide +kernel) ⟨Nat.le_of_ble_eq_true rfl, Nat.le_of_ble_eq_true rfl⟩) hN hK (hP) (hD) hS hA rfl 0 rfl rfl hl.1 rfl (Nat.le_of_ble_eq_true rfl) dX2_flush_40 ⟨Nat.le_of_ble_eq_true rfl, Nat.le_of_ble_eq_true rfl⟩ (fun r_40 u_40 H1 locs hw_40 hP1 hD1 hDA hk9 hS => ?_)
    rcases hw_40 with ⟨hc1, rfl, rfl⟩ | ⟨hc1, rfl, rfl⟩
    · have hP := hP1
      have hD := hDA
      generalize H1 = H at hP hS ⊢
      have hP : va_P D vwCl (wP cI cB a shw O χ b fi ne 0 0) H := hP
      have hD : va_D A (wP cI cB a shw O χ b fi ne 0 0) := hD
      refine xz_eq (tgt := 53) hx hb dX2_flush_43 (by decide) (nI_toInt (by omega)) (fun c_43 => ?_) (fun c_43 => ?_)
      · exfalso; omega
      · refine lv_aload_n hx hb dX2_flush_46 rfl (lv_at hl 1 rfl) ?_
        refine lv_iload_n hx hb dX2_flush_47 rfl (lv_at hl 0 rfl) ?_
        have hF9 := x_hF (dP_blk hb6 hD) hS hA
        refine xw_Vv (ci := 0) (rest := []) (As := [.int (nI (plc χ b))]) ⟨hx, hb, hml, hown, hts⟩ (c_X0_cutAt l D a χ b hb6 hχ (plc χ b) (by omega) H.size) (cwV 1 hts gX2_flush_X0_cutAt rfl rfl rfl (by decide +kernel) ⟨Nat.le_of_ble_eq_true rfl, Nat.le_of_ble_eq_true rfl⟩) hN hK (wP_blk hb6 hP) (dP_blk hb6 hD) hS hA rfl 0 rfl rfl hl.1 rfl (Nat.le_of_ble_eq_true rfl) dX2_flush_48 ⟨Nat.le_of_ble_eq_true rfl, Nat.le_of_ble_eq_true rfl⟩ (fun u_48 H1 locs hw_48 hP1 hD1 hDA hk9 hS => ?_)
        obtain ⟨hP, hD⟩ := jP_blk hb6 hP hD hF9 hk9 hP1 hD1 (fun i hi => by unfold inb at hi; simp only [cuw]; (repeat' split) <;> first | rfl | omega)
        generalize H1 = H at hP hS ⊢
        have hP : va_P D vwCl (wP cI cB a shw O (cuw χ b (plc χ b)) b fi ne 0 0) H := hP
        have hD : va_D A (wP cI cB a shw O (cuw χ b (plc χ b)) b fi ne 0 0) := hD
        refine lv_iconst (v := nI 0) hx hb dX2_flush_51 (by decide) ?_
        have hq9 : (wP cI cB a shw O (cuw χ b (plc χ b)) b fi ne 0 0 : va_W) = wP cI cB a shw (fO χ b ct O, fX χ b ct O, fCt χ b ct, fOn χ b ct on).1 (fO χ b ct O, fX χ b ct O, fCt χ b ct, fOn χ b ct on).2.1 b fi ne (fO χ b ct O, fX χ b ct O, fCt χ b ct, fOn χ b ct on).2.2.1 (fO χ b ct O, fX χ b ct O, fCt χ b ct, fOn χ b ct on).2.2.2 := (by dsimp only; have e1 : fX χ b ct O = (cuw χ b (plc χ b)) := (by unfold fX; rw [cif_f (show ¬ plc χ b = 8 by omega)]; (repeat' (first | rw [cif_t (by omega)] | rw [cif_f (by omega)]))); have e2 : fO χ b ct O = O := (by unfold fO; rw [cif_f (show ¬ plc χ b = 8 by omega)]; (repeat' (first | rw [cif_t (by omega)] | rw [cif_f (by omega)]))); have e3 : fCt χ b ct = 0 := (by unfold fCt; (rw [cif_f (show ¬ plc χ b = 8 by omega)]) <;> omega); have e4 : fOn χ b ct on = 0 := (by unfold fOn; rw [cif_f (show ¬ plc χ b = 8 by omega)]; (repeat' (first | rw [cif_t (by omega)] | rw [cif_f (by omega)]))); rw [e1, e2, e3, e4])
        exact xf_z (post := fun (r : Int32) (u : (Nat → Nat) × (Nat → Nat) × Nat × Nat) => bo r (fOk χ b ct) ∧ u = (fO χ b ct O, fX χ b ct O, fCt χ b ct, fOn χ b ct on)) (w1 := fun (u : (Nat → Nat) × (Nat → Nat) × Nat × Nat) => wP cI cB a shw u.1 u.2.1 b fi ne u.2.2.1 u.2.2.2) (fO χ b ct O, fX χ b ct O, fCt χ b ct, fOn χ b ct on) hx hb hr hlocks rfl (⟨bo.zero (by unfold fOk; omega), rfl⟩) (va_P.eqw hq9 hP) hK (va_D.eqw hq9 hD) hS dX2_flush_52
    · have hP := hP1
      have hD := hDA
      generalize H1 = H at hP hS ⊢
      have hP : va_P D vwCl (wP cI cB a shw O χ b fi ne (ct - 1) on) H := hP
      have hD : va_D A (wP cI cB a shw O χ b fi ne (ct - 1) on) := hD
      refine xz_eq (tgt := 53) hx hb dX2_flush_43 (by decide) (nI_toInt (by omega)) (fun c_43 => ?_) (fun c_43 => ?_)
      · refine lv_aload_n hx hb dX2_flush_53 rfl (lv_at hl 1 rfl) ?_
        refine lv_iload_n hx hb dX2_flush_54 rfl (lv_at hl 0 rfl) ?_
        refine lv_aload_n hx hb dX2_flush_55 rfl (lv_at hl 2 rfl) ?_
        refine va_get (D := D) (ci := 2) (v := .ref (a 2)) (C := RX2) (T := TX2) (N := 8) hx hb hts hiX2 hown hK hP 0 rfl rfl 1 (by decide) (hts (.fieldLink RX2 18 "PairedCells" "openPage" "LPairedCells$EventPage;") (by decide +kernel)) (fun _ h9 => h9) rfl dX2_flush_56 ?_
        have hF9 := x_hF (dP_blkopen hb6 hD) hS hA
        refine xw_Vv (ci := 0) (rest := []) (As := [.int (nI (plc χ b)), .ref (a 2)]) ⟨hx, hb, hml, hown, hts⟩ (c_X0_write l D a χ b hb6 hχ (plc χ b) (by omega) (a 2) (a 3) O H.size) (cwV 2 hts gX2_flush_X0_write rfl rfl rfl (by decide +kernel) ⟨Nat.le_of_ble_eq_true rfl, Nat.le_of_ble_eq_true rfl⟩) hN hK (wP_blkopen hb6 hP) (dP_blkopen hb6 hD) hS hA rfl 0 rfl rfl hl.1 rfl (Nat.le_of_ble_eq_true rfl) dX2_flush_59 ⟨Nat.le_of_ble_eq_true rfl, Nat.le_of_ble_eq_true rfl⟩ (fun u_59 H1 locs hw_59 hP1 hD1 hDA hk9 hS => ?_)
        obtain ⟨hP, hD⟩ := jP_blkopen hb6 hP hD hF9 hk9 hP1 hD1 (fun i hi => by unfold inb at hi; simp only [wrt]; (repeat' split) <;> first | rfl | omega)
        generalize H1 = H at hP hS ⊢
        have hP : va_P D vwCl (wP cI cB a shw O (wrt χ b (plc χ b) O) b fi ne (ct - 1) on) H := hP
        have hD : va_D A (wP cI cB a shw O (wrt χ b (plc χ b) O) b fi ne (ct - 1) on) := hD
        refine lv_aload_n hx hb dX2_flush_62 rfl (lv_at hl 2 rfl) ?_
        refine va_get (D := D) (ci := 2) (v := .ref (a 2)) (C := RX2) (T := TX2) (N := 8) hx hb hts hiX2 hown hK hP 0 rfl rfl 1 (by decide) (hts (.fieldLink RX2 18 "PairedCells" "openPage" "LPairedCells$EventPage;") (by decide +kernel)) (fun _ h9 => h9) rfl dX2_flush_63 ?_
        have hF9 := x_hF (dP_open hD) hS hA
        refine xw_Vv (ci := 1) (rest := []) (As := []) ⟨hx, hb, hml, hown, hts⟩ (c_X1_clear l D (a 2) (a 3) O hO0 H.size) (cwV 0 hts gX2_flush_X1_clear rfl rfl rfl (by decide +kernel) ⟨Nat.le_of_ble_eq_true rfl, Nat.le_of_ble_eq_true rfl⟩) hN hK (wP_open hP) (dP_open hD) hS hA rfl 0 rfl rfl hl.1 rfl (Nat.le_of_ble_eq_true rfl) dX2_flush_66 ⟨Nat.le_of_ble_eq_true rfl, Nat.le_of_ble_eq_true rfl⟩ (fun u_66 H1 locs hw_66 hP1 hD1 hDA hk9 hS => ?_)
        obtain ⟨hP, hD⟩ := jP_open hP hD hF9 hk9 hP1 hD1
        generalize H1 = H at hP hS ⊢
        have hP : va_P D vwCl (wP cI cB a shw (fun _ => 0) (wrt χ b (plc χ b) O) b fi ne (ct - 1) on) H := hP
        have hD : va_D A (wP cI cB a shw (fun _ => 0) (wrt χ b (plc χ b) O) b fi ne (ct - 1) on) := hD
        refine lv_iconst (v := nI 1) hx hb dX2_flush_69 (by decide) ?_
        have hq9 : (wP cI cB a shw (fun _ => 0) (wrt χ b (plc χ b) O) b fi ne (ct - 1) on : va_W) = wP cI cB a shw (fO χ b ct O, fX χ b ct O, fCt χ b ct, fOn χ b ct on).1 (fO χ b ct O, fX χ b ct O, fCt χ b ct, fOn χ b ct on).2.1 b fi ne (fO χ b ct O, fX χ b ct O, fCt χ b ct, fOn χ b ct on).2.2.1 (fO χ b ct O, fX χ b ct O, fCt χ b ct, fOn χ b ct on).2.2.2 := (by dsimp only; have e1 : fX χ b ct O = (wrt χ b (plc χ b) O) := (by unfold fX; rw [cif_f (show ¬ plc χ b = 8 by omega)]; (repeat' (first | rw [cif_t (by omega)] | rw [cif_f (by omega)]))); have e2 : fO χ b ct O = (fun _ => 0) := (by unfold fO; rw [cif_f (show ¬ plc χ b = 8 by omega)]; (repeat' (first | rw [cif_t (by omega)] | rw [cif_f (by omega)]))); have e3 : fCt χ b ct = (ct - 1) := (by unfold fCt; (rw [cif_f (show ¬ plc χ b = 8 by omega)]) <;> omega); have e4 : fOn χ b ct on = on := (by unfold fOn; rw [cif_f (show ¬ plc χ b = 8 by omega)]; (repeat' (first | rw [cif_t (by omega)] | rw [cif_f (by omega)]))); rw [e1, e2, e3, e4])
        exact xf_z (post := fun (r : Int32) (u : (Nat → Nat) × (Nat → Nat) × Nat × Nat) => bo r (fOk χ b ct) ∧ u = (fO χ b ct O, fX χ b ct O, fCt χ b ct, fOn χ b ct on)) (w1 := fun (u : (Nat → Nat) × (Nat → Nat) × Nat × Nat) => wP cI cB a shw u.1 u.2.1 b fi ne u.2.2.1 u.2.2.2) (fO χ b ct O, fX χ b ct O, fCt χ b ct, fOn χ b ct on) hx hb hr hlocks rfl (⟨bo.one (by unfold fOk; omega), rfl⟩) (va_P.eqw hq9 hP) hK (va_D.eqw hq9 hD) hS dX2_flush_70
      · exfalso; omega
  · refine lv_aload_n hx hb dX2_flush_29 rfl (lv_at hl 2 rfl) ?_
    refine lv_aload_n hx hb dX2_flush_30 rfl (lv_at hl 1 rfl) ?_
    have hF9 := x_hF (hD) hS hA
    refine xw_Vi (ci := 2) (rest := []) (As := [.ref (a (6 + 4 * b))]) ⟨hx, hb, hml, hown, hts⟩ (c_X2_programGuard l D a shw O χ b fi ne ct on hct b hb6 hχ H.size) (cwV 1 hts gX2_flush_X2_programGuard rfl rfl rfl (by decide +kernel) ⟨Nat.le_of_ble_eq_true rfl, Nat.le_of_ble_eq_true rfl⟩) hN hK (hP) (hD) hS hA rfl 0 rfl rfl hl.1 rfl (Nat.le_of_ble_eq_true rfl) dX2_flush_31 ⟨Nat.le_of_ble_eq_true rfl, Nat.le_of_ble_eq_true rfl⟩ (fun r_31 u_31 H1 locs hw_31 hP1 hD1 hDA hk9 hS => ?_)
    rcases hw_31 with ⟨hg1, rfl, rfl⟩ | ⟨hg1, rfl, rfl⟩
    · have hP := hP1
      have hD := hDA
      generalize H1 = H at hP hS ⊢
      have hP : va_P D vwCl (wP cI cB a shw O (up χ (100 + b) 2) b fi ne 0 0) H := hP
      have hD : va_D A (wP cI cB a shw O (up χ (100 + b) 2) b fi ne 0 0) := hD
      refine xz_ne (tgt := 39) hx hb dX2_flush_34 (by decide) (nI_toInt (by omega)) (fun c_34 => ?_) (fun c_34 => ?_)
      · exfalso; omega
      · refine lv_iconst (v := nI 0) hx hb dX2_flush_37 (by decide) ?_
        have hq9 : (wP cI cB a shw O (up χ (100 + b) 2) b fi ne 0 0 : va_W) = wP cI cB a shw (fO χ b ct O, fX χ b ct O, fCt χ b ct, fOn χ b ct on).1 (fO χ b ct O, fX χ b ct O, fCt χ b ct, fOn χ b ct on).2.1 b fi ne (fO χ b ct O, fX χ b ct O, fCt χ b ct, fOn χ b ct on).2.2.1 (fO χ b ct O, fX χ b ct O, fCt χ b ct, fOn χ b ct on).2.2.2 := (by dsimp only; have e1 : fX χ b ct O = (up χ (100 + b) 2) := (by unfold fX; rw [cif_t (show plc χ b = 8 by omega)]; (repeat' (first | rw [cif_t (by omega)] | rw [cif_f (by omega)]))); have e2 : fO χ b ct O = O := (by unfold fO; rw [cif_t (show plc χ b = 8 by omega)]; (repeat' (first | rw [cif_t (by omega)] | rw [cif_f (by omega)]))); have e3 : fCt χ b ct = 0 := (by unfold fCt; (rw [cif_t (show plc χ b = 8 by omega)]) <;> omega); have e4 : fOn χ b ct on = 0 := (by unfold fOn; rw [cif_t (show plc χ b = 8 by omega)]; (repeat' (first | rw [cif_t (by omega)] | rw [cif_f (by omega)]))); rw [e1, e2, e3, e4])
        exact xf_z (post := fun (r : Int32) (u : (Nat → Nat) × (Nat → Nat) × Nat × Nat) => bo r (fOk χ b ct) ∧ u = (fO χ b ct O, fX χ b ct O, fCt χ b ct, fOn χ b ct on)) (w1 := fun (u : (Nat → Nat) × (Nat → Nat) × Nat × Nat) => wP cI cB a shw u.1 u.2.1 b fi ne u.2.2.1 u.2.2.2) (fO χ b ct O, fX χ b ct O, fCt χ b ct, fOn χ b ct on) hx hb hr hlocks rfl (⟨bo.zero (by unfold fOk; omega), rfl⟩) (va_P.eqw hq9 hP) hK (va_D.eqw hq9 hD) hS dX2_flush_38
    · have hP := hP1
      have hD := hDA
      generalize H1 = H at hP hS ⊢
      have hP : va_P D vwCl (wP cI cB a shw O (wgd χ b) b fi ne (ct - 1) on) H := hP
      have hD : va_D A (wP cI cB a shw O (wgd χ b) b fi ne (ct - 1) on) := hD
      refine xz_ne (tgt := 39) hx hb dX2_flush_34 (by decide) (nI_toInt (by omega)) (fun c_34 => ?_) (fun c_34 => ?_)
      · refine lv_aload_n hx hb dX2_flush_39 rfl (lv_at hl 2 rfl) ?_
        have hF9 := x_hF (hD) hS hA
        refine xw_Vi (ci := 2) (rest := []) (As := []) ⟨hx, hb, hml, hown, hts⟩ (c_X2_cutIsDue l D a shw O (wgd χ b) b fi ne (ct - 1) on (by omega) H.size) (cwV 0 hts gX2_flush_X2_cutIsDue rfl rfl rfl (by decide +kernel) ⟨Nat.le_of_ble_eq_true rfl, Nat.le_of_ble_eq_true rfl⟩) hN hK (hP) (hD) hS hA rfl 0 rfl rfl hl.1 rfl (Nat.le_of_ble_eq_true rfl) dX2_flush_40 ⟨Nat.le_of_ble_eq_true rfl, Nat.le_of_ble_eq_true rfl⟩ (fun r_40 u_40 H1 locs hw_40 hP1 hD1 hDA hk9 hS => ?_)
        rcases hw_40 with ⟨hc1, rfl, rfl⟩ | ⟨hc1, rfl, rfl⟩
        · have hP := hP1
          have hD := hDA
          generalize H1 = H at hP hS ⊢
          have hP : va_P D vwCl (wP cI cB a shw O (wgd χ b) b fi ne 0 0) H := hP
          have hD : va_D A (wP cI cB a shw O (wgd χ b) b fi ne 0 0) := hD
          refine xz_eq (tgt := 53) hx hb dX2_flush_43 (by decide) (nI_toInt (by omega)) (fun c_43 => ?_) (fun c_43 => ?_)
          · exfalso; omega
          · refine lv_aload_n hx hb dX2_flush_46 rfl (lv_at hl 1 rfl) ?_
            refine lv_iload_n hx hb dX2_flush_47 rfl (lv_at hl 0 rfl) ?_
            have hF9 := x_hF (dP_blk hb6 hD) hS hA
            refine xw_Vv (ci := 0) (rest := []) (As := [.int (nI (plc χ b))]) ⟨hx, hb, hml, hown, hts⟩ (c_X0_cutAt l D a (wgd χ b) b hb6 hχg (plc χ b) (by omega) H.size) (cwV 1 hts gX2_flush_X0_cutAt rfl rfl rfl (by decide +kernel) ⟨Nat.le_of_ble_eq_true rfl, Nat.le_of_ble_eq_true rfl⟩) hN hK (wP_blk hb6 hP) (dP_blk hb6 hD) hS hA rfl 0 rfl rfl hl.1 rfl (Nat.le_of_ble_eq_true rfl) dX2_flush_48 ⟨Nat.le_of_ble_eq_true rfl, Nat.le_of_ble_eq_true rfl⟩ (fun u_48 H1 locs hw_48 hP1 hD1 hDA hk9 hS => ?_)
            obtain ⟨hP, hD⟩ := jP_blk hb6 hP hD hF9 hk9 hP1 hD1 (fun i hi => by unfold inb at hi; simp only [cuw]; (repeat' split) <;> first | rfl | omega)
            generalize H1 = H at hP hS ⊢
            have hP : va_P D vwCl (wP cI cB a shw O (cuw (wgd χ b) b (plc χ b)) b fi ne 0 0) H := hP
            have hD : va_D A (wP cI cB a shw O (cuw (wgd χ b) b (plc χ b)) b fi ne 0 0) := hD
            refine lv_iconst (v := nI 0) hx hb dX2_flush_51 (by decide) ?_
            have hq9 : (wP cI cB a shw O (cuw (wgd χ b) b (plc χ b)) b fi ne 0 0 : va_W) = wP cI cB a shw (fO χ b ct O, fX χ b ct O, fCt χ b ct, fOn χ b ct on).1 (fO χ b ct O, fX χ b ct O, fCt χ b ct, fOn χ b ct on).2.1 b fi ne (fO χ b ct O, fX χ b ct O, fCt χ b ct, fOn χ b ct on).2.2.1 (fO χ b ct O, fX χ b ct O, fCt χ b ct, fOn χ b ct on).2.2.2 := (by dsimp only; have e1 : fX χ b ct O = (cuw (wgd χ b) b (plc χ b)) := (by unfold fX; rw [cif_t (show plc χ b = 8 by omega)]; (repeat' (first | rw [cif_t (by omega)] | rw [cif_f (by omega)])); rw [show plc χ b = 8 by omega]); have e2 : fO χ b ct O = O := (by unfold fO; rw [cif_t (show plc χ b = 8 by omega)]; (repeat' (first | rw [cif_t (by omega)] | rw [cif_f (by omega)]))); have e3 : fCt χ b ct = 0 := (by unfold fCt; (rw [cif_t (show plc χ b = 8 by omega)]) <;> omega); have e4 : fOn χ b ct on = 0 := (by unfold fOn; rw [cif_t (show plc χ b = 8 by omega)]; (repeat' (first | rw [cif_t (by omega)] | rw [cif_f (by omega)]))); rw [e1, e2, e3, e4])
            exact xf_z (post := fun (r : Int32) (u : (Nat → Nat) × (Nat → Nat) × Nat × Nat) => bo r (fOk χ b ct) ∧ u = (fO χ b ct O, fX χ b ct O, fCt χ b ct, fOn χ b ct on)) (w1 := fun (u : (Nat → Nat) × (Nat → Nat) × Nat × Nat) => wP cI cB a shw u.1 u.2.1 b fi ne u.2.2.1 u.2.2.2) (fO χ b ct O, fX χ b ct O, fCt χ b ct, fOn χ b ct on) hx hb hr hlocks rfl (⟨bo.zero (by unfold fOk; omega), rfl⟩) (va_P.eqw hq9 hP) hK (va_D.eqw hq9 hD) hS dX2_flush_52
        · have hP := hP1
          have hD := hDA
          generalize H1 = H at hP hS ⊢
          have hP : va_P D vwCl (wP cI cB a shw O (wgd χ b) b fi ne ((ct - 1) - 1) on) H := hP
          have hD : va_D A (wP cI cB a shw O (wgd χ b) b fi ne ((ct - 1) - 1) on) := hD
          refine xz_eq (tgt := 53) hx hb dX2_flush_43 (by decide) (nI_toInt (by omega)) (fun c_43 => ?_) (fun c_43 => ?_)
          · refine lv_aload_n hx hb dX2_flush_53 rfl (lv_at hl 1 rfl) ?_
            refine lv_iload_n hx hb dX2_flush_54 rfl (lv_at hl 0 rfl) ?_
            refine lv_aload_n hx hb dX2_flush_55 rfl (lv_at hl 2 rfl) ?_
            refine va_get (D := D) (ci := 2) (v := .ref (a 2)) (C := RX2) (T := TX2) (N := 8) hx hb hts hiX2 hown hK hP 0 rfl rfl 1 (by decide) (hts (.fieldLink RX2 18 "PairedCells" "openPage" "LPairedCells$EventPage;") (by decide +kernel)) (fun _ h9 => h9) rfl dX2_flush_56 ?_
            have hF9 := x_hF (dP_blkopen hb6 hD) hS hA
            refine xw_Vv (ci := 0) (rest := []) (As := [.int (nI (plc χ b)), .ref (a 2)]) ⟨hx, hb, hml, hown, hts⟩ (c_X0_write l D a (wgd χ b) b hb6 hχg (plc χ b) (by omega) (a 2) (a 3) O H.size) (cwV 2 hts gX2_flush_X0_write rfl rfl rfl (by decide +kernel) ⟨Nat.le_of_ble_eq_true rfl, Nat.le_of_ble_eq_true rfl⟩) hN hK (wP_blkopen hb6 hP) (dP_blkopen hb6 hD) hS hA rfl 0 rfl rfl hl.1 rfl (Nat.le_of_ble_eq_true rfl) dX2_flush_59 ⟨Nat.le_of_ble_eq_true rfl, Nat.le_of_ble_eq_true rfl⟩ (fun u_59 H1 locs hw_59 hP1 hD1 hDA hk9 hS => ?_)
            obtain ⟨hP, hD⟩ := jP_blkopen hb6 hP hD hF9 hk9 hP1 hD1 (fun i hi => by unfold inb at hi; simp only [wrt]; (repeat' split) <;> first | rfl | omega)
            generalize H1 = H at hP hS ⊢
            have hP : va_P D vwCl (wP cI cB a shw O (wrt (wgd χ b) b (plc χ b) O) b fi ne ((ct - 1) - 1) on) H := hP
            have hD : va_D A (wP cI cB a shw O (wrt (wgd χ b) b (plc χ b) O) b fi ne ((ct - 1) - 1) on) := hD
            refine lv_aload_n hx hb dX2_flush_62 rfl (lv_at hl 2 rfl) ?_
            refine va_get (D := D) (ci := 2) (v := .ref (a 2)) (C := RX2) (T := TX2) (N := 8) hx hb hts hiX2 hown hK hP 0 rfl rfl 1 (by decide) (hts (.fieldLink RX2 18 "PairedCells" "openPage" "LPairedCells$EventPage;") (by decide +kernel)) (fun _ h9 => h9) rfl dX2_flush_63 ?_
            have hF9 := x_hF (dP_open hD) hS hA
            refine xw_Vv (ci := 1) (rest := []) (As := []) ⟨hx, hb, hml, hown, hts⟩ (c_X1_clear l D (a 2) (a 3) O hO0 H.size) (cwV 0 hts gX2_flush_X1_clear rfl rfl rfl (by decide +kernel) ⟨Nat.le_of_ble_eq_true rfl, Nat.le_of_ble_eq_true rfl⟩) hN hK (wP_open hP) (dP_open hD) hS hA rfl 0 rfl rfl hl.1 rfl (Nat.le_of_ble_eq_true rfl) dX2_flush_66 ⟨Nat.le_of_ble_eq_true rfl, Nat.le_of_ble_eq_true rfl⟩ (fun u_66 H1 locs hw_66 hP1 hD1 hDA hk9 hS => ?_)
            obtain ⟨hP, hD⟩ := jP_open hP hD hF9 hk9 hP1 hD1
            generalize H1 = H at hP hS ⊢
            have hP : va_P D vwCl (wP cI cB a shw (fun _ => 0) (wrt (wgd χ b) b (plc χ b) O) b fi ne ((ct - 1) - 1) on) H := hP
            have hD : va_D A (wP cI cB a shw (fun _ => 0) (wrt (wgd χ b) b (plc χ b) O) b fi ne ((ct - 1) - 1) on) := hD
            refine lv_iconst (v := nI 1) hx hb dX2_flush_69 (by decide) ?_
            have hq9 : (wP cI cB a shw (fun _ => 0) (wrt (wgd χ b) b (plc χ b) O) b fi ne ((ct - 1) - 1) on : va_W) = wP cI cB a shw (fO χ b ct O, fX χ b ct O, fCt χ b ct, fOn χ b ct on).1 (fO χ b ct O, fX χ b ct O, fCt χ b ct, fOn χ b ct on).2.1 b fi ne (fO χ b ct O, fX χ b ct O, fCt χ b ct, fOn χ b ct on).2.2.1 (fO χ b ct O, fX χ b ct O, fCt χ b ct, fOn χ b ct on).2.2.2 := (by dsimp only; have e1 : fX χ b ct O = (wrt (wgd χ b) b (plc χ b) O) := (by unfold fX; rw [cif_t (show plc χ b = 8 by omega)]; (repeat' (first | rw [cif_t (by omega)] | rw [cif_f (by omega)])); rw [show plc χ b = 8 by omega]); have e2 : fO χ b ct O = (fun _ => 0) := (by unfold fO; rw [cif_t (show plc χ b = 8 by omega)]; (repeat' (first | rw [cif_t (by omega)] | rw [cif_f (by omega)]))); have e3 : fCt χ b ct = ((ct - 1) - 1) := (by unfold fCt; (rw [cif_t (show plc χ b = 8 by omega)]) <;> omega); have e4 : fOn χ b ct on = on := (by unfold fOn; rw [cif_t (show plc χ b = 8 by omega)]; (repeat' (first | rw [cif_t (by omega)] | rw [cif_f (by omega)]))); rw [e1, e2, e3, e4])
            exact xf_z (post := fun (r : Int32) (u : (Nat → Nat) × (Nat → Nat) × Nat × Nat) => bo r (fOk χ b ct) ∧ u = (fO χ b ct O, fX χ b ct O, fCt χ b ct, fOn χ b ct on)) (w1 := fun (u : (Nat → Nat) × (Nat → Nat) × Nat × Nat) => wP cI cB a shw u.1 u.2.1 b fi ne u.2.2.1 u.2.2.2) (fO χ b ct O, fX χ b ct O, fCt χ b ct, fOn χ b ct on) hx hb hr hlocks rfl (⟨bo.one (by unfold fOk; omega), rfl⟩) (va_P.eqw hq9 hP) hK (va_D.eqw hq9 hD) hS dX2_flush_70
          · exfalso; omega
      · exfalso; omega
