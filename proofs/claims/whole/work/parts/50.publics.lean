set_option maxHeartbeats 4000000 in
set_option maxRecDepth 100000 in
theorem c_X2_first (l : Launch) (D : va_G) {cI cB : ClassId} (a h O χ : Nat → Nat) (cu fi ne ct on : Nat) (hon : on = 1) : Met l yX2_first wsX2_first ({ frames := 1, cells := 0, slots := 0, locals := 20 }) (va_Pc [.ref (a 0)] (x_R D (tyP cI cB) (wP cI cB a h O χ cu fi ne ct on))) (vp_Si (fun r => r = nI fi)) 0 0 (fun _ => False) := by
  refine Met.ofW (cc := cX2_first) (maxL := 1) (ret := (some .int)) (by decide) rfl ?_
  intro p e s m args below meth c s₁ B hml hv
  obtain ⟨rfl, hN, hP, hK⟩ := hv
  have hx := B.exec
  have hb := B.bytes
  have hr := B.returns
  have hts := atoms_spec (ws := wsX2_first) B.pre
  have hown : s.vm.findClass RX2 = some m.cls := findClass_of_methodNamed B.named
  have hlocks := B.notSynchronized
  have hiX2 : ∀ w ∈ u_ws RX2 TX2 8, w ∈ wsX2_first := by decide +kernel
  have hl := lv_entry ([.ref (a 0)]) (n := 1) (Nat.le_of_ble_eq_true rfl)
  rw [lg_entry_eq]
  generalize (lg_sl ([.ref (a 0)]) ++ List.replicate (1 - (lg_sl ([.ref (a 0)])).length) Slot.unset).toArray = ls at hl ⊢
  have hl : lv_has ls 1 [(0, .ref (a 0))] := hl
  refine lv_aload_n hx hb dX2_first_0 rfl (lv_at hl 0 rfl) ?_
  refine xc_Vv (ci := 2) (rest := []) (As := []) ⟨hx, hb, hml, hown, hts⟩ (c_X2_requirePower l D a h O χ cu fi ne ct on hon) (cwV 0 hts gX2_first_X2_requirePower rfl rfl rfl (by decide +kernel) ⟨Nat.le_of_ble_eq_true rfl, Nat.le_of_ble_eq_true rfl⟩) hN hK (hP) rfl 0 rfl rfl hl.1 rfl (Nat.le_of_ble_eq_true rfl) dX2_first_1 ⟨Nat.le_of_ble_eq_true rfl, Nat.le_of_ble_eq_true rfl⟩ (fun hw_1 => ?_)
  refine lv_aload_n hx hb dX2_first_4 rfl (lv_at hl 0 rfl) ?_
  refine va_get (D := D) (ci := 2) (v := .int (nI (fi))) (C := RX2) (T := TX2) (N := 8) hx hb hts hiX2 hown hK hP 0 rfl rfl 4 (by decide) (hts (.fieldLink RX2 29 "PairedCells" "firstEvent" "I") (by decide +kernel)) (fun _ h9 => h9) rfl dX2_first_5 ?_
  exact xe_i hx hb hr hlocks (rfl) rfl rfl dX2_first_8

set_option maxHeartbeats 4000000 in
set_option maxRecDepth 100000 in
theorem c_X2_count (l : Launch) (D : va_G) {cI cB : ClassId} (a h O χ : Nat → Nat) (cu fi ne ct on : Nat) (hon : on = 1) : Met l yX2_count wsX2_count ({ frames := 1, cells := 0, slots := 0, locals := 20 }) (va_Pc [.ref (a 0)] (x_R D (tyP cI cB) (wP cI cB a h O χ cu fi ne ct on))) (vp_Si (fun r => r = nI ne)) 0 0 (fun _ => False) := by
  refine Met.ofW (cc := cX2_count) (maxL := 1) (ret := (some .int)) (by decide) rfl ?_
  intro p e s m args below meth c s₁ B hml hv
  obtain ⟨rfl, hN, hP, hK⟩ := hv
  have hx := B.exec
  have hb := B.bytes
  have hr := B.returns
  have hts := atoms_spec (ws := wsX2_count) B.pre
  have hown : s.vm.findClass RX2 = some m.cls := findClass_of_methodNamed B.named
  have hlocks := B.notSynchronized
  have hiX2 : ∀ w ∈ u_ws RX2 TX2 8, w ∈ wsX2_count := by decide +kernel
  have hl := lv_entry ([.ref (a 0)]) (n := 1) (Nat.le_of_ble_eq_true rfl)
  rw [lg_entry_eq]
  generalize (lg_sl ([.ref (a 0)]) ++ List.replicate (1 - (lg_sl ([.ref (a 0)])).length) Slot.unset).toArray = ls at hl ⊢
  have hl : lv_has ls 1 [(0, .ref (a 0))] := hl
  refine lv_aload_n hx hb dX2_count_0 rfl (lv_at hl 0 rfl) ?_
  refine xc_Vv (ci := 2) (rest := []) (As := []) ⟨hx, hb, hml, hown, hts⟩ (c_X2_requirePower l D a h O χ cu fi ne ct on hon) (cwV 0 hts gX2_count_X2_requirePower rfl rfl rfl (by decide +kernel) ⟨Nat.le_of_ble_eq_true rfl, Nat.le_of_ble_eq_true rfl⟩) hN hK (hP) rfl 0 rfl rfl hl.1 rfl (Nat.le_of_ble_eq_true rfl) dX2_count_1 ⟨Nat.le_of_ble_eq_true rfl, Nat.le_of_ble_eq_true rfl⟩ (fun hw_1 => ?_)
  refine lv_aload_n hx hb dX2_count_4 rfl (lv_at hl 0 rfl) ?_
  refine va_get (D := D) (ci := 2) (v := .int (nI (ne))) (C := RX2) (T := TX2) (N := 8) hx hb hts hiX2 hown hK hP 0 rfl rfl 5 (by decide) (hts (.fieldLink RX2 32 "PairedCells" "nextEvent" "I") (by decide +kernel)) (fun _ h9 => h9) rfl dX2_count_5 ?_
  exact xe_i hx hb hr hlocks (rfl) rfl rfl dX2_count_8

set_option maxHeartbeats 4000000 in
set_option maxRecDepth 100000 in
theorem c_X2_off (l : Launch) (D : va_G) {cI cB : ClassId} (a h O χ : Nat → Nat) (cu fi ne ct on : Nat) (hon : on = 1) (hO0 : O 0 < 65536) (sz : Nat) : Met l yX2_off wsX2_off ({ frames := 1, cells := 0, slots := 0, locals := 20 }) (va_Pc [.ref (a 0)] (x_U D (tyP cI cB) (wP cI cB a h O χ cu fi ne ct on) sz)) (va_Qi (fun (r : Int32) (u : Unit) => r = nI (O 0)) (fun u t => x_E D (tyP cI cB) (va_A (wP cI cB a h O χ cu fi ne ct on) sz) (wP cI cB a h O χ cu fi ne ct 0) t) (va_A (wP cI cB a h O χ cu fi ne ct on) sz)) 0 0 (va_A (wP cI cB a h O χ cu fi ne ct on) sz) := by
  refine Met.ofW (cc := cX2_off) (maxL := 1) (ret := (some .int)) (by decide) rfl ?_
  intro p e s m args below meth c s₁ B hml hv
  obtain ⟨rfl, hsz, hN, hP, hK, hD0⟩ := hv
  have hx := B.exec
  have hb := B.bytes
  have hr := B.returns
  have hts := atoms_spec (ws := wsX2_off) B.pre
  have hown : s.vm.findClass RX2 = some m.cls := findClass_of_methodNamed B.named
  have hlocks := B.notSynchronized
  subst hsz
  have hD := hD0.self (sz := s.heap.size)
  generalize hAe : va_A (wP cI cB a h O χ cu fi ne ct on) s.heap.size = A at hD ⊢
  have hA : ∀ q : Nat, s.heap.size ≤ q → A q := fun q h => by rw [← hAe]; exact Or.inr h
  obtain ⟨H, hH⟩ : ∃ H : Heap, s.heap = H := ⟨_, rfl⟩
  obtain ⟨locs, hlo⟩ : ∃ L : List Loc, ([] : List Loc) = L := ⟨_, rfl⟩
  have hS : va_S A s.heap H locs := by rw [← hH, ← hlo]; exact va_S.rf
  have hP : va_P D vwCl (wP cI cB a h O χ cu fi ne ct on) H := hH ▸ hP
  rw [hH, hlo]
  have hiX2 : ∀ w ∈ u_ws RX2 TX2 8, w ∈ wsX2_off := by decide +kernel
  have hl := lv_entry ([.ref (a 0)]) (n := 1) (Nat.le_of_ble_eq_true rfl)
  rw [lg_entry_eq]
  generalize (lg_sl ([.ref (a 0)]) ++ List.replicate (1 - (lg_sl ([.ref (a 0)])).length) Slot.unset).toArray = ls at hl ⊢
  have hl : lv_has ls 1 [(0, .ref (a 0))] := hl
  refine lv_aload_n hx hb dX2_off_0 rfl (lv_at hl 0 rfl) ?_
  refine xc_Vv (ci := 2) (rest := []) (As := []) ⟨hx, hb, hml, hown, hts⟩ (c_X2_requirePower l D a h O χ cu fi ne ct on hon) (cwV 0 hts gX2_off_X2_requirePower rfl rfl rfl (by decide +kernel) ⟨Nat.le_of_ble_eq_true rfl, Nat.le_of_ble_eq_true rfl⟩) hN hK (hP) rfl 0 rfl rfl hl.1 rfl (Nat.le_of_ble_eq_true rfl) dX2_off_1 ⟨Nat.le_of_ble_eq_true rfl, Nat.le_of_ble_eq_true rfl⟩ (fun hw_1 => ?_)
  refine lv_aload_n hx hb dX2_off_4 rfl (lv_at hl 0 rfl) ?_
  refine lv_iconst (v := nI 0) hx hb dX2_off_5 (by decide) ?_
  refine va_put (D := D) (ci := 2) (v := .int (nI (0))) (ty := .boolean) (C := RX2) (T := TX2) (N := 8) hx hb hts hiX2 tyX2 tyX2_ok nmX2 hown hK hP hD hS 0 rfl rfl 7 (by decide) (hts (.fieldLink RX2 38 "PairedCells" "powerOn" "Z") (by decide +kernel)) (fun _ h9 => h9) rfl (by decide +kernel) rfl rfl (Nat.le_of_ble_eq_true rfl) dX2_off_6 (fun H locs hP hD hS => ?_)
  have hP : va_P D vwCl (wP cI cB a h O χ cu fi ne ct 0) H := hP
  have hD : va_D A (wP cI cB a h O χ cu fi ne ct 0) := hD
  refine lv_aload_n hx hb dX2_off_9 rfl (lv_at hl 0 rfl) ?_
  refine va_get (D := D) (ci := 2) (v := .ref (a 2)) (C := RX2) (T := TX2) (N := 8) hx hb hts hiX2 hown hK hP 0 rfl rfl 1 (by decide) (hts (.fieldLink RX2 18 "PairedCells" "openPage" "LPairedCells$EventPage;") (by decide +kernel)) (fun _ h9 => h9) rfl dX2_off_10 ?_
  refine xc_Vi (ci := 1) (rest := []) (As := []) ⟨hx, hb, hml, hown, hts⟩ (c_X1_events l D (a 2) (a 3) O hO0) (cwV 0 hts gX2_off_X1_events rfl rfl rfl (by decide +kernel) ⟨Nat.le_of_ble_eq_true rfl, Nat.le_of_ble_eq_true rfl⟩) hN hK (wP_open hP) rfl 0 rfl rfl hl.1 rfl (Nat.le_of_ble_eq_true rfl) dX2_off_13 ⟨Nat.le_of_ble_eq_true rfl, Nat.le_of_ble_eq_true rfl⟩ (fun r_13 hw_13 => ?_)
  subst hw_13
  exact xf_i (post := fun (r : Int32) (u : Unit) => r = nI (O 0)) (w1 := fun (u : Unit) => wP cI cB a h O χ cu fi ne ct 0) () hx hb hr hlocks (rfl) hP hK hD hS dX2_off_16

set_option maxHeartbeats 4000000 in
set_option maxRecDepth 100000 in
theorem c_X2_cutAfter (l : Launch) (D : va_G) {cI cB : ClassId} (a h O χ : Nat → Nat) (cu fi ne ct on : Nat) (k : Nat) (hk : k ≤ 60) (sz : Nat) : Met l yX2_cutAfter wsX2_cutAfter ({ frames := 0, cells := 0, slots := 0, locals := 0 }) (va_Pc [.ref (a 0), .int (nI (k))] (x_U D (tyP cI cB) (wP cI cB a h O χ cu fi ne ct on) sz)) (va_Qv (fun (u : Unit) => True) (fun u t => x_E D (tyP cI cB) (va_A (wP cI cB a h O χ cu fi ne ct on) sz) (wP cI cB a h O χ cu fi ne k on) t) (va_A (wP cI cB a h O χ cu fi ne ct on) sz)) 0 0 (va_A (wP cI cB a h O χ cu fi ne ct on) sz) := by
  refine Met.ofW (cc := cX2_cutAfter) (maxL := 2) (ret := none) (by decide) rfl ?_
  intro p e s m args below meth c s₁ B hml hv
  obtain ⟨rfl, hsz, hN, hP, hK, hD0⟩ := hv
  have hx := B.exec
  have hb := B.bytes
  have hr := B.returns
  have hts := atoms_spec (ws := wsX2_cutAfter) B.pre
  have hown : s.vm.findClass RX2 = some m.cls := findClass_of_methodNamed B.named
  have hlocks := B.notSynchronized
  subst hsz
  have hD := hD0.self (sz := s.heap.size)
  generalize hAe : va_A (wP cI cB a h O χ cu fi ne ct on) s.heap.size = A at hD ⊢
  have hA : ∀ q : Nat, s.heap.size ≤ q → A q := fun q h => by rw [← hAe]; exact Or.inr h
  obtain ⟨H, hH⟩ : ∃ H : Heap, s.heap = H := ⟨_, rfl⟩
  obtain ⟨locs, hlo⟩ : ∃ L : List Loc, ([] : List Loc) = L := ⟨_, rfl⟩
  have hS : va_S A s.heap H locs := by rw [← hH, ← hlo]; exact va_S.rf
  have hP : va_P D vwCl (wP cI cB a h O χ cu fi ne ct on) H := hH ▸ hP
  rw [hH, hlo]
  have hiX2 : ∀ w ∈ u_ws RX2 TX2 8, w ∈ wsX2_cutAfter := by decide +kernel
  have hl := lv_entry ([.ref (a 0), .int (nI (k))]) (n := 2) (Nat.le_of_ble_eq_true rfl)
  rw [lg_entry_eq]
  generalize (lg_sl ([.ref (a 0), .int (nI (k))]) ++ List.replicate (2 - (lg_sl ([.ref (a 0), .int (nI (k))])).length) Slot.unset).toArray = ls at hl ⊢
  have hl : lv_has ls 2 [(0, .ref (a 0)), (1, .int (nI (k)))] := hl
  refine lv_iload_n hx hb dX2_cutAfter_0 rfl (lv_at hl 1 rfl) ?_
  refine xz_lt (tgt := 10) hx hb dX2_cutAfter_1 (by decide) (nI_toInt (by omega)) (fun c_1 => ?_) (fun c_1 => ?_)
  · exfalso; omega
  · refine lv_iload_n hx hb dX2_cutAfter_4 rfl (lv_at hl 1 rfl) ?_
    refine lv_bipush (v := nI 60) hx hb dX2_cutAfter_5 (by decide) ?_
    refine xi_le (tgt := 20) hx hb dX2_cutAfter_7 (by decide) (nI_toInt (by omega)) (nI_toInt (by omega)) (fun c_7 => ?_) (fun c_7 => ?_)
    · refine lv_aload_n hx hb dX2_cutAfter_20 rfl (lv_at hl 0 rfl) ?_
      refine lv_iload_n hx hb dX2_cutAfter_21 rfl (lv_at hl 1 rfl) ?_
      refine va_put (D := D) (ci := 2) (v := .int (nI (k))) (ty := .int) (C := RX2) (T := TX2) (N := 8) hx hb hts hiX2 tyX2 tyX2_ok nmX2 hown hK hP hD hS 0 rfl rfl 6 (by decide) (hts (.fieldLink RX2 35 "PairedCells" "cutIn" "I") (by decide +kernel)) (fun _ h9 => h9) rfl (by decide +kernel) rfl rfl (Nat.le_of_ble_eq_true rfl) dX2_cutAfter_22 (fun H locs hP hD hS => ?_)
      have hP : va_P D vwCl (wP cI cB a h O χ cu fi ne k on) H := hP
      have hD : va_D A (wP cI cB a h O χ cu fi ne k on) := hD
      exact xf_v (post := fun (u : Unit) => True) (w1 := fun (u : Unit) => wP cI cB a h O χ cu fi ne k on) () hx hb hr hlocks (trivial) hP hK hD hS dX2_cutAfter_25
    · exfalso; omega

set_option maxHeartbeats 4000000 in
set_option maxRecDepth 100000 in
theorem c_X2_sync (l : Launch) (D : va_G) {cI cB : ClassId} (a h O χ : Nat → Nat) (cu fi ne ct on : Nat) (hon : on = 1) (hcu : cu < 6) (hχ : ∀ i, χ i < 65536) (hct : ct < 100) (hO0 : O 0 < 65536) (hb6 : nxb χ cu < 6) (hp16 : plc χ (nxb χ cu) < 16) (hχg : ∀ i, wgd χ (nxb χ cu) i < 65536) (hnf : O 0 ≠ 0 → ¬ ful χ cu) (sz : Nat) : Met l yX2_sync wsX2_sync ({ frames := 4, cells := 0, slots := 0, locals := 104 }) (va_Pc [.ref (a 0)] (x_U D (tyP cI cB) (wP cI cB a h O χ cu fi ne ct on) sz)) (va_Qi (fun (r : Int32) (u : (Nat → Nat) × (Nat → Nat) × Nat × Nat × Nat) => u = syS O χ cu ct on ∧ ((O 0 = 0 ∨ fOk χ (nxb χ cu) ct) ∧ r = nI ne ∨ ¬ (O 0 = 0 ∨ fOk χ (nxb χ cu) ct) ∧ r = -2)) (fun u t => x_E D (tyP cI cB) (va_A (wP cI cB a h O χ cu fi ne ct on) sz) (wP cI cB a h u.1 u.2.1 u.2.2.1 fi ne u.2.2.2.1 u.2.2.2.2) t) (va_A (wP cI cB a h O χ cu fi ne ct on) sz)) 0 0 (va_A (wP cI cB a h O χ cu fi ne ct on) sz) := by
  refine Met.ofW (cc := cX2_sync) (maxL := 1) (ret := (some .int)) (by decide) rfl ?_
  intro p e s m args below meth c s₁ B hml hv
  obtain ⟨rfl, hsz, hN, hP, hK, hD0⟩ := hv
  have hx := B.exec
  have hb := B.bytes
  have hr := B.returns
  have hts := atoms_spec (ws := wsX2_sync) B.pre
  have hown : s.vm.findClass RX2 = some m.cls := findClass_of_methodNamed B.named
  have hlocks := B.notSynchronized
  subst hsz
  have hD := hD0.self (sz := s.heap.size)
  generalize hAe : va_A (wP cI cB a h O χ cu fi ne ct on) s.heap.size = A at hD ⊢
  have hA : ∀ q : Nat, s.heap.size ≤ q → A q := fun q h => by rw [← hAe]; exact Or.inr h
  obtain ⟨H, hH⟩ : ∃ H : Heap, s.heap = H := ⟨_, rfl⟩
  obtain ⟨locs, hlo⟩ : ∃ L : List Loc, ([] : List Loc) = L := ⟨_, rfl⟩
  have hS : va_S A s.heap H locs := by rw [← hH, ← hlo]; exact va_S.rf
  have hP : va_P D vwCl (wP cI cB a h O χ cu fi ne ct on) H := hH ▸ hP
  rw [hH, hlo]
  have hiX2 : ∀ w ∈ u_ws RX2 TX2 8, w ∈ wsX2_sync := by decide +kernel
  have hl := lv_entry ([.ref (a 0)]) (n := 1) (Nat.le_of_ble_eq_true rfl)
  rw [lg_entry_eq]
  generalize (lg_sl ([.ref (a 0)]) ++ List.replicate (1 - (lg_sl ([.ref (a 0)])).length) Slot.unset).toArray = ls at hl ⊢
  have hl : lv_has ls 1 [(0, .ref (a 0))] := hl
  refine lv_aload_n hx hb dX2_sync_0 rfl (lv_at hl 0 rfl) ?_
  refine xc_Vv (ci := 2) (rest := []) (As := []) ⟨hx, hb, hml, hown, hts⟩ (c_X2_requirePower l D a h O χ cu fi ne ct on hon) (cwV 0 hts gX2_sync_X2_requirePower rfl rfl rfl (by decide +kernel) ⟨Nat.le_of_ble_eq_true rfl, Nat.le_of_ble_eq_true rfl⟩) hN hK (hP) rfl 0 rfl rfl hl.1 rfl (Nat.le_of_ble_eq_true rfl) dX2_sync_1 ⟨Nat.le_of_ble_eq_true rfl, Nat.le_of_ble_eq_true rfl⟩ (fun hw_1 => ?_)
  refine lv_aload_n hx hb dX2_sync_4 rfl (lv_at hl 0 rfl) ?_
  refine va_get (D := D) (ci := 2) (v := .ref (a 2)) (C := RX2) (T := TX2) (N := 8) hx hb hts hiX2 hown hK hP 0 rfl rfl 1 (by decide) (hts (.fieldLink RX2 18 "PairedCells" "openPage" "LPairedCells$EventPage;") (by decide +kernel)) (fun _ h9 => h9) rfl dX2_sync_5 ?_
  refine xc_Vi (ci := 1) (rest := []) (As := []) ⟨hx, hb, hml, hown, hts⟩ (c_X1_isEmpty l D (a 2) (a 3) O hO0) (cwV 0 hts gX2_sync_X1_isEmpty rfl rfl rfl (by decide +kernel) ⟨Nat.le_of_ble_eq_true rfl, Nat.le_of_ble_eq_true rfl⟩) hN hK (wP_open hP) rfl 0 rfl rfl hl.1 rfl (Nat.le_of_ble_eq_true rfl) dX2_sync_8 ⟨Nat.le_of_ble_eq_true rfl, Nat.le_of_ble_eq_true rfl⟩ (fun r_8 hw_8 => ?_)
  refine xz_ne (tgt := 24) hx hb dX2_sync_11 (by decide) rfl (fun c_11 => ?_) (fun c_11 => ?_)
  · have h_11 := bo.t hw_8 c_11
    refine lv_aload_n hx hb dX2_sync_24 rfl (lv_at hl 0 rfl) ?_
    refine va_get (D := D) (ci := 2) (v := .int (nI (ne))) (C := RX2) (T := TX2) (N := 8) hx hb hts hiX2 hown hK hP 0 rfl rfl 5 (by decide) (hts (.fieldLink RX2 32 "PairedCells" "nextEvent" "I") (by decide +kernel)) (fun _ h9 => h9) rfl dX2_sync_25 ?_
    exact xf_i (post := fun (r : Int32) (u : (Nat → Nat) × (Nat → Nat) × Nat × Nat × Nat) => u = syS O χ cu ct on ∧ ((O 0 = 0 ∨ fOk χ (nxb χ cu) ct) ∧ r = nI ne ∨ ¬ (O 0 = 0 ∨ fOk χ (nxb χ cu) ct) ∧ r = -2)) (w1 := fun (u : (Nat → Nat) × (Nat → Nat) × Nat × Nat × Nat) => wP cI cB a h u.1 u.2.1 u.2.2.1 fi ne u.2.2.2.1 u.2.2.2.2) (O, χ, cu, ct, on) hx hb hr hlocks (⟨(cif_t h_11).symm, Or.inl ⟨Or.inl h_11, rfl⟩⟩) hP hK hD hS dX2_sync_28
  · have h_11 := bo.f hw_8 c_11
    refine lv_aload_n hx hb dX2_sync_14 rfl (lv_at hl 0 rfl) ?_
    have hF9 := x_hF (hD) hS hA
    refine xw_Vi (ci := 2) (rest := []) (As := []) ⟨hx, hb, hml, hown, hts⟩ (c_X2_flush l D a h O χ cu fi ne ct on hcu hχ hct hO0 (hnf h_11) (nxb χ cu) rfl hb6 hp16 hχg H.size) (cwV 0 hts gX2_sync_X2_flush rfl rfl rfl (by decide +kernel) ⟨Nat.le_of_ble_eq_true rfl, Nat.le_of_ble_eq_true rfl⟩) hN hK (hP) (hD) hS hA rfl 0 rfl rfl hl.1 rfl (Nat.le_of_ble_eq_true rfl) dX2_sync_15 ⟨Nat.le_of_ble_eq_true rfl, Nat.le_of_ble_eq_true rfl⟩ (fun r_15 u_15 H1 locs hw_15 hP1 hD1 hDA hk9 hS => ?_)
    obtain ⟨hok, rfl⟩ := hw_15
    have hP := hP1
    have hD := hDA
    generalize H1 = H at hP hS ⊢
    have hP : va_P D vwCl (wP cI cB a h (fO χ (nxb χ cu) ct O) (fX χ (nxb χ cu) ct O) (nxb χ cu) fi ne (fCt χ (nxb χ cu) ct) (fOn χ (nxb χ cu) ct on)) H := hP
    have hD : va_D A (wP cI cB a h (fO χ (nxb χ cu) ct O) (fX χ (nxb χ cu) ct O) (nxb χ cu) fi ne (fCt χ (nxb χ cu) ct) (fOn χ (nxb χ cu) ct on)) := hD
    refine xz_ne (tgt := 24) hx hb dX2_sync_18 (by decide) rfl (fun c_18 => ?_) (fun c_18 => ?_)
    · have h_18 := bo.t hok c_18
      refine lv_aload_n hx hb dX2_sync_24 rfl (lv_at hl 0 rfl) ?_
      refine va_get (D := D) (ci := 2) (v := .int (nI (ne))) (C := RX2) (T := TX2) (N := 8) hx hb hts hiX2 hown hK hP 0 rfl rfl 5 (by decide) (hts (.fieldLink RX2 32 "PairedCells" "nextEvent" "I") (by decide +kernel)) (fun _ h9 => h9) rfl dX2_sync_25 ?_
      exact xf_i (post := fun (r : Int32) (u : (Nat → Nat) × (Nat → Nat) × Nat × Nat × Nat) => u = syS O χ cu ct on ∧ ((O 0 = 0 ∨ fOk χ (nxb χ cu) ct) ∧ r = nI ne ∨ ¬ (O 0 = 0 ∨ fOk χ (nxb χ cu) ct) ∧ r = -2)) (w1 := fun (u : (Nat → Nat) × (Nat → Nat) × Nat × Nat × Nat) => wP cI cB a h u.1 u.2.1 u.2.2.1 fi ne u.2.2.2.1 u.2.2.2.2) ((fO χ (nxb χ cu) ct O), (fX χ (nxb χ cu) ct O), (nxb χ cu), (fCt χ (nxb χ cu) ct), (fOn χ (nxb χ cu) ct on)) hx hb hr hlocks (⟨(cif_f h_11).symm, Or.inl ⟨Or.inr h_18, rfl⟩⟩) hP hK hD hS dX2_sync_28
    · have h_18 := bo.f hok c_18
      refine lv_bipush (v := (-2 : Int32)) hx hb dX2_sync_21 (by decide) ?_
      exact xf_i (post := fun (r : Int32) (u : (Nat → Nat) × (Nat → Nat) × Nat × Nat × Nat) => u = syS O χ cu ct on ∧ ((O 0 = 0 ∨ fOk χ (nxb χ cu) ct) ∧ r = nI ne ∨ ¬ (O 0 = 0 ∨ fOk χ (nxb χ cu) ct) ∧ r = -2)) (w1 := fun (u : (Nat → Nat) × (Nat → Nat) × Nat × Nat × Nat) => wP cI cB a h u.1 u.2.1 u.2.2.1 fi ne u.2.2.2.1 u.2.2.2.2) ((fO χ (nxb χ cu) ct O), (fX χ (nxb χ cu) ct O), (nxb χ cu), (fCt χ (nxb χ cu) ct), (fOn χ (nxb χ cu) ct on)) hx hb hr hlocks (⟨(cif_f h_11).symm, Or.inr ⟨fun h7 => h7.elim h_11 h_18, rfl⟩⟩) hP hK hD hS dX2_sync_23

theorem wf0 : wf (fun _ => 0) := ⟨by decide, by decide, by decide, fun i hi => absurd hi (Nat.not_lt_zero i)⟩

set_option maxHeartbeats 4000000 in
set_option maxRecDepth 100000 in
theorem c_X2_append (l : Launch) (D : va_G) {cI cB : ClassId} (a h O χ : Nat → Nat) (cu fi ne ct on : Nat) (hon : on = 1) (hcu : cu < 6) (hχ : ∀ i, χ i < 65536) (hct : ct < 100) (hO0 : O 0 < 65536) (hb6 : nxb χ cu < 6) (hp16 : plc χ (nxb χ cu) < 16) (hχg : ∀ i, wgd χ (nxb χ cu) i < 65536) (k : Nat) (w : Int64) (hwO : wf O) (hne : ne < 65536) (hk1 : 1 ≤ k) (hk6 : k ≤ 6) (hnf : ¬ fit O k → ¬ ful χ cu) (sz : Nat) : Met l yX2_append wsX2_append ({ frames := 4, cells := 0, slots := 0, locals := 104 }) (va_Pc [.ref (a 0), .int (nI (k)), .long (w)] (x_U D (tyP cI cB) (wP cI cB a h O χ cu fi ne ct on) sz)) (va_Qi (fun (r : Int32) (u : (Nat → Nat) × (Nat → Nat) × Nat × Nat × Nat × Nat) => u = apS O χ cu ne ct on k w ∧ ((fit O k ∨ fOk χ (nxb χ cu) ct) ∧ r = nI ne ∨ ¬ (fit O k ∨ fOk χ (nxb χ cu) ct) ∧ r = -2)) (fun u t => x_E D (tyP cI cB) (va_A (wP cI cB a h O χ cu fi ne ct on) sz) (wP cI cB a h u.1 u.2.1 u.2.2.1 fi u.2.2.2.1 u.2.2.2.2.1 u.2.2.2.2.2) t) (va_A (wP cI cB a h O χ cu fi ne ct on) sz)) 0 0 (va_A (wP cI cB a h O χ cu fi ne ct on) sz) := by
  refine Met.ofW (cc := cX2_append) (maxL := 4) (ret := (some .int)) (by decide) rfl ?_
  intro p e s m args below meth c s₁ B hml hv
  obtain ⟨rfl, hsz, hN, hP, hK, hD0⟩ := hv
  have hx := B.exec
  have hb := B.bytes
  have hr := B.returns
  have hts := atoms_spec (ws := wsX2_append) B.pre
  have hown : s.vm.findClass RX2 = some m.cls := findClass_of_methodNamed B.named
  have hlocks := B.notSynchronized
  subst hsz
  have hD := hD0.self (sz := s.heap.size)
  generalize hAe : va_A (wP cI cB a h O χ cu fi ne ct on) s.heap.size = A at hD ⊢
  have hA : ∀ q : Nat, s.heap.size ≤ q → A q := fun q h => by rw [← hAe]; exact Or.inr h
  obtain ⟨H, hH⟩ : ∃ H : Heap, s.heap = H := ⟨_, rfl⟩
  obtain ⟨locs, hlo⟩ : ∃ L : List Loc, ([] : List Loc) = L := ⟨_, rfl⟩
  have hS : va_S A s.heap H locs := by rw [← hH, ← hlo]; exact va_S.rf
  have hP : va_P D vwCl (wP cI cB a h O χ cu fi ne ct on) H := hH ▸ hP
  rw [hH, hlo]
  have hiX2 : ∀ w ∈ u_ws RX2 TX2 8, w ∈ wsX2_append := by decide +kernel
  have hl := lv_entry ([.ref (a 0), .int (nI (k)), .long (w)]) (n := 4) (Nat.le_of_ble_eq_true rfl)
  rw [lg_entry_eq]
  generalize (lg_sl ([.ref (a 0), .int (nI (k)), .long (w)]) ++ List.replicate (4 - (lg_sl ([.ref (a 0), .int (nI (k)), .long (w)])).length) Slot.unset).toArray = ls at hl ⊢
  have hl : lv_has ls 4 [(0, .ref (a 0)), (1, .int (nI (k))), (2, .long (w))] := hl
  refine lv_aload_n hx hb dX2_append_0 rfl (lv_at hl 0 rfl) ?_
  refine xc_Vv (ci := 2) (rest := []) (As := []) ⟨hx, hb, hml, hown, hts⟩ (c_X2_requirePower l D a h O χ cu fi ne ct on hon) (cwV 0 hts gX2_append_X2_requirePower rfl rfl rfl (by decide +kernel) ⟨Nat.le_of_ble_eq_true rfl, Nat.le_of_ble_eq_true rfl⟩) hN hK (hP) rfl 0 rfl rfl hl.1 rfl (Nat.le_of_ble_eq_true rfl) dX2_append_1 ⟨Nat.le_of_ble_eq_true rfl, Nat.le_of_ble_eq_true rfl⟩ (fun hw_1 => ?_)
  refine lv_iload_n hx hb dX2_append_4 rfl (lv_at hl 1 rfl) ?_
  refine lv_iconst (v := nI 1) hx hb dX2_append_5 (by decide) ?_
  refine xi_lt (tgt := 15) hx hb dX2_append_6 (by decide) (nI_toInt (by omega)) (nI_toInt (by omega)) (fun c_6 => ?_) (fun c_6 => ?_)
  · exfalso; omega
  · refine lv_iload_n hx hb dX2_append_9 rfl (lv_at hl 1 rfl) ?_
    refine lv_bipush (v := nI 6) hx hb dX2_append_10 (by decide) ?_
    refine xi_le (tgt := 25) hx hb dX2_append_12 (by decide) (nI_toInt (by omega)) (nI_toInt (by omega)) (fun c_12 => ?_) (fun c_12 => ?_)
    · refine lv_aload_n hx hb dX2_append_25 rfl (lv_at hl 0 rfl) ?_
      refine va_get (D := D) (ci := 2) (v := .ref (a 2)) (C := RX2) (T := TX2) (N := 8) hx hb hts hiX2 hown hK hP 0 rfl rfl 1 (by decide) (hts (.fieldLink RX2 18 "PairedCells" "openPage" "LPairedCells$EventPage;") (by decide +kernel)) (fun _ h9 => h9) rfl dX2_append_26 ?_
      refine lv_iload_n hx hb dX2_append_29 rfl (lv_at hl 1 rfl) ?_
      refine xc_Vi (ci := 1) (rest := []) (As := [.int (nI (k))]) ⟨hx, hb, hml, hown, hts⟩ (c_X1_fits l D (a 2) (a 3) O hO0 hwO k (by omega)) (cwV 1 hts gX2_append_X1_fits rfl rfl rfl (by decide +kernel) ⟨Nat.le_of_ble_eq_true rfl, Nat.le_of_ble_eq_true rfl⟩) hN hK (wP_open hP) rfl 0 rfl rfl hl.1 rfl (Nat.le_of_ble_eq_true rfl) dX2_append_30 ⟨Nat.le_of_ble_eq_true rfl, Nat.le_of_ble_eq_true rfl⟩ (fun r_30 hw_30 => ?_)
      refine xz_ne (tgt := 46) hx hb dX2_append_33 (by decide) rfl (fun c_33 => ?_) (fun c_33 => ?_)
      · have h_33 := bo.t hw_30 c_33
        refine lv_aload_n hx hb dX2_append_46 rfl (lv_at hl 0 rfl) ?_
        refine va_get (D := D) (ci := 2) (v := .ref (a 2)) (C := RX2) (T := TX2) (N := 8) hx hb hts hiX2 hown hK hP 0 rfl rfl 1 (by decide) (hts (.fieldLink RX2 18 "PairedCells" "openPage" "LPairedCells$EventPage;") (by decide +kernel)) (fun _ h9 => h9) rfl dX2_append_47 ?_
        refine lv_aload_n hx hb dX2_append_50 rfl (lv_at hl 0 rfl) ?_
        refine va_get (D := D) (ci := 2) (v := .int (nI (ne))) (C := RX2) (T := TX2) (N := 8) hx hb hts hiX2 hown hK hP 0 rfl rfl 5 (by decide) (hts (.fieldLink RX2 32 "PairedCells" "nextEvent" "I") (by decide +kernel)) (fun _ h9 => h9) rfl dX2_append_51 ?_
        refine lv_iload_n hx hb dX2_append_54 rfl (lv_at hl 1 rfl) ?_
        refine lv_lload_n hx hb dX2_append_55 rfl (lv_at hl 2 rfl) ?_
        have hF9 := x_hF (dP_open hD) hS hA
        refine xw_Vv (ci := 1) (rest := []) (As := [.int (nI (ne)), .int (nI (k)), .long (w)]) ⟨hx, hb, hml, hown, hts⟩ (c_X1_add l D (a 2) (a 3) O hO0 hwO ne k w hne (by omega) h_33 H.size) (cwV 3 hts gX2_append_X1_add rfl rfl rfl (by decide +kernel) ⟨Nat.le_of_ble_eq_true rfl, Nat.le_of_ble_eq_true rfl⟩) hN hK (wP_open hP) (dP_open hD) hS hA rfl 0 rfl rfl hl.1 rfl (Nat.le_of_ble_eq_true rfl) dX2_append_56 ⟨Nat.le_of_ble_eq_true rfl, Nat.le_of_ble_eq_true rfl⟩ (fun u_56 H1 locs hw_56 hP1 hD1 hDA hk9 hS => ?_)
        obtain ⟨hP, hD⟩ := jP_open hP hD hF9 hk9 hP1 hD1
        generalize H1 = H at hP hS ⊢
        have hP : va_P D vwCl (wP cI cB a h (adO O ne k w) χ cu fi ne ct on) H := hP
        have hD : va_D A (wP cI cB a h (adO O ne k w) χ cu fi ne ct on) := hD
        refine lv_aload_n hx hb dX2_append_59 rfl (lv_at hl 0 rfl) ?_
        refine lv_dup hx hb dX2_append_60 rfl ?_
        refine va_get (D := D) (ci := 2) (v := .int (nI (ne))) (C := RX2) (T := TX2) (N := 8) hx hb hts hiX2 hown hK hP 0 rfl rfl 5 (by decide) (hts (.fieldLink RX2 32 "PairedCells" "nextEvent" "I") (by decide +kernel)) (fun _ h9 => h9) rfl dX2_append_61 ?_
        refine lv_iconst (v := nI 1) hx hb dX2_append_64 (by decide) ?_
        refine xr_add hx hb dX2_append_65 ?_
        refine va_put (D := D) (ci := 2) (v := .int (nI (ne + 1))) (ty := .int) (C := RX2) (T := TX2) (N := 8) hx hb hts hiX2 tyX2 tyX2_ok nmX2 hown hK hP hD hS 0 rfl rfl 5 (by decide) (hts (.fieldLink RX2 32 "PairedCells" "nextEvent" "I") (by decide +kernel)) (fun _ h9 => h9) rfl (by decide +kernel) rfl rfl (Nat.le_of_ble_eq_true rfl) dX2_append_66 (fun H locs hP hD hS => ?_)
        have hP : va_P D vwCl (wP cI cB a h (adO O ne k w) χ cu fi (ne + 1) ct on) H := hP
        have hD : va_D A (wP cI cB a h (adO O ne k w) χ cu fi (ne + 1) ct on) := hD
        refine lv_aload_n hx hb dX2_append_69 rfl (lv_at hl 0 rfl) ?_
        refine va_get (D := D) (ci := 2) (v := .int (nI (ne + 1))) (C := RX2) (T := TX2) (N := 8) hx hb hts hiX2 hown hK hP 0 rfl rfl 5 (by decide) (hts (.fieldLink RX2 32 "PairedCells" "nextEvent" "I") (by decide +kernel)) (fun _ h9 => h9) rfl dX2_append_70 ?_
        refine lv_iconst (v := nI 1) hx hb dX2_append_73 (by decide) ?_
        refine xr_sub hx hb (by omega) dX2_append_74 ?_
        exact xf_i (post := fun (r : Int32) (u : (Nat → Nat) × (Nat → Nat) × Nat × Nat × Nat × Nat) => u = apS O χ cu ne ct on k w ∧ ((fit O k ∨ fOk χ (nxb χ cu) ct) ∧ r = nI ne ∨ ¬ (fit O k ∨ fOk χ (nxb χ cu) ct) ∧ r = -2)) (w1 := fun (u : (Nat → Nat) × (Nat → Nat) × Nat × Nat × Nat × Nat) => wP cI cB a h u.1 u.2.1 u.2.2.1 fi u.2.2.2.1 u.2.2.2.2.1 u.2.2.2.2.2) ((adO O ne k w), χ, cu, ne + 1, ct, on) hx hb hr hlocks (⟨(cif_t h_33).symm, Or.inl ⟨Or.inl h_33, rfl⟩⟩) hP hK hD hS dX2_append_75
      · have h_33 := bo.f hw_30 c_33
        refine lv_aload_n hx hb dX2_append_36 rfl (lv_at hl 0 rfl) ?_
        have hF9 := x_hF (hD) hS hA
        refine xw_Vi (ci := 2) (rest := []) (As := []) ⟨hx, hb, hml, hown, hts⟩ (c_X2_flush l D a h O χ cu fi ne ct on hcu hχ hct hO0 (hnf h_33) (nxb χ cu) rfl hb6 hp16 hχg H.size) (cwV 0 hts gX2_append_X2_flush rfl rfl rfl (by decide +kernel) ⟨Nat.le_of_ble_eq_true rfl, Nat.le_of_ble_eq_true rfl⟩) hN hK (hP) (hD) hS hA rfl 0 rfl rfl hl.1 rfl (Nat.le_of_ble_eq_true rfl) dX2_append_37 ⟨Nat.le_of_ble_eq_true rfl, Nat.le_of_ble_eq_true rfl⟩ (fun r_37 u_37 H1 locs hw_37 hP1 hD1 hDA hk9 hS => ?_)
        obtain ⟨hok, rfl⟩ := hw_37
        have hP := hP1
        have hD := hDA
        generalize H1 = H at hP hS ⊢
        have hP : va_P D vwCl (wP cI cB a h (fO χ (nxb χ cu) ct O) (fX χ (nxb χ cu) ct O) (nxb χ cu) fi ne (fCt χ (nxb χ cu) ct) (fOn χ (nxb χ cu) ct on)) H := hP
        have hD : va_D A (wP cI cB a h (fO χ (nxb χ cu) ct O) (fX χ (nxb χ cu) ct O) (nxb χ cu) fi ne (fCt χ (nxb χ cu) ct) (fOn χ (nxb χ cu) ct on)) := hD
        refine xz_ne (tgt := 46) hx hb dX2_append_40 (by decide) rfl (fun c_40 => ?_) (fun c_40 => ?_)
        · have h_40 := bo.t hok c_40
          rw [fO_ok h_40, fOn_ok h_40] at hP hD
          refine lv_aload_n hx hb dX2_append_46 rfl (lv_at hl 0 rfl) ?_
          refine va_get (D := D) (ci := 2) (v := .ref (a 2)) (C := RX2) (T := TX2) (N := 8) hx hb hts hiX2 hown hK hP 0 rfl rfl 1 (by decide) (hts (.fieldLink RX2 18 "PairedCells" "openPage" "LPairedCells$EventPage;") (by decide +kernel)) (fun _ h9 => h9) rfl dX2_append_47 ?_
          refine lv_aload_n hx hb dX2_append_50 rfl (lv_at hl 0 rfl) ?_
          refine va_get (D := D) (ci := 2) (v := .int (nI (ne))) (C := RX2) (T := TX2) (N := 8) hx hb hts hiX2 hown hK hP 0 rfl rfl 5 (by decide) (hts (.fieldLink RX2 32 "PairedCells" "nextEvent" "I") (by decide +kernel)) (fun _ h9 => h9) rfl dX2_append_51 ?_
          refine lv_iload_n hx hb dX2_append_54 rfl (lv_at hl 1 rfl) ?_
          refine lv_lload_n hx hb dX2_append_55 rfl (lv_at hl 2 rfl) ?_
          have hF9 := x_hF (dP_open hD) hS hA
          refine xw_Vv (ci := 1) (rest := []) (As := [.int (nI (ne)), .int (nI (k)), .long (w)]) ⟨hx, hb, hml, hown, hts⟩ (c_X1_add l D (a 2) (a 3) (fun _ => 0) (by decide) wf0 ne k w hne (by omega) (by show 3 + 1 + k ≤ 16; omega) H.size) (cwV 3 hts gX2_append_X1_add rfl rfl rfl (by decide +kernel) ⟨Nat.le_of_ble_eq_true rfl, Nat.le_of_ble_eq_true rfl⟩) hN hK (wP_open hP) (dP_open hD) hS hA rfl 0 rfl rfl hl.1 rfl (Nat.le_of_ble_eq_true rfl) dX2_append_56 ⟨Nat.le_of_ble_eq_true rfl, Nat.le_of_ble_eq_true rfl⟩ (fun u_56 H1 locs hw_56 hP1 hD1 hDA hk9 hS => ?_)
          obtain ⟨hP, hD⟩ := jP_open hP hD hF9 hk9 hP1 hD1
          generalize H1 = H at hP hS ⊢
          have hP : va_P D vwCl (wP cI cB a h (adO (fun _ => 0) ne k w) (fX χ (nxb χ cu) ct O) (nxb χ cu) fi ne (fCt χ (nxb χ cu) ct) on) H := hP
          have hD : va_D A (wP cI cB a h (adO (fun _ => 0) ne k w) (fX χ (nxb χ cu) ct O) (nxb χ cu) fi ne (fCt χ (nxb χ cu) ct) on) := hD
          refine lv_aload_n hx hb dX2_append_59 rfl (lv_at hl 0 rfl) ?_
          refine lv_dup hx hb dX2_append_60 rfl ?_
          refine va_get (D := D) (ci := 2) (v := .int (nI (ne))) (C := RX2) (T := TX2) (N := 8) hx hb hts hiX2 hown hK hP 0 rfl rfl 5 (by decide) (hts (.fieldLink RX2 32 "PairedCells" "nextEvent" "I") (by decide +kernel)) (fun _ h9 => h9) rfl dX2_append_61 ?_
          refine lv_iconst (v := nI 1) hx hb dX2_append_64 (by decide) ?_
          refine xr_add hx hb dX2_append_65 ?_
          refine va_put (D := D) (ci := 2) (v := .int (nI (ne + 1))) (ty := .int) (C := RX2) (T := TX2) (N := 8) hx hb hts hiX2 tyX2 tyX2_ok nmX2 hown hK hP hD hS 0 rfl rfl 5 (by decide) (hts (.fieldLink RX2 32 "PairedCells" "nextEvent" "I") (by decide +kernel)) (fun _ h9 => h9) rfl (by decide +kernel) rfl rfl (Nat.le_of_ble_eq_true rfl) dX2_append_66 (fun H locs hP hD hS => ?_)
          have hP : va_P D vwCl (wP cI cB a h (adO (fun _ => 0) ne k w) (fX χ (nxb χ cu) ct O) (nxb χ cu) fi (ne + 1) (fCt χ (nxb χ cu) ct) on) H := hP
          have hD : va_D A (wP cI cB a h (adO (fun _ => 0) ne k w) (fX χ (nxb χ cu) ct O) (nxb χ cu) fi (ne + 1) (fCt χ (nxb χ cu) ct) on) := hD
          refine lv_aload_n hx hb dX2_append_69 rfl (lv_at hl 0 rfl) ?_
          refine va_get (D := D) (ci := 2) (v := .int (nI (ne + 1))) (C := RX2) (T := TX2) (N := 8) hx hb hts hiX2 hown hK hP 0 rfl rfl 5 (by decide) (hts (.fieldLink RX2 32 "PairedCells" "nextEvent" "I") (by decide +kernel)) (fun _ h9 => h9) rfl dX2_append_70 ?_
          refine lv_iconst (v := nI 1) hx hb dX2_append_73 (by decide) ?_
          refine xr_sub hx hb (by omega) dX2_append_74 ?_
          exact xf_i (post := fun (r : Int32) (u : (Nat → Nat) × (Nat → Nat) × Nat × Nat × Nat × Nat) => u = apS O χ cu ne ct on k w ∧ ((fit O k ∨ fOk χ (nxb χ cu) ct) ∧ r = nI ne ∨ ¬ (fit O k ∨ fOk χ (nxb χ cu) ct) ∧ r = -2)) (w1 := fun (u : (Nat → Nat) × (Nat → Nat) × Nat × Nat × Nat × Nat) => wP cI cB a h u.1 u.2.1 u.2.2.1 fi u.2.2.2.1 u.2.2.2.2.1 u.2.2.2.2.2) ((adO (fun _ => 0) ne k w), (fX χ (nxb χ cu) ct O), (nxb χ cu), ne + 1, (fCt χ (nxb χ cu) ct), on) hx hb hr hlocks (⟨((cif_f h_33).trans (cif_t h_40)).symm, Or.inl ⟨Or.inr h_40, rfl⟩⟩) hP hK hD hS dX2_append_75
        · have h_40 := bo.f hok c_40
          refine lv_bipush (v := (-2 : Int32)) hx hb dX2_append_43 (by decide) ?_
          have hq9 : (wP cI cB a h (fO χ (nxb χ cu) ct O) (fX χ (nxb χ cu) ct O) (nxb χ cu) fi ne (fCt χ (nxb χ cu) ct) (fOn χ (nxb χ cu) ct on) : va_W) = wP cI cB a h (O, fX χ (nxb χ cu) ct O, (nxb χ cu), ne, fCt χ (nxb χ cu) ct, 0).1 (O, fX χ (nxb χ cu) ct O, (nxb χ cu), ne, fCt χ (nxb χ cu) ct, 0).2.1 (O, fX χ (nxb χ cu) ct O, (nxb χ cu), ne, fCt χ (nxb χ cu) ct, 0).2.2.1 fi (O, fX χ (nxb χ cu) ct O, (nxb χ cu), ne, fCt χ (nxb χ cu) ct, 0).2.2.2.1 (O, fX χ (nxb χ cu) ct O, (nxb χ cu), ne, fCt χ (nxb χ cu) ct, 0).2.2.2.2.1 (O, fX χ (nxb χ cu) ct O, (nxb χ cu), ne, fCt χ (nxb χ cu) ct, 0).2.2.2.2.2 := (by rw [fO_no h_40, fOn_no h_40])
          exact xf_i (post := fun (r : Int32) (u : (Nat → Nat) × (Nat → Nat) × Nat × Nat × Nat × Nat) => u = apS O χ cu ne ct on k w ∧ ((fit O k ∨ fOk χ (nxb χ cu) ct) ∧ r = nI ne ∨ ¬ (fit O k ∨ fOk χ (nxb χ cu) ct) ∧ r = -2)) (w1 := fun (u : (Nat → Nat) × (Nat → Nat) × Nat × Nat × Nat × Nat) => wP cI cB a h u.1 u.2.1 u.2.2.1 fi u.2.2.2.1 u.2.2.2.2.1 u.2.2.2.2.2) (O, fX χ (nxb χ cu) ct O, (nxb χ cu), ne, fCt χ (nxb χ cu) ct, 0) hx hb hr hlocks (⟨((cif_f h_33).trans (cif_f h_40)).symm, Or.inr ⟨fun h7 => h7.elim h_33 h_40, rfl⟩⟩) (va_P.eqw hq9 hP) hK (va_D.eqw hq9 hD) hS dX2_append_45
    · exfalso; omega

set_option maxHeartbeats 4000000 in
set_option maxRecDepth 100000 in
theorem c_X2_trim (l : Launch) (D : va_G) {cI cB : ClassId} (a h O χ : Nat → Nat) (cu fi ne ct on : Nat) (hon : on = 1) (hcu : cu < 6) (k : Nat) (h1 : fi ≤ k) (h2 : k ≤ ne) (h3 : ne < 65536) (hχ : ∀ i, χ i < 65000) (hwf : wfs χ) (sz : Nat) : Met l yX2_trim wsX2_trim ({ frames := 5, cells := 0, slots := 0, locals := 110 }) (va_Pc [.ref (a 0), .int (nI (k))] (x_U D (tyP cI cB) (wP cI cB a h O χ cu fi ne ct on) sz)) (va_Qi (fun (r : Int32) (u : Nat → Nat) => r = nI (trc χ cu k 6)) (fun u t => x_E D (tyP cI cB) (va_A (wP cI cB a h O χ cu fi ne ct on) sz) (wP cI cB a u O (tr χ cu k 6) cu k ne ct on) t) (va_A (wP cI cB a h O χ cu fi ne ct on) sz)) 0 0 (va_A (wP cI cB a h O χ cu fi ne ct on) sz) := by
  refine Met.ofW (cc := cX2_trim) (maxL := 4) (ret := (some .int)) (by decide) rfl ?_
  intro p e s m args below meth c s₁ B hml hv
  obtain ⟨rfl, hsz, hN, hP, hK, hD0⟩ := hv
  have hx := B.exec
  have hb := B.bytes
  have hr := B.returns
  have hts := atoms_spec (ws := wsX2_trim) B.pre
  have hown : s.vm.findClass RX2 = some m.cls := findClass_of_methodNamed B.named
  have hlocks := B.notSynchronized
  subst hsz
  have hD := hD0.self (sz := s.heap.size)
  generalize hAe : va_A (wP cI cB a h O χ cu fi ne ct on) s.heap.size = A at hD ⊢
  have hA : ∀ q : Nat, s.heap.size ≤ q → A q := fun q h => by rw [← hAe]; exact Or.inr h
  obtain ⟨H, hH⟩ : ∃ H : Heap, s.heap = H := ⟨_, rfl⟩
  obtain ⟨locs, hlo⟩ : ∃ L : List Loc, ([] : List Loc) = L := ⟨_, rfl⟩
  have hS : va_S A s.heap H locs := by rw [← hH, ← hlo]; exact va_S.rf
  have hP : va_P D vwCl (wP cI cB a h O χ cu fi ne ct on) H := hH ▸ hP
  rw [hH, hlo]
  have hiX2 : ∀ w ∈ u_ws RX2 TX2 8, w ∈ wsX2_trim := by decide +kernel
  have hl := lv_entry ([.ref (a 0), .int (nI (k))]) (n := 4) (Nat.le_of_ble_eq_true rfl)
  rw [lg_entry_eq]
  generalize (lg_sl ([.ref (a 0), .int (nI (k))]) ++ List.replicate (4 - (lg_sl ([.ref (a 0), .int (nI (k))])).length) Slot.unset).toArray = ls at hl ⊢
  have hl : lv_has ls 4 [(0, .ref (a 0)), (1, .int (nI (k)))] := hl
  refine lv_aload_n hx hb dX2_trim_0 rfl (lv_at hl 0 rfl) ?_
  refine xc_Vv (ci := 2) (rest := []) (As := []) ⟨hx, hb, hml, hown, hts⟩ (c_X2_requirePower l D a h O χ cu fi ne ct on hon) (cwV 0 hts gX2_trim_X2_requirePower rfl rfl rfl (by decide +kernel) ⟨Nat.le_of_ble_eq_true rfl, Nat.le_of_ble_eq_true rfl⟩) hN hK (hP) rfl 0 rfl rfl hl.1 rfl (Nat.le_of_ble_eq_true rfl) dX2_trim_1 ⟨Nat.le_of_ble_eq_true rfl, Nat.le_of_ble_eq_true rfl⟩ (fun hw_1 => ?_)
  refine lv_iload_n hx hb dX2_trim_4 rfl (lv_at hl 1 rfl) ?_
  refine lv_aload_n hx hb dX2_trim_5 rfl (lv_at hl 0 rfl) ?_
  refine va_get (D := D) (ci := 2) (v := .int (nI (fi))) (C := RX2) (T := TX2) (N := 8) hx hb hts hiX2 hown hK hP 0 rfl rfl 4 (by decide) (hts (.fieldLink RX2 29 "PairedCells" "firstEvent" "I") (by decide +kernel)) (fun _ h9 => h9) rfl dX2_trim_6 ?_
  refine xi_lt (tgt := 20) hx hb dX2_trim_9 (by decide) (nI_toInt (by omega)) (nI_toInt (by omega)) (fun c_9 => ?_) (fun c_9 => ?_)
  · exfalso; omega
  · refine lv_iload_n hx hb dX2_trim_12 rfl (lv_at hl 1 rfl) ?_
    refine lv_aload_n hx hb dX2_trim_13 rfl (lv_at hl 0 rfl) ?_
    refine va_get (D := D) (ci := 2) (v := .int (nI (ne))) (C := RX2) (T := TX2) (N := 8) hx hb hts hiX2 hown hK hP 0 rfl rfl 5 (by decide) (hts (.fieldLink RX2 32 "PairedCells" "nextEvent" "I") (by decide +kernel)) (fun _ h9 => h9) rfl dX2_trim_14 ?_
    refine xi_le (tgt := 30) hx hb dX2_trim_17 (by decide) (nI_toInt (by omega)) (nI_toInt (by omega)) (fun c_17 => ?_) (fun c_17 => ?_)
    · refine lv_aload_n hx hb dX2_trim_30 rfl (lv_at hl 0 rfl) ?_
      refine lv_iload_n hx hb dX2_trim_31 rfl (lv_at hl 1 rfl) ?_
      refine va_put (D := D) (ci := 2) (v := .int (nI (k))) (ty := .int) (C := RX2) (T := TX2) (N := 8) hx hb hts hiX2 tyX2 tyX2_ok nmX2 hown hK hP hD hS 0 rfl rfl 4 (by decide) (hts (.fieldLink RX2 29 "PairedCells" "firstEvent" "I") (by decide +kernel)) (fun _ h9 => h9) rfl (by decide +kernel) rfl rfl (Nat.le_of_ble_eq_true rfl) dX2_trim_32 (fun H locs hP hD hS => ?_)
      have hP : va_P D vwCl (wP cI cB a h O χ cu k ne ct on) H := hP
      have hD : va_D A (wP cI cB a h O χ cu k ne ct on) := hD
      refine lv_iconst (v := nI 0) hx hb dX2_trim_35 (by decide) ?_
      refine lv_istore_n (lv' := [(2, .int (nI (0))), (0, .ref (a 0)), (1, .int (nI (k)))]) hx hb dX2_trim_36 rfl hl (by decide) rfl (fun ls hl => ?_)
      refine lv_iconst (v := nI 0) hx hb dX2_trim_37 (by decide) ?_
      refine lv_istore_n (lv' := [(3, .int (nI (0))), (2, .int (nI (0))), (0, .ref (a 0)), (1, .int (nI (k)))]) hx hb dX2_trim_38 rfl hl (by decide) rfl (fun ls hl => ?_)
      refine lpW (α := Nat × (Nat → Nat)) (fun (b, h9) H locs => (b ≤ 6) ∧ va_P D vwCl (wP cI cB a h9 O (tr χ cu k b) cu k ne ct on) H ∧ va_D A (wP cI cB a h9 O (tr χ cu k b) cu k ne ct on) ∧ va_S A s.heap H locs) (fun (b, h9) => [(0, .ref (a 0)), (1, .int (nI (k))), (2, .int (nI (trc χ cu k b))), (3, .int (nI (b)))]) 4 (fun (b, h9) => 6 - b) (0, h) (⟨by omega, hP, hD, hS⟩) (lv_sub hl [2, 3, 1, 0] rfl) (fun s9 H locs ls hI9 hl9 ih_39 => ?_)
      obtain ⟨b, h9⟩ := s9
      have hl : lv_has ls 4 [(0, .ref (a 0)), (1, .int (nI (k))), (2, .int (nI (trc χ cu k b))), (3, .int (nI (b)))] := hl9
      obtain ⟨hb7, hP, hD, hS⟩ : (b ≤ 6) ∧ va_P D vwCl (wP cI cB a h9 O (tr χ cu k b) cu k ne ct on) H ∧ va_D A (wP cI cB a h9 O (tr χ cu k b) cu k ne ct on) ∧ va_S A s.heap H locs := hI9
      refine lv_iload_n hx hb dX2_trim_39 rfl (lv_at hl 3 rfl) ?_
      refine lv_bipush (v := nI 6) hx hb dX2_trim_40 (by decide) ?_
      refine xi_ge (tgt := 97) hx hb dX2_trim_42 (by decide) (nI_toInt (by omega)) (nI_toInt (by omega)) (fun c_42 => ?_) (fun c_42 => ?_)
      · refine lv_iload_n hx hb dX2_trim_97 rfl (lv_at hl 2 rfl) ?_
        have hq9 : (wP cI cB a h9 O (tr χ cu k b) cu k ne ct on : va_W) = wP cI cB a h9 O (tr χ cu k 6) cu k ne ct on := (by rw [show b = 6 by omega])
        exact xf_i (post := fun (r : Int32) (u : Nat → Nat) => r = nI (trc χ cu k 6)) (w1 := fun (u : Nat → Nat) => wP cI cB a u O (tr χ cu k 6) cu k ne ct on) h9 hx hb hr hlocks (by rw [show b = 6 by omega]) (va_P.eqw hq9 hP) hK (va_D.eqw hq9 hD) hS dX2_trim_98
      · refine lv_iload_n hx hb dX2_trim_45 rfl (lv_at hl 3 rfl) ?_
        refine lv_aload_n hx hb dX2_trim_46 rfl (lv_at hl 0 rfl) ?_
        refine va_get (D := D) (ci := 2) (v := .int (nI (cu))) (C := RX2) (T := TX2) (N := 8) hx hb hts hiX2 hown hK hP 0 rfl rfl 3 (by decide) (hts (.fieldLink RX2 25 "PairedCells" "current" "I") (by decide +kernel)) (fun _ h9 => h9) rfl dX2_trim_47 ?_
        refine xi_eq (tgt := 91) hx hb dX2_trim_50 (by decide) (nI_toInt (by omega)) (nI_toInt (by omega)) (fun c_50 => ?_) (fun c_50 => ?_)
        · refine lv_iinc (v := nI (b + 1)) (lv' := [(3, .int (nI (b + 1))), (0, .ref (a 0)), (1, .int (nI (k))), (2, .int (nI (trc χ cu k b)))]) hx hb dX2_trim_91 hl (k := 3) rfl (nI_add _ _) (by decide) rfl (fun ls hl => ?_)
          refine lv_goto (tgt := 39) hx hb dX2_trim_94 (by decide) ?_
          have e9 : trc χ cu k b = trc χ cu k (b + 1) := by first | exact (tr_in ⟨by omega, h_62, by omega⟩).2.symm | exact (tr_out (fun h7 => absurd h7.1 (by omega))).2.symm | exact (tr_out (fun h7 => h7.2.1 h_62)).2.symm | exact (tr_out (fun h7 => absurd h7.2.2 (by omega))).2.symm
          rw [e9] at hl
          have hq9 : (wP cI cB a h9 O (tr χ cu k b) cu k ne ct on : va_W) = wP cI cB a h9 O (tr χ cu k (b + 1)) cu k ne ct on := (by first | rw [(tr_in ⟨by omega, h_62, by omega⟩).1] | rw [(tr_out (fun h7 => absurd h7.1 (by omega))).1] | rw [(tr_out (fun h7 => h7.2.1 h_62)).1] | rw [(tr_out (fun h7 => absurd h7.2.2 (by omega))).1])
          exact ih_39 (b + 1, h9) _ _ _ (⟨by omega, va_P.eqw hq9 hP, va_D.eqw hq9 hD, hS⟩) (by first | omega | (dsimp only; omega)) (lv_sub hl [1, 2, 3, 0] rfl)
        · refine lv_aload_n hx hb dX2_trim_53 rfl (lv_at hl 0 rfl) ?_
          refine va_get (D := D) (ci := 2) (v := .ref (a 1)) (C := RX2) (T := TX2) (N := 8) hx hb hts hiX2 hown hK hP 0 rfl rfl 0 (by decide) (hts (.fieldLink RX2 11 "PairedCells" "blocks" "[LPairedCells$Block;") (by decide +kernel)) (fun _ h9 => h9) rfl dX2_trim_54 ?_
          refine lv_iload_n hx hb dX2_trim_57 rfl (lv_at hl 3 rfl) ?_
          refine xr_aald hx hb hK hP 1 1 rfl rfl (by omega) (by decide) dX2_trim_58 ?_
          refine xc_Vi (ci := 0) (rest := []) (As := []) ⟨hx, hb, hml, hown, hts⟩ (c_X0_isErased l D a (tr χ cu k b) b (by omega) (fun i => by have h7 := (tr_le (χ := χ) (cu := cu) (m := k) b (by omega) i).1; have h8 := hχ i; omega)) (cwV 0 hts gX2_trim_X0_isErased rfl rfl rfl (by decide +kernel) ⟨Nat.le_of_ble_eq_true rfl, Nat.le_of_ble_eq_true rfl⟩) hN hK (wP_blk (show b < 6 by omega) hP) rfl 0 rfl rfl hl.1 rfl (Nat.le_of_ble_eq_true rfl) dX2_trim_59 ⟨Nat.le_of_ble_eq_true rfl, Nat.le_of_ble_eq_true rfl⟩ (fun r_59 hw_59 => ?_)
          refine xz_ne (tgt := 91) hx hb dX2_trim_62 (by decide) rfl (fun c_62 => ?_) (fun c_62 => ?_)
          · have h_62 := bo.t hw_59 c_62
            refine lv_iinc (v := nI (b + 1)) (lv' := [(3, .int (nI (b + 1))), (0, .ref (a 0)), (1, .int (nI (k))), (2, .int (nI (trc χ cu k b)))]) hx hb dX2_trim_91 hl (k := 3) rfl (nI_add _ _) (by decide) rfl (fun ls hl => ?_)
            refine lv_goto (tgt := 39) hx hb dX2_trim_94 (by decide) ?_
            have e9 : trc χ cu k b = trc χ cu k (b + 1) := by first | exact (tr_in ⟨by omega, h_62, by omega⟩).2.symm | exact (tr_out (fun h7 => absurd h7.1 (by omega))).2.symm | exact (tr_out (fun h7 => h7.2.1 h_62)).2.symm | exact (tr_out (fun h7 => absurd h7.2.2 (by omega))).2.symm
            rw [e9] at hl
            have hq9 : (wP cI cB a h9 O (tr χ cu k b) cu k ne ct on : va_W) = wP cI cB a h9 O (tr χ cu k (b + 1)) cu k ne ct on := (by first | rw [(tr_in ⟨by omega, h_62, by omega⟩).1] | rw [(tr_out (fun h7 => absurd h7.1 (by omega))).1] | rw [(tr_out (fun h7 => h7.2.1 h_62)).1] | rw [(tr_out (fun h7 => absurd h7.2.2 (by omega))).1])
            exact ih_39 (b + 1, h9) _ _ _ (⟨by omega, va_P.eqw hq9 hP, va_D.eqw hq9 hD, hS⟩) (by first | omega | (dsimp only; omega)) (lv_sub hl [1, 2, 3, 0] rfl)
          · have h_62 := bo.f hw_59 c_62
            refine lv_aload_n hx hb dX2_trim_65 rfl (lv_at hl 0 rfl) ?_
            refine lv_aload_n hx hb dX2_trim_66 rfl (lv_at hl 0 rfl) ?_
            refine va_get (D := D) (ci := 2) (v := .ref (a 1)) (C := RX2) (T := TX2) (N := 8) hx hb hts hiX2 hown hK hP 0 rfl rfl 0 (by decide) (hts (.fieldLink RX2 11 "PairedCells" "blocks" "[LPairedCells$Block;") (by decide +kernel)) (fun _ h9 => h9) rfl dX2_trim_67 ?_
            refine lv_iload_n hx hb dX2_trim_70 rfl (lv_at hl 3 rfl) ?_
            refine xr_aald hx hb hK hP 1 1 rfl rfl (by omega) (by decide) dX2_trim_71 ?_
            have hg9 := grt_lt (wfs_tr (cu := cu) (m := k) hwf b (by omega)) (show b < 6 by omega) 16 (Nat.le_refl _)
            have hF9 := x_hF (hD) hS hA
            refine xw_Vi (ci := 2) (rest := []) (As := [.ref (a (6 + 4 * b))]) ⟨hx, hb, hml, hown, hts⟩ (c_X2_greatestEvent l D a h9 O (tr χ cu k b) cu k ne ct on b (by omega) (fun i => by have h7 := (tr_le (χ := χ) (cu := cu) (m := k) b (by omega) i).1; have h8 := hχ i; omega) (wfs_tr hwf b (by omega)) H.size) (cwV 1 hts gX2_trim_X2_greatestEvent rfl rfl rfl (by decide +kernel) ⟨Nat.le_of_ble_eq_true rfl, Nat.le_of_ble_eq_true rfl⟩) hN hK (hP) (hD) hS hA rfl 0 rfl rfl hl.1 rfl (Nat.le_of_ble_eq_true rfl) dX2_trim_72 ⟨Nat.le_of_ble_eq_true rfl, Nat.le_of_ble_eq_true rfl⟩ (fun r_72 u_72 H1 locs hw_72 hP1 hD1 hDA hk9 hS => ?_)
            subst hw_72
            have hP := hP1
            have hD := hDA
            generalize H1 = H at hP hS ⊢
            have hP : va_P D vwCl (wP cI cB a u_72 O (tr χ cu k b) cu k ne ct on) H := hP
            have hD : va_D A (wP cI cB a u_72 O (tr χ cu k b) cu k ne ct on) := hD
            refine lv_iload_n hx hb dX2_trim_75 rfl (lv_at hl 1 rfl) ?_
            refine xi_ge (tgt := 91) hx hb dX2_trim_76 (by decide) (mI_toInt (by omega)) (nI_toInt (by omega)) (fun c_76 => ?_) (fun c_76 => ?_)
            · refine lv_iinc (v := nI (b + 1)) (lv' := [(3, .int (nI (b + 1))), (0, .ref (a 0)), (1, .int (nI (k))), (2, .int (nI (trc χ cu k b)))]) hx hb dX2_trim_91 hl (k := 3) rfl (nI_add _ _) (by decide) rfl (fun ls hl => ?_)
              refine lv_goto (tgt := 39) hx hb dX2_trim_94 (by decide) ?_
              have e9 : trc χ cu k b = trc χ cu k (b + 1) := by first | exact (tr_in ⟨by omega, h_62, by omega⟩).2.symm | exact (tr_out (fun h7 => absurd h7.1 (by omega))).2.symm | exact (tr_out (fun h7 => h7.2.1 h_62)).2.symm | exact (tr_out (fun h7 => absurd h7.2.2 (by omega))).2.symm
              rw [e9] at hl
              have hq9 : (wP cI cB a u_72 O (tr χ cu k b) cu k ne ct on : va_W) = wP cI cB a u_72 O (tr χ cu k (b + 1)) cu k ne ct on := (by first | rw [(tr_in ⟨by omega, h_62, by omega⟩).1] | rw [(tr_out (fun h7 => absurd h7.1 (by omega))).1] | rw [(tr_out (fun h7 => h7.2.1 h_62)).1] | rw [(tr_out (fun h7 => absurd h7.2.2 (by omega))).1])
              exact ih_39 (b + 1, u_72) _ _ _ (⟨by omega, va_P.eqw hq9 hP, va_D.eqw hq9 hD, hS⟩) (by first | omega | (dsimp only; omega)) (lv_sub hl [1, 2, 3, 0] rfl)
            · refine lv_aload_n hx hb dX2_trim_79 rfl (lv_at hl 0 rfl) ?_
              refine va_get (D := D) (ci := 2) (v := .ref (a 1)) (C := RX2) (T := TX2) (N := 8) hx hb hts hiX2 hown hK hP 0 rfl rfl 0 (by decide) (hts (.fieldLink RX2 11 "PairedCells" "blocks" "[LPairedCells$Block;") (by decide +kernel)) (fun _ h9 => h9) rfl dX2_trim_80 ?_
              refine lv_iload_n hx hb dX2_trim_83 rfl (lv_at hl 3 rfl) ?_
              refine xr_aald hx hb hK hP 1 1 rfl rfl (by omega) (by decide) dX2_trim_84 ?_
              have hF9 := x_hF (dP_blk (show b < 6 by omega) hD) hS hA
              refine xw_Vv (ci := 0) (rest := []) (As := []) ⟨hx, hb, hml, hown, hts⟩ (c_X0_erase l D a (tr χ cu k b) b (by omega) (fun i => by have h7 := (tr_le (χ := χ) (cu := cu) (m := k) b (by omega) i).1; have h8 := hχ i; omega) H.size) (cwV 0 hts gX2_trim_X0_erase rfl rfl rfl (by decide +kernel) ⟨Nat.le_of_ble_eq_true rfl, Nat.le_of_ble_eq_true rfl⟩) hN hK (wP_blk (show b < 6 by omega) hP) (dP_blk (show b < 6 by omega) hD) hS hA rfl 0 rfl rfl hl.1 rfl (Nat.le_of_ble_eq_true rfl) dX2_trim_85 ⟨Nat.le_of_ble_eq_true rfl, Nat.le_of_ble_eq_true rfl⟩ (fun u_85 H1 locs hw_85 hP1 hD1 hDA hk9 hS => ?_)
              obtain ⟨hP, hD⟩ := jP_blk (show b < 6 by omega) hP hD hF9 hk9 hP1 hD1 (fun i hi => ers_out i hi)
              generalize H1 = H at hP hS ⊢
              have hP : va_P D vwCl (wP cI cB a u_72 O (ers (tr χ cu k b) b) cu k ne ct on) H := hP
              have hD : va_D A (wP cI cB a u_72 O (ers (tr χ cu k b) b) cu k ne ct on) := hD
              refine lv_iinc (v := nI (trc χ cu k b + 1)) (lv' := [(2, .int (nI (trc χ cu k b + 1))), (0, .ref (a 0)), (1, .int (nI (k))), (3, .int (nI (b)))]) hx hb dX2_trim_88 hl (k := 2) rfl (nI_add _ _) (by decide) rfl (fun ls hl => ?_)
              refine lv_iinc (v := nI (b + 1)) (lv' := [(3, .int (nI (b + 1))), (2, .int (nI (trc χ cu k b + 1))), (0, .ref (a 0)), (1, .int (nI (k)))]) hx hb dX2_trim_91 hl (k := 3) rfl (nI_add _ _) (by decide) rfl (fun ls hl => ?_)
              refine lv_goto (tgt := 39) hx hb dX2_trim_94 (by decide) ?_
              have e9 : trc χ cu k b + 1 = trc χ cu k (b + 1) := by first | exact (tr_in ⟨by omega, h_62, by omega⟩).2.symm | exact (tr_out (fun h7 => absurd h7.1 (by omega))).2.symm | exact (tr_out (fun h7 => h7.2.1 h_62)).2.symm | exact (tr_out (fun h7 => absurd h7.2.2 (by omega))).2.symm
              rw [e9] at hl
              have hq9 : (wP cI cB a u_72 O (ers (tr χ cu k b) b) cu k ne ct on : va_W) = wP cI cB a u_72 O (tr χ cu k (b + 1)) cu k ne ct on := (by first | rw [(tr_in ⟨by omega, h_62, by omega⟩).1] | rw [(tr_out (fun h7 => absurd h7.1 (by omega))).1] | rw [(tr_out (fun h7 => h7.2.1 h_62)).1] | rw [(tr_out (fun h7 => absurd h7.2.2 (by omega))).1])
              exact ih_39 (b + 1, u_72) _ _ _ (⟨by omega, va_P.eqw hq9 hP, va_D.eqw hq9 hD, hS⟩) (by first | omega | (dsimp only; omega)) (lv_sub hl [2, 3, 1, 0] rfl)
    · exfalso; omega

set_option maxHeartbeats 4000000 in
set_option maxRecDepth 100000 in
theorem c_X2_start (l : Launch) (D : va_G) {cI cB : ClassId} (a h O χ : Nat → Nat) (cu fi ne ct on : Nat) (hon : on = 0) (hO0 : O 0 < 65536) (hχ : ∀ i, χ i < 65000) (hwf : wfs χ) (sz : Nat) : Met l yX2_start wsX2_start ({ frames := 6, cells := 0, slots := 0, locals := 135 }) (va_Pc [.ref (a 0)] (x_U D (tyP cI cB) (wP cI cB a h O χ cu fi ne ct on) sz)) (va_Qi (fun (r : Int32) (u : Nat → Nat) => r = nI (grA (eu χ 6) 6)) (fun u t => x_E D (tyP cI cB) (va_A (wP cI cB a h O χ cu fi ne ct on) sz) (wP cI cB a u (fun _ => 0) (eu χ 6) (cuA (eu χ 6) 6) (lsA (eu χ 6) 6 - 1) (grA (eu χ 6) 6) ct 1) t) (va_A (wP cI cB a h O χ cu fi ne ct on) sz)) 0 0 (va_A (wP cI cB a h O χ cu fi ne ct on) sz) := by
  refine Met.ofW (cc := cX2_start) (maxL := 1) (ret := (some .int)) (by decide) rfl ?_
  intro p e s m args below meth c s₁ B hml hv
  obtain ⟨rfl, hsz, hN, hP, hK, hD0⟩ := hv
  have hx := B.exec
  have hb := B.bytes
  have hr := B.returns
  have hts := atoms_spec (ws := wsX2_start) B.pre
  have hown : s.vm.findClass RX2 = some m.cls := findClass_of_methodNamed B.named
  have hlocks := B.notSynchronized
  subst hsz
  have hD := hD0.self (sz := s.heap.size)
  generalize hAe : va_A (wP cI cB a h O χ cu fi ne ct on) s.heap.size = A at hD ⊢
  have hA : ∀ q : Nat, s.heap.size ≤ q → A q := fun q h => by rw [← hAe]; exact Or.inr h
  obtain ⟨H, hH⟩ : ∃ H : Heap, s.heap = H := ⟨_, rfl⟩
  obtain ⟨locs, hlo⟩ : ∃ L : List Loc, ([] : List Loc) = L := ⟨_, rfl⟩
  have hS : va_S A s.heap H locs := by rw [← hH, ← hlo]; exact va_S.rf
  have hP : va_P D vwCl (wP cI cB a h O χ cu fi ne ct on) H := hH ▸ hP
  rw [hH, hlo]
  have hiX2 : ∀ w ∈ u_ws RX2 TX2 8, w ∈ wsX2_start := by decide +kernel
  have hl := lv_entry ([.ref (a 0)]) (n := 1) (Nat.le_of_ble_eq_true rfl)
  rw [lg_entry_eq]
  generalize (lg_sl ([.ref (a 0)]) ++ List.replicate (1 - (lg_sl ([.ref (a 0)])).length) Slot.unset).toArray = ls at hl ⊢
  have hl : lv_has ls 1 [(0, .ref (a 0))] := hl
  refine lv_aload_n hx hb dX2_start_0 rfl (lv_at hl 0 rfl) ?_
  refine va_get (D := D) (ci := 2) (v := .int (nI (on))) (C := RX2) (T := TX2) (N := 8) hx hb hts hiX2 hown hK hP 0 rfl rfl 7 (by decide) (hts (.fieldLink RX2 38 "PairedCells" "powerOn" "Z") (by decide +kernel)) (fun _ h9 => h9) rfl dX2_start_1 ?_
  refine xz_eq (tgt := 17) hx hb dX2_start_4 (by decide) (nI_toInt (by omega)) (fun c_4 => ?_) (fun c_4 => ?_)
  · refine lv_aload_n hx hb dX2_start_17 rfl (lv_at hl 0 rfl) ?_
    refine va_get (D := D) (ci := 2) (v := .ref (a 2)) (C := RX2) (T := TX2) (N := 8) hx hb hts hiX2 hown hK hP 0 rfl rfl 1 (by decide) (hts (.fieldLink RX2 18 "PairedCells" "openPage" "LPairedCells$EventPage;") (by decide +kernel)) (fun _ h9 => h9) rfl dX2_start_18 ?_
    have hF9 := x_hF (dP_open hD) hS hA
    refine xw_Vv (ci := 1) (rest := []) (As := []) ⟨hx, hb, hml, hown, hts⟩ (c_X1_clear l D (a 2) (a 3) O hO0 H.size) (cwV 0 hts gX2_start_X1_clear rfl rfl rfl (by decide +kernel) ⟨Nat.le_of_ble_eq_true rfl, Nat.le_of_ble_eq_true rfl⟩) hN hK (wP_open hP) (dP_open hD) hS hA rfl 0 rfl rfl hl.1 rfl (Nat.le_of_ble_eq_true rfl) dX2_start_21 ⟨Nat.le_of_ble_eq_true rfl, Nat.le_of_ble_eq_true rfl⟩ (fun u_21 H1 locs hw_21 hP1 hD1 hDA hk9 hS => ?_)
    obtain ⟨hP, hD⟩ := jP_open hP hD hF9 hk9 hP1 hD1
    generalize H1 = H at hP hS ⊢
    have hP : va_P D vwCl (wP cI cB a h (fun _ => 0) χ cu fi ne ct on) H := hP
    have hD : va_D A (wP cI cB a h (fun _ => 0) χ cu fi ne ct on) := hD
    refine lv_aload_n hx hb dX2_start_24 rfl (lv_at hl 0 rfl) ?_
    have hF9 := x_hF (hD) hS hA
    refine xw_Vv (ci := 2) (rest := []) (As := []) ⟨hx, hb, hml, hown, hts⟩ (c_X2_eraseUnreadableBlocks l D a h (fun _ => 0) χ cu fi ne ct on hχ hwf H.size) (cwV 0 hts gX2_start_X2_eraseUnreadableBlocks rfl rfl rfl (by decide +kernel) ⟨Nat.le_of_ble_eq_true rfl, Nat.le_of_ble_eq_true rfl⟩) hN hK (hP) (hD) hS hA rfl 0 rfl rfl hl.1 rfl (Nat.le_of_ble_eq_true rfl) dX2_start_25 ⟨Nat.le_of_ble_eq_true rfl, Nat.le_of_ble_eq_true rfl⟩ (fun u_25 H1 locs hw_25 hP1 hD1 hDA hk9 hS => ?_)
    have hP := hP1
    have hD := hDA
    generalize H1 = H at hP hS ⊢
    have hP : va_P D vwCl (wP cI cB a u_25 (fun _ => 0) (eu χ 6) cu fi ne ct on) H := hP
    have hD : va_D A (wP cI cB a u_25 (fun _ => 0) (eu χ 6) cu fi ne ct on) := hD
    refine lv_aload_n hx hb dX2_start_28 rfl (lv_at hl 0 rfl) ?_
    have hF9 := x_hF (hD) hS hA
    refine xw_Vv (ci := 2) (rest := []) (As := []) ⟨hx, hb, hml, hown, hts⟩ (c_X2_findEvents l D a u_25 (fun _ => 0) (eu χ 6) cu fi ne ct on (fun i => by have h7 := (eu_le (χ := χ) 6 (by omega) i).1; have h8 := hχ i; omega) (wfs_eu hwf 6 (by omega)) H.size) (cwV 0 hts gX2_start_X2_findEvents rfl rfl rfl (by decide +kernel) ⟨Nat.le_of_ble_eq_true rfl, Nat.le_of_ble_eq_true rfl⟩) hN hK (hP) (hD) hS hA rfl 0 rfl rfl hl.1 rfl (Nat.le_of_ble_eq_true rfl) dX2_start_29 ⟨Nat.le_of_ble_eq_true rfl, Nat.le_of_ble_eq_true rfl⟩ (fun u_29 H1 locs hw_29 hP1 hD1 hDA hk9 hS => ?_)
    have hP := hP1
    have hD := hDA
    generalize H1 = H at hP hS ⊢
    have hP : va_P D vwCl (wP cI cB a u_29 (fun _ => 0) (eu χ 6) (cuA (eu χ 6) 6) (lsA (eu χ 6) 6 - 1) (grA (eu χ 6) 6) ct on) H := hP
    have hD : va_D A (wP cI cB a u_29 (fun _ => 0) (eu χ 6) (cuA (eu χ 6) 6) (lsA (eu χ 6) 6 - 1) (grA (eu χ 6) 6) ct on) := hD
    refine lv_aload_n hx hb dX2_start_32 rfl (lv_at hl 0 rfl) ?_
    refine lv_iconst (v := nI 1) hx hb dX2_start_33 (by decide) ?_
    refine va_put (D := D) (ci := 2) (v := .int (nI (1))) (ty := .boolean) (C := RX2) (T := TX2) (N := 8) hx hb hts hiX2 tyX2 tyX2_ok nmX2 hown hK hP hD hS 0 rfl rfl 7 (by decide) (hts (.fieldLink RX2 38 "PairedCells" "powerOn" "Z") (by decide +kernel)) (fun _ h9 => h9) rfl (by decide +kernel) rfl rfl (Nat.le_of_ble_eq_true rfl) dX2_start_34 (fun H locs hP hD hS => ?_)
    have hP : va_P D vwCl (wP cI cB a u_29 (fun _ => 0) (eu χ 6) (cuA (eu χ 6) 6) (lsA (eu χ 6) 6 - 1) (grA (eu χ 6) 6) ct 1) H := hP
    have hD : va_D A (wP cI cB a u_29 (fun _ => 0) (eu χ 6) (cuA (eu χ 6) 6) (lsA (eu χ 6) 6 - 1) (grA (eu χ 6) 6) ct 1) := hD
    refine lv_aload_n hx hb dX2_start_37 rfl (lv_at hl 0 rfl) ?_
    refine va_get (D := D) (ci := 2) (v := .int (nI ((grA (eu χ 6) 6)))) (C := RX2) (T := TX2) (N := 8) hx hb hts hiX2 hown hK hP 0 rfl rfl 5 (by decide) (hts (.fieldLink RX2 32 "PairedCells" "nextEvent" "I") (by decide +kernel)) (fun _ h9 => h9) rfl dX2_start_38 ?_
    exact xf_i (post := fun (r : Int32) (u : Nat → Nat) => r = nI (grA (eu χ 6) 6)) (w1 := fun (u : Nat → Nat) => wP cI cB a u (fun _ => 0) (eu χ 6) (cuA (eu χ 6) 6) (lsA (eu χ 6) 6 - 1) (grA (eu χ 6) 6) ct 1) u_29 hx hb hr hlocks (rfl) hP hK hD hS dX2_start_41
  · exfalso; omega

set_option maxHeartbeats 4000000 in
set_option maxRecDepth 100000 in
theorem c_X2_length (l : Launch) (D : va_G) {cI cB : ClassId} (a h O χ : Nat → Nat) (cu fi ne ct on : Nat) (hon : on = 1) (k : Nat) (h1 : fi ≤ k) (h2 : k < ne) (h3 : ne < 65536) (hχ : ∀ i, χ i < 65536) (hwf : wfs χ) (hwO : wf O) (sz : Nat) : Met l yX2_length wsX2_length ({ frames := 5, cells := 0, slots := 0, locals := 110 }) (va_Pc [.ref (a 0), .int (nI (k))] (x_U D (tyP cI cB) (wP cI cB a h O χ cu fi ne ct on) sz)) (va_Qi (fun (r : Int32) (u : Nat → Nat) => (¬ lost O χ k ∧ r = nI (lnF (row O χ k) k)) ∨ (lost O χ k ∧ r = mI 0)) (fun u t => x_E D (tyP cI cB) (va_A (wP cI cB a h O χ cu fi ne ct on) sz) (wP cI cB a u O χ cu fi ne ct on) t) (va_A (wP cI cB a h O χ cu fi ne ct on) sz)) 0 0 (va_A (wP cI cB a h O χ cu fi ne ct on) sz) := by
  refine Met.ofW (cc := cX2_length) (maxL := 3) (ret := (some .int)) (by decide) rfl ?_
  intro p e s m args below meth c s₁ B hml hv
  obtain ⟨rfl, hsz, hN, hP, hK, hD0⟩ := hv
  have hx := B.exec
  have hb := B.bytes
  have hr := B.returns
  have hts := atoms_spec (ws := wsX2_length) B.pre
  have hown : s.vm.findClass RX2 = some m.cls := findClass_of_methodNamed B.named
  have hlocks := B.notSynchronized
  subst hsz
  have hD := hD0.self (sz := s.heap.size)
  generalize hAe : va_A (wP cI cB a h O χ cu fi ne ct on) s.heap.size = A at hD ⊢
  have hA : ∀ q : Nat, s.heap.size ≤ q → A q := fun q h => by rw [← hAe]; exact Or.inr h
  obtain ⟨H, hH⟩ : ∃ H : Heap, s.heap = H := ⟨_, rfl⟩
  obtain ⟨locs, hlo⟩ : ∃ L : List Loc, ([] : List Loc) = L := ⟨_, rfl⟩
  have hS : va_S A s.heap H locs := by rw [← hH, ← hlo]; exact va_S.rf
  have hP : va_P D vwCl (wP cI cB a h O χ cu fi ne ct on) H := hH ▸ hP
  rw [hH, hlo]
  have hl := lv_entry ([.ref (a 0), .int (nI (k))]) (n := 3) (Nat.le_of_ble_eq_true rfl)
  rw [lg_entry_eq]
  generalize (lg_sl ([.ref (a 0), .int (nI (k))]) ++ List.replicate (3 - (lg_sl ([.ref (a 0), .int (nI (k))])).length) Slot.unset).toArray = ls at hl ⊢
  have hl : lv_has ls 3 [(0, .ref (a 0)), (1, .int (nI (k)))] := hl
  have hO9 := hwO.1
  refine lv_aload_n hx hb dX2_length_0 rfl (lv_at hl 0 rfl) ?_
  refine xc_Vv (ci := 2) (rest := []) (As := []) ⟨hx, hb, hml, hown, hts⟩ (c_X2_requirePower l D a h O χ cu fi ne ct on hon) (cwV 0 hts gX2_length_X2_requirePower rfl rfl rfl (by decide +kernel) ⟨Nat.le_of_ble_eq_true rfl, Nat.le_of_ble_eq_true rfl⟩) hN hK (hP) rfl 0 rfl rfl hl.1 rfl (Nat.le_of_ble_eq_true rfl) dX2_length_1 ⟨Nat.le_of_ble_eq_true rfl, Nat.le_of_ble_eq_true rfl⟩ (fun hw_1 => ?_)
  refine lv_aload_n hx hb dX2_length_4 rfl (lv_at hl 0 rfl) ?_
  refine lv_iload_n hx hb dX2_length_5 rfl (lv_at hl 1 rfl) ?_
  refine xc_Vv (ci := 2) (rest := []) (As := [.int (nI (k))]) ⟨hx, hb, hml, hown, hts⟩ (c_X2_requireEvent l D a h O χ cu fi ne ct on k h1 h2 (by omega)) (cwV 1 hts gX2_length_X2_requireEvent rfl rfl rfl (by decide +kernel) ⟨Nat.le_of_ble_eq_true rfl, Nat.le_of_ble_eq_true rfl⟩) hN hK (hP) rfl 0 rfl rfl hl.1 rfl (Nat.le_of_ble_eq_true rfl) dX2_length_6 ⟨Nat.le_of_ble_eq_true rfl, Nat.le_of_ble_eq_true rfl⟩ (fun hw_6 => ?_)
  refine lv_aload_n hx hb dX2_length_9 rfl (lv_at hl 0 rfl) ?_
  refine lv_iload_n hx hb dX2_length_10 rfl (lv_at hl 1 rfl) ?_
  have hF9 := x_hF (hD) hS hA
  refine xw_Vq (ci := 2) (rest := []) (As := [.int (nI (k))]) ⟨hx, hb, hml, hown, hts⟩ (c_X2_pageWith l D a h O χ cu fi ne ct on k (by omega) hχ hwf (by omega) hwO.2.1 hwO.2.2.1 H.size) (cwV 1 hts gX2_length_X2_pageWith rfl rfl rfl (by decide +kernel) ⟨Nat.le_of_ble_eq_true rfl, Nat.le_of_ble_eq_true rfl⟩) hN hK (hP) (hD) hS hA rfl 0 rfl rfl hl.1 rfl (Nat.le_of_ble_eq_true rfl) dX2_length_11 ⟨Nat.le_of_ble_eq_true rfl, Nat.le_of_ble_eq_true rfl⟩ (fun r_11 u_11 H1 locs hw_11 hP1 hD1 hDA hk9 hS => ?_)
  rcases hw_11 with ⟨hh9, rfl, rfl⟩ | ⟨hn9, hp9, rfl, rfl⟩ | ⟨hn9, hp9, rfl⟩
  · have hP := hP1
    have hD := hDA
    generalize H1 = H at hP hS ⊢
    have hP : va_P D vwCl (wP cI cB a h O χ cu fi ne ct on) H := hP
    have hD : va_D A (wP cI cB a h O χ cu fi ne ct on) := hD
    refine lv_astore_n (lv' := [(2, .ref (a 2)), (0, .ref (a 0)), (1, .int (nI (k)))]) hx hb dX2_length_14 rfl hl (by decide) rfl (fun ls hl => ?_)
    refine lv_aload_n hx hb dX2_length_15 rfl (lv_at hl 0 rfl) ?_
    refine lv_ifnonnull hx hb dX2_length_16 (by decide) ?_
    refine lv_aload_n hx hb dX2_length_23 rfl (lv_at hl 0 rfl) ?_
    refine lv_iload_n hx hb dX2_length_24 rfl (lv_at hl 2 rfl) ?_
    refine xc_Vi (ci := 1) (rest := []) (As := [.int (nI (k))]) ⟨hx, hb, hml, hown, hts⟩ (c_X1_lengthOf l D (a 2) (a 3) O (by omega) hwO hwO.2.1 hwO.2.2.1 k hh9.2.1 hh9.2.2) (cwV 1 hts gX2_length_X1_lengthOf rfl rfl rfl (by decide +kernel) ⟨Nat.le_of_ble_eq_true rfl, Nat.le_of_ble_eq_true rfl⟩) hN hK (wP_open hP) rfl 0 rfl rfl hl.1 rfl (Nat.le_of_ble_eq_true rfl) dX2_length_25 ⟨Nat.le_of_ble_eq_true rfl, Nat.le_of_ble_eq_true rfl⟩ (fun r_25 hw_25 => ?_)
    subst hw_25
    exact xf_i (post := fun (r : Int32) (u : Nat → Nat) => (¬ lost O χ k ∧ r = nI (lnF (row O χ k) k)) ∨ (lost O χ k ∧ r = mI 0)) (w1 := fun (u : Nat → Nat) => wP cI cB a u O χ cu fi ne ct on) h hx hb hr hlocks (Or.inl ⟨fun h7 => h7.1 hh9, by rw [row, cif_t hh9]; rfl⟩) hP hK hD hS dX2_length_28
  · have hP := hP1
    have hD := hDA
    have hr9 := ((hpg_spec χ k 96).2.2 hp9)
    have hq8 := hwf (hpg χ k 96 / 16) (hpg χ k 96 % 16) (by omega) (by omega) hr9.1
    generalize H1 = H at hP hS ⊢
    have hP : va_P D vwCl (wP cI cB a (byt χ (hpg χ k 96 / 16) (hpg χ k 96 % 16)) O χ cu fi ne ct on) H := hP
    have hD : va_D A (wP cI cB a (byt χ (hpg χ k 96 / 16) (hpg χ k 96 % 16)) O χ cu fi ne ct on) := hD
    refine lv_astore_n (lv' := [(2, .ref (a 4)), (0, .ref (a 0)), (1, .int (nI (k)))]) hx hb dX2_length_14 rfl hl (by decide) rfl (fun ls hl => ?_)
    refine lv_aload_n hx hb dX2_length_15 rfl (lv_at hl 0 rfl) ?_
    refine lv_ifnonnull hx hb dX2_length_16 (by decide) ?_
    refine lv_aload_n hx hb dX2_length_23 rfl (lv_at hl 0 rfl) ?_
    refine lv_iload_n hx hb dX2_length_24 rfl (lv_at hl 2 rfl) ?_
    refine xc_Vi (ci := 1) (rest := []) (As := [.int (nI (k))]) ⟨hx, hb, hml, hown, hts⟩ (c_X1_lengthOf l D (a 4) (a 5) (byt χ (hpg χ k 96 / 16) (hpg χ k 96 % 16)) (by have h7 := hq8.1; omega) hq8 hq8.2.1 hq8.2.2.1 k hr9.2.2.1 hr9.2.2.2) (cwV 1 hts gX2_length_X1_lengthOf rfl rfl rfl (by decide +kernel) ⟨Nat.le_of_ble_eq_true rfl, Nat.le_of_ble_eq_true rfl⟩) hN hK (wP_shown hP) rfl 0 rfl rfl hl.1 rfl (Nat.le_of_ble_eq_true rfl) dX2_length_25 ⟨Nat.le_of_ble_eq_true rfl, Nat.le_of_ble_eq_true rfl⟩ (fun r_25 hw_25 => ?_)
    subst hw_25
    exact xf_i (post := fun (r : Int32) (u : Nat → Nat) => (¬ lost O χ k ∧ r = nI (lnF (row O χ k) k)) ∨ (lost O χ k ∧ r = mI 0)) (w1 := fun (u : Nat → Nat) => wP cI cB a u O χ cu fi ne ct on) (byt χ (hpg χ k 96 / 16) (hpg χ k 96 % 16)) hx hb hr hlocks (Or.inl ⟨fun h7 => absurd h7.2 (by omega), by rw [row, cif_f hn9]; rfl⟩) hP hK hD hS dX2_length_28
  · have hP := hP1
    have hD := hDA
    generalize H1 = H at hP hS ⊢
    have hP : va_P D vwCl (wP cI cB a u_11 O χ cu fi ne ct on) H := hP
    have hD : va_D A (wP cI cB a u_11 O χ cu fi ne ct on) := hD
    refine lv_astore_nN (lv' := [(2, .null), (0, .ref (a 0)), (1, .int (nI (k)))]) hx hb dX2_length_14 rfl hl (by decide) rfl (fun ls hl => ?_)
    refine lv_aload_nN hx hb dX2_length_15 rfl (lv_at hl 0 rfl) ?_
    refine lv_ifnonnullN hx hb dX2_length_16 ?_
    refine lv_iconst (v := mI 0) hx hb dX2_length_19 (by decide) ?_
    refine lv_goto (tgt := 28) hx hb dX2_length_20 (by decide) ?_
    exact xf_i (post := fun (r : Int32) (u : Nat → Nat) => (¬ lost O χ k ∧ r = nI (lnF (row O χ k) k)) ∨ (lost O χ k ∧ r = mI 0)) (w1 := fun (u : Nat → Nat) => wP cI cB a u O χ cu fi ne ct on) u_11 hx hb hr hlocks (Or.inr ⟨⟨hn9, hp9⟩, rfl⟩) hP hK hD hS dX2_length_28

set_option maxHeartbeats 4000000 in
set_option maxRecDepth 100000 in
theorem c_X2_event (l : Launch) (D : va_G) {cI cB : ClassId} (a h O χ : Nat → Nat) (cu fi ne ct on : Nat) (hon : on = 1) (k : Nat) (h1 : fi ≤ k) (h2 : k < ne) (h3 : ne < 65536) (hχ : ∀ i, χ i < 65536) (hwf : wfs χ) (hwO : wf O) (hlost : ¬ lost O χ k) (sz : Nat) : Met l yX2_event wsX2_event ({ frames := 5, cells := 0, slots := 0, locals := 110 }) (va_Pc [.ref (a 0), .int (nI (k))] (x_U D (tyP cI cB) (wP cI cB a h O χ cu fi ne ct on) sz)) (va_Ql (fun (r : Int64) (u : Nat → Nat) => r = evR (row O χ k) k) (fun u t => x_E D (tyP cI cB) (va_A (wP cI cB a h O χ cu fi ne ct on) sz) (wP cI cB a u O χ cu fi ne ct on) t) (va_A (wP cI cB a h O χ cu fi ne ct on) sz)) 0 0 (va_A (wP cI cB a h O χ cu fi ne ct on) sz) := by
  refine Met.ofW (cc := cX2_event) (maxL := 3) (ret := (some .long)) (by decide) rfl ?_
  intro p e s m args below meth c s₁ B hml hv
  obtain ⟨rfl, hsz, hN, hP, hK, hD0⟩ := hv
  have hx := B.exec
  have hb := B.bytes
  have hr := B.returns
  have hts := atoms_spec (ws := wsX2_event) B.pre
  have hown : s.vm.findClass RX2 = some m.cls := findClass_of_methodNamed B.named
  have hlocks := B.notSynchronized
  subst hsz
  have hD := hD0.self (sz := s.heap.size)
  generalize hAe : va_A (wP cI cB a h O χ cu fi ne ct on) s.heap.size = A at hD ⊢
  have hA : ∀ q : Nat, s.heap.size ≤ q → A q := fun q h => by rw [← hAe]; exact Or.inr h
  obtain ⟨H, hH⟩ : ∃ H : Heap, s.heap = H := ⟨_, rfl⟩
  obtain ⟨locs, hlo⟩ : ∃ L : List Loc, ([] : List Loc) = L := ⟨_, rfl⟩
  have hS : va_S A s.heap H locs := by rw [← hH, ← hlo]; exact va_S.rf
  have hP : va_P D vwCl (wP cI cB a h O χ cu fi ne ct on) H := hH ▸ hP
  rw [hH, hlo]
  have hl := lv_entry ([.ref (a 0), .int (nI (k))]) (n := 3) (Nat.le_of_ble_eq_true rfl)
  rw [lg_entry_eq]
  generalize (lg_sl ([.ref (a 0), .int (nI (k))]) ++ List.replicate (3 - (lg_sl ([.ref (a 0), .int (nI (k))])).length) Slot.unset).toArray = ls at hl ⊢
  have hl : lv_has ls 3 [(0, .ref (a 0)), (1, .int (nI (k)))] := hl
  have hO9 := hwO.1
  refine lv_aload_n hx hb dX2_event_0 rfl (lv_at hl 0 rfl) ?_
  refine xc_Vv (ci := 2) (rest := []) (As := []) ⟨hx, hb, hml, hown, hts⟩ (c_X2_requirePower l D a h O χ cu fi ne ct on hon) (cwV 0 hts gX2_event_X2_requirePower rfl rfl rfl (by decide +kernel) ⟨Nat.le_of_ble_eq_true rfl, Nat.le_of_ble_eq_true rfl⟩) hN hK (hP) rfl 0 rfl rfl hl.1 rfl (Nat.le_of_ble_eq_true rfl) dX2_event_1 ⟨Nat.le_of_ble_eq_true rfl, Nat.le_of_ble_eq_true rfl⟩ (fun hw_1 => ?_)
  refine lv_aload_n hx hb dX2_event_4 rfl (lv_at hl 0 rfl) ?_
  refine lv_iload_n hx hb dX2_event_5 rfl (lv_at hl 1 rfl) ?_
  refine xc_Vv (ci := 2) (rest := []) (As := [.int (nI (k))]) ⟨hx, hb, hml, hown, hts⟩ (c_X2_requireEvent l D a h O χ cu fi ne ct on k h1 h2 (by omega)) (cwV 1 hts gX2_event_X2_requireEvent rfl rfl rfl (by decide +kernel) ⟨Nat.le_of_ble_eq_true rfl, Nat.le_of_ble_eq_true rfl⟩) hN hK (hP) rfl 0 rfl rfl hl.1 rfl (Nat.le_of_ble_eq_true rfl) dX2_event_6 ⟨Nat.le_of_ble_eq_true rfl, Nat.le_of_ble_eq_true rfl⟩ (fun hw_6 => ?_)
  refine lv_aload_n hx hb dX2_event_9 rfl (lv_at hl 0 rfl) ?_
  refine lv_iload_n hx hb dX2_event_10 rfl (lv_at hl 1 rfl) ?_
  have hF9 := x_hF (hD) hS hA
  refine xw_Vq (ci := 2) (rest := []) (As := [.int (nI (k))]) ⟨hx, hb, hml, hown, hts⟩ (c_X2_pageWith l D a h O χ cu fi ne ct on k (by omega) hχ hwf (by omega) hwO.2.1 hwO.2.2.1 H.size) (cwV 1 hts gX2_event_X2_pageWith rfl rfl rfl (by decide +kernel) ⟨Nat.le_of_ble_eq_true rfl, Nat.le_of_ble_eq_true rfl⟩) hN hK (hP) (hD) hS hA rfl 0 rfl rfl hl.1 rfl (Nat.le_of_ble_eq_true rfl) dX2_event_11 ⟨Nat.le_of_ble_eq_true rfl, Nat.le_of_ble_eq_true rfl⟩ (fun r_11 u_11 H1 locs hw_11 hP1 hD1 hDA hk9 hS => ?_)
  rcases hw_11 with ⟨hh9, rfl, rfl⟩ | ⟨hn9, hp9, rfl, rfl⟩ | ⟨hn9, hp9, rfl⟩
  · have hP := hP1
    have hD := hDA
    generalize H1 = H at hP hS ⊢
    have hP : va_P D vwCl (wP cI cB a h O χ cu fi ne ct on) H := hP
    have hD : va_D A (wP cI cB a h O χ cu fi ne ct on) := hD
    refine lv_astore_n (lv' := [(2, .ref (a 2)), (0, .ref (a 0)), (1, .int (nI (k)))]) hx hb dX2_event_14 rfl hl (by decide) rfl (fun ls hl => ?_)
    refine lv_aload_n hx hb dX2_event_15 rfl (lv_at hl 0 rfl) ?_
    refine lv_ifnonnull hx hb dX2_event_16 (by decide) ?_
    refine lv_aload_n hx hb dX2_event_29 rfl (lv_at hl 0 rfl) ?_
    refine lv_iload_n hx hb dX2_event_30 rfl (lv_at hl 2 rfl) ?_
    refine xc_Vl (ci := 1) (rest := []) (As := [.int (nI (k))]) ⟨hx, hb, hml, hown, hts⟩ (c_X1_bytesOf l D (a 2) (a 3) O (by omega) hwO hwO.2.1 hwO.2.2.1 k hh9.2.1 hh9.2.2) (cwV 1 hts gX2_event_X1_bytesOf rfl rfl rfl (by decide +kernel) ⟨Nat.le_of_ble_eq_true rfl, Nat.le_of_ble_eq_true rfl⟩) hN hK (wP_open hP) rfl 0 rfl rfl hl.1 rfl (Nat.le_of_ble_eq_true rfl) dX2_event_31 ⟨Nat.le_of_ble_eq_true rfl, Nat.le_of_ble_eq_true rfl⟩ (fun r_31 hw_31 => ?_)
    subst hw_31
    exact xf_l (post := fun (r : Int64) (u : Nat → Nat) => r = evR (row O χ k) k) (w1 := fun (u : Nat → Nat) => wP cI cB a u O χ cu fi ne ct on) h hx hb hr hlocks (by rw [row, cif_t hh9]; rfl) hP hK hD hS dX2_event_34
  · have hP := hP1
    have hD := hDA
    have hr9 := ((hpg_spec χ k 96).2.2 hp9)
    have hq8 := hwf (hpg χ k 96 / 16) (hpg χ k 96 % 16) (by omega) (by omega) hr9.1
    generalize H1 = H at hP hS ⊢
    have hP : va_P D vwCl (wP cI cB a (byt χ (hpg χ k 96 / 16) (hpg χ k 96 % 16)) O χ cu fi ne ct on) H := hP
    have hD : va_D A (wP cI cB a (byt χ (hpg χ k 96 / 16) (hpg χ k 96 % 16)) O χ cu fi ne ct on) := hD
    refine lv_astore_n (lv' := [(2, .ref (a 4)), (0, .ref (a 0)), (1, .int (nI (k)))]) hx hb dX2_event_14 rfl hl (by decide) rfl (fun ls hl => ?_)
    refine lv_aload_n hx hb dX2_event_15 rfl (lv_at hl 0 rfl) ?_
    refine lv_ifnonnull hx hb dX2_event_16 (by decide) ?_
    refine lv_aload_n hx hb dX2_event_29 rfl (lv_at hl 0 rfl) ?_
    refine lv_iload_n hx hb dX2_event_30 rfl (lv_at hl 2 rfl) ?_
    refine xc_Vl (ci := 1) (rest := []) (As := [.int (nI (k))]) ⟨hx, hb, hml, hown, hts⟩ (c_X1_bytesOf l D (a 4) (a 5) (byt χ (hpg χ k 96 / 16) (hpg χ k 96 % 16)) (by have h7 := hq8.1; omega) hq8 hq8.2.1 hq8.2.2.1 k hr9.2.2.1 hr9.2.2.2) (cwV 1 hts gX2_event_X1_bytesOf rfl rfl rfl (by decide +kernel) ⟨Nat.le_of_ble_eq_true rfl, Nat.le_of_ble_eq_true rfl⟩) hN hK (wP_shown hP) rfl 0 rfl rfl hl.1 rfl (Nat.le_of_ble_eq_true rfl) dX2_event_31 ⟨Nat.le_of_ble_eq_true rfl, Nat.le_of_ble_eq_true rfl⟩ (fun r_31 hw_31 => ?_)
    subst hw_31
    exact xf_l (post := fun (r : Int64) (u : Nat → Nat) => r = evR (row O χ k) k) (w1 := fun (u : Nat → Nat) => wP cI cB a u O χ cu fi ne ct on) (byt χ (hpg χ k 96 / 16) (hpg χ k 96 % 16)) hx hb hr hlocks (by rw [row, cif_f hn9]; rfl) hP hK hD hS dX2_event_34
  · exact absurd ⟨hn9, hp9⟩ hlost

set_option maxHeartbeats 4000000 in
set_option maxRecDepth 100000 in
theorem c_X2_ruin (l : Launch) (D : va_G) {cI cB : ClassId} (a h O χ : Nat → Nat) (cu fi ne ct on : Nat) (b k u9 : Nat) (hb6 : b < 6) (hk8 : k < 8) (hu : u9 < 2) (hχ : ∀ i, χ i < 65536) (sz : Nat) : Met l yX2_ruin wsX2_ruin ({ frames := 2, cells := 0, slots := 0, locals := 41 }) (va_Pc [.ref (a 0), .int (nI (b)), .int (nI (k)), .int (nI (u9))] (x_U D (tyP cI cB) (wP cI cB a h O χ cu fi ne ct on) sz)) (va_Qi (fun (r : Int32) (u : Nat → Nat) => (r = nI 1 ∧ χ (16 * b + plo k u9) = 1 ∧ u = up χ (16 * b + plo k u9) 2) ∨ (r = nI 0 ∧ χ (16 * b + plo k u9) ≠ 1 ∧ u = χ)) (fun u t => x_E D (tyP cI cB) (va_A (wP cI cB a h O χ cu fi ne ct on) sz) (wP cI cB a h O u cu fi ne ct on) t) (va_A (wP cI cB a h O χ cu fi ne ct on) sz)) 0 0 (va_A (wP cI cB a h O χ cu fi ne ct on) sz) := by
  refine Met.ofW (cc := cX2_ruin) (maxL := 4) (ret := (some .boolean)) (by decide) rfl ?_
  intro p e s m args below meth c s₁ B hml hv
  obtain ⟨rfl, hsz, hN, hP, hK, hD0⟩ := hv
  have hx := B.exec
  have hb := B.bytes
  have hr := B.returns
  have hts := atoms_spec (ws := wsX2_ruin) B.pre
  have hown : s.vm.findClass RX2 = some m.cls := findClass_of_methodNamed B.named
  have hlocks := B.notSynchronized
  subst hsz
  have hD := hD0.self (sz := s.heap.size)
  generalize hAe : va_A (wP cI cB a h O χ cu fi ne ct on) s.heap.size = A at hD ⊢
  have hA : ∀ q : Nat, s.heap.size ≤ q → A q := fun q h => by rw [← hAe]; exact Or.inr h
  obtain ⟨H, hH⟩ : ∃ H : Heap, s.heap = H := ⟨_, rfl⟩
  obtain ⟨locs, hlo⟩ : ∃ L : List Loc, ([] : List Loc) = L := ⟨_, rfl⟩
  have hS : va_S A s.heap H locs := by rw [← hH, ← hlo]; exact va_S.rf
  have hP : va_P D vwCl (wP cI cB a h O χ cu fi ne ct on) H := hH ▸ hP
  rw [hH, hlo]
  have hiX2 : ∀ w ∈ u_ws RX2 TX2 8, w ∈ wsX2_ruin := by decide +kernel
  have hl := lv_entry ([.ref (a 0), .int (nI (b)), .int (nI (k)), .int (nI (u9))]) (n := 4) (Nat.le_of_ble_eq_true rfl)
  rw [lg_entry_eq]
  generalize (lg_sl ([.ref (a 0), .int (nI (b)), .int (nI (k)), .int (nI (u9))]) ++ List.replicate (4 - (lg_sl ([.ref (a 0), .int (nI (b)), .int (nI (k)), .int (nI (u9))])).length) Slot.unset).toArray = ls at hl ⊢
  have hl : lv_has ls 4 [(0, .ref (a 0)), (1, .int (nI (b))), (2, .int (nI (k))), (3, .int (nI (u9)))] := hl
  have hpl : plo k u9 < 16 := by unfold plo; split <;> omega
  refine lv_iload_n hx hb dX2_ruin_0 rfl (lv_at hl 1 rfl) ?_
  refine lv_iload_n hx hb dX2_ruin_1 rfl (lv_at hl 2 rfl) ?_
  refine xc_Sv (rest := []) (As := [.int (nI (b)), .int (nI (k))]) ⟨hx, hb, hml, hown, hts⟩ (c_X2_requireLine l D b k hb6 hk8) (va_cwS 2 hts gX2_ruin_X2_requireLine rfl rfl rfl (by decide +kernel) ⟨Nat.le_of_ble_eq_true rfl, Nat.le_of_ble_eq_true rfl⟩) hN hK (va_P_nil) rfl hl.1 rfl (Nat.le_of_ble_eq_true rfl) dX2_ruin_2 ⟨Nat.le_of_ble_eq_true rfl, Nat.le_of_ble_eq_true rfl⟩ (fun hw_2 => ?_)
  refine lv_aload_n hx hb dX2_ruin_5 rfl (lv_at hl 0 rfl) ?_
  refine va_get (D := D) (ci := 2) (v := .ref (a 1)) (C := RX2) (T := TX2) (N := 8) hx hb hts hiX2 hown hK hP 0 rfl rfl 0 (by decide) (hts (.fieldLink RX2 11 "PairedCells" "blocks" "[LPairedCells$Block;") (by decide +kernel)) (fun _ h9 => h9) rfl dX2_ruin_6 ?_
  refine lv_iload_n hx hb dX2_ruin_9 rfl (lv_at hl 1 rfl) ?_
  refine xr_aald hx hb hK hP 1 1 rfl rfl (by omega) (by decide) dX2_ruin_10 ?_
  refine lv_iload_n hx hb dX2_ruin_11 rfl (lv_at hl 2 rfl) ?_
  refine lv_iload_n hx hb dX2_ruin_12 rfl (lv_at hl 3 rfl) ?_
  refine xc_Si (rest := [.ref (a (6 + 4 * b))]) (As := [.int (nI (k)), .int (nI (u9))]) ⟨hx, hb, hml, hown, hts⟩ (c_X2_placeOf l D k u9 hu) (va_cwS 2 hts gX2_ruin_X2_placeOf rfl rfl rfl (by decide +kernel) ⟨Nat.le_of_ble_eq_true rfl, Nat.le_of_ble_eq_true rfl⟩) hN hK (va_P_nil) rfl hl.1 rfl (Nat.le_of_ble_eq_true rfl) dX2_ruin_13 ⟨Nat.le_of_ble_eq_true rfl, Nat.le_of_ble_eq_true rfl⟩ (fun r_13 hw_13 => ?_)
  subst hw_13
  have hF9 := x_hF (dP_blk hb6 hD) hS hA
  refine xw_Vi (ci := 0) (rest := []) (As := [.int (nI (plo k u9))]) ⟨hx, hb, hml, hown, hts⟩ (c_X0_ruinWritten l D a χ b hb6 hχ (plo k u9) hpl H.size) (cwV 1 hts gX2_ruin_X0_ruinWritten rfl rfl rfl (by decide +kernel) ⟨Nat.le_of_ble_eq_true rfl, Nat.le_of_ble_eq_true rfl⟩) hN hK (wP_blk hb6 hP) (dP_blk hb6 hD) hS hA rfl 0 rfl rfl hl.1 rfl (Nat.le_of_ble_eq_true rfl) dX2_ruin_16 ⟨Nat.le_of_ble_eq_true rfl, Nat.le_of_ble_eq_true rfl⟩ (fun r_16 u_16 H1 locs hw_16 hP1 hD1 hDA hk9 hS => ?_)
  rcases hw_16 with ⟨rfl, h7, rfl⟩ | ⟨rfl, h7, h8⟩
  · obtain ⟨hP, hD⟩ := jP_blk hb6 hP hD hF9 hk9 hP1 hD1 (up_out (Or.inl ⟨by omega, by omega⟩))
    generalize H1 = H at hP hS ⊢
    have hP : va_P D vwCl (wP cI cB a h O (up χ (16 * b + plo k u9) 2) cu fi ne ct on) H := hP
    have hD : va_D A (wP cI cB a h O (up χ (16 * b + plo k u9) 2) cu fi ne ct on) := hD
    exact xf_z (post := fun (r : Int32) (u : Nat → Nat) => (r = nI 1 ∧ χ (16 * b + plo k u9) = 1 ∧ u = up χ (16 * b + plo k u9) 2) ∨ (r = nI 0 ∧ χ (16 * b + plo k u9) ≠ 1 ∧ u = χ)) (w1 := fun (u : Nat → Nat) => wP cI cB a h O u cu fi ne ct on) (up χ (16 * b + plo k u9) 2) hx hb hr hlocks rfl (Or.inl ⟨rfl, h7, rfl⟩) hP hK hD hS dX2_ruin_19
  · rw [h8] at hP1 hD1
    obtain ⟨hP, hD⟩ := jP_blk hb6 hP hD hF9 hk9 hP1 hD1 (fun _ _ => rfl)
    generalize H1 = H at hP hS ⊢
    have hP : va_P D vwCl (wP cI cB a h O χ cu fi ne ct on) H := hP
    have hD : va_D A (wP cI cB a h O χ cu fi ne ct on) := hD
    exact xf_z (post := fun (r : Int32) (u : Nat → Nat) => (r = nI 1 ∧ χ (16 * b + plo k u9) = 1 ∧ u = up χ (16 * b + plo k u9) 2) ∨ (r = nI 0 ∧ χ (16 * b + plo k u9) ≠ 1 ∧ u = χ)) (w1 := fun (u : Nat → Nat) => wP cI cB a h O u cu fi ne ct on) χ hx hb hr hlocks rfl (Or.inr ⟨rfl, h7, rfl⟩) hP hK hD hS dX2_ruin_19

set_option maxHeartbeats 4000000 in
set_option maxRecDepth 100000 in
theorem c_X2_page (l : Launch) (D : va_G) {cI cB : ClassId} (a h O χ : Nat → Nat) (cu fi ne ct on : Nat) (b k u9 : Nat) (hb6 : b < 6) (hk8 : k < 8) (hu : u9 < 2) (hχ : ∀ i, χ i < 65536) : Met l yX2_page wsX2_page ({ frames := 3, cells := 0, slots := 0, locals := 64 }) (va_Pc [.ref (a 0), .int (nI (b)), .int (nI (k)), .int (nI (u9))] (x_R D (tyP cI cB) (wP cI cB a h O χ cu fi ne ct on))) (vp_Si (fun r => (reb χ b (plo k u9) ∧ r = nI 3) ∨ (¬ reb χ b (plo k u9) ∧ r = nI (χ (16 * b + plo k u9))))) 0 0 (fun _ => False) := by
  refine Met.ofW (cc := cX2_page) (maxL := 4) (ret := (some .int)) (by decide) rfl ?_
  intro p e s m args below meth c s₁ B hml hv
  obtain ⟨rfl, hN, hP, hK⟩ := hv
  have hx := B.exec
  have hb := B.bytes
  have hr := B.returns
  have hts := atoms_spec (ws := wsX2_page) B.pre
  have hown : s.vm.findClass RX2 = some m.cls := findClass_of_methodNamed B.named
  have hlocks := B.notSynchronized
  have hiX2 : ∀ w ∈ u_ws RX2 TX2 8, w ∈ wsX2_page := by decide +kernel
  have hl := lv_entry ([.ref (a 0), .int (nI (b)), .int (nI (k)), .int (nI (u9))]) (n := 4) (Nat.le_of_ble_eq_true rfl)
  rw [lg_entry_eq]
  generalize (lg_sl ([.ref (a 0), .int (nI (b)), .int (nI (k)), .int (nI (u9))]) ++ List.replicate (4 - (lg_sl ([.ref (a 0), .int (nI (b)), .int (nI (k)), .int (nI (u9))])).length) Slot.unset).toArray = ls at hl ⊢
  have hl : lv_has ls 4 [(0, .ref (a 0)), (1, .int (nI (b))), (2, .int (nI (k))), (3, .int (nI (u9)))] := hl
  have hpl : plo k u9 < 16 := by unfold plo; split <;> omega
  refine lv_iload_n hx hb dX2_page_0 rfl (lv_at hl 1 rfl) ?_
  refine lv_iload_n hx hb dX2_page_1 rfl (lv_at hl 2 rfl) ?_
  refine xc_Sv (rest := []) (As := [.int (nI (b)), .int (nI (k))]) ⟨hx, hb, hml, hown, hts⟩ (c_X2_requireLine l D b k hb6 hk8) (va_cwS 2 hts gX2_page_X2_requireLine rfl rfl rfl (by decide +kernel) ⟨Nat.le_of_ble_eq_true rfl, Nat.le_of_ble_eq_true rfl⟩) hN hK (va_P_nil) rfl hl.1 rfl (Nat.le_of_ble_eq_true rfl) dX2_page_2 ⟨Nat.le_of_ble_eq_true rfl, Nat.le_of_ble_eq_true rfl⟩ (fun hw_2 => ?_)
  refine lv_aload_n hx hb dX2_page_5 rfl (lv_at hl 0 rfl) ?_
  refine va_get (D := D) (ci := 2) (v := .ref (a 1)) (C := RX2) (T := TX2) (N := 8) hx hb hts hiX2 hown hK hP 0 rfl rfl 0 (by decide) (hts (.fieldLink RX2 11 "PairedCells" "blocks" "[LPairedCells$Block;") (by decide +kernel)) (fun _ h9 => h9) rfl dX2_page_6 ?_
  refine lv_iload_n hx hb dX2_page_9 rfl (lv_at hl 1 rfl) ?_
  refine xr_aald hx hb hK hP 1 1 rfl rfl (by omega) (by decide) dX2_page_10 ?_
  refine lv_iload_n hx hb dX2_page_11 rfl (lv_at hl 2 rfl) ?_
  refine lv_iload_n hx hb dX2_page_12 rfl (lv_at hl 3 rfl) ?_
  refine xc_Si (rest := [.ref (a (6 + 4 * b))]) (As := [.int (nI (k)), .int (nI (u9))]) ⟨hx, hb, hml, hown, hts⟩ (c_X2_placeOf l D k u9 hu) (va_cwS 2 hts gX2_page_X2_placeOf rfl rfl rfl (by decide +kernel) ⟨Nat.le_of_ble_eq_true rfl, Nat.le_of_ble_eq_true rfl⟩) hN hK (va_P_nil) rfl hl.1 rfl (Nat.le_of_ble_eq_true rfl) dX2_page_13 ⟨Nat.le_of_ble_eq_true rfl, Nat.le_of_ble_eq_true rfl⟩ (fun r_13 hw_13 => ?_)
  subst hw_13
  refine xc_Vi (ci := 0) (rest := []) (As := [.int (nI (plo k u9))]) ⟨hx, hb, hml, hown, hts⟩ (c_X0_stateAt l D a χ b hb6 hχ (plo k u9) hpl) (cwV 1 hts gX2_page_X0_stateAt rfl rfl rfl (by decide +kernel) ⟨Nat.le_of_ble_eq_true rfl, Nat.le_of_ble_eq_true rfl⟩) hN hK (wP_blk hb6 hP) rfl 0 rfl rfl hl.1 rfl (Nat.le_of_ble_eq_true rfl) dX2_page_16 ⟨Nat.le_of_ble_eq_true rfl, Nat.le_of_ble_eq_true rfl⟩ (fun r_16 hw_16 => ?_)
  exact xe_i hx hb hr hlocks (hw_16) rfl rfl dX2_page_19

set_option maxHeartbeats 4000000 in
set_option maxRecDepth 100000 in
theorem c_X2_at (l : Launch) (D : va_G) {cI cB : ClassId} (a h O χ : Nat → Nat) (cu fi ne ct on : Nat) (b k u9 : Nat) (hb6 : b < 6) (hk8 : k < 8) (hu : u9 < 2) (hχ : ∀ i, χ i < 65536) (i : Nat) (hi : i < 16) (hrd : rdb χ b (plo k u9)) : Met l yX2_at wsX2_at ({ frames := 3, cells := 0, slots := 0, locals := 64 }) (va_Pc [.ref (a 0), .int (nI (b)), .int (nI (k)), .int (nI (u9)), .int (nI (i))] (x_R D (tyP cI cB) (wP cI cB a h O χ cu fi ne ct on))) (vp_Si (fun r => r = nI (byt χ b (plo k u9) i))) 0 0 (fun _ => False) := by
  refine Met.ofW (cc := cX2_at) (maxL := 6) (ret := (some .int)) (by decide) rfl ?_
  intro p e s m args below meth c s₁ B hml hv
  obtain ⟨rfl, hN, hP, hK⟩ := hv
  have hx := B.exec
  have hb := B.bytes
  have hr := B.returns
  have hts := atoms_spec (ws := wsX2_at) B.pre
  have hown : s.vm.findClass RX2 = some m.cls := findClass_of_methodNamed B.named
  have hlocks := B.notSynchronized
  have hiX2 : ∀ w ∈ u_ws RX2 TX2 8, w ∈ wsX2_at := by decide +kernel
  have hl := lv_entry ([.ref (a 0), .int (nI (b)), .int (nI (k)), .int (nI (u9)), .int (nI (i))]) (n := 6) (Nat.le_of_ble_eq_true rfl)
  rw [lg_entry_eq]
  generalize (lg_sl ([.ref (a 0), .int (nI (b)), .int (nI (k)), .int (nI (u9)), .int (nI (i))]) ++ List.replicate (6 - (lg_sl ([.ref (a 0), .int (nI (b)), .int (nI (k)), .int (nI (u9)), .int (nI (i))])).length) Slot.unset).toArray = ls at hl ⊢
  have hl : lv_has ls 6 [(0, .ref (a 0)), (1, .int (nI (b))), (2, .int (nI (k))), (3, .int (nI (u9))), (4, .int (nI (i)))] := hl
  have hpl : plo k u9 < 16 := by unfold plo; split <;> omega
  refine lv_iload_n hx hb dX2_at_0 rfl (lv_at hl 1 rfl) ?_
  refine lv_iload_n hx hb dX2_at_1 rfl (lv_at hl 2 rfl) ?_
  refine xc_Sv (rest := []) (As := [.int (nI (b)), .int (nI (k))]) ⟨hx, hb, hml, hown, hts⟩ (c_X2_requireLine l D b k hb6 hk8) (va_cwS 2 hts gX2_at_X2_requireLine rfl rfl rfl (by decide +kernel) ⟨Nat.le_of_ble_eq_true rfl, Nat.le_of_ble_eq_true rfl⟩) hN hK (va_P_nil) rfl hl.1 rfl (Nat.le_of_ble_eq_true rfl) dX2_at_2 ⟨Nat.le_of_ble_eq_true rfl, Nat.le_of_ble_eq_true rfl⟩ (fun hw_2 => ?_)
  refine lv_iload hx hb dX2_at_5 (lv_at hl 4 rfl) ?_
  refine xz_lt (tgt := 17) hx hb dX2_at_7 (by decide) (nI_toInt (by omega)) (fun c_7 => ?_) (fun c_7 => ?_)
  · exfalso; omega
  · refine lv_iload hx hb dX2_at_10 (lv_at hl 4 rfl) ?_
    refine lv_bipush (v := nI 16) hx hb dX2_at_12 (by decide) ?_
    refine xi_lt (tgt := 27) hx hb dX2_at_14 (by decide) (nI_toInt (by omega)) (nI_toInt (by omega)) (fun c_14 => ?_) (fun c_14 => ?_)
    · refine lv_iload_n hx hb dX2_at_27 rfl (lv_at hl 2 rfl) ?_
      refine lv_iload_n hx hb dX2_at_28 rfl (lv_at hl 3 rfl) ?_
      refine xc_Si (rest := []) (As := [.int (nI (k)), .int (nI (u9))]) ⟨hx, hb, hml, hown, hts⟩ (c_X2_placeOf l D k u9 hu) (va_cwS 2 hts gX2_at_X2_placeOf rfl rfl rfl (by decide +kernel) ⟨Nat.le_of_ble_eq_true rfl, Nat.le_of_ble_eq_true rfl⟩) hN hK (va_P_nil) rfl hl.1 rfl (Nat.le_of_ble_eq_true rfl) dX2_at_29 ⟨Nat.le_of_ble_eq_true rfl, Nat.le_of_ble_eq_true rfl⟩ (fun r_29 hw_29 => ?_)
      subst hw_29
      refine lv_istore (lv' := [(5, .int (nI (plo k u9))), (0, .ref (a 0)), (1, .int (nI (b))), (2, .int (nI (k))), (3, .int (nI (u9))), (4, .int (nI (i)))]) hx hb dX2_at_32 hl (by decide) rfl (fun ls hl => ?_)
      refine lv_aload_n hx hb dX2_at_34 rfl (lv_at hl 1 rfl) ?_
      refine va_get (D := D) (ci := 2) (v := .ref (a 1)) (C := RX2) (T := TX2) (N := 8) hx hb hts hiX2 hown hK hP 0 rfl rfl 0 (by decide) (hts (.fieldLink RX2 11 "PairedCells" "blocks" "[LPairedCells$Block;") (by decide +kernel)) (fun _ h9 => h9) rfl dX2_at_35 ?_
      refine lv_iload_n hx hb dX2_at_38 rfl (lv_at hl 2 rfl) ?_
      refine xr_aald hx hb hK hP 1 1 rfl rfl (by omega) (by decide) dX2_at_39 ?_
      refine lv_iload hx hb dX2_at_40 (lv_at hl 0 rfl) ?_
      refine xc_Vi (ci := 0) (rest := []) (As := [.int (nI (plo k u9))]) ⟨hx, hb, hml, hown, hts⟩ (c_X0_isReadable l D a χ b hb6 hχ (plo k u9) hpl) (cwV 1 hts gX2_at_X0_isReadable rfl rfl rfl (by decide +kernel) ⟨Nat.le_of_ble_eq_true rfl, Nat.le_of_ble_eq_true rfl⟩) hN hK (wP_blk hb6 hP) rfl 0 rfl rfl hl.1 rfl (Nat.le_of_ble_eq_true rfl) dX2_at_42 ⟨Nat.le_of_ble_eq_true rfl, Nat.le_of_ble_eq_true rfl⟩ (fun r_42 hw_42 => ?_)
      refine xz_ne (tgt := 58) hx hb dX2_at_45 (by decide) rfl (fun c_45 => ?_) (fun c_45 => ?_)
      · have h_45 := bo.t hw_42 c_45
        refine lv_aload_n hx hb dX2_at_58 rfl (lv_at hl 1 rfl) ?_
        refine va_get (D := D) (ci := 2) (v := .ref (a 1)) (C := RX2) (T := TX2) (N := 8) hx hb hts hiX2 hown hK hP 0 rfl rfl 0 (by decide) (hts (.fieldLink RX2 11 "PairedCells" "blocks" "[LPairedCells$Block;") (by decide +kernel)) (fun _ h9 => h9) rfl dX2_at_59 ?_
        refine lv_iload_n hx hb dX2_at_62 rfl (lv_at hl 2 rfl) ?_
        refine xr_aald hx hb hK hP 1 1 rfl rfl (by omega) (by decide) dX2_at_63 ?_
        refine lv_iload hx hb dX2_at_64 (lv_at hl 0 rfl) ?_
        refine lv_iload hx hb dX2_at_66 (lv_at hl 5 rfl) ?_
        refine xc_Vi (ci := 0) (rest := []) (As := [.int (nI (plo k u9)), .int (nI (i))]) ⟨hx, hb, hml, hown, hts⟩ (c_X0_byteAt l D a χ b hb6 hχ (plo k u9) hpl i hi hrd) (cwV 2 hts gX2_at_X0_byteAt rfl rfl rfl (by decide +kernel) ⟨Nat.le_of_ble_eq_true rfl, Nat.le_of_ble_eq_true rfl⟩) hN hK (wP_blk hb6 hP) rfl 0 rfl rfl hl.1 rfl (Nat.le_of_ble_eq_true rfl) dX2_at_68 ⟨Nat.le_of_ble_eq_true rfl, Nat.le_of_ble_eq_true rfl⟩ (fun r_68 hw_68 => ?_)
        subst hw_68
        exact xe_i hx hb hr hlocks (rfl) rfl rfl dX2_at_71
      · exact absurd hrd (bo.f hw_42 c_45)
    · exfalso; omega

set_option maxHeartbeats 4000000 in
set_option maxRecDepth 100000 in
theorem c_X2_guard (l : Launch) (D : va_G) {cI cB : ClassId} (a h O χ : Nat → Nat) (cu fi ne ct on : Nat) (b : Nat) (hb6 : b < 6) (hχ : ∀ i, χ i < 65536) : Met l yX2_guard wsX2_guard ({ frames := 1, cells := 0, slots := 0, locals := 20 }) (va_Pc [.ref (a 0), .int (nI (b))] (x_R D (tyP cI cB) (wP cI cB a h O χ cu fi ne ct on))) (vp_Si (fun r => r = nI (χ (100 + b)))) 0 0 (fun _ => False) := by
  refine Met.ofW (cc := cX2_guard) (maxL := 2) (ret := (some .int)) (by decide) rfl ?_
  intro p e s m args below meth c s₁ B hml hv
  obtain ⟨rfl, hN, hP, hK⟩ := hv
  have hx := B.exec
  have hb := B.bytes
  have hr := B.returns
  have hts := atoms_spec (ws := wsX2_guard) B.pre
  have hown : s.vm.findClass RX2 = some m.cls := findClass_of_methodNamed B.named
  have hlocks := B.notSynchronized
  have hiX0 : ∀ w ∈ u_ws RX0 TX0 5, w ∈ wsX2_guard := by decide +kernel
  have hiX2 : ∀ w ∈ u_ws RX2 TX2 8, w ∈ wsX2_guard := by decide +kernel
  have hl := lv_entry ([.ref (a 0), .int (nI (b))]) (n := 2) (Nat.le_of_ble_eq_true rfl)
  rw [lg_entry_eq]
  generalize (lg_sl ([.ref (a 0), .int (nI (b))]) ++ List.replicate (2 - (lg_sl ([.ref (a 0), .int (nI (b))])).length) Slot.unset).toArray = ls at hl ⊢
  have hl : lv_has ls 2 [(0, .ref (a 0)), (1, .int (nI (b)))] := hl
  refine lv_iload_n hx hb dX2_guard_0 rfl (lv_at hl 1 rfl) ?_
  refine xc_Sv (rest := []) (As := [.int (nI (b))]) ⟨hx, hb, hml, hown, hts⟩ (c_X2_requireBlock l D b hb6) (va_cwS 1 hts gX2_guard_X2_requireBlock rfl rfl rfl (by decide +kernel) ⟨Nat.le_of_ble_eq_true rfl, Nat.le_of_ble_eq_true rfl⟩) hN hK (va_P_nil) rfl hl.1 rfl (Nat.le_of_ble_eq_true rfl) dX2_guard_1 ⟨Nat.le_of_ble_eq_true rfl, Nat.le_of_ble_eq_true rfl⟩ (fun hw_1 => ?_)
  refine lv_aload_n hx hb dX2_guard_4 rfl (lv_at hl 0 rfl) ?_
  refine va_get (D := D) (ci := 2) (v := .ref (a 1)) (C := RX2) (T := TX2) (N := 8) hx hb hts hiX2 hown hK hP 0 rfl rfl 0 (by decide) (hts (.fieldLink RX2 11 "PairedCells" "blocks" "[LPairedCells$Block;") (by decide +kernel)) (fun _ h9 => h9) rfl dX2_guard_5 ?_
  refine lv_iload_n hx hb dX2_guard_8 rfl (lv_at hl 1 rfl) ?_
  refine xr_aald hx hb hK hP 1 1 rfl rfl (by omega) (by decide) dX2_guard_9 ?_
  refine va_getN (D := D) (ci := 0) (v := .int (nI (χ (100 + b)))) (C := RX0) (T := TX0) (N := 5) hx hb hts hiX0 hown hK (wP_blk hb6 hP) 0 rfl rfl 3 (by decide) (va_Nw.use rfl hN.2.2.1) (fun _ h9 => h9) rfl dX2_guard_10 ?_
  exact xe_i hx hb hr hlocks (rfl) rfl rfl dX2_guard_13

set_option maxHeartbeats 4000000 in
set_option maxRecDepth 100000 in
theorem c_X2_guarded (l : Launch) (D : va_G) {cI cB : ClassId} (a h O χ : Nat → Nat) (cu fi ne ct on : Nat) (b : Nat) (hb6 : b < 6) (hχ : ∀ i, χ i < 65536) (i : Nat) (hi : i < 17) (hg : χ (100 + b) = 1) : Met l yX2_guarded wsX2_guarded ({ frames := 1, cells := 0, slots := 0, locals := 20 }) (va_Pc [.ref (a 0), .int (nI (b)), .int (nI (i))] (x_R D (tyP cI cB) (wP cI cB a h O χ cu fi ne ct on))) (vp_Si (fun r => r = nI (χ (200 + 17 * b + i)))) 0 0 (fun _ => False) := by
  refine Met.ofW (cc := cX2_guarded) (maxL := 3) (ret := (some .int)) (by decide) rfl ?_
  intro p e s m args below meth c s₁ B hml hv
  obtain ⟨rfl, hN, hP, hK⟩ := hv
  have hx := B.exec
  have hb := B.bytes
  have hr := B.returns
  have hts := atoms_spec (ws := wsX2_guarded) B.pre
  have hown : s.vm.findClass RX2 = some m.cls := findClass_of_methodNamed B.named
  have hlocks := B.notSynchronized
  have hiX0 : ∀ w ∈ u_ws RX0 TX0 5, w ∈ wsX2_guarded := by decide +kernel
  have hiX2 : ∀ w ∈ u_ws RX2 TX2 8, w ∈ wsX2_guarded := by decide +kernel
  have hl := lv_entry ([.ref (a 0), .int (nI (b)), .int (nI (i))]) (n := 3) (Nat.le_of_ble_eq_true rfl)
  rw [lg_entry_eq]
  generalize (lg_sl ([.ref (a 0), .int (nI (b)), .int (nI (i))]) ++ List.replicate (3 - (lg_sl ([.ref (a 0), .int (nI (b)), .int (nI (i))])).length) Slot.unset).toArray = ls at hl ⊢
  have hl : lv_has ls 3 [(0, .ref (a 0)), (1, .int (nI (b))), (2, .int (nI (i)))] := hl
  refine lv_iload_n hx hb dX2_guarded_0 rfl (lv_at hl 1 rfl) ?_
  refine xc_Sv (rest := []) (As := [.int (nI (b))]) ⟨hx, hb, hml, hown, hts⟩ (c_X2_requireBlock l D b hb6) (va_cwS 1 hts gX2_guarded_X2_requireBlock rfl rfl rfl (by decide +kernel) ⟨Nat.le_of_ble_eq_true rfl, Nat.le_of_ble_eq_true rfl⟩) hN hK (va_P_nil) rfl hl.1 rfl (Nat.le_of_ble_eq_true rfl) dX2_guarded_1 ⟨Nat.le_of_ble_eq_true rfl, Nat.le_of_ble_eq_true rfl⟩ (fun hw_1 => ?_)
  refine lv_iload_n hx hb dX2_guarded_4 rfl (lv_at hl 2 rfl) ?_
  refine xz_lt (tgt := 14) hx hb dX2_guarded_5 (by decide) (nI_toInt (by omega)) (fun c_5 => ?_) (fun c_5 => ?_)
  · exfalso; omega
  · refine lv_iload_n hx hb dX2_guarded_8 rfl (lv_at hl 2 rfl) ?_
    refine lv_bipush (v := nI 17) hx hb dX2_guarded_9 (by decide) ?_
    refine xi_lt (tgt := 24) hx hb dX2_guarded_11 (by decide) (nI_toInt (by omega)) (nI_toInt (by omega)) (fun c_11 => ?_) (fun c_11 => ?_)
    · refine lv_aload_n hx hb dX2_guarded_24 rfl (lv_at hl 0 rfl) ?_
      refine va_get (D := D) (ci := 2) (v := .ref (a 1)) (C := RX2) (T := TX2) (N := 8) hx hb hts hiX2 hown hK hP 0 rfl rfl 0 (by decide) (hts (.fieldLink RX2 11 "PairedCells" "blocks" "[LPairedCells$Block;") (by decide +kernel)) (fun _ h9 => h9) rfl dX2_guarded_25 ?_
      refine lv_iload_n hx hb dX2_guarded_28 rfl (lv_at hl 1 rfl) ?_
      refine xr_aald hx hb hK hP 1 1 rfl rfl (by omega) (by decide) dX2_guarded_29 ?_
      refine va_getN (D := D) (ci := 0) (v := .int (nI (χ (100 + b)))) (C := RX0) (T := TX0) (N := 5) hx hb hts hiX0 hown hK (wP_blk hb6 hP) 0 rfl rfl 3 (by decide) (va_Nw.use rfl hN.2.2.1) (fun _ h9 => h9) rfl dX2_guarded_30 ?_
      refine lv_iconst (v := nI 1) hx hb dX2_guarded_33 (by decide) ?_
      refine xi_eq (tgt := 47) hx hb dX2_guarded_34 (by decide) (nI_toInt (by omega)) (nI_toInt (by omega)) (fun c_34 => ?_) (fun c_34 => ?_)
      · refine lv_aload_n hx hb dX2_guarded_47 rfl (lv_at hl 0 rfl) ?_
        refine va_get (D := D) (ci := 2) (v := .ref (a 1)) (C := RX2) (T := TX2) (N := 8) hx hb hts hiX2 hown hK hP 0 rfl rfl 0 (by decide) (hts (.fieldLink RX2 11 "PairedCells" "blocks" "[LPairedCells$Block;") (by decide +kernel)) (fun _ h9 => h9) rfl dX2_guarded_48 ?_
        refine lv_iload_n hx hb dX2_guarded_51 rfl (lv_at hl 1 rfl) ?_
        refine xr_aald hx hb hK hP 1 1 rfl rfl (by omega) (by decide) dX2_guarded_52 ?_
        refine va_getN (D := D) (ci := 0) (v := .ref (a (9 + 4 * b))) (C := RX0) (T := TX0) (N := 5) hx hb hts hiX0 hown hK (wP_blk hb6 hP) 0 rfl rfl 2 (by decide) (va_Nw.use rfl hN.2.1) (fun _ h9 => h9) rfl dX2_guarded_53 ?_
        refine lv_iload_n hx hb dX2_guarded_56 rfl (lv_at hl 2 rfl) ?_
        refine xr_iald hx hb hK (wP_blk hb6 hP) 3 0 rfl rfl (by omega) (by decide) dX2_guarded_57 ?_
        exact xe_i hx hb hr hlocks (rfl) rfl rfl dX2_guarded_58
      · exfalso; omega
    · exfalso; omega

set_option maxHeartbeats 4000000 in
set_option maxRecDepth 100000 in
theorem c_X2_told_e (l : Launch) (D : va_G) {cI cB : ClassId} (a h O χ : Nat → Nat) (cu fi ne ct on : Nat) (hχ : ∀ i, χ i < 65536) (hon : on < 2) (j : Nat) (hj6 : j < 6) : Met l yX2_told wsX2_told ({ frames := 3, cells := 0, slots := 0, locals := 110 }) (va_Pc [.ref (a 0), .int (nI (10 + j))] (x_R D (tyP cI cB) (wP cI cB a h O χ cu fi ne ct on))) (vp_Si (fun r => r = nI (χ (110 + j)))) 0 0 (fun _ => False) := by
  refine Met.ofW (cc := cX2_told) (maxL := 2) (ret := (some .int)) (by decide) rfl ?_
  intro p e s m args below meth c s₁ B hml hv
  obtain ⟨rfl, hN, hP, hK⟩ := hv
  have hx := B.exec
  have hb := B.bytes
  have hr := B.returns
  have hts := atoms_spec (ws := wsX2_told) B.pre
  have hown : s.vm.findClass RX2 = some m.cls := findClass_of_methodNamed B.named
  have hlocks := B.notSynchronized
  have hiX0 : ∀ w ∈ u_ws RX0 TX0 5, w ∈ wsX2_told := by decide +kernel
  have hiX2 : ∀ w ∈ u_ws RX2 TX2 8, w ∈ wsX2_told := by decide +kernel
  have hl := lv_entry ([.ref (a 0), .int (nI (10 + j))]) (n := 2) (Nat.le_of_ble_eq_true rfl)
  rw [lg_entry_eq]
  generalize (lg_sl ([.ref (a 0), .int (nI (10 + j))]) ++ List.replicate (2 - (lg_sl ([.ref (a 0), .int (nI (10 + j))])).length) Slot.unset).toArray = ls at hl ⊢
  have hl : lv_has ls 2 [(0, .ref (a 0)), (1, .int (nI (10 + j)))] := hl
  refine lv_iload_n hx hb dX2_told_0 rfl (lv_at hl 1 rfl) ?_
  refine lv_bipush (v := nI 10) hx hb dX2_told_1 (by decide) ?_
  refine xi_lt (tgt := 25) hx hb dX2_told_3 (by decide) (nI_toInt (by omega)) (nI_toInt (by omega)) (fun c_3 => ?_) (fun c_3 => ?_)
  · exfalso; omega
  · refine lv_iload_n hx hb dX2_told_6 rfl (lv_at hl 1 rfl) ?_
    refine lv_bipush (v := nI 16) hx hb dX2_told_7 (by decide) ?_
    refine xi_ge (tgt := 25) hx hb dX2_told_9 (by decide) (nI_toInt (by omega)) (nI_toInt (by omega)) (fun c_9 => ?_) (fun c_9 => ?_)
    · exfalso; omega
    · refine lv_aload_n hx hb dX2_told_12 rfl (lv_at hl 0 rfl) ?_
      refine va_get (D := D) (ci := 2) (v := .ref (a 1)) (C := RX2) (T := TX2) (N := 8) hx hb hts hiX2 hown hK hP 0 rfl rfl 0 (by decide) (hts (.fieldLink RX2 11 "PairedCells" "blocks" "[LPairedCells$Block;") (by decide +kernel)) (fun _ h9 => h9) rfl dX2_told_13 ?_
      refine lv_iload_n hx hb dX2_told_16 rfl (lv_at hl 1 rfl) ?_
      refine lv_bipush (v := nI 10) hx hb dX2_told_17 (by decide) ?_
      refine xr_sub hx hb (by omega) dX2_told_19 ?_
      refine xr_nat (x' := j) (by omega) ?_
      refine xr_aald hx hb hK hP 1 1 rfl rfl (by omega) (by decide) dX2_told_20 ?_
      refine va_getN (D := D) (ci := 0) (v := .int (nI (χ (110 + j)))) (C := RX0) (T := TX0) (N := 5) hx hb hts hiX0 hown hK (wP_blk hj6 hP) 0 rfl rfl 4 (by decide) (va_Nw.use rfl hN.2.2.2) (fun _ h9 => h9) rfl dX2_told_21 ?_
      exact xe_i hx hb hr hlocks (rfl) rfl rfl dX2_told_24

set_option maxHeartbeats 4000000 in
set_option maxRecDepth 100000 in
theorem c_X2_told_n (l : Launch) (D : va_G) {cI cB : ClassId} (a h O χ : Nat → Nat) (cu fi ne ct on : Nat) (hχ : ∀ i, χ i < 65536) (hon : on < 2) (x : Int32) (hx7 : x.toInt < 0 ∨ 3 < x.toInt) (hx8 : x.toInt < 10 ∨ 16 ≤ x.toInt) : Met l yX2_told wsX2_told ({ frames := 3, cells := 0, slots := 0, locals := 110 }) (va_Pc [.ref (a 0), .int (x)] (x_R D (tyP cI cB) (wP cI cB a h O χ cu fi ne ct on))) (vp_Si (fun r => r = mI 0)) 0 0 (fun _ => False) := by
  refine Met.ofW (cc := cX2_told) (maxL := 2) (ret := (some .int)) (by decide) rfl ?_
  intro p e s m args below meth c s₁ B hml hv
  obtain ⟨rfl, hN, hP, hK⟩ := hv
  have hx := B.exec
  have hb := B.bytes
  have hr := B.returns
  have hts := atoms_spec (ws := wsX2_told) B.pre
  have hown : s.vm.findClass RX2 = some m.cls := findClass_of_methodNamed B.named
  have hlocks := B.notSynchronized
  have hiX0 : ∀ w ∈ u_ws RX0 TX0 5, w ∈ wsX2_told := by decide +kernel
  have hiX2 : ∀ w ∈ u_ws RX2 TX2 8, w ∈ wsX2_told := by decide +kernel
  have hl := lv_entry ([.ref (a 0), .int (x)]) (n := 2) (Nat.le_of_ble_eq_true rfl)
  rw [lg_entry_eq]
  generalize (lg_sl ([.ref (a 0), .int (x)]) ++ List.replicate (2 - (lg_sl ([.ref (a 0), .int (x)])).length) Slot.unset).toArray = ls at hl ⊢
  have hl : lv_has ls 2 [(0, .ref (a 0)), (1, .int (x))] := hl
  refine lv_iload_n hx hb dX2_told_0 rfl (lv_at hl 1 rfl) ?_
  refine lv_bipush (v := nI 10) hx hb dX2_told_1 (by decide) ?_
  refine xi_lt (tgt := 25) hx hb dX2_told_3 (by decide) rfl (nI_toInt (by omega)) (fun c_3 => ?_) (fun c_3 => ?_)
  · refine lv_iload_n hx hb dX2_told_25 rfl (lv_at hl 1 rfl) ?_
    refine lv_tableOut (tgt := 84) hx hb dX2_told_26 (by omega) (by decide) ?_
    refine lv_iconst (v := mI 0) hx hb dX2_told_84 (by decide) ?_
    exact xe_i hx hb hr hlocks (rfl) rfl rfl dX2_told_85
  · refine lv_iload_n hx hb dX2_told_6 rfl (lv_at hl 1 rfl) ?_
    refine lv_bipush (v := nI 16) hx hb dX2_told_7 (by decide) ?_
    refine xi_ge (tgt := 25) hx hb dX2_told_9 (by decide) rfl (nI_toInt (by omega)) (fun c_9 => ?_) (fun c_9 => ?_)
    · refine lv_iload_n hx hb dX2_told_25 rfl (lv_at hl 1 rfl) ?_
      refine lv_tableOut (tgt := 84) hx hb dX2_told_26 (by omega) (by decide) ?_
      refine lv_iconst (v := mI 0) hx hb dX2_told_84 (by decide) ?_
      exact xe_i hx hb hr hlocks (rfl) rfl rfl dX2_told_85
    · exfalso; omega

set_option maxHeartbeats 4000000 in
set_option maxRecDepth 100000 in
theorem c_X2_told_0 (l : Launch) (D : va_G) {cI cB : ClassId} (a h O χ : Nat → Nat) (cu fi ne ct on : Nat) (hχ : ∀ i, χ i < 65536) (hon : on < 2) : Met l yX2_told wsX2_told ({ frames := 3, cells := 0, slots := 0, locals := 110 }) (va_Pc [.ref (a 0), .int (nI (0))] (x_R D (tyP cI cB) (wP cI cB a h O χ cu fi ne ct on))) (vp_Si (fun r => r = nI cu)) 0 0 (fun _ => False) := by
  refine Met.ofW (cc := cX2_told) (maxL := 2) (ret := (some .int)) (by decide) rfl ?_
  intro p e s m args below meth c s₁ B hml hv
  obtain ⟨rfl, hN, hP, hK⟩ := hv
  have hx := B.exec
  have hb := B.bytes
  have hr := B.returns
  have hts := atoms_spec (ws := wsX2_told) B.pre
  have hown : s.vm.findClass RX2 = some m.cls := findClass_of_methodNamed B.named
  have hlocks := B.notSynchronized
  have hiX0 : ∀ w ∈ u_ws RX0 TX0 5, w ∈ wsX2_told := by decide +kernel
  have hiX2 : ∀ w ∈ u_ws RX2 TX2 8, w ∈ wsX2_told := by decide +kernel
  have hl := lv_entry ([.ref (a 0), .int (nI (0))]) (n := 2) (Nat.le_of_ble_eq_true rfl)
  rw [lg_entry_eq]
  generalize (lg_sl ([.ref (a 0), .int (nI (0))]) ++ List.replicate (2 - (lg_sl ([.ref (a 0), .int (nI (0))])).length) Slot.unset).toArray = ls at hl ⊢
  have hl : lv_has ls 2 [(0, .ref (a 0)), (1, .int (nI (0)))] := hl
  refine lv_iload_n hx hb dX2_told_0 rfl (lv_at hl 1 rfl) ?_
  refine lv_bipush (v := nI 10) hx hb dX2_told_1 (by decide) ?_
  refine xi_lt (tgt := 25) hx hb dX2_told_3 (by decide) (nI_toInt (by omega)) (nI_toInt (by omega)) (fun c_3 => ?_) (fun c_3 => ?_)
  · refine lv_iload_n hx hb dX2_told_25 rfl (lv_at hl 1 rfl) ?_
  · exfalso; omega

set_option maxHeartbeats 4000000 in
set_option maxRecDepth 100000 in
theorem c_X2_told_1 (l : Launch) (D : va_G) {cI cB : ClassId} (a h O χ : Nat → Nat) (cu fi ne ct on : Nat) (hχ : ∀ i, χ i < 65536) (hon : on < 2) : Met l yX2_told wsX2_told ({ frames := 3, cells := 0, slots := 0, locals := 110 }) (va_Pc [.ref (a 0), .int (nI (1))] (x_R D (tyP cI cB) (wP cI cB a h O χ cu fi ne ct on))) (vp_Si (fun r => r = nI on)) 0 0 (fun _ => False) := by
  refine Met.ofW (cc := cX2_told) (maxL := 2) (ret := (some .int)) (by decide) rfl ?_
  intro p e s m args below meth c s₁ B hml hv
  obtain ⟨rfl, hN, hP, hK⟩ := hv
  have hx := B.exec
  have hb := B.bytes
  have hr := B.returns
  have hts := atoms_spec (ws := wsX2_told) B.pre
  have hown : s.vm.findClass RX2 = some m.cls := findClass_of_methodNamed B.named
  have hlocks := B.notSynchronized
  have hiX0 : ∀ w ∈ u_ws RX0 TX0 5, w ∈ wsX2_told := by decide +kernel
  have hiX2 : ∀ w ∈ u_ws RX2 TX2 8, w ∈ wsX2_told := by decide +kernel
  have hl := lv_entry ([.ref (a 0), .int (nI (1))]) (n := 2) (Nat.le_of_ble_eq_true rfl)
  rw [lg_entry_eq]
  generalize (lg_sl ([.ref (a 0), .int (nI (1))]) ++ List.replicate (2 - (lg_sl ([.ref (a 0), .int (nI (1))])).length) Slot.unset).toArray = ls at hl ⊢
  have hl : lv_has ls 2 [(0, .ref (a 0)), (1, .int (nI (1)))] := hl
  refine lv_iload_n hx hb dX2_told_0 rfl (lv_at hl 1 rfl) ?_
  refine lv_bipush (v := nI 10) hx hb dX2_told_1 (by decide) ?_
  refine xi_lt (tgt := 25) hx hb dX2_told_3 (by decide) (nI_toInt (by omega)) (nI_toInt (by omega)) (fun c_3 => ?_) (fun c_3 => ?_)
  · refine lv_iload_n hx hb dX2_told_25 rfl (lv_at hl 1 rfl) ?_
  · exfalso; omega

set_option maxHeartbeats 4000000 in
set_option maxRecDepth 100000 in
theorem c_X2_told_2 (l : Launch) (D : va_G) {cI cB : ClassId} (a h O χ : Nat → Nat) (cu fi ne ct on : Nat) (hχ : ∀ i, χ i < 65536) (hon : on < 2) : Met l yX2_told wsX2_told ({ frames := 3, cells := 0, slots := 0, locals := 110 }) (va_Pc [.ref (a 0), .int (nI (2))] (x_R D (tyP cI cB) (wP cI cB a h O χ cu fi ne ct on))) (vp_Si (fun r => r = nI (ern χ 6))) 0 0 (fun _ => False) := by
  refine Met.ofW (cc := cX2_told) (maxL := 2) (ret := (some .int)) (by decide) rfl ?_
  intro p e s m args below meth c s₁ B hml hv
  obtain ⟨rfl, hN, hP, hK⟩ := hv
  have hx := B.exec
  have hb := B.bytes
  have hr := B.returns
  have hts := atoms_spec (ws := wsX2_told) B.pre
  have hown : s.vm.findClass RX2 = some m.cls := findClass_of_methodNamed B.named
  have hlocks := B.notSynchronized
  have hiX0 : ∀ w ∈ u_ws RX0 TX0 5, w ∈ wsX2_told := by decide +kernel
  have hiX2 : ∀ w ∈ u_ws RX2 TX2 8, w ∈ wsX2_told := by decide +kernel
  have hl := lv_entry ([.ref (a 0), .int (nI (2))]) (n := 2) (Nat.le_of_ble_eq_true rfl)
  rw [lg_entry_eq]
  generalize (lg_sl ([.ref (a 0), .int (nI (2))]) ++ List.replicate (2 - (lg_sl ([.ref (a 0), .int (nI (2))])).length) Slot.unset).toArray = ls at hl ⊢
  have hl : lv_has ls 2 [(0, .ref (a 0)), (1, .int (nI (2)))] := hl
  refine lv_iload_n hx hb dX2_told_0 rfl (lv_at hl 1 rfl) ?_
  refine lv_bipush (v := nI 10) hx hb dX2_told_1 (by decide) ?_
  refine xi_lt (tgt := 25) hx hb dX2_told_3 (by decide) (nI_toInt (by omega)) (nI_toInt (by omega)) (fun c_3 => ?_) (fun c_3 => ?_)
  · refine lv_iload_n hx hb dX2_told_25 rfl (lv_at hl 1 rfl) ?_
  · exfalso; omega

set_option maxHeartbeats 4000000 in
set_option maxRecDepth 100000 in
theorem c_X2_told_3 (l : Launch) (D : va_G) {cI cB : ClassId} (a h O χ : Nat → Nat) (cu fi ne ct on : Nat) (hχ : ∀ i, χ i < 65536) (hon : on < 2) : Met l yX2_told wsX2_told ({ frames := 3, cells := 0, slots := 0, locals := 110 }) (va_Pc [.ref (a 0), .int (nI (3))] (x_R D (tyP cI cB) (wP cI cB a h O χ cu fi ne ct on))) (vp_Si (fun r => r = nI ct)) 0 0 (fun _ => False) := by
  refine Met.ofW (cc := cX2_told) (maxL := 2) (ret := (some .int)) (by decide) rfl ?_
  intro p e s m args below meth c s₁ B hml hv
  obtain ⟨rfl, hN, hP, hK⟩ := hv
  have hx := B.exec
  have hb := B.bytes
  have hr := B.returns
  have hts := atoms_spec (ws := wsX2_told) B.pre
  have hown : s.vm.findClass RX2 = some m.cls := findClass_of_methodNamed B.named
  have hlocks := B.notSynchronized
  have hiX0 : ∀ w ∈ u_ws RX0 TX0 5, w ∈ wsX2_told := by decide +kernel
  have hiX2 : ∀ w ∈ u_ws RX2 TX2 8, w ∈ wsX2_told := by decide +kernel
  have hl := lv_entry ([.ref (a 0), .int (nI (3))]) (n := 2) (Nat.le_of_ble_eq_true rfl)
  rw [lg_entry_eq]
  generalize (lg_sl ([.ref (a 0), .int (nI (3))]) ++ List.replicate (2 - (lg_sl ([.ref (a 0), .int (nI (3))])).length) Slot.unset).toArray = ls at hl ⊢
  have hl : lv_has ls 2 [(0, .ref (a 0)), (1, .int (nI (3)))] := hl
  refine lv_iload_n hx hb dX2_told_0 rfl (lv_at hl 1 rfl) ?_
  refine lv_bipush (v := nI 10) hx hb dX2_told_1 (by decide) ?_
  refine xi_lt (tgt := 25) hx hb dX2_told_3 (by decide) (nI_toInt (by omega)) (nI_toInt (by omega)) (fun c_3 => ?_) (fun c_3 => ?_)
  · refine lv_iload_n hx hb dX2_told_25 rfl (lv_at hl 1 rfl) ?_
  · exfalso; omega
