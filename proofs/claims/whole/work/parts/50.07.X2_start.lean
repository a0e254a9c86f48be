set_option maxHeartbeats 4000000 in
set_option maxRecDepth 100000 in
theorem c_X2_start (l : Launch) (D : va_G) {cI cB : ClassId} (a shw O χ : Nat → Nat) (cu fi ne ct on : Nat) (hon : on = 0) (hO0 : O 0 < 65536) (hχ : ∀ i, χ i < 65000) (hwf : wfs χ) (sz : Nat) : Met l yX2_start wsX2_start ({ frames := 6, cells := 0, slots := 0, locals := 135 }) (va_Pc [.ref (a 0)] (x_U D (tyP cI cB) (wP cI cB a shw O χ cu fi ne ct on) sz)) (va_Qi (fun (r : Int32) (u : Nat → Nat) => r = nI (grA (eu χ 6) 6)) (fun u t => x_E D (tyP cI cB) (va_A (wP cI cB a shw O χ cu fi ne ct on) sz) (wP cI cB a u (fun _ => 0) (eu χ 6) (cuA (eu χ 6) 6) (lsA (eu χ 6) 6 - 1) (grA (eu χ 6) 6) ct 1) t) (va_A (wP cI cB a shw O χ cu fi ne ct on) sz)) 0 0 (va_A (wP cI cB a shw O χ cu fi ne ct on) sz) := by
  refine Met.ofW (cc := cX2_start) (maxL := 1) (ret := (some .int)) (by decide) rfl ?_
  intro p e s m args below meth c s₁ B hml hv
  obtain ⟨rfl, hsz, hN, hP, hK, hD0⟩ := hv
  have hx := B.exec
  have hb := B.bytes
  have hr := B.returns
  have hts := atoms_spec (ws := wsX2_start) B.pre
  have hown : s.vm.findClass RX2 = some m.cls := findClass_of_methodNamed B.named
  have hlocks := B.notSynchronized
  subst hsz
  have hD := hD0.self (sz := s.heap.size)
  generalize hAe : va_A (wP cI cB a shw O χ cu fi ne ct on) s.heap.size = A at hD ⊢
  have hA : ∀ q : Nat, s.heap.size ≤ q → A q := fun q h => by rw [← hAe]; exact Or.inr h
  obtain ⟨H, hH⟩ : ∃ H : Heap, s.heap = H := ⟨_, rfl⟩
  obtain ⟨locs, hlo⟩ : ∃ L : List Loc, ([] : List Loc) = L := ⟨_, rfl⟩
  have hS : va_S A s.heap H locs := by rw [← hH, ← hlo]; exact va_S.rf
  have hP : va_P D vwCl (wP cI cB a shw O χ cu fi ne ct on) H := hH ▸ hP
  rw [hH, hlo]
  have hiX2 : ∀ w ∈ u_ws RX2 TX2 8, w ∈ wsX2_start := by decide +kernel
  have hl := lv_entry ([.ref (a 0)]) (n := 1) (Nat.le_of_ble_eq_true rfl)
  rw [lg_entry_eq]
  generalize (lg_sl ([.ref (a 0)]) ++ List.replicate (1 - (lg_sl ([.ref (a 0)])).length) Slot.unset).toArray = ls at hl ⊢
  have hl : lv_has ls 1 [(0, .ref (a 0))] := hl
  refine lv_aload_n hx hb dX2_start_0 rfl (lv_at hl 0 rfl) ?_
  refine va_get (D := D) (ci := 2) (v := .int (nI (on))) (C := RX2) (T := TX2) (N := 8) hx hb hts hiX2 hown hK hP 0 rfl rfl 7 (by decide) (hts (.fieldLink RX2 38 "PairedCells" "powerOn" "Z") (by decide +kernel)) (fun _ h9 => h9) rfl dX2_start_1 ?_
  refine xz_eq (tgt := 17) hx hb dX2_start_4 (by decide) (nI_toInt (by omega)) (fun c_4 => ?_) (fun c_4 => ?_)
  · refine lv_aload_n hx hb dX2_start_17 rfl (lv_at hl 0 rfl) ?_
    refine va_get (D := D) (ci := 2) (v := .ref (a 2)) (C := RX2) (T := TX2) (N := 8) hx hb hts hiX2 hown hK hP 0 rfl rfl 1 (by decide) (hts (.fieldLink RX2 18 "PairedCells" "openPage" "LPairedCells$EventPage;") (by decide +kernel)) (fun _ h9 => h9) rfl dX2_start_18 ?_
    have hF9 := x_hF (dP_open hD) hS hA
    refine xw_Vv (ci := 1) (rest := []) (As := []) ⟨hx, hb, hml, hown, hts⟩ (c_X1_clear l D (a 2) (a 3) O hO0 H.size) (cwV 0 hts gX2_start_X1_clear rfl rfl rfl (by decide +kernel) ⟨Nat.le_of_ble_eq_true rfl, Nat.le_of_ble_eq_true rfl⟩) hN hK (wP_open hP) (dP_open hD) hS hA rfl 0 rfl rfl hl.1 rfl (Nat.le_of_ble_eq_true rfl) dX2_start_21 ⟨Nat.le_of_ble_eq_true rfl, Nat.le_of_ble_eq_true rfl⟩ (fun u_21 H1 locs hw_21 hP1 hD1 hDA hk9 hS => ?_)
    obtain ⟨hP, hD⟩ := jP_open hP hD hF9 hk9 hP1 hD1
    generalize H1 = H at hP hS ⊢
    have hP : va_P D vwCl (wP cI cB a shw (fun _ => 0) χ cu fi ne ct on) H := hP
    have hD : va_D A (wP cI cB a shw (fun _ => 0) χ cu fi ne ct on) := hD
    refine lv_aload_n hx hb dX2_start_24 rfl (lv_at hl 0 rfl) ?_
    have hF9 := x_hF (hD) hS hA
    refine xw_Vv (ci := 2) (rest := []) (As := []) ⟨hx, hb, hml, hown, hts⟩ (c_X2_eraseUnreadableBlocks l D a shw (fun _ => 0) χ cu fi ne ct on hχ hwf H.size) (cwV 0 hts gX2_start_X2_eraseUnreadableBlocks rfl rfl rfl (by decide +kernel) ⟨Nat.le_of_ble_eq_true rfl, Nat.le_of_ble_eq_true rfl⟩) hN hK (hP) (hD) hS hA rfl 0 rfl rfl hl.1 rfl (Nat.le_of_ble_eq_true rfl) dX2_start_25 ⟨Nat.le_of_ble_eq_true rfl, Nat.le_of_ble_eq_true rfl⟩ (fun u_25 H1 locs hw_25 hP1 hD1 hDA hk9 hS => ?_)
    have hP := hP1
    have hD := hDA
    generalize H1 = H at hP hS ⊢
    have hP : va_P D vwCl (wP cI cB a u_25 (fun _ => 0) (eu χ 6) cu fi ne ct on) H := hP
    have hD : va_D A (wP cI cB a u_25 (fun _ => 0) (eu χ 6) cu fi ne ct on) := hD
    refine lv_aload_n hx hb dX2_start_28 rfl (lv_at hl 0 rfl) ?_
    have hF9 := x_hF (hD) hS hA
    refine xw_Vv (ci := 2) (rest := []) (As := []) ⟨hx, hb, hml, hown, hts⟩ (c_X2_findEvents l D a u_25 (fun _ => 0) (eu χ 6) cu fi ne ct on (fun i => by have h7 := (eu_le (χ := χ) 6 (by omega) i).1; have h8 := hχ i; omega) (wfs_eu hwf 6 (by omega)) H.size) (cwV 0 hts gX2_start_X2_findEvents rfl rfl rfl (by decide +kernel) ⟨Nat.le_of_ble_eq_true rfl, Nat.le_of_ble_eq_true rfl⟩) hN hK (hP) (hD) hS hA rfl 0 rfl rfl hl.1 rfl (Nat.le_of_ble_eq_true rfl) dX2_start_29 ⟨Nat.le_of_ble_eq_true rfl, Nat.le_of_ble_eq_true rfl⟩ (fun u_29 H1 locs hw_29 hP1 hD1 hDA hk9 hS => ?_)
    have hP := hP1
    have hD := hDA
    generalize H1 = H at hP hS ⊢
    have hP : va_P D vwCl (wP cI cB a u_29 (fun _ => 0) (eu χ 6) (cuA (eu χ 6) 6) (lsA (eu χ 6) 6 - 1) (grA (eu χ 6) 6) ct on) H := hP
    have hD : va_D A (wP cI cB a u_29 (fun _ => 0) (eu χ 6) (cuA (eu χ 6) 6) (lsA (eu χ 6) 6 - 1) (grA (eu χ 6) 6) ct on) := hD
    refine lv_aload_n hx hb dX2_start_32 rfl (lv_at hl 0 rfl) ?_
    refine lv_iconst (v := nI 1) hx hb dX2_start_33 (by decide) ?_
    refine va_put (D := D) (ci := 2) (v := .int (nI (1))) (ty := .boolean) (C := RX2) (T := TX2) (N := 8) hx hb hts hiX2 tyX2 tyX2_ok nmX2 hown hK hP hD hS 0 rfl rfl 7 (by decide) (hts (.fieldLink RX2 38 "PairedCells" "powerOn" "Z") (by decide +kernel)) (fun _ h9 => h9) rfl (by decide +kernel) rfl rfl (Nat.le_of_ble_eq_true rfl) dX2_start_34 (fun H locs hP hD hS => ?_)
    have hP : va_P D vwCl (wP cI cB a u_29 (fun _ => 0) (eu χ 6) (cuA (eu χ 6) 6) (lsA (eu χ 6) 6 - 1) (grA (eu χ 6) 6) ct 1) H := hP
    have hD : va_D A (wP cI cB a u_29 (fun _ => 0) (eu χ 6) (cuA (eu χ 6) 6) (lsA (eu χ 6) 6 - 1) (grA (eu χ 6) 6) ct 1) := hD
    refine lv_aload_n hx hb dX2_start_37 rfl (lv_at hl 0 rfl) ?_
    refine va_get (D := D) (ci := 2) (v := .int (nI ((grA (eu χ 6) 6)))) (C := RX2) (T := TX2) (N := 8) hx hb hts hiX2 hown hK hP 0 rfl rfl 5 (by decide) (hts (.fieldLink RX2 32 "PairedCells" "nextEvent" "I") (by decide +kernel)) (fun _ h9 => h9) rfl dX2_start_38 ?_
    exact xf_i (post := fun (r : Int32) (u : Nat → Nat) => r = nI (grA (eu χ 6) 6)) (w1 := fun (u : Nat → Nat) => wP cI cB a u (fun _ => 0) (eu χ 6) (cuA (eu χ 6) 6) (lsA (eu χ 6) 6 - 1) (grA (eu χ 6) 6) ct 1) u_29 hx hb hr hlocks (rfl) hP hK hD hS dX2_start_41
  · exfalso; omega
