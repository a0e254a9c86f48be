set_option maxHeartbeats 4000000 in
set_option maxRecDepth 100000 in
theorem c_X2_sync_e (l : Launch) (D : va_G) {cI cB : ClassId} (a shw O χ : Nat → Nat) (cu fi ne ct on : Nat) (hon : on = 1) (hO0 : O 0 < 65536) (hOz : O 0 = 0) (sz : Nat) : Met l yX2_sync wsX2_sync ({ frames := 2, cells := 0, slots := 0, locals := 40 }) (va_Pc [.ref (a 0)] (x_U D (tyP cI cB) (wP cI cB a shw O χ cu fi ne ct on) sz)) (va_Qi (fun (r : Int32) (u : Unit) => r = nI ne) (fun u t => x_E D (tyP cI cB) (va_A (wP cI cB a shw O χ cu fi ne ct on) sz) (wP cI cB a shw O χ cu fi ne ct on) t) (va_A (wP cI cB a shw O χ cu fi ne ct on) sz)) 0 0 (va_A (wP cI cB a shw O χ cu fi ne ct on) sz) := by
  refine Met.ofW (cc := cX2_sync) (maxL := 1) (ret := (some .int)) (by decide) rfl ?_
  intro p e s m args below meth c s₁ B hml hv
  obtain ⟨rfl, hsz, hN, hP, hK, hD0⟩ := hv
  have hx := B.exec
  have hb := B.bytes
  have hr := B.returns
  have hts := atoms_spec (ws := wsX2_sync) B.pre
  have hown : s.vm.findClass RX2 = some m.cls := findClass_of_methodNamed B.named
  have hlocks := B.notSynchronized
  subst hsz
  have hD := hD0.self (sz := s.heap.size)
  generalize hAe : va_A (wP cI cB a shw O χ cu fi ne ct on) s.heap.size = A at hD ⊢
  have hA : ∀ q : Nat, s.heap.size ≤ q → A q := fun q h => by rw [← hAe]; exact Or.inr h
  obtain ⟨H, hH⟩ : ∃ H : Heap, s.heap = H := ⟨_, rfl⟩
  obtain ⟨locs, hlo⟩ : ∃ L : List Loc, ([] : List Loc) = L := ⟨_, rfl⟩
  have hS : va_S A s.heap H locs := by rw [← hH, ← hlo]; exact va_S.rf
  have hP : va_P D vwCl (wP cI cB a shw O χ cu fi ne ct on) H := hH ▸ hP
  rw [hH, hlo]
  have hiX2 : ∀ w ∈ u_ws RX2 TX2 8, w ∈ wsX2_sync := by decide +kernel
  have hl := lv_entry ([.ref (a 0)]) (n := 1) (Nat.le_of_ble_eq_true rfl)
  rw [lg_entry_eq]
  generalize (lg_sl ([.ref (a 0)]) ++ List.replicate (1 - (lg_sl ([.ref (a 0)])).length) Slot.unset).toArray = ls at hl ⊢
  have hl : lv_has ls 1 [(0, .ref (a 0))] := hl
  refine lv_aload_n hx hb dX2_sync_0 rfl (lv_at hl 0 rfl) ?_
  refine xc_Vv (ci := 2) (rest := []) (As := []) ⟨hx, hb, hml, hown, hts⟩ (c_X2_requirePower l D a shw O χ cu fi ne ct on hon) (cwV 0 hts gX2_sync_X2_requirePower rfl rfl rfl (by decide +kernel) ⟨Nat.le_of_ble_eq_true rfl, Nat.le_of_ble_eq_true rfl⟩) hN (hK) (hP) rfl 0 rfl rfl hl.1 rfl (Nat.le_of_ble_eq_true rfl) dX2_sync_1 ⟨Nat.le_of_ble_eq_true rfl, Nat.le_of_ble_eq_true rfl⟩ (fun hw_1 => ?_)
  refine lv_aload_n hx hb dX2_sync_4 rfl (lv_at hl 0 rfl) ?_
  refine va_get (D := D) (ci := 2) (v := .ref (a 2)) (C := RX2) (T := TX2) (N := 8) hx hb hts hiX2 hown hK hP 0 rfl rfl 1 (by decide) (hts (.fieldLink RX2 18 "PairedCells" "openPage" "LPairedCells$EventPage;") (by decide +kernel)) (fun _ h9 => h9) rfl dX2_sync_5 ?_
  refine xc_Vi (ci := 1) (rest := []) (As := []) ⟨hx, hb, hml, hown, hts⟩ (c_X1_isEmpty l D (a 2) (a 3) O hO0) (cwV 0 hts gX2_sync_X1_isEmpty rfl rfl rfl (by decide +kernel) ⟨Nat.le_of_ble_eq_true rfl, Nat.le_of_ble_eq_true rfl⟩) hN (hK) (wP_open hP) rfl 0 rfl rfl hl.1 rfl (Nat.le_of_ble_eq_true rfl) dX2_sync_8 ⟨Nat.le_of_ble_eq_true rfl, Nat.le_of_ble_eq_true rfl⟩ (fun r_8 hw_8 => ?_)
  refine xz_ne (tgt := 24) hx hb dX2_sync_11 (by decide) rfl (fun c_11 => ?_) (fun c_11 => ?_)
  · have h_11 := bo.t hw_8 c_11
    refine lv_aload_n hx hb dX2_sync_24 rfl (lv_at hl 0 rfl) ?_
    refine va_get (D := D) (ci := 2) (v := .int (nI (ne))) (C := RX2) (T := TX2) (N := 8) hx hb hts hiX2 hown hK hP 0 rfl rfl 5 (by decide) (hts (.fieldLink RX2 32 "PairedCells" "nextEvent" "I") (by decide +kernel)) (fun _ h9 => h9) rfl dX2_sync_25 ?_
    exact xf_i (post := fun (r : Int32) (u : Unit) => r = nI ne) (w1 := fun (u : Unit) => wP cI cB a shw O χ cu fi ne ct on) () hx hb hr hlocks (rfl) hP hK hD hS dX2_sync_28
  · exact absurd hOz (bo.f hw_8 c_11)
