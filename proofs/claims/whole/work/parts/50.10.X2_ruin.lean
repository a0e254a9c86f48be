set_option maxHeartbeats 4000000 in
set_option maxRecDepth 100000 in
theorem c_X2_ruin (l : Launch) (D : va_G) {cI cB : ClassId} (a shw O χ : Nat → Nat) (cu fi ne ct on : Nat) (b k u9 : Nat) (hb6 : b < 6) (hk8 : k < 8) (hu : u9 < 2) (hχ : ∀ i, χ i < 65536) (sz : Nat) : Met l yX2_ruin wsX2_ruin ({ frames := 2, cells := 0, slots := 0, locals := 41 }) (va_Pc [.ref (a 0), .int (nI (b)), .int (nI (k)), .int (nI (u9))] (x_U D (tyP cI cB) (wP cI cB a shw O χ cu fi ne ct on) sz)) (va_Qi (fun (r : Int32) (u : Nat → Nat) => (r = nI 1 ∧ χ (16 * b + plo k u9) = 1 ∧ u = up χ (16 * b + plo k u9) 2) ∨ (r = nI 0 ∧ χ (16 * b + plo k u9) ≠ 1 ∧ u = χ)) (fun u t => x_E D (tyP cI cB) (va_A (wP cI cB a shw O χ cu fi ne ct on) sz) (wP cI cB a shw O u cu fi ne ct on) t) (va_A (wP cI cB a shw O χ cu fi ne ct on) sz)) 0 0 (va_A (wP cI cB a shw O χ cu fi ne ct on) sz) := by
  refine Met.ofW (cc := cX2_ruin) (maxL := 4) (ret := (some .boolean)) (by decide) rfl ?_
  intro p e s m args below meth c s₁ B hml hv
  obtain ⟨rfl, hsz, hN, hP, hK, hD0⟩ := hv
  have hx := B.exec
  have hb := B.bytes
  have hr := B.returns
  have hts := atoms_spec (ws := wsX2_ruin) B.pre
  have hown : s.vm.findClass RX2 = some m.cls := findClass_of_methodNamed B.named
  have hlocks := B.notSynchronized
  subst hsz
  have hD := hD0.self (sz := s.heap.size)
  generalize hAe : va_A (wP cI cB a shw O χ cu fi ne ct on) s.heap.size = A at hD ⊢
  have hA : ∀ q : Nat, s.heap.size ≤ q → A q := fun q h => by rw [← hAe]; exact Or.inr h
  obtain ⟨H, hH⟩ : ∃ H : Heap, s.heap = H := ⟨_, rfl⟩
  obtain ⟨locs, hlo⟩ : ∃ L : List Loc, ([] : List Loc) = L := ⟨_, rfl⟩
  have hS : va_S A s.heap H locs := by rw [← hH, ← hlo]; exact va_S.rf
  have hP : va_P D vwCl (wP cI cB a shw O χ cu fi ne ct on) H := hH ▸ hP
  rw [hH, hlo]
  have hiX2 : ∀ w ∈ u_ws RX2 TX2 8, w ∈ wsX2_ruin := by decide +kernel
  have hl := lv_entry ([.ref (a 0), .int (nI (b)), .int (nI (k)), .int (nI (u9))]) (n := 4) (Nat.le_of_ble_eq_true rfl)
  rw [lg_entry_eq]
  generalize (lg_sl ([.ref (a 0), .int (nI (b)), .int (nI (k)), .int (nI (u9))]) ++ List.replicate (4 - (lg_sl ([.ref (a 0), .int (nI (b)), .int (nI (k)), .int (nI (u9))])).length) Slot.unset).toArray = ls at hl ⊢
  have hl : lv_has ls 4 [(0, .ref (a 0)), (1, .int (nI (b))), (2, .int (nI (k))), (3, .int (nI (u9)))] := hl
  have hpl : plo k u9 < 16 := by unfold plo; split <;> omega
  refine lv_iload_n hx hb dX2_ruin_0 rfl (lv_at hl 1 rfl) ?_
  refine lv_iload_n hx hb dX2_ruin_1 rfl (lv_at hl 2 rfl) ?_
  refine xc_Sv (rest := []) (As := [.int (nI (b)), .int (nI (k))]) ⟨hx, hb, hml, hown, hts⟩ (c_X2_requireLine l D b k hb6 hk8) (va_cwS 2 hts gX2_ruin_X2_requireLine rfl rfl rfl (by decide +kernel) ⟨Nat.le_of_ble_eq_true rfl, Nat.le_of_ble_eq_true rfl⟩) hN hK (va_P_nil) rfl hl.1 rfl (Nat.le_of_ble_eq_true rfl) dX2_ruin_2 ⟨Nat.le_of_ble_eq_true rfl, Nat.le_of_ble_eq_true rfl⟩ (fun hw_2 => ?_)
  refine lv_aload_n hx hb dX2_ruin_5 rfl (lv_at hl 0 rfl) ?_
  refine va_get (D := D) (ci := 2) (v := .ref (a 1)) (C := RX2) (T := TX2) (N := 8) hx hb hts hiX2 hown hK hP 0 rfl rfl 0 (by decide) (hts (.fieldLink RX2 11 "PairedCells" "blocks" "[LPairedCells$Block;") (by decide +kernel)) (fun _ h9 => h9) rfl dX2_ruin_6 ?_
  refine lv_iload_n hx hb dX2_ruin_9 rfl (lv_at hl 1 rfl) ?_
  refine xr_aald hx hb hK hP 1 1 rfl rfl (by omega) (by decide) dX2_ruin_10 ?_
  refine lv_iload_n hx hb dX2_ruin_11 rfl (lv_at hl 2 rfl) ?_
  refine lv_iload_n hx hb dX2_ruin_12 rfl (lv_at hl 3 rfl) ?_
  refine xc_Si (rest := [.ref (a (6 + 4 * b))]) (As := [.int (nI (k)), .int (nI (u9))]) ⟨hx, hb, hml, hown, hts⟩ (c_X2_placeOf l D k u9 hu) (va_cwS 2 hts gX2_ruin_X2_placeOf rfl rfl rfl (by decide +kernel) ⟨Nat.le_of_ble_eq_true rfl, Nat.le_of_ble_eq_true rfl⟩) hN hK (va_P_nil) rfl hl.1 rfl (Nat.le_of_ble_eq_true rfl) dX2_ruin_13 ⟨Nat.le_of_ble_eq_true rfl, Nat.le_of_ble_eq_true rfl⟩ (fun r_13 hw_13 => ?_)
  subst hw_13
  have hF9 := x_hF (dP_blk hb6 hD) hS hA
  refine xw_Vi (ci := 0) (rest := []) (As := [.int (nI (plo k u9))]) ⟨hx, hb, hml, hown, hts⟩ (c_X0_ruinWritten l D a χ b hb6 hχ (plo k u9) hpl H.size) (cwV 1 hts gX2_ruin_X0_ruinWritten rfl rfl rfl (by decide +kernel) ⟨Nat.le_of_ble_eq_true rfl, Nat.le_of_ble_eq_true rfl⟩) hN hK (wP_blk hb6 hP) (dP_blk hb6 hD) hS hA rfl 0 rfl rfl hl.1 rfl (Nat.le_of_ble_eq_true rfl) dX2_ruin_16 ⟨Nat.le_of_ble_eq_true rfl, Nat.le_of_ble_eq_true rfl⟩ (fun r_16 u_16 H1 locs hw_16 hP1 hD1 hDA hk9 hS => ?_)
  rcases hw_16 with ⟨rfl, h7, rfl⟩ | ⟨rfl, h7, h8⟩
  · obtain ⟨hP, hD⟩ := jP_blk hb6 hP hD hF9 hk9 hP1 hD1 (up_out (Or.inl ⟨by omega, by omega⟩))
    generalize H1 = H at hP hS ⊢
    have hP : va_P D vwCl (wP cI cB a shw O (up χ (16 * b + plo k u9) 2) cu fi ne ct on) H := hP
    have hD : va_D A (wP cI cB a shw O (up χ (16 * b + plo k u9) 2) cu fi ne ct on) := hD
    exact xf_z (post := fun (r : Int32) (u : Nat → Nat) => (r = nI 1 ∧ χ (16 * b + plo k u9) = 1 ∧ u = up χ (16 * b + plo k u9) 2) ∨ (r = nI 0 ∧ χ (16 * b + plo k u9) ≠ 1 ∧ u = χ)) (w1 := fun (u : Nat → Nat) => wP cI cB a shw O u cu fi ne ct on) (up χ (16 * b + plo k u9) 2) hx hb hr hlocks rfl (Or.inl ⟨rfl, h7, rfl⟩) hP hK hD hS dX2_ruin_19
  · rw [h8] at hP1 hD1
    obtain ⟨hP, hD⟩ := jP_blk hb6 hP hD hF9 hk9 hP1 hD1 (fun _ _ => rfl)
    generalize H1 = H at hP hS ⊢
    have hP : va_P D vwCl (wP cI cB a shw O χ cu fi ne ct on) H := hP
    have hD : va_D A (wP cI cB a shw O χ cu fi ne ct on) := hD
    exact xf_z (post := fun (r : Int32) (u : Nat → Nat) => (r = nI 1 ∧ χ (16 * b + plo k u9) = 1 ∧ u = up χ (16 * b + plo k u9) 2) ∨ (r = nI 0 ∧ χ (16 * b + plo k u9) ≠ 1 ∧ u = χ)) (w1 := fun (u : Nat → Nat) => wP cI cB a shw O u cu fi ne ct on) χ hx hb hr hlocks rfl (Or.inr ⟨rfl, h7, rfl⟩) hP hK hD hS dX2_ruin_19
