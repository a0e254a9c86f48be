set_option maxHeartbeats 4000000 in
set_option maxRecDepth 100000 in
theorem c_X2_page (l : Launch) (D : va_G) {cI cB : ClassId} (a shw O χ : Nat → Nat) (cu fi ne ct on : Nat) (b k u9 : Nat) (hb6 : b < 6) (hk8 : k < 8) (hu : u9 < 2) (hχ : ∀ i, χ i < 65536) : Met l yX2_page wsX2_page ({ frames := 3, cells := 0, slots := 0, locals := 64 }) (va_Pc [.ref (a 0), .int (nI (b)), .int (nI (k)), .int (nI (u9))] (x_R D (tyP cI cB) (wP cI cB a shw O χ cu fi ne ct on))) (vp_Si (fun r => (reb χ b (plo k u9) ∧ r = nI 3) ∨ (¬ reb χ b (plo k u9) ∧ r = nI (χ (16 * b + plo k u9))))) 0 0 (fun _ => False) := by
  refine Met.ofW (cc := cX2_page) (maxL := 4) (ret := (some .int)) (by decide) rfl ?_
  intro p e s m args below meth c s₁ B hml hv
  obtain ⟨rfl, hN, hP, hK⟩ := hv
  have hx := B.exec
  have hb := B.bytes
  have hr := B.returns
  have hts := atoms_spec (ws := wsX2_page) B.pre
  have hown : s.vm.findClass RX2 = some m.cls := findClass_of_methodNamed B.named
  have hlocks := B.notSynchronized
  have hiX2 : ∀ w ∈ u_ws RX2 TX2 8, w ∈ wsX2_page := by decide +kernel
  have hl := lv_entry ([.ref (a 0), .int (nI (b)), .int (nI (k)), .int (nI (u9))]) (n := 4) (Nat.le_of_ble_eq_true rfl)
  rw [lg_entry_eq]
  generalize (lg_sl ([.ref (a 0), .int (nI (b)), .int (nI (k)), .int (nI (u9))]) ++ List.replicate (4 - (lg_sl ([.ref (a 0), .int (nI (b)), .int (nI (k)), .int (nI (u9))])).length) Slot.unset).toArray = ls at hl ⊢
  have hl : lv_has ls 4 [(0, .ref (a 0)), (1, .int (nI (b))), (2, .int (nI (k))), (3, .int (nI (u9)))] := hl
  have hpl : plo k u9 < 16 := by unfold plo; split <;> omega
  refine lv_iload_n hx hb dX2_page_0 rfl (lv_at hl 1 rfl) ?_
  refine lv_iload_n hx hb dX2_page_1 rfl (lv_at hl 2 rfl) ?_
  refine xc_Sv (rest := []) (As := [.int (nI (b)), .int (nI (k))]) ⟨hx, hb, hml, hown, hts⟩ (c_X2_requireLine l D b k hb6 hk8) (va_cwS 2 hts gX2_page_X2_requireLine rfl rfl rfl (by decide +kernel) ⟨Nat.le_of_ble_eq_true rfl, Nat.le_of_ble_eq_true rfl⟩) hN hK (va_P_nil) rfl hl.1 rfl (Nat.le_of_ble_eq_true rfl) dX2_page_2 ⟨Nat.le_of_ble_eq_true rfl, Nat.le_of_ble_eq_true rfl⟩ (fun hw_2 => ?_)
  refine lv_aload_n hx hb dX2_page_5 rfl (lv_at hl 0 rfl) ?_
  refine va_get (D := D) (ci := 2) (v := .ref (a 1)) (C := RX2) (T := TX2) (N := 8) hx hb hts hiX2 hown hK hP 0 rfl rfl 0 (by decide) (hts (.fieldLink RX2 11 "PairedCells" "blocks" "[LPairedCells$Block;") (by decide +kernel)) (fun _ h9 => h9) rfl dX2_page_6 ?_
  refine lv_iload_n hx hb dX2_page_9 rfl (lv_at hl 1 rfl) ?_
  refine xr_aald hx hb hK hP 1 1 rfl rfl (by omega) (by decide) dX2_page_10 ?_
  refine lv_iload_n hx hb dX2_page_11 rfl (lv_at hl 2 rfl) ?_
  refine lv_iload_n hx hb dX2_page_12 rfl (lv_at hl 3 rfl) ?_
  refine xc_Si (rest := [.ref (a (6 + 4 * b))]) (As := [.int (nI (k)), .int (nI (u9))]) ⟨hx, hb, hml, hown, hts⟩ (c_X2_placeOf l D k u9 hu) (va_cwS 2 hts gX2_page_X2_placeOf rfl rfl rfl (by decide +kernel) ⟨Nat.le_of_ble_eq_true rfl, Nat.le_of_ble_eq_true rfl⟩) hN hK (va_P_nil) rfl hl.1 rfl (Nat.le_of_ble_eq_true rfl) dX2_page_13 ⟨Nat.le_of_ble_eq_true rfl, Nat.le_of_ble_eq_true rfl⟩ (fun r_13 hw_13 => ?_)
  subst hw_13
  refine xc_Vi (ci := 0) (rest := []) (As := [.int (nI (plo k u9))]) ⟨hx, hb, hml, hown, hts⟩ (c_X0_stateAt l D a χ b hb6 hχ (plo k u9) hpl) (cwV 1 hts gX2_page_X0_stateAt rfl rfl rfl (by decide +kernel) ⟨Nat.le_of_ble_eq_true rfl, Nat.le_of_ble_eq_true rfl⟩) hN hK (wP_blk hb6 hP) rfl 0 rfl rfl hl.1 rfl (Nat.le_of_ble_eq_true rfl) dX2_page_16 ⟨Nat.le_of_ble_eq_true rfl, Nat.le_of_ble_eq_true rfl⟩ (fun r_16 hw_16 => ?_)
  exact xe_i hx hb hr hlocks (hw_16) rfl rfl dX2_page_19
