set_option maxHeartbeats 4000000 in
set_option maxRecDepth 100000 in
theorem c_X2_at (l : Launch) (D : va_G) {cI cB : ClassId} (a shw O χ : Nat → Nat) (cu fi ne ct on : Nat) (b k u9 : Nat) (hb6 : b < 6) (hk8 : k < 8) (hu : u9 < 2) (hχ : ∀ i, χ i < 65536) (i : Nat) (hi : i < 16) (hrd : rdb χ b (plo k u9)) : Met l yX2_at wsX2_at ({ frames := 3, cells := 0, slots := 0, locals := 64 }) (va_Pc [.ref (a 0), .int (nI (b)), .int (nI (k)), .int (nI (u9)), .int (nI (i))] (x_R D (tyP cI cB) (wP cI cB a shw O χ cu fi ne ct on))) (vp_Si (fun r => r = nI (byt χ b (plo k u9) i))) 0 0 (fun _ => False) := by
  refine Met.ofW (cc := cX2_at) (maxL := 6) (ret := (some .int)) (by decide) rfl ?_
  intro p e s m args below meth c s₁ B hml hv
  obtain ⟨rfl, hN, hP, hK⟩ := hv
  have hx := B.exec
  have hb := B.bytes
  have hr := B.returns
  have hts := atoms_spec (ws := wsX2_at) B.pre
  have hown : s.vm.findClass RX2 = some m.cls := findClass_of_methodNamed B.named
  have hlocks := B.notSynchronized
  have hiX2 : ∀ w ∈ u_ws RX2 TX2 8, w ∈ wsX2_at := by decide +kernel
  have hl := lv_entry ([.ref (a 0), .int (nI (b)), .int (nI (k)), .int (nI (u9)), .int (nI (i))]) (n := 6) (Nat.le_of_ble_eq_true rfl)
  rw [lg_entry_eq]
  generalize (lg_sl ([.ref (a 0), .int (nI (b)), .int (nI (k)), .int (nI (u9)), .int (nI (i))]) ++ List.replicate (6 - (lg_sl ([.ref (a 0), .int (nI (b)), .int (nI (k)), .int (nI (u9)), .int (nI (i))])).length) Slot.unset).toArray = ls at hl ⊢
  have hl : lv_has ls 6 [(0, .ref (a 0)), (1, .int (nI (b))), (2, .int (nI (k))), (3, .int (nI (u9))), (4, .int (nI (i)))] := hl
  have hpl : plo k u9 < 16 := by unfold plo; split <;> omega
  refine lv_iload_n hx hb dX2_at_0 rfl (lv_at hl 1 rfl) ?_
  refine lv_iload_n hx hb dX2_at_1 rfl (lv_at hl 2 rfl) ?_
  refine xc_Sv (rest := []) (As := [.int (nI (b)), .int (nI (k))]) ⟨hx, hb, hml, hown, hts⟩ (c_X2_requireLine l D b k hb6 hk8) (va_cwS 2 hts gX2_at_X2_requireLine rfl rfl rfl (by decide +kernel) ⟨Nat.le_of_ble_eq_true rfl, Nat.le_of_ble_eq_true rfl⟩) hN hK (va_P_nil) rfl hl.1 rfl (Nat.le_of_ble_eq_true rfl) dX2_at_2 ⟨Nat.le_of_ble_eq_true rfl, Nat.le_of_ble_eq_true rfl⟩ (fun hw_2 => ?_)
  refine lv_iload hx hb dX2_at_5 (lv_at hl 4 rfl) ?_
  refine xz_lt (tgt := 17) hx hb dX2_at_7 (by decide) (nI_toInt (by omega)) (fun c_7 => ?_) (fun c_7 => ?_)
  · exfalso; omega
  · refine lv_iload hx hb dX2_at_10 (lv_at hl 4 rfl) ?_
    refine lv_bipush (v := nI 16) hx hb dX2_at_12 (by decide) ?_
    refine xi_lt (tgt := 27) hx hb dX2_at_14 (by decide) (nI_toInt (by omega)) (nI_toInt (by omega)) (fun c_14 => ?_) (fun c_14 => ?_)
    · refine lv_iload_n hx hb dX2_at_27 rfl (lv_at hl 2 rfl) ?_
      refine lv_iload_n hx hb dX2_at_28 rfl (lv_at hl 3 rfl) ?_
      refine xc_Si (rest := []) (As := [.int (nI (k)), .int (nI (u9))]) ⟨hx, hb, hml, hown, hts⟩ (c_X2_placeOf l D k u9 hu) (va_cwS 2 hts gX2_at_X2_placeOf rfl rfl rfl (by decide +kernel) ⟨Nat.le_of_ble_eq_true rfl, Nat.le_of_ble_eq_true rfl⟩) hN hK (va_P_nil) rfl hl.1 rfl (Nat.le_of_ble_eq_true rfl) dX2_at_29 ⟨Nat.le_of_ble_eq_true rfl, Nat.le_of_ble_eq_true rfl⟩ (fun r_29 hw_29 => ?_)
      subst hw_29
      refine lv_istore (lv' := [(5, .int (nI (plo k u9))), (0, .ref (a 0)), (1, .int (nI (b))), (2, .int (nI (k))), (3, .int (nI (u9))), (4, .int (nI (i)))]) hx hb dX2_at_32 hl (by decide) rfl (fun ls hl => ?_)
      refine lv_aload_n hx hb dX2_at_34 rfl (lv_at hl 1 rfl) ?_
      refine va_get (D := D) (ci := 2) (v := .ref (a 1)) (C := RX2) (T := TX2) (N := 8) hx hb hts hiX2 hown hK hP 0 rfl rfl 0 (by decide) (hts (.fieldLink RX2 11 "PairedCells" "blocks" "[LPairedCells$Block;") (by decide +kernel)) (fun _ h9 => h9) rfl dX2_at_35 ?_
      refine lv_iload_n hx hb dX2_at_38 rfl (lv_at hl 2 rfl) ?_
      refine xr_aald hx hb hK hP 1 1 rfl rfl (by omega) (by decide) dX2_at_39 ?_
      refine lv_iload hx hb dX2_at_40 (lv_at hl 0 rfl) ?_
      refine xc_Vi (ci := 0) (rest := []) (As := [.int (nI (plo k u9))]) ⟨hx, hb, hml, hown, hts⟩ (c_X0_isReadable l D a χ b hb6 hχ (plo k u9) hpl) (cwV 1 hts gX2_at_X0_isReadable rfl rfl rfl (by decide +kernel) ⟨Nat.le_of_ble_eq_true rfl, Nat.le_of_ble_eq_true rfl⟩) hN hK (wP_blk hb6 hP) rfl 0 rfl rfl hl.1 rfl (Nat.le_of_ble_eq_true rfl) dX2_at_42 ⟨Nat.le_of_ble_eq_true rfl, Nat.le_of_ble_eq_true rfl⟩ (fun r_42 hw_42 => ?_)
      refine xz_ne (tgt := 58) hx hb dX2_at_45 (by decide) rfl (fun c_45 => ?_) (fun c_45 => ?_)
      · have h_45 := bo.t hw_42 c_45
        refine lv_aload_n hx hb dX2_at_58 rfl (lv_at hl 1 rfl) ?_
        refine va_get (D := D) (ci := 2) (v := .ref (a 1)) (C := RX2) (T := TX2) (N := 8) hx hb hts hiX2 hown hK hP 0 rfl rfl 0 (by decide) (hts (.fieldLink RX2 11 "PairedCells" "blocks" "[LPairedCells$Block;") (by decide +kernel)) (fun _ h9 => h9) rfl dX2_at_59 ?_
        refine lv_iload_n hx hb dX2_at_62 rfl (lv_at hl 2 rfl) ?_
        refine xr_aald hx hb hK hP 1 1 rfl rfl (by omega) (by decide) dX2_at_63 ?_
        refine lv_iload hx hb dX2_at_64 (lv_at hl 0 rfl) ?_
        refine lv_iload hx hb dX2_at_66 (lv_at hl 5 rfl) ?_
        refine xc_Vi (ci := 0) (rest := []) (As := [.int (nI (plo k u9)), .int (nI (i))]) ⟨hx, hb, hml, hown, hts⟩ (c_X0_byteAt l D a χ b hb6 hχ (plo k u9) hpl i hi hrd) (cwV 2 hts gX2_at_X0_byteAt rfl rfl rfl (by decide +kernel) ⟨Nat.le_of_ble_eq_true rfl, Nat.le_of_ble_eq_true rfl⟩) hN hK (wP_blk hb6 hP) rfl 0 rfl rfl hl.1 rfl (Nat.le_of_ble_eq_true rfl) dX2_at_68 ⟨Nat.le_of_ble_eq_true rfl, Nat.le_of_ble_eq_true rfl⟩ (fun r_68 hw_68 => ?_)
        subst hw_68
        exact xe_i hx hb hr hlocks (rfl) rfl rfl dX2_at_71
      · exact absurd hrd (bo.f hw_42 c_45)
    · exfalso; omega
