set_option maxHeartbeats 4000000 in
set_option maxRecDepth 100000 in
theorem c_X2_guarded (l : Launch) (D : va_G) {cI cB : ClassId} (a shw O χ : Nat → Nat) (cu fi ne ct on : Nat) (b : Nat) (hb6 : b < 6) (hχ : ∀ i, χ i < 65536) (i : Nat) (hi : i < 17) (hg : χ (100 + b) = 1) : Met l yX2_guarded wsX2_guarded ({ frames := 1, cells := 0, slots := 0, locals := 20 }) (va_Pc [.ref (a 0), .int (nI (b)), .int (nI (i))] (x_R D (tyP cI cB) (wP cI cB a shw O χ cu fi ne ct on))) (vp_Si (fun r => r = nI (χ (200 + 17 * b + i)))) 0 0 (fun _ => False) := by
  refine Met.ofW (cc := cX2_guarded) (maxL := 3) (ret := (some .int)) (by decide) rfl ?_
  intro p e s m args below meth c s₁ B hml hv
  obtain ⟨rfl, hN, hP, hK⟩ := hv
  have hx := B.exec
  have hb := B.bytes
  have hr := B.returns
  have hts := atoms_spec (ws := wsX2_guarded) B.pre
  have hown : s.vm.findClass RX2 = some m.cls := findClass_of_methodNamed B.named
  have hlocks := B.notSynchronized
  have hiX0 : ∀ w ∈ u_ws RX0 TX0 5, w ∈ wsX2_guarded := by decide +kernel
  have hiX2 : ∀ w ∈ u_ws RX2 TX2 8, w ∈ wsX2_guarded := by decide +kernel
  have hl := lv_entry ([.ref (a 0), .int (nI (b)), .int (nI (i))]) (n := 3) (Nat.le_of_ble_eq_true rfl)
  rw [lg_entry_eq]
  generalize (lg_sl ([.ref (a 0), .int (nI (b)), .int (nI (i))]) ++ List.replicate (3 - (lg_sl ([.ref (a 0), .int (nI (b)), .int (nI (i))])).length) Slot.unset).toArray = ls at hl ⊢
  have hl : lv_has ls 3 [(0, .ref (a 0)), (1, .int (nI (b))), (2, .int (nI (i)))] := hl
  refine lv_iload_n hx hb dX2_guarded_0 rfl (lv_at hl 1 rfl) ?_
  refine xc_Sv (rest := []) (As := [.int (nI (b))]) ⟨hx, hb, hml, hown, hts⟩ (c_X2_requireBlock l D b hb6) (va_cwS 1 hts gX2_guarded_X2_requireBlock rfl rfl rfl (by decide +kernel) ⟨Nat.le_of_ble_eq_true rfl, Nat.le_of_ble_eq_true rfl⟩) hN hK (va_P_nil) rfl hl.1 rfl (Nat.le_of_ble_eq_true rfl) dX2_guarded_1 ⟨Nat.le_of_ble_eq_true rfl, Nat.le_of_ble_eq_true rfl⟩ (fun hw_1 => ?_)
  refine lv_iload_n hx hb dX2_guarded_4 rfl (lv_at hl 2 rfl) ?_
  refine xz_lt (tgt := 14) hx hb dX2_guarded_5 (by decide) (nI_toInt (by omega)) (fun c_5 => ?_) (fun c_5 => ?_)
  · exfalso; omega
  · refine lv_iload_n hx hb dX2_guarded_8 rfl (lv_at hl 2 rfl) ?_
    refine lv_bipush (v := nI 17) hx hb dX2_guarded_9 (by decide) ?_
    refine xi_lt (tgt := 24) hx hb dX2_guarded_11 (by decide) (nI_toInt (by omega)) (nI_toInt (by omega)) (fun c_11 => ?_) (fun c_11 => ?_)
    · refine lv_aload_n hx hb dX2_guarded_24 rfl (lv_at hl 0 rfl) ?_
      refine va_get (D := D) (ci := 2) (v := .ref (a 1)) (C := RX2) (T := TX2) (N := 8) hx hb hts hiX2 hown hK hP 0 rfl rfl 0 (by decide) (hts (.fieldLink RX2 11 "PairedCells" "blocks" "[LPairedCells$Block;") (by decide +kernel)) (fun _ h9 => h9) rfl dX2_guarded_25 ?_
      refine lv_iload_n hx hb dX2_guarded_28 rfl (lv_at hl 1 rfl) ?_
      refine xr_aald hx hb hK hP 1 1 rfl rfl (by omega) (by decide) dX2_guarded_29 ?_
      refine va_getN (D := D) (ci := 0) (v := .int (nI (χ (100 + b)))) (C := RX0) (T := TX0) (N := 5) hx hb hts hiX0 hown hK (wP_blk hb6 hP) 0 rfl rfl 3 (by decide) (va_Nw.use rfl hN.2.2.1) (fun _ h9 => h9) rfl dX2_guarded_30 ?_
      refine lv_iconst (v := nI 1) hx hb dX2_guarded_33 (by decide) ?_
      refine xi_eq (tgt := 47) hx hb dX2_guarded_34 (by decide) (nI_toInt (by omega)) (nI_toInt (by omega)) (fun c_34 => ?_) (fun c_34 => ?_)
      · refine lv_aload_n hx hb dX2_guarded_47 rfl (lv_at hl 0 rfl) ?_
        refine va_get (D := D) (ci := 2) (v := .ref (a 1)) (C := RX2) (T := TX2) (N := 8) hx hb hts hiX2 hown hK hP 0 rfl rfl 0 (by decide) (hts (.fieldLink RX2 11 "PairedCells" "blocks" "[LPairedCells$Block;") (by decide +kernel)) (fun _ h9 => h9) rfl dX2_guarded_48 ?_
        refine lv_iload_n hx hb dX2_guarded_51 rfl (lv_at hl 1 rfl) ?_
        refine xr_aald hx hb hK hP 1 1 rfl rfl (by omega) (by decide) dX2_guarded_52 ?_
        refine va_getN (D := D) (ci := 0) (v := .ref (a (9 + 4 * b))) (C := RX0) (T := TX0) (N := 5) hx hb hts hiX0 hown hK (wP_blk hb6 hP) 0 rfl rfl 2 (by decide) (va_Nw.use rfl hN.2.1) (fun _ h9 => h9) rfl dX2_guarded_53 ?_
        refine lv_iload_n hx hb dX2_guarded_56 rfl (lv_at hl 2 rfl) ?_
        refine xr_iald hx hb hK (wP_blk hb6 hP) 3 0 rfl rfl (by omega) (by decide) dX2_guarded_57 ?_
        exact xe_i hx hb hr hlocks (rfl) rfl rfl dX2_guarded_58
      · exfalso; omega
    · exfalso; omega
