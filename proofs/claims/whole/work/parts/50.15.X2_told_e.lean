set_option maxHeartbeats 4000000 in
set_option maxRecDepth 100000 in
theorem c_X2_told_e (l : Launch) (D : va_G) {cI cB : ClassId} (a shw O χ : Nat → Nat) (cu fi ne ct on : Nat) (hχ : ∀ i, χ i < 65536) (hon : on < 2) (j : Nat) (hj6 : j < 6) : Met l yX2_told wsX2_told ({ frames := 3, cells := 0, slots := 0, locals := 110 }) (va_Pc [.ref (a 0), .int (nI (10 + j))] (x_R D (tyP cI cB) (wP cI cB a shw O χ cu fi ne ct on))) (vp_Si (fun r => r = nI (χ (110 + j)))) 0 0 (fun _ => False) := by
  refine Met.ofW (cc := cX2_told) (maxL := 2) (ret := (some .int)) (by decide) rfl ?_
  intro p e s m args below meth c s₁ B hml hv
  obtain ⟨rfl, hN, hP, hK⟩ := hv
  have hx := B.exec
  have hb := B.bytes
  have hr := B.returns
  have hts := atoms_spec (ws := wsX2_told) B.pre
  have hown : s.vm.findClass RX2 = some m.cls := findClass_of_methodNamed B.named
  have hlocks := B.notSynchronized
  have hiX0 : ∀ w ∈ u_ws RX0 TX0 5, w ∈ wsX2_told := by decide +kernel
  have hiX2 : ∀ w ∈ u_ws RX2 TX2 8, w ∈ wsX2_told := by decide +kernel
  have hl := lv_entry ([.ref (a 0), .int (nI (10 + j))]) (n := 2) (Nat.le_of_ble_eq_true rfl)
  rw [lg_entry_eq]
  generalize (lg_sl ([.ref (a 0), .int (nI (10 + j))]) ++ List.replicate (2 - (lg_sl ([.ref (a 0), .int (nI (10 + j))])).length) Slot.unset).toArray = ls at hl ⊢
  have hl : lv_has ls 2 [(0, .ref (a 0)), (1, .int (nI (10 + j)))] := hl
  refine lv_iload_n hx hb dX2_told_0 rfl (lv_at hl 1 rfl) ?_
  refine lv_bipush (v := nI 10) hx hb dX2_told_1 (by decide) ?_
  refine xi_lt (tgt := 25) hx hb dX2_told_3 (by decide) (nI_toInt (by omega)) (nI_toInt (by omega)) (fun c_3 => ?_) (fun c_3 => ?_)
  · exfalso; omega
  · refine lv_iload_n hx hb dX2_told_6 rfl (lv_at hl 1 rfl) ?_
    refine lv_bipush (v := nI 16) hx hb dX2_told_7 (by decide) ?_
    refine xi_ge (tgt := 25) hx hb dX2_told_9 (by decide) (nI_toInt (by omega)) (nI_toInt (by omega)) (fun c_9 => ?_) (fun c_9 => ?_)
    · exfalso; omega
    · refine lv_aload_n hx hb dX2_told_12 rfl (lv_at hl 0 rfl) ?_
      refine va_get (D := D) (ci := 2) (v := .ref (a 1)) (C := RX2) (T := TX2) (N := 8) hx hb hts hiX2 hown hK hP 0 rfl rfl 0 (by decide) (hts (.fieldLink RX2 11 "PairedCells" "blocks" "[LPairedCells$Block;") (by decide +kernel)) (fun _ h9 => h9) rfl dX2_told_13 ?_
      refine lv_iload_n hx hb dX2_told_16 rfl (lv_at hl 1 rfl) ?_
      refine lv_bipush (v := nI 10) hx hb dX2_told_17 (by decide) ?_
      refine xr_sub hx hb (by omega) dX2_told_19 ?_
      refine xr_nat (x' := j) (by omega) ?_
      refine xr_aald hx hb hK hP 1 1 rfl rfl (by omega) (by decide) dX2_told_20 ?_
      refine va_getN (D := D) (ci := 0) (v := .int (nI (χ (110 + j)))) (C := RX0) (T := TX0) (N := 5) hx hb hts hiX0 hown hK (wP_blk hj6 hP) 0 rfl rfl 4 (by decide) (va_Nw.use rfl hN.2.2.2) (fun _ h9 => h9) rfl dX2_told_21 ?_
      exact xe_i hx hb hr hlocks (rfl) rfl rfl dX2_told_24
