set_option maxHeartbeats 4000000 in
set_option maxRecDepth 100000 in
theorem c_X2_told_3 (l : Launch) (D : va_G) {cI cB : ClassId} (a shw O χ : Nat → Nat) (cu fi ne ct on : Nat) (hχ : ∀ i, χ i < 65536) (hon : on < 2) : Met l yX2_told wsX2_told ({ frames := 3, cells := 0, slots := 0, locals := 110 }) (va_Pc [.ref (a 0), .int (nI (3))] (x_R D (tyP cI cB) (wP cI cB a shw O χ cu fi ne ct on))) (vp_Si (fun r => r = nI ct)) 0 0 (fun _ => False) := by
  refine Met.ofW (cc := cX2_told) (maxL := 2) (ret := (some .int)) (by decide) rfl ?_
  intro p e s m args below meth c s₁ B hml hv
  obtain ⟨rfl, hN, hP, hK⟩ := hv
  have hx := B.exec
  have hb := B.bytes
  have hr := B.returns
  have hts := atoms_spec (ws := wsX2_told) B.pre
  have hown : s.vm.findClass RX2 = some m.cls := findClass_of_methodNamed B.named
  have hlocks := B.notSynchronized
  have hiX0 : ∀ w ∈ u_ws RX0 TX0 5, w ∈ wsX2_told := by decide +kernel
  have hiX2 : ∀ w ∈ u_ws RX2 TX2 8, w ∈ wsX2_told := by decide +kernel
  have hl := lv_entry ([.ref (a 0), .int (nI (3))]) (n := 2) (Nat.le_of_ble_eq_true rfl)
  rw [lg_entry_eq]
  generalize (lg_sl ([.ref (a 0), .int (nI (3))]) ++ List.replicate (2 - (lg_sl ([.ref (a 0), .int (nI (3))])).length) Slot.unset).toArray = ls at hl ⊢
  have hl : lv_has ls 2 [(0, .ref (a 0)), (1, .int (nI (3)))] := hl
  refine lv_iload_n hx hb dX2_told_0 rfl (lv_at hl 1 rfl) ?_
  refine lv_bipush (v := nI 10) hx hb dX2_told_1 (by decide) ?_
  refine xi_lt (tgt := 25) hx hb dX2_told_3 (by decide) (nI_toInt (by omega)) (nI_toInt (by omega)) (fun c_3 => ?_) (fun c_3 => ?_)
  · refine lv_iload_n hx hb dX2_told_25 rfl (lv_at hl 1 rfl) ?_
    refine lv_tableIn (tgt := 79) hx hb dX2_told_26 (by decide) (by decide) (by first | rfl | decide) (by decide) ?_
    refine lv_aload_n hx hb dX2_told_79 rfl (lv_at hl 0 rfl) ?_
    refine va_get (D := D) (ci := 2) (v := .int (nI (ct))) (C := RX2) (T := TX2) (N := 8) hx hb hts hiX2 hown hK hP 0 rfl rfl 6 (by decide) (hts (.fieldLink RX2 35 "PairedCells" "cutIn" "I") (by decide +kernel)) (fun _ h9 => h9) rfl dX2_told_80 ?_
    exact xe_i hx hb hr hlocks (rfl) rfl rfl dX2_told_83
  · exfalso; omega
