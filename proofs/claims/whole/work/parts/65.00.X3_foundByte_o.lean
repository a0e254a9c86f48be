set_option maxHeartbeats 4000000 in
set_option maxRecDepth 100000 in
theorem c_X3_foundByte_o (l : Launch) (D : va_G) {cI : ClassId} (r : Nat → Nat) (th fa : Int32) (χ O : Nat → Nat) (cu fi ne ct on : Nat) (i : Nat) (hi3 : 3 ≤ i) (hi : i < 16) : Met l yX3_foundByte wsX3_foundByte ({ frames := 0, cells := 0, slots := 0, locals := 0 }) (va_Pc [.ref (r 0), .int (nI (i))] (x_R D (tyM cI) (wM cI r th (nI (96)) fa χ (opn O) (O 0) (pl O (O 0)) cu fi ne ct on))) (vp_Si (fun x => x = nI (O i))) 0 0 (fun _ => False) := by
  refine Met.ofW (cc := cX3_foundByte) (maxL := 2) (ret := (some .int)) (by decide) rfl ?_
  intro p e s m args below meth c s₁ B hml hv
  obtain ⟨rfl, hN, hP, hK⟩ := hv
  have hx := B.exec
  have hb := B.bytes
  have hr := B.returns
  have hts := atoms_spec (ws := wsX3_foundByte) B.pre
  have hown : s.vm.findClass RX3 = some m.cls := findClass_of_methodNamed B.named
  have hlocks := B.notSynchronized
  have hiX3 : ∀ w ∈ u_ws RX3 TX3 16, w ∈ wsX3_foundByte := by decide +kernel
  have hl := lv_entry ([.ref (r 0), .int (nI (i))]) (n := 2) (Nat.le_of_ble_eq_true rfl)
  rw [lg_entry_eq]
  generalize (lg_sl ([.ref (r 0), .int (nI (i))]) ++ List.replicate (2 - (lg_sl ([.ref (r 0), .int (nI (i))])).length) Slot.unset).toArray = ls at hl ⊢
  have hl : lv_has ls 2 [(0, .ref (r 0)), (1, .int (nI (i)))] := hl
  refine lv_aload_n hx hb dX3_foundByte_0 rfl (lv_at hl 0 rfl) ?_
  refine va_get (D := D) (ci := 3) (v := .int (nI (96))) (C := RX3) (T := TX3) (N := 16) hx hb hts hiX3 hown hK hP 0 rfl rfl 14 (by decide) (hts (.fieldLink RX3 110 "PairedCellsModel" "foundPage" "I") (by decide +kernel)) (fun _ h9 => h9) rfl dX3_foundByte_1 ?_
  refine lv_bipush (v := nI 96) hx hb dX3_foundByte_4 (by decide) ?_
  refine xi_ne (tgt := 18) hx hb dX3_foundByte_6 (by decide) (nI_toInt (by omega)) (nI_toInt (by omega)) (fun c_6 => ?_) (fun c_6 => ?_)
  · exfalso; omega
  · refine lv_aload_n hx hb dX3_foundByte_9 rfl (lv_at hl 0 rfl) ?_
    refine va_get (D := D) (ci := 3) (v := .ref (r 6)) (C := RX3) (T := TX3) (N := 16) hx hb hts hiX3 hown hK hP 0 rfl rfl 13 (by decide) (hts (.fieldLink RX3 33 "PairedCellsModel" "open" "[I") (by decide +kernel)) (fun _ h9 => h9) rfl dX3_foundByte_10 ?_
    refine lv_iload_n hx hb dX3_foundByte_13 rfl (lv_at hl 1 rfl) ?_
    refine xr_iald hx hb hK hP 6 0 rfl rfl (by omega) (by decide) dX3_foundByte_14 ?_
    refine xr_nat (x' := O i) (if_neg (by omega)) ?_
    refine lv_goto (tgt := 27) hx hb dX3_foundByte_15 (by decide) ?_
    exact xe_i hx hb hr hlocks (rfl) rfl rfl dX3_foundByte_27
