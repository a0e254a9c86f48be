set_option maxHeartbeats 4000000 in
set_option maxRecDepth 100000 in
theorem c_X3_foundByte_p (l : Launch) (D : va_G) {cI : ClassId} (r : Nat → Nat) (th fa : Int32) (χ O : Nat → Nat) (cu fi ne ct on : Nat) (b k : Nat) (hb6 : b < 6) (hk : k < 16) (hχ : ∀ i, χ i < 65536) (i : Nat) (hi : i < 16) (hrd : rdb χ b k) : Met l yX3_foundByte wsX3_foundByte ({ frames := 2, cells := 0, slots := 0, locals := 47 }) (va_Pc [.ref (r 0), .int (nI (i))] (x_R D (tyM cI) (wM cI r th (nI (16 * b + k)) fa χ (opn O) (O 0) (pl O (O 0)) cu fi ne ct on))) (vp_Si (fun x => x = nI (byt χ b k i))) 0 0 (fun _ => False) := by
  refine Met.ofW (cc := cX3_foundByte) (maxL := 2) (ret := (some .int)) (by decide) rfl ?_
  intro p e s m args below meth c s₁ B hml hv
  obtain ⟨rfl, hN, hP, hK⟩ := hv
  have hx := B.exec
  have hb := B.bytes
  have hr := B.returns
  have hts := atoms_spec (ws := wsX3_foundByte) B.pre
  have hown : s.vm.findClass RX3 = some m.cls := findClass_of_methodNamed B.named
  have hlocks := B.notSynchronized
  have hiX3 : ∀ w ∈ u_ws RX3 TX3 16, w ∈ wsX3_foundByte := by decide +kernel
  have hl := lv_entry ([.ref (r 0), .int (nI (i))]) (n := 2) (Nat.le_of_ble_eq_true rfl)
  rw [lg_entry_eq]
  generalize (lg_sl ([.ref (r 0), .int (nI (i))]) ++ List.replicate (2 - (lg_sl ([.ref (r 0), .int (nI (i))])).length) Slot.unset).toArray = ls at hl ⊢
  have hl : lv_has ls 2 [(0, .ref (r 0)), (1, .int (nI (i)))] := hl
  refine lv_aload_n hx hb dX3_foundByte_0 rfl (lv_at hl 0 rfl) ?_
  refine va_get (D := D) (ci := 3) (v := .int (nI (16 * b + k))) (C := RX3) (T := TX3) (N := 16) hx hb hts hiX3 hown hK hP 0 rfl rfl 14 (by decide) (hts (.fieldLink RX3 110 "PairedCellsModel" "foundPage" "I") (by decide +kernel)) (fun _ h9 => h9) rfl dX3_foundByte_1 ?_
  refine lv_bipush (v := nI 96) hx hb dX3_foundByte_4 (by decide) ?_
  refine xi_ne (tgt := 18) hx hb dX3_foundByte_6 (by decide) (nI_toInt (by omega)) (nI_toInt (by omega)) (fun c_6 => ?_) (fun c_6 => ?_)
  · refine lv_aload_n hx hb dX3_foundByte_18 rfl (lv_at hl 0 rfl) ?_
    refine lv_aload_n hx hb dX3_foundByte_19 rfl (lv_at hl 0 rfl) ?_
    refine va_get (D := D) (ci := 3) (v := .int (nI (16 * b + k))) (C := RX3) (T := TX3) (N := 16) hx hb hts hiX3 hown hK hP 0 rfl rfl 14 (by decide) (hts (.fieldLink RX3 110 "PairedCellsModel" "foundPage" "I") (by decide +kernel)) (fun _ h9 => h9) rfl dX3_foundByte_20 ?_
    refine lv_iload_n hx hb dX3_foundByte_23 rfl (lv_at hl 1 rfl) ?_
    refine xc_Vi (ci := 3) (rest := []) (As := [.int (nI (16 * b + k)), .int (nI (i))]) ⟨hx, hb, hml, hown, hts⟩ (c_X3_byteOf l D r th (nI (16 * b + k)) fa χ (opn O) (O 0) (pl O (O 0)) cu fi ne ct on b hb6 k hk hχ i hi hrd) (cwV 2 hts gX3_foundByte_X3_byteOf rfl rfl rfl (by decide +kernel) ⟨Nat.le_of_ble_eq_true rfl, Nat.le_of_ble_eq_true rfl⟩) hN hK (hP) rfl 0 rfl rfl hl.1 rfl (Nat.le_of_ble_eq_true rfl) dX3_foundByte_24 ⟨Nat.le_of_ble_eq_true rfl, Nat.le_of_ble_eq_true rfl⟩ (fun r_24 hw_24 => ?_)
    subst hw_24
    exact xe_i hx hb hr hlocks (rfl) rfl rfl dX3_foundByte_27
  · exfalso; omega
