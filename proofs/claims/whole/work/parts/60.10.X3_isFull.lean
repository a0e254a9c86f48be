set_option maxHeartbeats 4000000 in
set_option maxRecDepth 100000 in
theorem c_X3_isFull (l : Launch) (D : va_G) {cI : ClassId} (r : Nat → Nat) (th fp fa : Int32) (χ P : Nat → Nat) (hd tn cu fi ne ct on : Nat) (hcu : cu < 6) (hχ : ∀ i, χ i < 65536) (hpx : pfx χ) : Met l yX3_isFull wsX3_isFull ({ frames := 2, cells := 0, slots := 0, locals := 46 }) (va_Pc [.ref (r 0)] (x_R D (tyM cI) (wM cI r th fp fa χ P hd tn cu fi ne ct on))) (vp_Si (fun x => bo x (ful χ cu))) 0 0 (fun _ => False) := by
  refine Met.ofW (cc := cX3_isFull) (maxL := 1) (ret := (some .boolean)) (by decide) rfl ?_
  intro p e s m args below meth c s₁ B hml hv
  obtain ⟨rfl, hN, hP, hK⟩ := hv
  have hx := B.exec
  have hb := B.bytes
  have hr := B.returns
  have hts := atoms_spec (ws := wsX3_isFull) B.pre
  have hown : s.vm.findClass RX3 = some m.cls := findClass_of_methodNamed B.named
  have hlocks := B.notSynchronized
  have hiX3 : ∀ w ∈ u_ws RX3 TX3 16, w ∈ wsX3_isFull := by decide +kernel
  have hl := lv_entry ([.ref (r 0)]) (n := 1) (Nat.le_of_ble_eq_true rfl)
  rw [lg_entry_eq]
  generalize (lg_sl ([.ref (r 0)]) ++ List.replicate (1 - (lg_sl ([.ref (r 0)])).length) Slot.unset).toArray = ls at hl ⊢
  have hl : lv_has ls 1 [(0, .ref (r 0))] := hl
  refine lv_aload_n hx hb dX3_isFull_0 rfl (lv_at hl 0 rfl) ?_
  refine lv_aload_n hx hb dX3_isFull_1 rfl (lv_at hl 0 rfl) ?_
  refine va_get (D := D) (ci := 3) (v := .int (nI (cu))) (C := RX3) (T := TX3) (N := 16) hx hb hts hiX3 hown hK hP 0 rfl rfl 8 (by decide) (hts (.fieldLink RX3 54 "PairedCellsModel" "current" "I") (by decide +kernel)) (fun _ h9 => h9) rfl dX3_isFull_2 ?_
  refine xc_Vi (ci := 3) (rest := []) (As := [.int (nI (cu))]) ⟨hx, hb, hml, hown, hts⟩ (c_X3_takesMore l D r th fp fa χ P hd tn cu fi ne ct on cu hcu hχ hpx) (cwV 1 hts gX3_isFull_X3_takesMore rfl rfl rfl (by decide +kernel) ⟨Nat.le_of_ble_eq_true rfl, Nat.le_of_ble_eq_true rfl⟩) hN hK (hP) rfl 0 rfl rfl hl.1 rfl (Nat.le_of_ble_eq_true rfl) dX3_isFull_5 ⟨Nat.le_of_ble_eq_true rfl, Nat.le_of_ble_eq_true rfl⟩ (fun r_5 hw_5 => ?_)
  refine xz_ne (tgt := 31) hx hb dX3_isFull_8 (by decide) rfl (fun c_8 => ?_) (fun c_8 => ?_)
  · have h_8 := bo.t hw_5 c_8
    refine lv_iconst (v := nI 0) hx hb dX3_isFull_31 (by decide) ?_
    exact xe_z hx hb hr hlocks rfl (bo.zero (fun h7 => by first | exact h7.1 h_8 | exact h7.2 h_24)) rfl rfl dX3_isFull_32
  · have h_8 := bo.f hw_5 c_8
    refine lv_aload_n hx hb dX3_isFull_11 rfl (lv_at hl 0 rfl) ?_
    refine lv_aload_n hx hb dX3_isFull_12 rfl (lv_at hl 0 rfl) ?_
    refine va_get (D := D) (ci := 3) (v := .int (nI (cu))) (C := RX3) (T := TX3) (N := 16) hx hb hts hiX3 hown hK hP 0 rfl rfl 8 (by decide) (hts (.fieldLink RX3 54 "PairedCellsModel" "current" "I") (by decide +kernel)) (fun _ h9 => h9) rfl dX3_isFull_13 ?_
    refine lv_iconst (v := nI 1) hx hb dX3_isFull_16 (by decide) ?_
    refine xr_add hx hb dX3_isFull_17 ?_
    refine lv_bipush (v := nI 6) hx hb dX3_isFull_18 (by decide) ?_
    refine xr_rem hx hb (by omega) (by decide) (by decide) dX3_isFull_20 ?_
    refine xc_Vi (ci := 3) (rest := []) (As := [.int (nI ((cu + 1) % 6))]) ⟨hx, hb, hml, hown, hts⟩ (c_X3_isErased l D r th fp fa χ P hd tn cu fi ne ct on ((cu + 1) % 6) (by omega) hχ hpx) (cwV 1 hts gX3_isFull_X3_isErased rfl rfl rfl (by decide +kernel) ⟨Nat.le_of_ble_eq_true rfl, Nat.le_of_ble_eq_true rfl⟩) hN hK (hP) rfl 0 rfl rfl hl.1 rfl (Nat.le_of_ble_eq_true rfl) dX3_isFull_21 ⟨Nat.le_of_ble_eq_true rfl, Nat.le_of_ble_eq_true rfl⟩ (fun r_21 hw_21 => ?_)
    refine xz_ne (tgt := 31) hx hb dX3_isFull_24 (by decide) rfl (fun c_24 => ?_) (fun c_24 => ?_)
    · have h_24 := bo.t hw_21 c_24
      refine lv_iconst (v := nI 0) hx hb dX3_isFull_31 (by decide) ?_
      exact xe_z hx hb hr hlocks rfl (bo.zero (fun h7 => by first | exact h7.1 h_8 | exact h7.2 h_24)) rfl rfl dX3_isFull_32
    · have h_24 := bo.f hw_21 c_24
      refine lv_iconst (v := nI 1) hx hb dX3_isFull_27 (by decide) ?_
      refine lv_goto (tgt := 32) hx hb dX3_isFull_28 (by decide) ?_
      exact xe_z hx hb hr hlocks rfl (bo.one ⟨h_8, h_24⟩) rfl rfl dX3_isFull_32
