set_option maxHeartbeats 4000000 in
set_option maxRecDepth 100000 in
theorem c_T_at2 (l : Launch) (hst : l.stackTraces = false) (D : va_G) {cI cB : ClassId} (a shw O χ : Nat → Nat) (cu fi ne ct on : Nat) (b k u9 : Nat) (hb6 : b < 6) (hk8 : k < 8) (hu : u9 < 2) (hχ : ∀ i, χ i < 65536) (i : Nat) (hi : i < 16) (hrd : ¬ rdb χ b (plo k u9)) (sz : Nat) : vx_Met l yX2_at wsX2_at ({ frames := 6, cells := 1, slots := 6, locals := 90 }) (va_Pc [.ref (a 0), .int (nI (b)), .int (nI (k)), .int (nI (u9)), .int (nI (i))] (x_Z D (tyP cI cB) (wP cI cB a shw O χ cu fi ne ct on) sz)) (va_Qi (fun _ (_ : Unit) => False) (fun _ _ => True) (va_A (wP cI cB a shw O χ cu fi ne ct on) sz)) (x_T D (tyP cI cB) (va_A (wP cI cB a shw O χ cu fi ne ct on) sz) (fun (_ : Unit) => True) (fun _ => wP cI cB a shw O χ cu fi ne ct on) "java/util/NoSuchElementException") 1 6 (va_A (wP cI cB a shw O χ cu fi ne ct on) sz) := by
  refine vx_ofW (cc := cX2_at) (maxL := 6) (ret := (some .int)) (by decide) rfl ?_
  intro p e s m args below meth c s₁ B hml htab hv
  obtain ⟨rfl, ⟨hsz, hN, hP, hK, hD0⟩, hZ⟩ := hv
  have hx := B.exec
  have hb := B.bytes
  have hr := B.returns
  have hts := atoms_spec (ws := wsX2_at) B.pre
  have hown : s.vm.findClass RX2 = some m.cls := findClass_of_methodNamed B.named
  have hlocks := B.notSynchronized
  subst hsz
  have hD := hD0.self (sz := s.heap.size)
  generalize hAe : va_A (wP cI cB a shw O χ cu fi ne ct on) s.heap.size = A at hD hZ ⊢
  have hA : ∀ q : Nat, s.heap.size ≤ q → A q := fun q h => by rw [← hAe]; exact Or.inr h
  obtain ⟨H, hH⟩ : ∃ H : Heap, s.heap = H := ⟨_, rfl⟩
  obtain ⟨locs, hlo⟩ : ∃ L : List Loc, ([] : List Loc) = L := ⟨_, rfl⟩
  have hS : va_S A s.heap H locs := by rw [← hH, ← hlo]; exact va_S.rf
  have hP : va_P D vwCl (wP cI cB a shw O χ cu fi ne ct on) H := hH ▸ hP
  rw [hH, hlo]
  have hiX2 : ∀ w ∈ u_ws RX2 TX2 8, w ∈ wsX2_at := by decide +kernel
  have hl := lv_entry ([.ref (a 0), .int (nI (b)), .int (nI (k)), .int (nI (u9)), .int (nI (i))]) (n := 6) (Nat.le_of_ble_eq_true rfl)
  rw [lg_entry_eq]
  generalize (lg_sl ([.ref (a 0), .int (nI (b)), .int (nI (k)), .int (nI (u9)), .int (nI (i))]) ++ List.replicate (6 - (lg_sl ([.ref (a 0), .int (nI (b)), .int (nI (k)), .int (nI (u9)), .int (nI (i))])).length) Slot.unset).toArray = ls at hl ⊢
  have hl : lv_has ls 6 [(0, .ref (a 0)), (1, .int (nI (b))), (2, .int (nI (k))), (3, .int (nI (u9))), (4, .int (nI (i)))] := hl
  have hpl : plo k u9 < 16 := by unfold plo; split <;> omega
  refine lv_iload_n hx hb dX2_at_0 rfl (lv_at hl 1 rfl) ?_
  refine lv_iload_n hx hb dX2_at_1 rfl (lv_at hl 2 rfl) ?_
  refine xc_Sv (rest := []) (As := [.int (nI (b)), .int (nI (k))]) ⟨hx, hb, hml, hown, hts⟩ (c_X2_requireLine l D b k hb6 hk8) (va_cwS 2 hts gX2_at_X2_requireLine rfl rfl rfl (by decide +kernel) ⟨Nat.le_of_ble_eq_true rfl, Nat.le_of_ble_eq_true rfl⟩) hN hK (va_P_nil) rfl hl.1 rfl (Nat.le_of_ble_eq_true rfl) dX2_at_2 ⟨Nat.le_of_ble_eq_true rfl, Nat.le_of_ble_eq_true rfl⟩ (fun hw_2 => ?_)
  refine lv_iload hx hb dX2_at_5 (lv_at hl 4 rfl) ?_
  refine xz_lt (tgt := 17) hx hb dX2_at_7 (by decide) (nI_toInt (by omega)) (fun c_7 => ?_) (fun c_7 => ?_)
  · exfalso; omega
  · refine lv_iload hx hb dX2_at_10 (lv_at hl 4 rfl) ?_
    refine lv_bipush (v := nI 16) hx hb dX2_at_12 (by decide) ?_
    refine xi_lt (tgt := 27) hx hb dX2_at_14 (by decide) (nI_toInt (by omega)) (nI_toInt (by omega)) (fun c_14 => ?_) (fun c_14 => ?_)
    · refine lv_iload_n hx hb dX2_at_27 rfl (lv_at hl 2 rfl) ?_
      refine lv_iload_n hx hb dX2_at_28 rfl (lv_at hl 3 rfl) ?_
      refine xc_Si (rest := []) (As := [.int (nI (k)), .int (nI (u9))]) ⟨hx, hb, hml, hown, hts⟩ (c_X2_placeOf l D k u9 hu) (va_cwS 2 hts gX2_at_X2_placeOf rfl rfl rfl (by decide +kernel) ⟨Nat.le_of_ble_eq_true rfl, Nat.le_of_ble_eq_true rfl⟩) hN hK (va_P_nil) rfl hl.1 rfl (Nat.le_of_ble_eq_true rfl) dX2_at_29 ⟨Nat.le_of_ble_eq_true rfl, Nat.le_of_ble_eq_true rfl⟩ (fun r_29 hw_29 => ?_)
      subst hw_29
      refine lv_istore (lv' := [(5, .int (nI (plo k u9))), (0, .ref (a 0)), (1, .int (nI (b))), (2, .int (nI (k))), (3, .int (nI (u9))), (4, .int (nI (i)))]) hx hb dX2_at_32 hl (by decide) rfl (fun ls hl => ?_)
      refine lv_aload_n hx hb dX2_at_34 rfl (lv_at hl 1 rfl) ?_
      refine va_get (D := D) (ci := 2) (v := .ref (a 1)) (C := RX2) (T := TX2) (N := 8) hx hb hts hiX2 hown hK hP 0 rfl rfl 0 (by decide) (hts (.fieldLink RX2 11 "PairedCells" "blocks" "[LPairedCells$Block;") (by decide +kernel)) (fun _ h9 => h9) rfl dX2_at_35 ?_
      refine lv_iload_n hx hb dX2_at_38 rfl (lv_at hl 2 rfl) ?_
      refine xr_aald hx hb hK hP 1 1 rfl rfl (by omega) (by decide) dX2_at_39 ?_
      refine lv_iload hx hb dX2_at_40 (lv_at hl 0 rfl) ?_
      refine xc_Vi (ci := 0) (rest := []) (As := [.int (nI (plo k u9))]) ⟨hx, hb, hml, hown, hts⟩ (c_X0_isReadable l D a χ b hb6 hχ (plo k u9) hpl) (cwV 1 hts gX2_at_X0_isReadable rfl rfl rfl (by decide +kernel) ⟨Nat.le_of_ble_eq_true rfl, Nat.le_of_ble_eq_true rfl⟩) hN hK (wP_blk hb6 hP) rfl 0 rfl rfl hl.1 rfl (Nat.le_of_ble_eq_true rfl) dX2_at_42 ⟨Nat.le_of_ble_eq_true rfl, Nat.le_of_ble_eq_true rfl⟩ (fun r_42 hw_42 => ?_)
      refine xz_ne (tgt := 58) hx hb dX2_at_45 (by decide) rfl (fun c_45 => ?_) (fun c_45 => ?_)
      · exact absurd (bo.t hw_42 c_45) hrd
      · have h_45 := bo.f hw_42 c_45
        exact xt_throwN (text := "the page is not readable") (px := fun (_ : Unit) => True) (w1 := fun _ => wP cI cB a shw O χ cu fi ne ct on) () hx hb hst hown (hts (.classLink RX2 112 "java/util/NoSuchElementException") (by decide +kernel)) (hts (.initialized "java/util/NoSuchElementException") (by decide +kernel)) (fun w hw => hts w ((by decide +kernel : ∀ w ∈ wsNS, w ∈ wsX2_at) w hw)) (by decide +kernel) hZ hS (by rw [hml]; exact hl.1) dX2_at_48 dX2_at_51 dX2_at_52 dX2_at_54 dX2_at_57 htab (Nat.le_of_ble_eq_true rfl) (Nat.le_of_ble_eq_true rfl) (Nat.le_of_ble_eq_true rfl) (Nat.le_of_ble_eq_true rfl) hlocks trivial hP hK hD (Nat.le_of_ble_eq_true rfl) (Nat.le_of_ble_eq_true rfl)
    · exfalso; omega
