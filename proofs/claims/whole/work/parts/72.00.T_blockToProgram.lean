set_option maxHeartbeats 4000000 in
set_option maxRecDepth 100000 in
theorem c_T_blockToProgram (l : Launch) (hst : l.stackTraces = false) (D : va_G) {cI cB : ClassId} (a shw O χ : Nat → Nat) (cu fi ne ct on : Nat) (hcu : cu < 6) (hχ : ∀ i, χ i < 65536) (hfl : ful χ cu) (sz : Nat) : vx_Met l yX2_blockToProgram wsX2_blockToProgram ({ frames := 6, cells := 1, slots := 6, locals := 90 }) (va_Pc [.ref (a 0)] (x_Z D (tyP cI cB) (wP cI cB a shw O χ cu fi ne ct on) sz)) (va_Qi (fun _ (_ : Unit) => False) (fun _ _ => True) (va_A (wP cI cB a shw O χ cu fi ne ct on) sz)) (x_T D (tyP cI cB) (va_A (wP cI cB a shw O χ cu fi ne ct on) sz) (fun (_ : Unit) => True) (fun _ => wP cI cB a shw O χ cu fi ne ct on) "java/lang/UnsupportedOperationException") 1 6 (va_A (wP cI cB a shw O χ cu fi ne ct on) sz) := by
  refine vx_ofW (cc := cX2_blockToProgram) (maxL := 2) (ret := (some .int)) (by decide) rfl ?_
  intro p e s m args below meth c s₁ B hml htab hv
  obtain ⟨rfl, ⟨hsz, hN, hP, hK, hD0⟩, hZ⟩ := hv
  have hx := B.exec
  have hb := B.bytes
  have hr := B.returns
  have hts := atoms_spec (ws := wsX2_blockToProgram) B.pre
  have hown : s.vm.findClass RX2 = some m.cls := findClass_of_methodNamed B.named
  have hlocks := B.notSynchronized
  subst hsz
  have hD := hD0.self (sz := s.heap.size)
  generalize hAe : va_A (wP cI cB a shw O χ cu fi ne ct on) s.heap.size = A at hD hZ ⊢
  have hA : ∀ q : Nat, s.heap.size ≤ q → A q := fun q h => by rw [← hAe]; exact Or.inr h
  obtain ⟨H, hH⟩ : ∃ H : Heap, s.heap = H := ⟨_, rfl⟩
  obtain ⟨locs, hlo⟩ : ∃ L : List Loc, ([] : List Loc) = L := ⟨_, rfl⟩
  have hS : va_S A s.heap H locs := by rw [← hH, ← hlo]; exact va_S.rf
  have hP : va_P D vwCl (wP cI cB a shw O χ cu fi ne ct on) H := hH ▸ hP
  rw [hH, hlo]
  have hiX2 : ∀ w ∈ u_ws RX2 TX2 8, w ∈ wsX2_blockToProgram := by decide +kernel
  have hl := lv_entry ([.ref (a 0)]) (n := 2) (Nat.le_of_ble_eq_true rfl)
  rw [lg_entry_eq]
  generalize (lg_sl ([.ref (a 0)]) ++ List.replicate (2 - (lg_sl ([.ref (a 0)])).length) Slot.unset).toArray = ls at hl ⊢
  have hl : lv_has ls 2 [(0, .ref (a 0))] := hl
  refine lv_aload_n hx hb dX2_blockToProgram_0 rfl (lv_at hl 0 rfl) ?_
  refine va_get (D := D) (ci := 2) (v := .ref (a 1)) (C := RX2) (T := TX2) (N := 8) hx hb hts hiX2 hown hK hP 0 rfl rfl 0 (by decide) (hts (.fieldLink RX2 11 "PairedCells" "blocks" "[LPairedCells$Block;") (by decide +kernel)) (fun _ h9 => h9) rfl dX2_blockToProgram_1 ?_
  refine lv_aload_n hx hb dX2_blockToProgram_4 rfl (lv_at hl 0 rfl) ?_
  refine va_get (D := D) (ci := 2) (v := .int (nI (cu))) (C := RX2) (T := TX2) (N := 8) hx hb hts hiX2 hown hK hP 0 rfl rfl 3 (by decide) (hts (.fieldLink RX2 25 "PairedCells" "current" "I") (by decide +kernel)) (fun _ h9 => h9) rfl dX2_blockToProgram_5 ?_
  refine xr_aald hx hb hK hP 1 1 rfl rfl (by omega) (by decide) dX2_blockToProgram_8 ?_
  refine xc_Vi (ci := 0) (rest := []) (As := []) ⟨hx, hb, hml, hown, hts⟩ (c_X0_takesMore l D a χ cu hcu hχ) (cwV 0 hts gX2_blockToProgram_X0_takesMore rfl rfl rfl (by decide +kernel) ⟨Nat.le_of_ble_eq_true rfl, Nat.le_of_ble_eq_true rfl⟩) hN hK (wP_blk hcu hP) rfl 0 rfl rfl hl.1 rfl (Nat.le_of_ble_eq_true rfl) dX2_blockToProgram_9 ⟨Nat.le_of_ble_eq_true rfl, Nat.le_of_ble_eq_true rfl⟩ (fun r_9 hw_9 => ?_)
  refine xz_eq (tgt := 20) hx hb dX2_blockToProgram_12 (by decide) rfl (fun c_12 => ?_) (fun c_12 => ?_)
  · have h_12 := bo.f hw_9 c_12
    refine lv_aload_n hx hb dX2_blockToProgram_20 rfl (lv_at hl 0 rfl) ?_
    refine va_get (D := D) (ci := 2) (v := .int (nI (cu))) (C := RX2) (T := TX2) (N := 8) hx hb hts hiX2 hown hK hP 0 rfl rfl 3 (by decide) (hts (.fieldLink RX2 25 "PairedCells" "current" "I") (by decide +kernel)) (fun _ h9 => h9) rfl dX2_blockToProgram_21 ?_
    refine lv_iconst (v := nI 1) hx hb dX2_blockToProgram_24 (by decide) ?_
    refine xr_add hx hb dX2_blockToProgram_25 ?_
    refine lv_bipush (v := nI 6) hx hb dX2_blockToProgram_26 (by decide) ?_
    refine xr_rem hx hb (by omega) (by decide) (by decide) dX2_blockToProgram_28 ?_
    refine lv_istore_n (lv' := [(1, .int (nI ((cu + 1) % 6))), (0, .ref (a 0))]) hx hb dX2_blockToProgram_29 rfl hl (by decide) rfl (fun ls hl => ?_)
    refine lv_aload_n hx hb dX2_blockToProgram_30 rfl (lv_at hl 1 rfl) ?_
    refine va_get (D := D) (ci := 2) (v := .ref (a 1)) (C := RX2) (T := TX2) (N := 8) hx hb hts hiX2 hown hK hP 0 rfl rfl 0 (by decide) (hts (.fieldLink RX2 11 "PairedCells" "blocks" "[LPairedCells$Block;") (by decide +kernel)) (fun _ h9 => h9) rfl dX2_blockToProgram_31 ?_
    refine lv_iload_n hx hb dX2_blockToProgram_34 rfl (lv_at hl 0 rfl) ?_
    refine xr_aald hx hb hK hP 1 1 rfl rfl (by omega) (by decide) dX2_blockToProgram_35 ?_
    refine xc_Vi (ci := 0) (rest := []) (As := []) ⟨hx, hb, hml, hown, hts⟩ (c_X0_isErased l D a χ ((cu + 1) % 6) (show (cu + 1) % 6 < 6 by omega) hχ) (cwV 0 hts gX2_blockToProgram_X0_isErased rfl rfl rfl (by decide +kernel) ⟨Nat.le_of_ble_eq_true rfl, Nat.le_of_ble_eq_true rfl⟩) hN hK (wP_blk (show (cu + 1) % 6 < 6 by omega) hP) rfl 0 rfl rfl hl.1 rfl (Nat.le_of_ble_eq_true rfl) dX2_blockToProgram_36 ⟨Nat.le_of_ble_eq_true rfl, Nat.le_of_ble_eq_true rfl⟩ (fun r_36 hw_36 => ?_)
    refine xz_ne (tgt := 52) hx hb dX2_blockToProgram_39 (by decide) rfl (fun c_39 => ?_) (fun c_39 => ?_)
    · exact absurd (bo.t hw_36 c_39) hfl.2
    · have h_39 := bo.f hw_36 c_39
      exact xt_throw (text := "the log is full") (names := ["java/lang/RuntimeException", "java/lang/Exception"]) (px := fun (_ : Unit) => True) (w1 := fun _ => wP cI cB a shw O χ cu fi ne ct on) () hx hb hst hown (by decide) (by decide) (hts (.classLink RX2 198 "java/lang/UnsupportedOperationException") (by decide +kernel)) (hts (.initialized "java/lang/UnsupportedOperationException") (by decide +kernel)) (fun w hw => hts w ((by decide +kernel : ∀ w ∈ (vx_atS RX2 202 "java/lang/UnsupportedOperationException" ["java/lang/RuntimeException", "java/lang/Exception"]).filter goodWord, w ∈ wsX2_blockToProgram) w hw)) (by decide +kernel) (by decide) (by decide) (by decide +kernel) hZ hS (by rw [hml]; exact hl.1) dX2_blockToProgram_42 dX2_blockToProgram_45 dX2_blockToProgram_46 dX2_blockToProgram_48 dX2_blockToProgram_51 htab (Nat.le_of_ble_eq_true rfl) (Nat.le_of_ble_eq_true rfl) (Nat.le_of_ble_eq_true rfl) (Nat.le_of_ble_eq_true rfl) hlocks trivial hP hK hD (Nat.le_of_ble_eq_true rfl) (Nat.le_of_ble_eq_true rfl)
  · exact absurd (bo.t hw_9 c_12) hfl.1
