set_option maxHeartbeats 4000000 in
set_option maxRecDepth 100000 in
theorem c_T_guarded2 (l : Launch) (hst : l.stackTraces = false) (D : va_G) {cI cB : ClassId} (a shw O χ : Nat → Nat) (cu fi ne ct on : Nat) (b : Nat) (hb6 : b < 6) (hχ : ∀ i, χ i < 65536) (i : Nat) (hi : i < 17) (hg : χ (100 + b) ≠ 1) (sz : Nat) : vx_Met l yX2_guarded wsX2_guarded ({ frames := 6, cells := 1, slots := 6, locals := 90 }) (va_Pc [.ref (a 0), .int (nI (b)), .int (nI (i))] (x_Z D (tyP cI cB) (wP cI cB a shw O χ cu fi ne ct on) sz)) (va_Qi (fun _ (_ : Unit) => False) (fun _ _ => True) (va_A (wP cI cB a shw O χ cu fi ne ct on) sz)) (x_T D (tyP cI cB) (va_A (wP cI cB a shw O χ cu fi ne ct on) sz) (fun (_ : Unit) => True) (fun _ => wP cI cB a shw O χ cu fi ne ct on) "java/util/NoSuchElementException") 1 6 (va_A (wP cI cB a shw O χ cu fi ne ct on) sz) := by
  refine vx_ofW (cc := cX2_guarded) (maxL := 3) (ret := (some .int)) (by decide) rfl ?_
  intro p e s m args below meth c s₁ B hml htab hv
  obtain ⟨rfl, ⟨hsz, hN, hP, hK, hD0⟩, hZ⟩ := hv
  have hx := B.exec
  have hb := B.bytes
  have hr := B.returns
  have hts := atoms_spec (ws := wsX2_guarded) B.pre
  have hown : s.vm.findClass RX2 = some m.cls := findClass_of_methodNamed B.named
  have hlocks := B.notSynchronized
  subst hsz
  have hD := hD0.self (sz := s.heap.size)
  generalize hAe : va_A (wP cI cB a shw O χ cu fi ne ct on) s.heap.size = A at hD hZ ⊢
  have hA : ∀ q : Nat, s.heap.size ≤ q → A q := fun q h => by rw [← hAe]; exact Or.inr h
  obtain ⟨H, hH⟩ : ∃ H : Heap, s.heap = H := ⟨_, rfl⟩
  obtain ⟨locs, hlo⟩ : ∃ L : List Loc, ([] : List Loc) = L := ⟨_, rfl⟩
  have hS : va_S A s.heap H locs := by rw [← hH, ← hlo]; exact va_S.rf
  have hP : va_P D vwCl (wP cI cB a shw O χ cu fi ne ct on) H := hH ▸ hP
  rw [hH, hlo]
  have hiX0 : ∀ w ∈ u_ws RX0 TX0 5, w ∈ wsX2_guarded := by decide +kernel
  have hiX2 : ∀ w ∈ u_ws RX2 TX2 8, w ∈ wsX2_guarded := by decide +kernel
  have hl := lv_entry ([.ref (a 0), .int (nI (b)), .int (nI (i))]) (n := 3) (Nat.le_of_ble_eq_true rfl)
  rw [lg_entry_eq]
  generalize (lg_sl ([.ref (a 0), .int (nI (b)), .int (nI (i))]) ++ List.replicate (3 - (lg_sl ([.ref (a 0), .int (nI (b)), .int (nI (i))])).length) Slot.unset).toArray = ls at hl ⊢
  have hl : lv_has ls 3 [(0, .ref (a 0)), (1, .int (nI (b))), (2, .int (nI (i)))] := hl
  have hg9 := hχ (100 + b)
  refine lv_iload_n hx hb dX2_guarded_0 rfl (lv_at hl 1 rfl) ?_
  refine xc_Sv (rest := []) (As := [.int (nI (b))]) ⟨hx, hb, hml, hown, hts⟩ (c_X2_requireBlock l D b hb6) (va_cwS 1 hts gX2_guarded_X2_requireBlock rfl rfl rfl (by decide +kernel) ⟨Nat.le_of_ble_eq_true rfl, Nat.le_of_ble_eq_true rfl⟩) hN hK (va_P_nil) rfl hl.1 rfl (Nat.le_of_ble_eq_true rfl) dX2_guarded_1 ⟨Nat.le_of_ble_eq_true rfl, Nat.le_of_ble_eq_true rfl⟩ (fun hw_1 => ?_)
  refine lv_iload_n hx hb dX2_guarded_4 rfl (lv_at hl 2 rfl) ?_
  refine xz_lt (tgt := 14) hx hb dX2_guarded_5 (by decide) (nI_toInt (by omega)) (fun c_5 => ?_) (fun c_5 => ?_)
  · exfalso; omega
  · refine lv_iload_n hx hb dX2_guarded_8 rfl (lv_at hl 2 rfl) ?_
    refine lv_bipush (v := nI 17) hx hb dX2_guarded_9 (by decide) ?_
    refine xi_lt (tgt := 24) hx hb dX2_guarded_11 (by decide) (nI_toInt (by omega)) (nI_toInt (by omega)) (fun c_11 => ?_) (fun c_11 => ?_)
    · refine lv_aload_n hx hb dX2_guarded_24 rfl (lv_at hl 0 rfl) ?_
      refine va_get (D := D) (ci := 2) (v := .ref (a 1)) (C := RX2) (T := TX2) (N := 8) hx hb hts hiX2 hown hK hP 0 rfl rfl 0 (by decide) (hts (.fieldLink RX2 11 "PairedCells" "blocks" "[LPairedCells$Block;") (by decide +kernel)) (fun _ h9 => h9) rfl dX2_guarded_25 ?_
      refine lv_iload_n hx hb dX2_guarded_28 rfl (lv_at hl 1 rfl) ?_
      refine xr_aald hx hb hK hP 1 1 rfl rfl (by omega) (by decide) dX2_guarded_29 ?_
      refine va_getN (D := D) (ci := 0) (v := .int (nI (χ (100 + b)))) (C := RX0) (T := TX0) (N := 5) hx hb hts hiX0 hown hK (wP_blk hb6 hP) 0 rfl rfl 3 (by decide) (va_Nw.use rfl hN.2.2.1) (fun _ h9 => h9) rfl dX2_guarded_30 ?_
      refine lv_iconst (v := nI 1) hx hb dX2_guarded_33 (by decide) ?_
      refine xi_eq (tgt := 47) hx hb dX2_guarded_34 (by decide) (nI_toInt (by omega)) (nI_toInt (by omega)) (fun c_34 => ?_) (fun c_34 => ?_)
      · exfalso; omega
      · exact xt_throwN (text := "the guard page is not written") (px := fun (_ : Unit) => True) (w1 := fun _ => wP cI cB a shw O χ cu fi ne ct on) () hx hb hst hown (hts (.classLink RX2 112 "java/util/NoSuchElementException") (by decide +kernel)) (hts (.initialized "java/util/NoSuchElementException") (by decide +kernel)) (fun w hw => hts w ((by decide +kernel : ∀ w ∈ wsNS, w ∈ wsX2_guarded) w hw)) (by decide +kernel) hZ hS (by rw [hml]; exact hl.1) dX2_guarded_37 dX2_guarded_40 dX2_guarded_41 dX2_guarded_43 dX2_guarded_46 htab (Nat.le_of_ble_eq_true rfl) (Nat.le_of_ble_eq_true rfl) (Nat.le_of_ble_eq_true rfl) (Nat.le_of_ble_eq_true rfl) hlocks trivial hP hK hD (Nat.le_of_ble_eq_true rfl) (Nat.le_of_ble_eq_true rfl)
    · exfalso; omega
