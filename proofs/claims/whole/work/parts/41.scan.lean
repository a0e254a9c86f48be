set_option maxHeartbeats 4000000 in
set_option maxRecDepth 100000 in
theorem c_X2_greatestEvent (l : Launch) (D : va_G) {cI cB : ClassId} (a shw O χ : Nat → Nat) (cu fi ne ct on : Nat) (b : Nat) (hb6 : b < 6) (hχ : ∀ i, χ i < 65536) (hwf : wfs χ) (sz : Nat) : Met l yX2_greatestEvent wsX2_greatestEvent ({ frames := 4, cells := 0, slots := 0, locals := 87 }) (va_Pc [.ref (a 0), .ref (a (6 + 4 * b))] (x_U D (tyP cI cB) (wP cI cB a shw O χ cu fi ne ct on) sz)) (va_Qi (fun (r : Int32) (u : Nat → Nat) => r = mI (grt χ b 16)) (fun u t => x_E D (tyP cI cB) (va_A (wP cI cB a shw O χ cu fi ne ct on) sz) (wP cI cB a u O χ cu fi ne ct on) t) (va_A (wP cI cB a shw O χ cu fi ne ct on) sz)) 0 0 (va_A (wP cI cB a shw O χ cu fi ne ct on) sz) := by
  refine Met.ofW (cc := cX2_greatestEvent) (maxL := 4) (ret := (some .int)) (by decide) rfl ?_
  intro p e s m args below meth c s₁ B hml hv
  obtain ⟨rfl, hsz, hN, hP, hK, hD0⟩ := hv
  have hx := B.exec
  have hb := B.bytes
  have hr := B.returns
  have hts := atoms_spec (ws := wsX2_greatestEvent) B.pre
  have hown : s.vm.findClass RX2 = some m.cls := findClass_of_methodNamed B.named
  have hlocks := B.notSynchronized
  subst hsz
  have hD := hD0.self (sz := s.heap.size)
  generalize hAe : va_A (wP cI cB a shw O χ cu fi ne ct on) s.heap.size = A at hD ⊢
  have hA : ∀ q : Nat, s.heap.size ≤ q → A q := fun q h => by rw [← hAe]; exact Or.inr h
  obtain ⟨H, hH⟩ : ∃ H : Heap, s.heap = H := ⟨_, rfl⟩
  obtain ⟨locs, hlo⟩ : ∃ L : List Loc, ([] : List Loc) = L := ⟨_, rfl⟩
  have hS : va_S A s.heap H locs := by rw [← hH, ← hlo]; exact va_S.rf
  have hP : va_P D vwCl (wP cI cB a shw O χ cu fi ne ct on) H := hH ▸ hP
  rw [hH, hlo]
  have hiX2 : ∀ w ∈ u_ws RX2 TX2 8, w ∈ wsX2_greatestEvent := by decide +kernel
  have hl := lv_entry ([.ref (a 0), .ref (a (6 + 4 * b))]) (n := 4) (Nat.le_of_ble_eq_true rfl)
  rw [lg_entry_eq]
  generalize (lg_sl ([.ref (a 0), .ref (a (6 + 4 * b))]) ++ List.replicate (4 - (lg_sl ([.ref (a 0), .ref (a (6 + 4 * b))])).length) Slot.unset).toArray = ls at hl ⊢
  have hl : lv_has ls 4 [(0, .ref (a 0)), (1, .ref (a (6 + 4 * b)))] := hl
  refine lv_iconst (v := mI 0) hx hb dX2_greatestEvent_0 (by decide) ?_
  refine lv_istore_n (lv' := [(2, .int (mI (0))), (0, .ref (a 0)), (1, .ref (a (6 + 4 * b)))]) hx hb dX2_greatestEvent_1 rfl hl (by decide) rfl (fun ls hl => ?_)
  refine lv_iconst (v := nI 0) hx hb dX2_greatestEvent_2 (by decide) ?_
  refine lv_istore_n (lv' := [(3, .int (nI (0))), (2, .int (mI (0))), (0, .ref (a 0)), (1, .ref (a (6 + 4 * b)))]) hx hb dX2_greatestEvent_3 rfl hl (by decide) rfl (fun ls hl => ?_)
  refine lpW (α := Nat × (Nat → Nat)) (fun (j, h9) H locs => (j ≤ 16) ∧ va_P D vwCl (wP cI cB a h9 O χ cu fi ne ct on) H ∧ va_D A (wP cI cB a h9 O χ cu fi ne ct on) ∧ va_S A s.heap H locs) (fun (j, h9) => [(0, .ref (a 0)), (1, .ref (a (6 + 4 * b))), (2, .int (mI (grt χ b j))), (3, .int (nI (j)))]) 4 (fun (j, h9) => 16 - j) (0, shw) (⟨by omega, hP, hD, hS⟩) (lv_sub hl [2, 3, 1, 0] rfl) (fun s9 H locs ls hI9 hl9 ih_4 => ?_)
  obtain ⟨j, h9⟩ := s9
  have hl : lv_has ls 4 [(0, .ref (a 0)), (1, .ref (a (6 + 4 * b))), (2, .int (mI (grt χ b j))), (3, .int (nI (j)))] := hl9
  obtain ⟨hj, hP, hD, hS⟩ : (j ≤ 16) ∧ va_P D vwCl (wP cI cB a h9 O χ cu fi ne ct on) H ∧ va_D A (wP cI cB a h9 O χ cu fi ne ct on) ∧ va_S A s.heap H locs := hI9
  refine lv_iload_n hx hb dX2_greatestEvent_4 rfl (lv_at hl 3 rfl) ?_
  refine lv_bipush (v := nI 16) hx hb dX2_greatestEvent_5 (by decide) ?_
  refine xi_ge (tgt := 40) hx hb dX2_greatestEvent_7 (by decide) (nI_toInt (by omega)) (nI_toInt (by omega)) (fun c_7 => ?_) (fun c_7 => ?_)
  · refine lv_iload_n hx hb dX2_greatestEvent_40 rfl (lv_at hl 2 rfl) ?_
    exact xf_i (post := fun (r : Int32) (u : Nat → Nat) => r = mI (grt χ b 16)) (w1 := fun (u : Nat → Nat) => wP cI cB a u O χ cu fi ne ct on) h9 hx hb hr hlocks (by rw [show j = 16 by omega]) hP hK hD hS dX2_greatestEvent_41
  · refine lv_aload_n hx hb dX2_greatestEvent_10 rfl (lv_at hl 1 rfl) ?_
    refine lv_iload_n hx hb dX2_greatestEvent_11 rfl (lv_at hl 3 rfl) ?_
    refine lv_aload_n hx hb dX2_greatestEvent_12 rfl (lv_at hl 0 rfl) ?_
    refine va_get (D := D) (ci := 2) (v := .ref (a 4)) (C := RX2) (T := TX2) (N := 8) hx hb hts hiX2 hown hK hP 0 rfl rfl 2 (by decide) (hts (.fieldLink RX2 22 "PairedCells" "shown" "LPairedCells$EventPage;") (by decide +kernel)) (fun _ h9 => h9) rfl dX2_greatestEvent_13 ?_
    have hF9 := x_hF (dP_blkshown hb6 hD) hS hA
    refine xw_Vi (ci := 0) (rest := []) (As := [.int (nI (j)), .ref (a 4)]) ⟨hx, hb, hml, hown, hts⟩ (c_X0_show l D a χ b hb6 hχ j (by omega) (a 4) (a 5) h9 H.size) (cwV 2 hts gX2_greatestEvent_X0_show rfl rfl rfl (by decide +kernel) ⟨Nat.le_of_ble_eq_true rfl, Nat.le_of_ble_eq_true rfl⟩) hN hK (wP_blkshown hb6 hP) (dP_blkshown hb6 hD) hS hA rfl 0 rfl rfl hl.1 rfl (Nat.le_of_ble_eq_true rfl) dX2_greatestEvent_16 ⟨Nat.le_of_ble_eq_true rfl, Nat.le_of_ble_eq_true rfl⟩ (fun r_16 u_16 H1 locs hw_16 hP1 hD1 hDA hk9 hS => ?_)
    rcases hw_16 with ⟨rfl, hr9, rfl⟩ | ⟨rfl, hn9, hu9⟩
    · obtain ⟨hP, hD⟩ := jP_blkshown hb6 hP hD hF9 hk9 hP1 hD1
      obtain ⟨hw0, hw1, hw2, -⟩ := hwf b j hb6 (by omega) hr9
      generalize H1 = H at hP hS ⊢
      have hP : va_P D vwCl (wP cI cB a (byt χ b j) O χ cu fi ne ct on) H := hP
      have hD : va_D A (wP cI cB a (byt χ b j) O χ cu fi ne ct on) := hD
      refine xz_eq (tgt := 34) hx hb dX2_greatestEvent_19 (by decide) (nI_toInt (by omega)) (fun c_19 => ?_) (fun c_19 => ?_)
      · exfalso; omega
      · refine lv_iload_n hx hb dX2_greatestEvent_22 rfl (lv_at hl 2 rfl) ?_
        refine lv_aload_n hx hb dX2_greatestEvent_23 rfl (lv_at hl 0 rfl) ?_
        refine va_get (D := D) (ci := 2) (v := .ref (a 4)) (C := RX2) (T := TX2) (N := 8) hx hb hts hiX2 hown hK hP 0 rfl rfl 2 (by decide) (hts (.fieldLink RX2 22 "PairedCells" "shown" "LPairedCells$EventPage;") (by decide +kernel)) (fun _ h9 => h9) rfl dX2_greatestEvent_24 ?_
        refine xc_Vi (ci := 1) (rest := [.int (mI (grt χ b j))]) (As := []) ⟨hx, hb, hml, hown, hts⟩ (c_X1_lastNumber l D (a 4) (a 5) (byt χ b j) (by omega) hw1 hw2) (cwV 0 hts gX2_greatestEvent_X1_lastNumber rfl rfl rfl (by decide +kernel) ⟨Nat.le_of_ble_eq_true rfl, Nat.le_of_ble_eq_true rfl⟩) hN hK (wP_shown hP) rfl 0 rfl rfl hl.1 rfl (Nat.le_of_ble_eq_true rfl) dX2_greatestEvent_27 ⟨Nat.le_of_ble_eq_true rfl, Nat.le_of_ble_eq_true rfl⟩ (fun r_27 hw_27 => ?_)
        subst hw_27
        refine va_mmax hx hb (by rw [hml]; exact hl.1.symm) hown (hts (.methodLink RX2 219 Lib.Math.max.name) (by decide +kernel)) (hts (.static Lib.Math.max.name) (by decide +kernel)) (hts (.initialized "java/lang/Math") (by decide +kernel)) (hts (.code Lib.Math.max.name Lib.Math.max.code 2 (some .int)) (by decide +kernel)) (Nat.le_of_ble_eq_true rfl) (Nat.le_of_ble_eq_true rfl) (Nat.le_of_ble_eq_true rfl) (Nat.le_of_ble_eq_true rfl) dX2_greatestEvent_30 ?_
        have hg9 := grt_lt hwf hb6 j (by omega)
        refine xr_same ((xl_max (by omega) (by omega)).trans (congrArg mI (grt_in hr9).symm)) ?_
        refine lv_istore_n (lv' := [(2, .int (mI (grt χ b (j + 1)))), (0, .ref (a 0)), (1, .ref (a (6 + 4 * b))), (3, .int (nI (j)))]) hx hb dX2_greatestEvent_33 rfl hl (by decide) rfl (fun ls hl => ?_)
        refine lv_iinc (v := nI (j + 1)) (lv' := [(3, .int (nI (j + 1))), (2, .int (mI (grt χ b (j + 1)))), (0, .ref (a 0)), (1, .ref (a (6 + 4 * b)))]) hx hb dX2_greatestEvent_34 hl (k := 3) rfl (nI_add _ _) (by decide) rfl (fun ls hl => ?_)
        refine lv_goto (tgt := 4) hx hb dX2_greatestEvent_37 (by decide) ?_
        exact ih_4 (j + 1, (byt χ b j)) _ _ _ (⟨by omega, hP, hD, hS⟩) (by first | omega | (dsimp only; omega)) (lv_sub hl [2, 3, 1, 0] rfl)
    · rw [hu9] at hP1 hD1
      obtain ⟨hP, hD⟩ := jP_blkshown hb6 hP hD hF9 hk9 hP1 hD1
      generalize H1 = H at hP hS ⊢
      have hP : va_P D vwCl (wP cI cB a h9 O χ cu fi ne ct on) H := hP
      have hD : va_D A (wP cI cB a h9 O χ cu fi ne ct on) := hD
      refine xz_eq (tgt := 34) hx hb dX2_greatestEvent_19 (by decide) (nI_toInt (by omega)) (fun c_19 => ?_) (fun c_19 => ?_)
      · refine lv_iinc (v := nI (j + 1)) (lv' := [(3, .int (nI (j + 1))), (0, .ref (a 0)), (1, .ref (a (6 + 4 * b))), (2, .int (mI (grt χ b j)))]) hx hb dX2_greatestEvent_34 hl (k := 3) rfl (nI_add _ _) (by decide) rfl (fun ls hl => ?_)
        refine lv_goto (tgt := 4) hx hb dX2_greatestEvent_37 (by decide) ?_
        have e9 : grt χ b j = grt χ b (j + 1) := (grt_out hn9).symm
        rw [e9] at hl
        exact ih_4 (j + 1, h9) _ _ _ (⟨by omega, hP, hD, hS⟩) (by first | omega | (dsimp only; omega)) (lv_sub hl [1, 2, 3, 0] rfl)
      · exfalso; omega

set_option maxHeartbeats 4000000 in
set_option maxRecDepth 100000 in
theorem c_X2_leastEvent (l : Launch) (D : va_G) {cI cB : ClassId} (a shw O χ : Nat → Nat) (cu fi ne ct on : Nat) (b : Nat) (hb6 : b < 6) (hχ : ∀ i, χ i < 65536) (hwf : wfs χ) (sz : Nat) : Met l yX2_leastEvent wsX2_leastEvent ({ frames := 4, cells := 0, slots := 0, locals := 87 }) (va_Pc [.ref (a 0), .ref (a (6 + 4 * b))] (x_U D (tyP cI cB) (wP cI cB a shw O χ cu fi ne ct on) sz)) (va_Qi (fun (r : Int32) (u : Nat → Nat) => r = mI (lst χ b 16)) (fun u t => x_E D (tyP cI cB) (va_A (wP cI cB a shw O χ cu fi ne ct on) sz) (wP cI cB a u O χ cu fi ne ct on) t) (va_A (wP cI cB a shw O χ cu fi ne ct on) sz)) 0 0 (va_A (wP cI cB a shw O χ cu fi ne ct on) sz) := by
  refine Met.ofW (cc := cX2_leastEvent) (maxL := 4) (ret := (some .int)) (by decide) rfl ?_
  intro p e s m args below meth c s₁ B hml hv
  obtain ⟨rfl, hsz, hN, hP, hK, hD0⟩ := hv
  have hx := B.exec
  have hb := B.bytes
  have hr := B.returns
  have hts := atoms_spec (ws := wsX2_leastEvent) B.pre
  have hown : s.vm.findClass RX2 = some m.cls := findClass_of_methodNamed B.named
  have hlocks := B.notSynchronized
  subst hsz
  have hD := hD0.self (sz := s.heap.size)
  generalize hAe : va_A (wP cI cB a shw O χ cu fi ne ct on) s.heap.size = A at hD ⊢
  have hA : ∀ q : Nat, s.heap.size ≤ q → A q := fun q h => by rw [← hAe]; exact Or.inr h
  obtain ⟨H, hH⟩ : ∃ H : Heap, s.heap = H := ⟨_, rfl⟩
  obtain ⟨locs, hlo⟩ : ∃ L : List Loc, ([] : List Loc) = L := ⟨_, rfl⟩
  have hS : va_S A s.heap H locs := by rw [← hH, ← hlo]; exact va_S.rf
  have hP : va_P D vwCl (wP cI cB a shw O χ cu fi ne ct on) H := hH ▸ hP
  rw [hH, hlo]
  have hiX2 : ∀ w ∈ u_ws RX2 TX2 8, w ∈ wsX2_leastEvent := by decide +kernel
  have hl := lv_entry ([.ref (a 0), .ref (a (6 + 4 * b))]) (n := 4) (Nat.le_of_ble_eq_true rfl)
  rw [lg_entry_eq]
  generalize (lg_sl ([.ref (a 0), .ref (a (6 + 4 * b))]) ++ List.replicate (4 - (lg_sl ([.ref (a 0), .ref (a (6 + 4 * b))])).length) Slot.unset).toArray = ls at hl ⊢
  have hl : lv_has ls 4 [(0, .ref (a 0)), (1, .ref (a (6 + 4 * b)))] := hl
  refine lv_iconst (v := mI 0) hx hb dX2_leastEvent_0 (by decide) ?_
  refine lv_istore_n (lv' := [(2, .int (mI (0))), (0, .ref (a 0)), (1, .ref (a (6 + 4 * b)))]) hx hb dX2_leastEvent_1 rfl hl (by decide) rfl (fun ls hl => ?_)
  refine lv_iconst (v := nI 0) hx hb dX2_leastEvent_2 (by decide) ?_
  refine lv_istore_n (lv' := [(3, .int (nI (0))), (2, .int (mI (0))), (0, .ref (a 0)), (1, .ref (a (6 + 4 * b)))]) hx hb dX2_leastEvent_3 rfl hl (by decide) rfl (fun ls hl => ?_)
  refine lpW (α := Nat × (Nat → Nat)) (fun (j, h9) H locs => (j ≤ 16) ∧ va_P D vwCl (wP cI cB a h9 O χ cu fi ne ct on) H ∧ va_D A (wP cI cB a h9 O χ cu fi ne ct on) ∧ va_S A s.heap H locs) (fun (j, h9) => [(0, .ref (a 0)), (1, .ref (a (6 + 4 * b))), (2, .int (mI (lst χ b j))), (3, .int (nI (j)))]) 4 (fun (j, h9) => 16 - j) (0, shw) (⟨by omega, hP, hD, hS⟩) (lv_sub hl [2, 3, 1, 0] rfl) (fun s9 H locs ls hI9 hl9 ih_4 => ?_)
  obtain ⟨j, h9⟩ := s9
  have hl : lv_has ls 4 [(0, .ref (a 0)), (1, .ref (a (6 + 4 * b))), (2, .int (mI (lst χ b j))), (3, .int (nI (j)))] := hl9
  obtain ⟨hj, hP, hD, hS⟩ : (j ≤ 16) ∧ va_P D vwCl (wP cI cB a h9 O χ cu fi ne ct on) H ∧ va_D A (wP cI cB a h9 O χ cu fi ne ct on) ∧ va_S A s.heap H locs := hI9
  refine lv_iload_n hx hb dX2_leastEvent_4 rfl (lv_at hl 3 rfl) ?_
  refine lv_bipush (v := nI 16) hx hb dX2_leastEvent_5 (by decide) ?_
  refine xi_ge (tgt := 52) hx hb dX2_leastEvent_7 (by decide) (nI_toInt (by omega)) (nI_toInt (by omega)) (fun c_7 => ?_) (fun c_7 => ?_)
  · refine lv_iload_n hx hb dX2_leastEvent_52 rfl (lv_at hl 2 rfl) ?_
    exact xf_i (post := fun (r : Int32) (u : Nat → Nat) => r = mI (lst χ b 16)) (w1 := fun (u : Nat → Nat) => wP cI cB a u O χ cu fi ne ct on) h9 hx hb hr hlocks (by rw [show j = 16 by omega]) hP hK hD hS dX2_leastEvent_53
  · refine lv_aload_n hx hb dX2_leastEvent_10 rfl (lv_at hl 1 rfl) ?_
    refine lv_iload_n hx hb dX2_leastEvent_11 rfl (lv_at hl 3 rfl) ?_
    refine lv_aload_n hx hb dX2_leastEvent_12 rfl (lv_at hl 0 rfl) ?_
    refine va_get (D := D) (ci := 2) (v := .ref (a 4)) (C := RX2) (T := TX2) (N := 8) hx hb hts hiX2 hown hK hP 0 rfl rfl 2 (by decide) (hts (.fieldLink RX2 22 "PairedCells" "shown" "LPairedCells$EventPage;") (by decide +kernel)) (fun _ h9 => h9) rfl dX2_leastEvent_13 ?_
    have hF9 := x_hF (dP_blkshown hb6 hD) hS hA
    refine xw_Vi (ci := 0) (rest := []) (As := [.int (nI (j)), .ref (a 4)]) ⟨hx, hb, hml, hown, hts⟩ (c_X0_show l D a χ b hb6 hχ j (by omega) (a 4) (a 5) h9 H.size) (cwV 2 hts gX2_leastEvent_X0_show rfl rfl rfl (by decide +kernel) ⟨Nat.le_of_ble_eq_true rfl, Nat.le_of_ble_eq_true rfl⟩) hN hK (wP_blkshown hb6 hP) (dP_blkshown hb6 hD) hS hA rfl 0 rfl rfl hl.1 rfl (Nat.le_of_ble_eq_true rfl) dX2_leastEvent_16 ⟨Nat.le_of_ble_eq_true rfl, Nat.le_of_ble_eq_true rfl⟩ (fun r_16 u_16 H1 locs hw_16 hP1 hD1 hDA hk9 hS => ?_)
    rcases hw_16 with ⟨rfl, hr9, rfl⟩ | ⟨rfl, hn9, hu9⟩
    · obtain ⟨hP, hD⟩ := jP_blkshown hb6 hP hD hF9 hk9 hP1 hD1
      obtain ⟨hw0, hw1, hw2, -⟩ := hwf b j hb6 (by omega) hr9
      generalize H1 = H at hP hS ⊢
      have hP : va_P D vwCl (wP cI cB a (byt χ b j) O χ cu fi ne ct on) H := hP
      have hD : va_D A (wP cI cB a (byt χ b j) O χ cu fi ne ct on) := hD
      refine xz_eq (tgt := 46) hx hb dX2_leastEvent_19 (by decide) (nI_toInt (by omega)) (fun c_19 => ?_) (fun c_19 => ?_)
      · exfalso; omega
      · have hg9 := lst_lt hwf hb6 j (by omega)
        refine lv_iload_n hx hb dX2_leastEvent_22 rfl (lv_at hl 2 rfl) ?_
        refine lv_iconst (v := mI 0) hx hb dX2_leastEvent_23 (by decide) ?_
        refine xi_eq (tgt := 38) hx hb dX2_leastEvent_24 (by decide) (mI_toInt (by omega)) (mI_toInt (by omega)) (fun c_24 => ?_) (fun c_24 => ?_)
        · refine lv_aload_n hx hb dX2_leastEvent_38 rfl (lv_at hl 0 rfl) ?_
          refine va_get (D := D) (ci := 2) (v := .ref (a 4)) (C := RX2) (T := TX2) (N := 8) hx hb hts hiX2 hown hK hP 0 rfl rfl 2 (by decide) (hts (.fieldLink RX2 22 "PairedCells" "shown" "LPairedCells$EventPage;") (by decide +kernel)) (fun _ h9 => h9) rfl dX2_leastEvent_39 ?_
          refine xc_Vi (ci := 1) (rest := []) (As := []) ⟨hx, hb, hml, hown, hts⟩ (c_X1_firstNumber l D (a 4) (a 5) (byt χ b j) (by omega) hw1 hw2) (cwV 0 hts gX2_leastEvent_X1_firstNumber rfl rfl rfl (by decide +kernel) ⟨Nat.le_of_ble_eq_true rfl, Nat.le_of_ble_eq_true rfl⟩) hN hK (wP_shown hP) rfl 0 rfl rfl hl.1 rfl (Nat.le_of_ble_eq_true rfl) dX2_leastEvent_42 ⟨Nat.le_of_ble_eq_true rfl, Nat.le_of_ble_eq_true rfl⟩ (fun r_42 hw_42 => ?_)
          subst hw_42
          refine xr_same (nI_mI (256 * byt χ b j 1 + byt χ b j 2)) ?_
          refine lv_istore_n (lv' := [(2, .int (mI (256 * byt χ b j 1 + byt χ b j 2 + 1))), (0, .ref (a 0)), (1, .ref (a (6 + 4 * b))), (3, .int (nI (j)))]) hx hb dX2_leastEvent_45 rfl hl (by decide) rfl (fun ls hl => ?_)
          refine lv_iinc (v := nI (j + 1)) (lv' := [(3, .int (nI (j + 1))), (2, .int (mI (256 * byt χ b j 1 + byt χ b j 2 + 1))), (0, .ref (a 0)), (1, .ref (a (6 + 4 * b)))]) hx hb dX2_leastEvent_46 hl (k := 3) rfl (nI_add _ _) (by decide) rfl (fun ls hl => ?_)
          refine lv_goto (tgt := 4) hx hb dX2_leastEvent_49 (by decide) ?_
          have e9 : 256 * byt χ b j 1 + byt χ b j 2 + 1 = lst χ b (j + 1) := by first | exact (lst_out hn9).symm | (rw [lst_in hr9]; unfold mn; (repeat' split) <;> omega)
          rw [e9] at hl
          exact ih_4 (j + 1, (byt χ b j)) _ _ _ (⟨by omega, hP, hD, hS⟩) (by first | omega | (dsimp only; omega)) (lv_sub hl [2, 3, 1, 0] rfl)
        · refine lv_aload_n hx hb dX2_leastEvent_27 rfl (lv_at hl 0 rfl) ?_
          refine va_get (D := D) (ci := 2) (v := .ref (a 4)) (C := RX2) (T := TX2) (N := 8) hx hb hts hiX2 hown hK hP 0 rfl rfl 2 (by decide) (hts (.fieldLink RX2 22 "PairedCells" "shown" "LPairedCells$EventPage;") (by decide +kernel)) (fun _ h9 => h9) rfl dX2_leastEvent_28 ?_
          refine xc_Vi (ci := 1) (rest := []) (As := []) ⟨hx, hb, hml, hown, hts⟩ (c_X1_firstNumber l D (a 4) (a 5) (byt χ b j) (by omega) hw1 hw2) (cwV 0 hts gX2_leastEvent_X1_firstNumber rfl rfl rfl (by decide +kernel) ⟨Nat.le_of_ble_eq_true rfl, Nat.le_of_ble_eq_true rfl⟩) hN hK (wP_shown hP) rfl 0 rfl rfl hl.1 rfl (Nat.le_of_ble_eq_true rfl) dX2_leastEvent_31 ⟨Nat.le_of_ble_eq_true rfl, Nat.le_of_ble_eq_true rfl⟩ (fun r_31 hw_31 => ?_)
          subst hw_31
          refine lv_iload_n hx hb dX2_leastEvent_34 rfl (lv_at hl 2 rfl) ?_
          refine xi_ge (tgt := 46) hx hb dX2_leastEvent_35 (by decide) (nI_toInt (by omega)) (mI_toInt (by omega)) (fun c_35 => ?_) (fun c_35 => ?_)
          · refine lv_iinc (v := nI (j + 1)) (lv' := [(3, .int (nI (j + 1))), (0, .ref (a 0)), (1, .ref (a (6 + 4 * b))), (2, .int (mI (lst χ b j)))]) hx hb dX2_leastEvent_46 hl (k := 3) rfl (nI_add _ _) (by decide) rfl (fun ls hl => ?_)
            refine lv_goto (tgt := 4) hx hb dX2_leastEvent_49 (by decide) ?_
            have e9 : lst χ b j = lst χ b (j + 1) := by first | exact (lst_out hn9).symm | (rw [lst_in hr9]; unfold mn; (repeat' split) <;> omega)
            rw [e9] at hl
            exact ih_4 (j + 1, (byt χ b j)) _ _ _ (⟨by omega, hP, hD, hS⟩) (by first | omega | (dsimp only; omega)) (lv_sub hl [1, 2, 3, 0] rfl)
          · refine lv_aload_n hx hb dX2_leastEvent_38 rfl (lv_at hl 0 rfl) ?_
            refine va_get (D := D) (ci := 2) (v := .ref (a 4)) (C := RX2) (T := TX2) (N := 8) hx hb hts hiX2 hown hK hP 0 rfl rfl 2 (by decide) (hts (.fieldLink RX2 22 "PairedCells" "shown" "LPairedCells$EventPage;") (by decide +kernel)) (fun _ h9 => h9) rfl dX2_leastEvent_39 ?_
            refine xc_Vi (ci := 1) (rest := []) (As := []) ⟨hx, hb, hml, hown, hts⟩ (c_X1_firstNumber l D (a 4) (a 5) (byt χ b j) (by omega) hw1 hw2) (cwV 0 hts gX2_leastEvent_X1_firstNumber rfl rfl rfl (by decide +kernel) ⟨Nat.le_of_ble_eq_true rfl, Nat.le_of_ble_eq_true rfl⟩) hN hK (wP_shown hP) rfl 0 rfl rfl hl.1 rfl (Nat.le_of_ble_eq_true rfl) dX2_leastEvent_42 ⟨Nat.le_of_ble_eq_true rfl, Nat.le_of_ble_eq_true rfl⟩ (fun r_42 hw_42 => ?_)
            subst hw_42
            refine xr_same (nI_mI (256 * byt χ b j 1 + byt χ b j 2)) ?_
            refine lv_istore_n (lv' := [(2, .int (mI (256 * byt χ b j 1 + byt χ b j 2 + 1))), (0, .ref (a 0)), (1, .ref (a (6 + 4 * b))), (3, .int (nI (j)))]) hx hb dX2_leastEvent_45 rfl hl (by decide) rfl (fun ls hl => ?_)
            refine lv_iinc (v := nI (j + 1)) (lv' := [(3, .int (nI (j + 1))), (2, .int (mI (256 * byt χ b j 1 + byt χ b j 2 + 1))), (0, .ref (a 0)), (1, .ref (a (6 + 4 * b)))]) hx hb dX2_leastEvent_46 hl (k := 3) rfl (nI_add _ _) (by decide) rfl (fun ls hl => ?_)
            refine lv_goto (tgt := 4) hx hb dX2_leastEvent_49 (by decide) ?_
            have e9 : 256 * byt χ b j 1 + byt χ b j 2 + 1 = lst χ b (j + 1) := by first | exact (lst_out hn9).symm | (rw [lst_in hr9]; unfold mn; (repeat' split) <;> omega)
            rw [e9] at hl
            exact ih_4 (j + 1, (byt χ b j)) _ _ _ (⟨by omega, hP, hD, hS⟩) (by first | omega | (dsimp only; omega)) (lv_sub hl [2, 3, 1, 0] rfl)
    · rw [hu9] at hP1 hD1
      obtain ⟨hP, hD⟩ := jP_blkshown hb6 hP hD hF9 hk9 hP1 hD1
      generalize H1 = H at hP hS ⊢
      have hP : va_P D vwCl (wP cI cB a h9 O χ cu fi ne ct on) H := hP
      have hD : va_D A (wP cI cB a h9 O χ cu fi ne ct on) := hD
      refine xz_eq (tgt := 46) hx hb dX2_leastEvent_19 (by decide) (nI_toInt (by omega)) (fun c_19 => ?_) (fun c_19 => ?_)
      · refine lv_iinc (v := nI (j + 1)) (lv' := [(3, .int (nI (j + 1))), (0, .ref (a 0)), (1, .ref (a (6 + 4 * b))), (2, .int (mI (lst χ b j)))]) hx hb dX2_leastEvent_46 hl (k := 3) rfl (nI_add _ _) (by decide) rfl (fun ls hl => ?_)
        refine lv_goto (tgt := 4) hx hb dX2_leastEvent_49 (by decide) ?_
        have e9 : lst χ b j = lst χ b (j + 1) := by first | exact (lst_out hn9).symm | (rw [lst_in hr9]; unfold mn; (repeat' split) <;> omega)
        rw [e9] at hl
        exact ih_4 (j + 1, h9) _ _ _ (⟨by omega, hP, hD, hS⟩) (by first | omega | (dsimp only; omega)) (lv_sub hl [1, 2, 3, 0] rfl)
      · exfalso; omega

set_option maxHeartbeats 4000000 in
set_option maxRecDepth 100000 in
theorem c_X2_pageWith (l : Launch) (D : va_G) {cI cB : ClassId} (a shw O χ : Nat → Nat) (cu fi ne ct on : Nat) (k : Nat) (hk : k < 65536) (hχ : ∀ i, χ i < 65536) (hwf : wfs χ) (hO0 : O 0 < 65536) (hO1 : O 1 < 256) (hO2 : O 2 < 256) (sz : Nat) : Met l yX2_pageWith wsX2_pageWith ({ frames := 4, cells := 0, slots := 0, locals := 87 }) (va_Pc [.ref (a 0), .int (nI (k))] (x_U D (tyP cI cB) (wP cI cB a shw O χ cu fi ne ct on) sz)) (va_Qq (fun (r : Option Nat) (u : Nat → Nat) => (hits O k ∧ r = some (a 2) ∧ u = shw) ∨ (¬ hits O k ∧ hpg χ k 96 < 96 ∧ r = some (a 4) ∧ u = byt χ (hpg χ k 96 / 16) (hpg χ k 96 % 16)) ∨ (¬ hits O k ∧ hpg χ k 96 = 96 ∧ r = none)) (fun u t => x_E D (tyP cI cB) (va_A (wP cI cB a shw O χ cu fi ne ct on) sz) (wP cI cB a u O χ cu fi ne ct on) t) (va_A (wP cI cB a shw O χ cu fi ne ct on) sz)) 0 0 (va_A (wP cI cB a shw O χ cu fi ne ct on) sz) := by
  refine Met.ofW (cc := cX2_pageWith) (maxL := 4) (ret := (some (.object "PairedCells$EventPage"))) (by decide) rfl ?_
  intro p e s m args below meth c s₁ B hml hv
  obtain ⟨rfl, hsz, hN, hP, hK, hD0⟩ := hv
  have hx := B.exec
  have hb := B.bytes
  have hr := B.returns
  have hts := atoms_spec (ws := wsX2_pageWith) B.pre
  have hown : s.vm.findClass RX2 = some m.cls := findClass_of_methodNamed B.named
  have hlocks := B.notSynchronized
  subst hsz
  have hD := hD0.self (sz := s.heap.size)
  generalize hAe : va_A (wP cI cB a shw O χ cu fi ne ct on) s.heap.size = A at hD ⊢
  have hA : ∀ q : Nat, s.heap.size ≤ q → A q := fun q h => by rw [← hAe]; exact Or.inr h
  obtain ⟨H, hH⟩ : ∃ H : Heap, s.heap = H := ⟨_, rfl⟩
  obtain ⟨locs, hlo⟩ : ∃ L : List Loc, ([] : List Loc) = L := ⟨_, rfl⟩
  have hS : va_S A s.heap H locs := by rw [← hH, ← hlo]; exact va_S.rf
  have hP : va_P D vwCl (wP cI cB a shw O χ cu fi ne ct on) H := hH ▸ hP
  rw [hH, hlo]
  have hiX2 : ∀ w ∈ u_ws RX2 TX2 8, w ∈ wsX2_pageWith := by decide +kernel
  have hl := lv_entry ([.ref (a 0), .int (nI (k))]) (n := 4) (Nat.le_of_ble_eq_true rfl)
  rw [lg_entry_eq]
  generalize (lg_sl ([.ref (a 0), .int (nI (k))]) ++ List.replicate (4 - (lg_sl ([.ref (a 0), .int (nI (k))])).length) Slot.unset).toArray = ls at hl ⊢
  have hl : lv_has ls 4 [(0, .ref (a 0)), (1, .int (nI (k)))] := hl
  refine lv_aload_n hx hb dX2_pageWith_0 rfl (lv_at hl 0 rfl) ?_
  refine va_get (D := D) (ci := 2) (v := .ref (a 2)) (C := RX2) (T := TX2) (N := 8) hx hb hts hiX2 hown hK hP 0 rfl rfl 1 (by decide) (hts (.fieldLink RX2 18 "PairedCells" "openPage" "LPairedCells$EventPage;") (by decide +kernel)) (fun _ h9 => h9) rfl dX2_pageWith_1 ?_
  refine lv_iload_n hx hb dX2_pageWith_4 rfl (lv_at hl 1 rfl) ?_
  refine xc_Vi (ci := 1) (rest := []) (As := [.int (nI (k))]) ⟨hx, hb, hml, hown, hts⟩ (c_X1_holds l D (a 2) (a 3) O hO0 hO1 hO2 k hk) (cwV 1 hts gX2_pageWith_X1_holds rfl rfl rfl (by decide +kernel) ⟨Nat.le_of_ble_eq_true rfl, Nat.le_of_ble_eq_true rfl⟩) hN hK (wP_open hP) rfl 0 rfl rfl hl.1 rfl (Nat.le_of_ble_eq_true rfl) dX2_pageWith_5 ⟨Nat.le_of_ble_eq_true rfl, Nat.le_of_ble_eq_true rfl⟩ (fun r_5 hw_5 => ?_)
  refine xz_eq (tgt := 16) hx hb dX2_pageWith_8 (by decide) rfl (fun c_8 => ?_) (fun c_8 => ?_)
  · have h_8 := bo.f hw_5 c_8
    refine lv_iconst (v := nI 0) hx hb dX2_pageWith_16 (by decide) ?_
    refine lv_istore_n (lv' := [(2, .int (nI (0))), (0, .ref (a 0)), (1, .int (nI (k)))]) hx hb dX2_pageWith_17 rfl hl (by decide) rfl (fun ls hl => ?_)
    refine lpW (α := Nat × (Nat → Nat)) (fun (b, h9) H locs => (b ≤ 6 ∧ ∀ j, j < 16 * b → ¬ hit χ k j) ∧ va_P D vwCl (wP cI cB a h9 O χ cu fi ne ct on) H ∧ va_D A (wP cI cB a h9 O χ cu fi ne ct on) ∧ va_S A s.heap H locs) (fun (b, h9) => [(0, .ref (a 0)), (1, .int (nI (k))), (2, .int (nI (b)))]) 4 (fun (b, h9) => 6 - b) (0, shw) (⟨⟨by omega, fun j hj => absurd hj (by omega)⟩, hP, hD, hS⟩) (lv_sub hl [1, 2, 0] rfl) (fun s9 H locs ls hI9 hl9 ih_18 => ?_)
    obtain ⟨b, h9⟩ := s9
    have hl : lv_has ls 4 [(0, .ref (a 0)), (1, .int (nI (k))), (2, .int (nI (b)))] := hl9
    obtain ⟨⟨hb7, hz1⟩, hP, hD, hS⟩ : (b ≤ 6 ∧ ∀ j, j < 16 * b → ¬ hit χ k j) ∧ va_P D vwCl (wP cI cB a h9 O χ cu fi ne ct on) H ∧ va_D A (wP cI cB a h9 O χ cu fi ne ct on) ∧ va_S A s.heap H locs := hI9
    refine lv_iload_n hx hb dX2_pageWith_18 rfl (lv_at hl 2 rfl) ?_
    refine lv_bipush (v := nI 6) hx hb dX2_pageWith_19 (by decide) ?_
    refine xi_ge (tgt := 77) hx hb dX2_pageWith_21 (by decide) (nI_toInt (by omega)) (nI_toInt (by omega)) (fun c_21 => ?_) (fun c_21 => ?_)
    · refine lv_null hx hb dX2_pageWith_77 ?_
      exact xf_q (post := fun (r : Option Nat) (u : Nat → Nat) => (hits O k ∧ r = some (a 2) ∧ u = shw) ∨ (¬ hits O k ∧ hpg χ k 96 < 96 ∧ r = some (a 4) ∧ u = byt χ (hpg χ k 96 / 16) (hpg χ k 96 % 16)) ∨ (¬ hits O k ∧ hpg χ k 96 = 96 ∧ r = none)) (w1 := fun (u : Nat → Nat) => wP cI cB a u O χ cu fi ne ct on) none h9 hx hb hr hlocks (Or.inr (Or.inr ⟨h_8, (hpg_eq (Nat.le_refl 96) (fun j hj => hz1 j (by omega)) (fun h7 => absurd h7 (Nat.lt_irrefl 96))).symm, rfl⟩)) hP hK hD hS dX2_pageWith_78
    · refine lv_iconst (v := nI 0) hx hb dX2_pageWith_24 (by decide) ?_
      refine lv_istore_n (lv' := [(3, .int (nI (0))), (0, .ref (a 0)), (1, .int (nI (k))), (2, .int (nI (b)))]) hx hb dX2_pageWith_25 rfl hl (by decide) rfl (fun ls hl => ?_)
      refine lpW (α := Nat × (Nat → Nat)) (fun (p9, h9) H locs => (p9 ≤ 16 ∧ ∀ j, j < 16 * b + p9 → ¬ hit χ k j) ∧ va_P D vwCl (wP cI cB a h9 O χ cu fi ne ct on) H ∧ va_D A (wP cI cB a h9 O χ cu fi ne ct on) ∧ va_S A s.heap H locs) (fun (p9, h9) => [(0, .ref (a 0)), (1, .int (nI (k))), (2, .int (nI (b))), (3, .int (nI (p9)))]) 4 (fun (p9, h9) => 16 - p9) (0, h9) (⟨⟨by omega, fun j hj => hz1 j (by omega)⟩, hP, hD, hS⟩) (lv_sub hl [1, 2, 3, 0] rfl) (fun s9 H locs ls hI9 hl9 ih_26 => ?_)
      obtain ⟨p9, h9⟩ := s9
      have hl : lv_has ls 4 [(0, .ref (a 0)), (1, .int (nI (k))), (2, .int (nI (b))), (3, .int (nI (p9)))] := hl9
      obtain ⟨⟨hp9, hz2⟩, hP, hD, hS⟩ : (p9 ≤ 16 ∧ ∀ j, j < 16 * b + p9 → ¬ hit χ k j) ∧ va_P D vwCl (wP cI cB a h9 O χ cu fi ne ct on) H ∧ va_D A (wP cI cB a h9 O χ cu fi ne ct on) ∧ va_S A s.heap H locs := hI9
      have hb6 : b < 6 := by omega
      refine lv_iload_n hx hb dX2_pageWith_26 rfl (lv_at hl 3 rfl) ?_
      refine lv_bipush (v := nI 16) hx hb dX2_pageWith_27 (by decide) ?_
      refine xi_ge (tgt := 71) hx hb dX2_pageWith_29 (by decide) (nI_toInt (by omega)) (nI_toInt (by omega)) (fun c_29 => ?_) (fun c_29 => ?_)
      · refine lv_iinc (v := nI (b + 1)) (lv' := [(2, .int (nI (b + 1))), (0, .ref (a 0)), (1, .int (nI (k))), (3, .int (nI (p9)))]) hx hb dX2_pageWith_71 hl (k := 2) rfl (nI_add _ _) (by decide) rfl (fun ls hl => ?_)
        refine lv_goto (tgt := 18) hx hb dX2_pageWith_74 (by decide) ?_
        exact ih_18 (b + 1, h9) _ _ _ (⟨⟨by omega, fun j hj => hz2 j (by omega)⟩, hP, hD, hS⟩) (by first | omega | (dsimp only; omega)) (lv_sub hl [1, 2, 0] rfl)
      · refine lv_aload_n hx hb dX2_pageWith_32 rfl (lv_at hl 0 rfl) ?_
        refine va_get (D := D) (ci := 2) (v := .ref (a 1)) (C := RX2) (T := TX2) (N := 8) hx hb hts hiX2 hown hK hP 0 rfl rfl 0 (by decide) (hts (.fieldLink RX2 11 "PairedCells" "blocks" "[LPairedCells$Block;") (by decide +kernel)) (fun _ h9 => h9) rfl dX2_pageWith_33 ?_
        refine lv_iload_n hx hb dX2_pageWith_36 rfl (lv_at hl 2 rfl) ?_
        refine xr_aald hx hb hK hP 1 1 rfl rfl (by omega) (by decide) dX2_pageWith_37 ?_
        refine lv_iload_n hx hb dX2_pageWith_38 rfl (lv_at hl 3 rfl) ?_
        refine lv_aload_n hx hb dX2_pageWith_39 rfl (lv_at hl 0 rfl) ?_
        refine va_get (D := D) (ci := 2) (v := .ref (a 4)) (C := RX2) (T := TX2) (N := 8) hx hb hts hiX2 hown hK hP 0 rfl rfl 2 (by decide) (hts (.fieldLink RX2 22 "PairedCells" "shown" "LPairedCells$EventPage;") (by decide +kernel)) (fun _ h9 => h9) rfl dX2_pageWith_40 ?_
        have hF9 := x_hF (dP_blkshown hb6 hD) hS hA
        refine xw_Vi (ci := 0) (rest := []) (As := [.int (nI (p9)), .ref (a 4)]) ⟨hx, hb, hml, hown, hts⟩ (c_X0_show l D a χ b hb6 hχ p9 (by omega) (a 4) (a 5) h9 H.size) (cwV 2 hts gX2_pageWith_X0_show rfl rfl rfl (by decide +kernel) ⟨Nat.le_of_ble_eq_true rfl, Nat.le_of_ble_eq_true rfl⟩) hN hK (wP_blkshown hb6 hP) (dP_blkshown hb6 hD) hS hA rfl 0 rfl rfl hl.1 rfl (Nat.le_of_ble_eq_true rfl) dX2_pageWith_43 ⟨Nat.le_of_ble_eq_true rfl, Nat.le_of_ble_eq_true rfl⟩ (fun r_43 u_43 H1 locs hw_43 hP1 hD1 hDA hk9 hS => ?_)
        rcases hw_43 with ⟨rfl, hr9, rfl⟩ | ⟨rfl, hn9, hu9⟩
        · obtain ⟨hP, hD⟩ := jP_blkshown hb6 hP hD hF9 hk9 hP1 hD1
          obtain ⟨hw0, hw1, hw2, -⟩ := hwf b p9 hb6 (by omega) hr9
          generalize H1 = H at hP hS ⊢
          have hP : va_P D vwCl (wP cI cB a (byt χ b p9) O χ cu fi ne ct on) H := hP
          have hD : va_D A (wP cI cB a (byt χ b p9) O χ cu fi ne ct on) := hD
          refine xz_eq (tgt := 65) hx hb dX2_pageWith_46 (by decide) (nI_toInt (by omega)) (fun c_46 => ?_) (fun c_46 => ?_)
          · exfalso; omega
          · refine lv_aload_n hx hb dX2_pageWith_49 rfl (lv_at hl 0 rfl) ?_
            refine va_get (D := D) (ci := 2) (v := .ref (a 4)) (C := RX2) (T := TX2) (N := 8) hx hb hts hiX2 hown hK hP 0 rfl rfl 2 (by decide) (hts (.fieldLink RX2 22 "PairedCells" "shown" "LPairedCells$EventPage;") (by decide +kernel)) (fun _ h9 => h9) rfl dX2_pageWith_50 ?_
            refine lv_iload_n hx hb dX2_pageWith_53 rfl (lv_at hl 1 rfl) ?_
            refine xc_Vi (ci := 1) (rest := []) (As := [.int (nI (k))]) ⟨hx, hb, hml, hown, hts⟩ (c_X1_holds l D (a 4) (a 5) (byt χ b p9) (by omega) hw1 hw2 k hk) (cwV 1 hts gX2_pageWith_X1_holds rfl rfl rfl (by decide +kernel) ⟨Nat.le_of_ble_eq_true rfl, Nat.le_of_ble_eq_true rfl⟩) hN hK (wP_shown hP) rfl 0 rfl rfl hl.1 rfl (Nat.le_of_ble_eq_true rfl) dX2_pageWith_54 ⟨Nat.le_of_ble_eq_true rfl, Nat.le_of_ble_eq_true rfl⟩ (fun r_54 hw_54 => ?_)
            refine xz_eq (tgt := 65) hx hb dX2_pageWith_57 (by decide) rfl (fun c_57 => ?_) (fun c_57 => ?_)
            · have h_57 := bo.f hw_54 c_57
              refine lv_iinc (v := nI (p9 + 1)) (lv' := [(3, .int (nI (p9 + 1))), (0, .ref (a 0)), (1, .int (nI (k))), (2, .int (nI (b)))]) hx hb dX2_pageWith_65 hl (k := 3) rfl (nI_add _ _) (by decide) rfl (fun ls hl => ?_)
              refine lv_goto (tgt := 26) hx hb dX2_pageWith_68 (by decide) ?_
              exact ih_26 (p9 + 1, (byt χ b p9)) _ _ _ (⟨⟨by omega, fun j hj => by (rcases Nat.lt_succ_iff_lt_or_eq.mp (show j < (16 * b + p9) + 1 by omega) with h7 | h7); exact hz2 j h7; (subst h7; intro h8; unfold hit at h8; rw [show (16 * b + p9) / 16 = b by omega, show (16 * b + p9) % 16 = p9 by omega] at h8; first | exact hn9 h8.1 | exact h_57 h8.2)⟩, hP, hD, hS⟩) (by first | omega | (dsimp only; omega)) (lv_sub hl [1, 2, 3, 0] rfl)
            · have h_57 := bo.t hw_54 c_57
              refine lv_aload_n hx hb dX2_pageWith_60 rfl (lv_at hl 0 rfl) ?_
              refine va_get (D := D) (ci := 2) (v := .ref (a 4)) (C := RX2) (T := TX2) (N := 8) hx hb hts hiX2 hown hK hP 0 rfl rfl 2 (by decide) (hts (.fieldLink RX2 22 "PairedCells" "shown" "LPairedCells$EventPage;") (by decide +kernel)) (fun _ h9 => h9) rfl dX2_pageWith_61 ?_
              exact xf_q (post := fun (r : Option Nat) (u : Nat → Nat) => (hits O k ∧ r = some (a 2) ∧ u = shw) ∨ (¬ hits O k ∧ hpg χ k 96 < 96 ∧ r = some (a 4) ∧ u = byt χ (hpg χ k 96 / 16) (hpg χ k 96 % 16)) ∨ (¬ hits O k ∧ hpg χ k 96 = 96 ∧ r = none)) (w1 := fun (u : Nat → Nat) => wP cI cB a u O χ cu fi ne ct on) (some (a 4)) (byt χ b p9) hx hb hr hlocks (Or.inr (Or.inl (by rw [← hpg_eq (n := 16 * b + p9) (by omega) hz2 (fun _ => by unfold hit; rw [show (16 * b + p9) / 16 = b by omega, show (16 * b + p9) % 16 = p9 by omega]; exact ⟨hr9, h_57⟩)]; exact ⟨h_8, by omega, rfl, by rw [show (16 * b + p9) / 16 = b by omega, show (16 * b + p9) % 16 = p9 by omega]⟩))) hP hK hD hS dX2_pageWith_64
        · rw [hu9] at hP1 hD1
          obtain ⟨hP, hD⟩ := jP_blkshown hb6 hP hD hF9 hk9 hP1 hD1
          generalize H1 = H at hP hS ⊢
          have hP : va_P D vwCl (wP cI cB a h9 O χ cu fi ne ct on) H := hP
          have hD : va_D A (wP cI cB a h9 O χ cu fi ne ct on) := hD
          refine xz_eq (tgt := 65) hx hb dX2_pageWith_46 (by decide) (nI_toInt (by omega)) (fun c_46 => ?_) (fun c_46 => ?_)
          · refine lv_iinc (v := nI (p9 + 1)) (lv' := [(3, .int (nI (p9 + 1))), (0, .ref (a 0)), (1, .int (nI (k))), (2, .int (nI (b)))]) hx hb dX2_pageWith_65 hl (k := 3) rfl (nI_add _ _) (by decide) rfl (fun ls hl => ?_)
            refine lv_goto (tgt := 26) hx hb dX2_pageWith_68 (by decide) ?_
            exact ih_26 (p9 + 1, h9) _ _ _ (⟨⟨by omega, fun j hj => by (rcases Nat.lt_succ_iff_lt_or_eq.mp (show j < (16 * b + p9) + 1 by omega) with h7 | h7); exact hz2 j h7; (subst h7; intro h8; unfold hit at h8; rw [show (16 * b + p9) / 16 = b by omega, show (16 * b + p9) % 16 = p9 by omega] at h8; first | exact hn9 h8.1 | exact h_57 h8.2)⟩, hP, hD, hS⟩) (by first | omega | (dsimp only; omega)) (lv_sub hl [1, 2, 3, 0] rfl)
          · exfalso; omega
  · have h_8 := bo.t hw_5 c_8
    refine lv_aload_n hx hb dX2_pageWith_11 rfl (lv_at hl 0 rfl) ?_
    refine va_get (D := D) (ci := 2) (v := .ref (a 2)) (C := RX2) (T := TX2) (N := 8) hx hb hts hiX2 hown hK hP 0 rfl rfl 1 (by decide) (hts (.fieldLink RX2 18 "PairedCells" "openPage" "LPairedCells$EventPage;") (by decide +kernel)) (fun _ h9 => h9) rfl dX2_pageWith_12 ?_
    exact xf_q (post := fun (r : Option Nat) (u : Nat → Nat) => (hits O k ∧ r = some (a 2) ∧ u = shw) ∨ (¬ hits O k ∧ hpg χ k 96 < 96 ∧ r = some (a 4) ∧ u = byt χ (hpg χ k 96 / 16) (hpg χ k 96 % 16)) ∨ (¬ hits O k ∧ hpg χ k 96 = 96 ∧ r = none)) (w1 := fun (u : Nat → Nat) => wP cI cB a u O χ cu fi ne ct on) (some (a 2)) shw hx hb hr hlocks (Or.inl ⟨h_8, rfl, rfl⟩) hP hK hD hS dX2_pageWith_15

set_option maxHeartbeats 4000000 in
set_option maxRecDepth 100000 in
theorem c_X2_erasedBlocks (l : Launch) (D : va_G) {cI cB : ClassId} (a shw O χ : Nat → Nat) (cu fi ne ct on : Nat) (hχ : ∀ i, χ i < 65536) : Met l yX2_erasedBlocks wsX2_erasedBlocks ({ frames := 2, cells := 0, slots := 0, locals := 41 }) (va_Pc [.ref (a 0)] (x_R D (tyP cI cB) (wP cI cB a shw O χ cu fi ne ct on))) (vp_Si (fun r => r = nI (ern χ 6))) 0 0 (fun _ => False) := by
  refine Met.ofW (cc := cX2_erasedBlocks) (maxL := 3) (ret := (some .int)) (by decide) rfl ?_
  intro p e s m args below meth c s₁ B hml hv
  obtain ⟨rfl, hN, hP, hK⟩ := hv
  have hx := B.exec
  have hb := B.bytes
  have hr := B.returns
  have hts := atoms_spec (ws := wsX2_erasedBlocks) B.pre
  have hown : s.vm.findClass RX2 = some m.cls := findClass_of_methodNamed B.named
  have hlocks := B.notSynchronized
  have hiX2 : ∀ w ∈ u_ws RX2 TX2 8, w ∈ wsX2_erasedBlocks := by decide +kernel
  have hl := lv_entry ([.ref (a 0)]) (n := 3) (Nat.le_of_ble_eq_true rfl)
  rw [lg_entry_eq]
  generalize (lg_sl ([.ref (a 0)]) ++ List.replicate (3 - (lg_sl ([.ref (a 0)])).length) Slot.unset).toArray = ls at hl ⊢
  have hl : lv_has ls 3 [(0, .ref (a 0))] := hl
  refine lv_iconst (v := nI 0) hx hb dX2_erasedBlocks_0 (by decide) ?_
  refine lv_istore_n (lv' := [(1, .int (nI (0))), (0, .ref (a 0))]) hx hb dX2_erasedBlocks_1 rfl hl (by decide) rfl (fun ls hl => ?_)
  refine lv_iconst (v := nI 0) hx hb dX2_erasedBlocks_2 (by decide) ?_
  refine lv_istore_n (lv' := [(2, .int (nI (0))), (1, .int (nI (0))), (0, .ref (a 0))]) hx hb dX2_erasedBlocks_3 rfl hl (by decide) rfl (fun ls hl => ?_)
  refine lpR (α := Nat) (fun b => b ≤ 6) (fun b => [(0, .ref (a 0)), (1, .int (nI (ern χ b))), (2, .int (nI (b)))]) 3 (fun b => 6 - b) 0 (by omega) (lv_sub hl [2, 1, 0] rfl) (fun s9 ls hI9 hl9 ih_4 => ?_)
  obtain ⟨b, rfl⟩ : ∃ z, z = s9 := ⟨_, rfl⟩
  have hl : lv_has ls 3 [(0, .ref (a 0)), (1, .int (nI (ern χ b))), (2, .int (nI (b)))] := hl9
  obtain hb7 : b ≤ 6 := hI9
  refine lv_iload_n hx hb dX2_erasedBlocks_4 rfl (lv_at hl 2 rfl) ?_
  refine lv_bipush (v := nI 6) hx hb dX2_erasedBlocks_5 (by decide) ?_
  refine xi_ge (tgt := 31) hx hb dX2_erasedBlocks_7 (by decide) (nI_toInt (by omega)) (nI_toInt (by omega)) (fun c_7 => ?_) (fun c_7 => ?_)
  · refine lv_iload_n hx hb dX2_erasedBlocks_31 rfl (lv_at hl 1 rfl) ?_
    exact xe_i hx hb hr hlocks (by rw [show b = 6 by omega]) rfl rfl dX2_erasedBlocks_32
  · refine lv_aload_n hx hb dX2_erasedBlocks_10 rfl (lv_at hl 0 rfl) ?_
    refine va_get (D := D) (ci := 2) (v := .ref (a 1)) (C := RX2) (T := TX2) (N := 8) hx hb hts hiX2 hown hK hP 0 rfl rfl 0 (by decide) (hts (.fieldLink RX2 11 "PairedCells" "blocks" "[LPairedCells$Block;") (by decide +kernel)) (fun _ h9 => h9) rfl dX2_erasedBlocks_11 ?_
    refine lv_iload_n hx hb dX2_erasedBlocks_14 rfl (lv_at hl 2 rfl) ?_
    refine xr_aald hx hb hK hP 1 1 rfl rfl (by omega) (by decide) dX2_erasedBlocks_15 ?_
    refine xc_Vi (ci := 0) (rest := []) (As := []) ⟨hx, hb, hml, hown, hts⟩ (c_X0_isErased l D a χ b (by omega) hχ) (cwV 0 hts gX2_erasedBlocks_X0_isErased rfl rfl rfl (by decide +kernel) ⟨Nat.le_of_ble_eq_true rfl, Nat.le_of_ble_eq_true rfl⟩) hN hK (wP_blk (show b < 6 by omega) hP) rfl 0 rfl rfl hl.1 rfl (Nat.le_of_ble_eq_true rfl) dX2_erasedBlocks_16 ⟨Nat.le_of_ble_eq_true rfl, Nat.le_of_ble_eq_true rfl⟩ (fun r_16 hw_16 => ?_)
    refine xz_eq (tgt := 25) hx hb dX2_erasedBlocks_19 (by decide) rfl (fun c_19 => ?_) (fun c_19 => ?_)
    · have h_19 := bo.f hw_16 c_19
      refine lv_iinc (v := nI (b + 1)) (lv' := [(2, .int (nI (b + 1))), (0, .ref (a 0)), (1, .int (nI (ern χ b)))]) hx hb dX2_erasedBlocks_25 hl (k := 2) rfl (nI_add _ _) (by decide) rfl (fun ls hl => ?_)
      refine lv_goto (tgt := 4) hx hb dX2_erasedBlocks_28 (by decide) ?_
      have e9 : ern χ b = ern χ (b + 1) := by first | exact (if_pos h_19).symm | exact (if_neg h_19).symm
      rw [e9] at hl
      exact ih_4 (b + 1) _ (by omega) (by first | omega | (dsimp only; omega)) (lv_sub hl [1, 2, 0] rfl)
    · have h_19 := bo.t hw_16 c_19
      refine lv_iinc (v := nI (ern χ b + 1)) (lv' := [(1, .int (nI (ern χ b + 1))), (0, .ref (a 0)), (2, .int (nI (b)))]) hx hb dX2_erasedBlocks_22 hl (k := 1) rfl (nI_add _ _) (by decide) rfl (fun ls hl => ?_)
      refine lv_iinc (v := nI (b + 1)) (lv' := [(2, .int (nI (b + 1))), (1, .int (nI (ern χ b + 1))), (0, .ref (a 0))]) hx hb dX2_erasedBlocks_25 hl (k := 2) rfl (nI_add _ _) (by decide) rfl (fun ls hl => ?_)
      refine lv_goto (tgt := 4) hx hb dX2_erasedBlocks_28 (by decide) ?_
      have e9 : ern χ b + 1 = ern χ (b + 1) := by first | exact (if_pos h_19).symm | exact (if_neg h_19).symm
      rw [e9] at hl
      exact ih_4 (b + 1) _ (by omega) (by first | omega | (dsimp only; omega)) (lv_sub hl [2, 1, 0] rfl)

set_option maxHeartbeats 4000000 in
set_option maxRecDepth 100000 in
theorem c_X2_eraseUnreadableBlocks (l : Launch) (D : va_G) {cI cB : ClassId} (a shw O χ : Nat → Nat) (cu fi ne ct on : Nat) (hχ : ∀ i, χ i < 65000) (hwf : wfs χ) (sz : Nat) : Met l yX2_eraseUnreadableBlocks wsX2_eraseUnreadableBlocks ({ frames := 5, cells := 0, slots := 0, locals := 110 }) (va_Pc [.ref (a 0)] (x_U D (tyP cI cB) (wP cI cB a shw O χ cu fi ne ct on) sz)) (va_Qv (fun (u : Nat → Nat) => True) (fun u t => x_E D (tyP cI cB) (va_A (wP cI cB a shw O χ cu fi ne ct on) sz) (wP cI cB a u O (eu χ 6) cu fi ne ct on) t) (va_A (wP cI cB a shw O χ cu fi ne ct on) sz)) 0 0 (va_A (wP cI cB a shw O χ cu fi ne ct on) sz) := by
  refine Met.ofW (cc := cX2_eraseUnreadableBlocks) (maxL := 2) (ret := none) (by decide) rfl ?_
  intro p e s m args below meth c s₁ B hml hv
  obtain ⟨rfl, hsz, hN, hP, hK, hD0⟩ := hv
  have hx := B.exec
  have hb := B.bytes
  have hr := B.returns
  have hts := atoms_spec (ws := wsX2_eraseUnreadableBlocks) B.pre
  have hown : s.vm.findClass RX2 = some m.cls := findClass_of_methodNamed B.named
  have hlocks := B.notSynchronized
  subst hsz
  have hD := hD0.self (sz := s.heap.size)
  generalize hAe : va_A (wP cI cB a shw O χ cu fi ne ct on) s.heap.size = A at hD ⊢
  have hA : ∀ q : Nat, s.heap.size ≤ q → A q := fun q h => by rw [← hAe]; exact Or.inr h
  obtain ⟨H, hH⟩ : ∃ H : Heap, s.heap = H := ⟨_, rfl⟩
  obtain ⟨locs, hlo⟩ : ∃ L : List Loc, ([] : List Loc) = L := ⟨_, rfl⟩
  have hS : va_S A s.heap H locs := by rw [← hH, ← hlo]; exact va_S.rf
  have hP : va_P D vwCl (wP cI cB a shw O χ cu fi ne ct on) H := hH ▸ hP
  rw [hH, hlo]
  have hiX2 : ∀ w ∈ u_ws RX2 TX2 8, w ∈ wsX2_eraseUnreadableBlocks := by decide +kernel
  have hl := lv_entry ([.ref (a 0)]) (n := 2) (Nat.le_of_ble_eq_true rfl)
  rw [lg_entry_eq]
  generalize (lg_sl ([.ref (a 0)]) ++ List.replicate (2 - (lg_sl ([.ref (a 0)])).length) Slot.unset).toArray = ls at hl ⊢
  have hl : lv_has ls 2 [(0, .ref (a 0))] := hl
  refine lv_iconst (v := nI 0) hx hb dX2_eraseUnreadableBlocks_0 (by decide) ?_
  refine lv_istore_n (lv' := [(1, .int (nI (0))), (0, .ref (a 0))]) hx hb dX2_eraseUnreadableBlocks_1 rfl hl (by decide) rfl (fun ls hl => ?_)
  refine lpW (α := Nat × (Nat → Nat)) (fun (b, h9) H locs => (b ≤ 6) ∧ va_P D vwCl (wP cI cB a h9 O (eu χ b) cu fi ne ct on) H ∧ va_D A (wP cI cB a h9 O (eu χ b) cu fi ne ct on) ∧ va_S A s.heap H locs) (fun (b, h9) => [(0, .ref (a 0)), (1, .int (nI (b)))]) 2 (fun (b, h9) => 6 - b) (0, shw) (⟨by omega, hP, hD, hS⟩) (lv_sub hl [1, 0] rfl) (fun s9 H locs ls hI9 hl9 ih_2 => ?_)
  obtain ⟨b, h9⟩ := s9
  have hl : lv_has ls 2 [(0, .ref (a 0)), (1, .int (nI (b)))] := hl9
  obtain ⟨hb7, hP, hD, hS⟩ : (b ≤ 6) ∧ va_P D vwCl (wP cI cB a h9 O (eu χ b) cu fi ne ct on) H ∧ va_D A (wP cI cB a h9 O (eu χ b) cu fi ne ct on) ∧ va_S A s.heap H locs := hI9
  refine lv_iload_n hx hb dX2_eraseUnreadableBlocks_2 rfl (lv_at hl 1 rfl) ?_
  refine lv_bipush (v := nI 6) hx hb dX2_eraseUnreadableBlocks_3 (by decide) ?_
  refine xi_ge (tgt := 49) hx hb dX2_eraseUnreadableBlocks_5 (by decide) (nI_toInt (by omega)) (nI_toInt (by omega)) (fun c_5 => ?_) (fun c_5 => ?_)
  · have hq9 : (wP cI cB a h9 O (eu χ b) cu fi ne ct on : va_W) = wP cI cB a h9 O (eu χ 6) cu fi ne ct on := (by rw [show b = 6 by omega])
    exact xf_v (post := fun (u : Nat → Nat) => True) (w1 := fun (u : Nat → Nat) => wP cI cB a u O (eu χ 6) cu fi ne ct on) h9 hx hb hr hlocks (trivial) (va_P.eqw hq9 hP) hK (va_D.eqw hq9 hD) hS dX2_eraseUnreadableBlocks_49
  · refine lv_aload_n hx hb dX2_eraseUnreadableBlocks_8 rfl (lv_at hl 0 rfl) ?_
    refine va_get (D := D) (ci := 2) (v := .ref (a 1)) (C := RX2) (T := TX2) (N := 8) hx hb hts hiX2 hown hK hP 0 rfl rfl 0 (by decide) (hts (.fieldLink RX2 11 "PairedCells" "blocks" "[LPairedCells$Block;") (by decide +kernel)) (fun _ h9 => h9) rfl dX2_eraseUnreadableBlocks_9 ?_
    refine lv_iload_n hx hb dX2_eraseUnreadableBlocks_12 rfl (lv_at hl 1 rfl) ?_
    refine xr_aald hx hb hK hP 1 1 rfl rfl (by omega) (by decide) dX2_eraseUnreadableBlocks_13 ?_
    refine xc_Vi (ci := 0) (rest := []) (As := []) ⟨hx, hb, hml, hown, hts⟩ (c_X0_isErased l D a (eu χ b) b (by omega) (fun i => by have h7 := (eu_le (χ := χ) b (by omega) i).1; have h8 := hχ i; omega)) (cwV 0 hts gX2_eraseUnreadableBlocks_X0_isErased rfl rfl rfl (by decide +kernel) ⟨Nat.le_of_ble_eq_true rfl, Nat.le_of_ble_eq_true rfl⟩) hN hK (wP_blk (show b < 6 by omega) hP) rfl 0 rfl rfl hl.1 rfl (Nat.le_of_ble_eq_true rfl) dX2_eraseUnreadableBlocks_14 ⟨Nat.le_of_ble_eq_true rfl, Nat.le_of_ble_eq_true rfl⟩ (fun r_14 hw_14 => ?_)
    refine xz_ne (tgt := 43) hx hb dX2_eraseUnreadableBlocks_17 (by decide) rfl (fun c_17 => ?_) (fun c_17 => ?_)
    · have h_17 := bo.t hw_14 c_17
      refine lv_iinc (v := nI (b + 1)) (lv' := [(1, .int (nI (b + 1))), (0, .ref (a 0))]) hx hb dX2_eraseUnreadableBlocks_43 hl (k := 1) rfl (nI_add _ _) (by decide) rfl (fun ls hl => ?_)
      refine lv_goto (tgt := 2) hx hb dX2_eraseUnreadableBlocks_46 (by decide) ?_
      have hq9 : (wP cI cB a h9 O (eu χ b) cu fi ne ct on : va_W) = wP cI cB a h9 O (eu χ (b + 1)) cu fi ne ct on := (by first | rw [eu_out (fun h7 => h_17n h7.1)] | rw [eu_out (fun h7 => by omega)] | rw [eu_out (fun h7 => h7.1 h_17)])
      exact ih_2 (b + 1, h9) _ _ _ (⟨by omega, va_P.eqw hq9 hP, va_D.eqw hq9 hD, hS⟩) (by first | omega | (dsimp only; omega)) (lv_sub hl [1, 0] rfl)
    · have h_17 := bo.f hw_14 c_17
      refine lv_aload_n hx hb dX2_eraseUnreadableBlocks_20 rfl (lv_at hl 0 rfl) ?_
      refine lv_aload_n hx hb dX2_eraseUnreadableBlocks_21 rfl (lv_at hl 0 rfl) ?_
      refine va_get (D := D) (ci := 2) (v := .ref (a 1)) (C := RX2) (T := TX2) (N := 8) hx hb hts hiX2 hown hK hP 0 rfl rfl 0 (by decide) (hts (.fieldLink RX2 11 "PairedCells" "blocks" "[LPairedCells$Block;") (by decide +kernel)) (fun _ h9 => h9) rfl dX2_eraseUnreadableBlocks_22 ?_
      refine lv_iload_n hx hb dX2_eraseUnreadableBlocks_25 rfl (lv_at hl 1 rfl) ?_
      refine xr_aald hx hb hK hP 1 1 rfl rfl (by omega) (by decide) dX2_eraseUnreadableBlocks_26 ?_
      have hg9 := grt_lt (wfs_eu hwf b (by omega)) (show b < 6 by omega) 16 (Nat.le_refl _)
      have hF9 := x_hF (hD) hS hA
      refine xw_Vi (ci := 2) (rest := []) (As := [.ref (a (6 + 4 * b))]) ⟨hx, hb, hml, hown, hts⟩ (c_X2_greatestEvent l D a h9 O (eu χ b) cu fi ne ct on b (by omega) (fun i => by have h7 := (eu_le (χ := χ) b (by omega) i).1; have h8 := hχ i; omega) (wfs_eu hwf b (by omega)) H.size) (cwV 1 hts gX2_eraseUnreadableBlocks_X2_greatestEvent rfl rfl rfl (by decide +kernel) ⟨Nat.le_of_ble_eq_true rfl, Nat.le_of_ble_eq_true rfl⟩) hN hK (hP) (hD) hS hA rfl 0 rfl rfl hl.1 rfl (Nat.le_of_ble_eq_true rfl) dX2_eraseUnreadableBlocks_27 ⟨Nat.le_of_ble_eq_true rfl, Nat.le_of_ble_eq_true rfl⟩ (fun r_27 u_27 H1 locs hw_27 hP1 hD1 hDA hk9 hS => ?_)
      subst hw_27
      have hP := hP1
      have hD := hDA
      generalize H1 = H at hP hS ⊢
      have hP : va_P D vwCl (wP cI cB a u_27 O (eu χ b) cu fi ne ct on) H := hP
      have hD : va_D A (wP cI cB a u_27 O (eu χ b) cu fi ne ct on) := hD
      refine lv_iconst (v := mI 0) hx hb dX2_eraseUnreadableBlocks_30 (by decide) ?_
      refine xi_ne (tgt := 43) hx hb dX2_eraseUnreadableBlocks_31 (by decide) (mI_toInt (by omega)) (mI_toInt (by omega)) (fun c_31 => ?_) (fun c_31 => ?_)
      · refine lv_iinc (v := nI (b + 1)) (lv' := [(1, .int (nI (b + 1))), (0, .ref (a 0))]) hx hb dX2_eraseUnreadableBlocks_43 hl (k := 1) rfl (nI_add _ _) (by decide) rfl (fun ls hl => ?_)
        refine lv_goto (tgt := 2) hx hb dX2_eraseUnreadableBlocks_46 (by decide) ?_
        have hq9 : (wP cI cB a u_27 O (eu χ b) cu fi ne ct on : va_W) = wP cI cB a u_27 O (eu χ (b + 1)) cu fi ne ct on := (by first | rw [eu_out (fun h7 => h_17n h7.1)] | rw [eu_out (fun h7 => by omega)] | rw [eu_out (fun h7 => h7.1 h_17)])
        exact ih_2 (b + 1, u_27) _ _ _ (⟨by omega, va_P.eqw hq9 hP, va_D.eqw hq9 hD, hS⟩) (by first | omega | (dsimp only; omega)) (lv_sub hl [1, 0] rfl)
      · refine lv_aload_n hx hb dX2_eraseUnreadableBlocks_34 rfl (lv_at hl 0 rfl) ?_
        refine va_get (D := D) (ci := 2) (v := .ref (a 1)) (C := RX2) (T := TX2) (N := 8) hx hb hts hiX2 hown hK hP 0 rfl rfl 0 (by decide) (hts (.fieldLink RX2 11 "PairedCells" "blocks" "[LPairedCells$Block;") (by decide +kernel)) (fun _ h9 => h9) rfl dX2_eraseUnreadableBlocks_35 ?_
        refine lv_iload_n hx hb dX2_eraseUnreadableBlocks_38 rfl (lv_at hl 1 rfl) ?_
        refine xr_aald hx hb hK hP 1 1 rfl rfl (by omega) (by decide) dX2_eraseUnreadableBlocks_39 ?_
        have hF9 := x_hF (dP_blk (show b < 6 by omega) hD) hS hA
        refine xw_Vv (ci := 0) (rest := []) (As := []) ⟨hx, hb, hml, hown, hts⟩ (c_X0_erase l D a (eu χ b) b (by omega) (fun i => by have h7 := (eu_le (χ := χ) b (by omega) i).1; have h8 := hχ i; omega) H.size) (cwV 0 hts gX2_eraseUnreadableBlocks_X0_erase rfl rfl rfl (by decide +kernel) ⟨Nat.le_of_ble_eq_true rfl, Nat.le_of_ble_eq_true rfl⟩) hN hK (wP_blk (show b < 6 by omega) hP) (dP_blk (show b < 6 by omega) hD) hS hA rfl 0 rfl rfl hl.1 rfl (Nat.le_of_ble_eq_true rfl) dX2_eraseUnreadableBlocks_40 ⟨Nat.le_of_ble_eq_true rfl, Nat.le_of_ble_eq_true rfl⟩ (fun u_40 H1 locs hw_40 hP1 hD1 hDA hk9 hS => ?_)
        obtain ⟨hP, hD⟩ := jP_blk (show b < 6 by omega) hP hD hF9 hk9 hP1 hD1 (fun i hi => ers_out i hi)
        generalize H1 = H at hP hS ⊢
        have hP : va_P D vwCl (wP cI cB a u_27 O (ers (eu χ b) b) cu fi ne ct on) H := hP
        have hD : va_D A (wP cI cB a u_27 O (ers (eu χ b) b) cu fi ne ct on) := hD
        refine lv_iinc (v := nI (b + 1)) (lv' := [(1, .int (nI (b + 1))), (0, .ref (a 0))]) hx hb dX2_eraseUnreadableBlocks_43 hl (k := 1) rfl (nI_add _ _) (by decide) rfl (fun ls hl => ?_)
        refine lv_goto (tgt := 2) hx hb dX2_eraseUnreadableBlocks_46 (by decide) ?_
        have hq9 : (wP cI cB a u_27 O (ers (eu χ b) b) cu fi ne ct on : va_W) = wP cI cB a u_27 O (eu χ (b + 1)) cu fi ne ct on := (by rw [eu_in ⟨h_17, by omega⟩])
        exact ih_2 (b + 1, u_27) _ _ _ (⟨by omega, va_P.eqw hq9 hP, va_D.eqw hq9 hD, hS⟩) (by first | omega | (dsimp only; omega)) (lv_sub hl [1, 0] rfl)

set_option maxHeartbeats 4000000 in
set_option maxRecDepth 100000 in
theorem c_X2_findEvents (l : Launch) (D : va_G) {cI cB : ClassId} (a shw O χ : Nat → Nat) (cu fi ne ct on : Nat) (hχ : ∀ i, χ i < 65536) (hwf : wfs χ) (sz : Nat) : Met l yX2_findEvents wsX2_findEvents ({ frames := 5, cells := 0, slots := 0, locals := 110 }) (va_Pc [.ref (a 0)] (x_U D (tyP cI cB) (wP cI cB a shw O χ cu fi ne ct on) sz)) (va_Qv (fun (u : Nat → Nat) => True) (fun u t => x_E D (tyP cI cB) (va_A (wP cI cB a shw O χ cu fi ne ct on) sz) (wP cI cB a u O χ (cuA χ 6) (lsA χ 6 - 1) (grA χ 6) ct on) t) (va_A (wP cI cB a shw O χ cu fi ne ct on) sz)) 0 0 (va_A (wP cI cB a shw O χ cu fi ne ct on) sz) := by
  refine Met.ofW (cc := cX2_findEvents) (maxL := 6) (ret := none) (by decide) rfl ?_
  intro p e s m args below meth c s₁ B hml hv
  obtain ⟨rfl, hsz, hN, hP, hK, hD0⟩ := hv
  have hx := B.exec
  have hb := B.bytes
  have hr := B.returns
  have hts := atoms_spec (ws := wsX2_findEvents) B.pre
  have hown : s.vm.findClass RX2 = some m.cls := findClass_of_methodNamed B.named
  have hlocks := B.notSynchronized
  subst hsz
  have hD := hD0.self (sz := s.heap.size)
  generalize hAe : va_A (wP cI cB a shw O χ cu fi ne ct on) s.heap.size = A at hD ⊢
  have hA : ∀ q : Nat, s.heap.size ≤ q → A q := fun q h => by rw [← hAe]; exact Or.inr h
  obtain ⟨H, hH⟩ : ∃ H : Heap, s.heap = H := ⟨_, rfl⟩
  obtain ⟨locs, hlo⟩ : ∃ L : List Loc, ([] : List Loc) = L := ⟨_, rfl⟩
  have hS : va_S A s.heap H locs := by rw [← hH, ← hlo]; exact va_S.rf
  have hP : va_P D vwCl (wP cI cB a shw O χ cu fi ne ct on) H := hH ▸ hP
  rw [hH, hlo]
  have hiX2 : ∀ w ∈ u_ws RX2 TX2 8, w ∈ wsX2_findEvents := by decide +kernel
  have hl := lv_entry ([.ref (a 0)]) (n := 6) (Nat.le_of_ble_eq_true rfl)
  rw [lg_entry_eq]
  generalize (lg_sl ([.ref (a 0)]) ++ List.replicate (6 - (lg_sl ([.ref (a 0)])).length) Slot.unset).toArray = ls at hl ⊢
  have hl : lv_has ls 6 [(0, .ref (a 0))] := hl
  refine lv_iconst (v := mI 0) hx hb dX2_findEvents_0 (by decide) ?_
  refine lv_istore_n (lv' := [(1, .int (mI (0))), (0, .ref (a 0))]) hx hb dX2_findEvents_1 rfl hl (by decide) rfl (fun ls hl => ?_)
  refine lv_iconst (v := mI 0) hx hb dX2_findEvents_2 (by decide) ?_
  refine lv_istore_n (lv' := [(2, .int (mI (0))), (1, .int (mI (0))), (0, .ref (a 0))]) hx hb dX2_findEvents_3 rfl hl (by decide) rfl (fun ls hl => ?_)
  refine lv_aload_n hx hb dX2_findEvents_4 rfl (lv_at hl 2 rfl) ?_
  refine lv_iconst (v := nI 0) hx hb dX2_findEvents_5 (by decide) ?_
  refine va_put (D := D) (ci := 2) (v := .int (nI (0))) (ty := .int) (C := RX2) (T := TX2) (N := 8) hx hb hts hiX2 tyX2 tyX2_ok nmX2 hown hK hP hD hS 0 rfl rfl 3 (by decide) (hts (.fieldLink RX2 25 "PairedCells" "current" "I") (by decide +kernel)) (fun _ h9 => h9) rfl (by decide +kernel) rfl rfl (Nat.le_of_ble_eq_true rfl) dX2_findEvents_6 (fun H locs hP hD hS => ?_)
  have hP : va_P D vwCl (wP cI cB a shw O χ 0 fi ne ct on) H := hP
  have hD : va_D A (wP cI cB a shw O χ 0 fi ne ct on) := hD
  refine lv_iconst (v := nI 0) hx hb dX2_findEvents_9 (by decide) ?_
  refine lv_istore_n (lv' := [(3, .int (nI (0))), (2, .int (mI (0))), (1, .int (mI (0))), (0, .ref (a 0))]) hx hb dX2_findEvents_10 rfl hl (by decide) rfl (fun ls hl => ?_)
  refine lpW (α := Nat × (Nat → Nat)) (fun (b, h9) H locs => (b ≤ 6) ∧ va_P D vwCl (wP cI cB a h9 O χ (cuA χ b) fi ne ct on) H ∧ va_D A (wP cI cB a h9 O χ (cuA χ b) fi ne ct on) ∧ va_S A s.heap H locs) (fun (b, h9) => [(0, .ref (a 0)), (1, .int (mI (lsA χ b))), (2, .int (mI (grA χ b))), (3, .int (nI (b)))]) 6 (fun (b, h9) => 6 - b) (0, shw) (⟨by omega, hP, hD, hS⟩) (lv_sub hl [3, 2, 1, 0] rfl) (fun s9 H locs ls hI9 hl9 ih_11 => ?_)
  obtain ⟨b, h9⟩ := s9
  have hl : lv_has ls 6 [(0, .ref (a 0)), (1, .int (mI (lsA χ b))), (2, .int (mI (grA χ b))), (3, .int (nI (b)))] := hl9
  obtain ⟨hb7, hP, hD, hS⟩ : (b ≤ 6) ∧ va_P D vwCl (wP cI cB a h9 O χ (cuA χ b) fi ne ct on) H ∧ va_D A (wP cI cB a h9 O χ (cuA χ b) fi ne ct on) ∧ va_S A s.heap H locs := hI9
  have hl9 := lsA_lt hwf b (by omega)
  have hg9 := grA_lt hwf b (by omega)
  refine lv_iload_n hx hb dX2_findEvents_11 rfl (lv_at hl 3 rfl) ?_
  refine lv_bipush (v := nI 6) hx hb dX2_findEvents_12 (by decide) ?_
  refine xi_ge (tgt := 81) hx hb dX2_findEvents_14 (by decide) (nI_toInt (by omega)) (nI_toInt (by omega)) (fun c_14 => ?_) (fun c_14 => ?_)
  · refine lv_aload_n hx hb dX2_findEvents_81 rfl (lv_at hl 0 rfl) ?_
    refine lv_iload_n hx hb dX2_findEvents_82 rfl (lv_at hl 1 rfl) ?_
    refine lv_iconst (v := mI 0) hx hb dX2_findEvents_83 (by decide) ?_
    refine xi_ne (tgt := 91) hx hb dX2_findEvents_84 (by decide) (mI_toInt (by omega)) (mI_toInt (by omega)) (fun c_84 => ?_) (fun c_84 => ?_)
    · refine lv_iload_n hx hb dX2_findEvents_91 rfl (lv_at hl 1 rfl) ?_
      refine xr_same (mI_nI (show 0 < lsA χ b by omega)) ?_
      refine va_put (D := D) (ci := 2) (v := .int (nI (lsA χ b - 1))) (ty := .int) (C := RX2) (T := TX2) (N := 8) hx hb hts hiX2 tyX2 tyX2_ok nmX2 hown hK hP hD hS 0 rfl rfl 4 (by decide) (hts (.fieldLink RX2 29 "PairedCells" "firstEvent" "I") (by decide +kernel)) (fun _ h9 => h9) rfl (by decide +kernel) rfl rfl (Nat.le_of_ble_eq_true rfl) dX2_findEvents_92 (fun H locs hP hD hS => ?_)
      have hP : va_P D vwCl (wP cI cB a h9 O χ (cuA χ b) (lsA χ b - 1) ne ct on) H := hP
      have hD : va_D A (wP cI cB a h9 O χ (cuA χ b) (lsA χ b - 1) ne ct on) := hD
      refine lv_aload_n hx hb dX2_findEvents_95 rfl (lv_at hl 0 rfl) ?_
      refine lv_iload_n hx hb dX2_findEvents_96 rfl (lv_at hl 2 rfl) ?_
      refine lv_iconst (v := nI 1) hx hb dX2_findEvents_97 (by decide) ?_
      refine xr_addm hx hb dX2_findEvents_98 ?_
      refine va_put (D := D) (ci := 2) (v := .int (nI (grA χ b))) (ty := .int) (C := RX2) (T := TX2) (N := 8) hx hb hts hiX2 tyX2 tyX2_ok nmX2 hown hK hP hD hS 0 rfl rfl 5 (by decide) (hts (.fieldLink RX2 32 "PairedCells" "nextEvent" "I") (by decide +kernel)) (fun _ h9 => h9) rfl (by decide +kernel) rfl rfl (Nat.le_of_ble_eq_true rfl) dX2_findEvents_99 (fun H locs hP hD hS => ?_)
      have hP : va_P D vwCl (wP cI cB a h9 O χ (cuA χ b) (lsA χ b - 1) (grA χ b) ct on) H := hP
      have hD : va_D A (wP cI cB a h9 O χ (cuA χ b) (lsA χ b - 1) (grA χ b) ct on) := hD
      have hq9 : (wP cI cB a h9 O χ (cuA χ b) (lsA χ b - 1) (grA χ b) ct on : va_W) = wP cI cB a h9 O χ (cuA χ 6) (lsA χ 6 - 1) (grA χ 6) ct on := (by have e9 : b = 6 := (by omega); subst e9; first | rfl | (rw [show lsA χ 6 = 0 by omega]))
      exact xf_v (post := fun (u : Nat → Nat) => True) (w1 := fun (u : Nat → Nat) => wP cI cB a u O χ (cuA χ 6) (lsA χ 6 - 1) (grA χ 6) ct on) h9 hx hb hr hlocks (trivial) (va_P.eqw hq9 hP) hK (va_D.eqw hq9 hD) hS dX2_findEvents_102
    · refine lv_iconst (v := nI 0) hx hb dX2_findEvents_87 (by decide) ?_
      refine lv_goto (tgt := 92) hx hb dX2_findEvents_88 (by decide) ?_
      refine va_put (D := D) (ci := 2) (v := .int (nI (0))) (ty := .int) (C := RX2) (T := TX2) (N := 8) hx hb hts hiX2 tyX2 tyX2_ok nmX2 hown hK hP hD hS 0 rfl rfl 4 (by decide) (hts (.fieldLink RX2 29 "PairedCells" "firstEvent" "I") (by decide +kernel)) (fun _ h9 => h9) rfl (by decide +kernel) rfl rfl (Nat.le_of_ble_eq_true rfl) dX2_findEvents_92 (fun H locs hP hD hS => ?_)
      have hP : va_P D vwCl (wP cI cB a h9 O χ (cuA χ b) 0 ne ct on) H := hP
      have hD : va_D A (wP cI cB a h9 O χ (cuA χ b) 0 ne ct on) := hD
      refine lv_aload_n hx hb dX2_findEvents_95 rfl (lv_at hl 0 rfl) ?_
      refine lv_iload_n hx hb dX2_findEvents_96 rfl (lv_at hl 2 rfl) ?_
      refine lv_iconst (v := nI 1) hx hb dX2_findEvents_97 (by decide) ?_
      refine xr_addm hx hb dX2_findEvents_98 ?_
      refine va_put (D := D) (ci := 2) (v := .int (nI (grA χ b))) (ty := .int) (C := RX2) (T := TX2) (N := 8) hx hb hts hiX2 tyX2 tyX2_ok nmX2 hown hK hP hD hS 0 rfl rfl 5 (by decide) (hts (.fieldLink RX2 32 "PairedCells" "nextEvent" "I") (by decide +kernel)) (fun _ h9 => h9) rfl (by decide +kernel) rfl rfl (Nat.le_of_ble_eq_true rfl) dX2_findEvents_99 (fun H locs hP hD hS => ?_)
      have hP : va_P D vwCl (wP cI cB a h9 O χ (cuA χ b) 0 (grA χ b) ct on) H := hP
      have hD : va_D A (wP cI cB a h9 O χ (cuA χ b) 0 (grA χ b) ct on) := hD
      have hq9 : (wP cI cB a h9 O χ (cuA χ b) 0 (grA χ b) ct on : va_W) = wP cI cB a h9 O χ (cuA χ 6) (lsA χ 6 - 1) (grA χ 6) ct on := (by have e9 : b = 6 := (by omega); subst e9; first | rfl | (rw [show lsA χ 6 = 0 by omega]))
      exact xf_v (post := fun (u : Nat → Nat) => True) (w1 := fun (u : Nat → Nat) => wP cI cB a u O χ (cuA χ 6) (lsA χ 6 - 1) (grA χ 6) ct on) h9 hx hb hr hlocks (trivial) (va_P.eqw hq9 hP) hK (va_D.eqw hq9 hD) hS dX2_findEvents_102
  · have hl8 := lst_lt hwf (show b < 6 by omega) 16 (Nat.le_refl _)
    have hg8 := grt_lt hwf (show b < 6 by omega) 16 (Nat.le_refl _)
    refine lv_aload_n hx hb dX2_findEvents_17 rfl (lv_at hl 0 rfl) ?_
    refine lv_aload_n hx hb dX2_findEvents_18 rfl (lv_at hl 0 rfl) ?_
    refine va_get (D := D) (ci := 2) (v := .ref (a 1)) (C := RX2) (T := TX2) (N := 8) hx hb hts hiX2 hown hK hP 0 rfl rfl 0 (by decide) (hts (.fieldLink RX2 11 "PairedCells" "blocks" "[LPairedCells$Block;") (by decide +kernel)) (fun _ h9 => h9) rfl dX2_findEvents_19 ?_
    refine lv_iload_n hx hb dX2_findEvents_22 rfl (lv_at hl 3 rfl) ?_
    refine xr_aald hx hb hK hP 1 1 rfl rfl (by omega) (by decide) dX2_findEvents_23 ?_
    have hF9 := x_hF (hD) hS hA
    refine xw_Vi (ci := 2) (rest := []) (As := [.ref (a (6 + 4 * b))]) ⟨hx, hb, hml, hown, hts⟩ (c_X2_leastEvent l D a h9 O χ (cuA χ b) fi ne ct on b (by omega) hχ hwf H.size) (cwV 1 hts gX2_findEvents_X2_leastEvent rfl rfl rfl (by decide +kernel) ⟨Nat.le_of_ble_eq_true rfl, Nat.le_of_ble_eq_true rfl⟩) hN hK (hP) (hD) hS hA rfl 0 rfl rfl hl.1 rfl (Nat.le_of_ble_eq_true rfl) dX2_findEvents_24 ⟨Nat.le_of_ble_eq_true rfl, Nat.le_of_ble_eq_true rfl⟩ (fun r_24 u_24 H1 locs hw_24 hP1 hD1 hDA hk9 hS => ?_)
    subst hw_24
    have hP := hP1
    have hD := hDA
    generalize H1 = H at hP hS ⊢
    have hP : va_P D vwCl (wP cI cB a u_24 O χ (cuA χ b) fi ne ct on) H := hP
    have hD : va_D A (wP cI cB a u_24 O χ (cuA χ b) fi ne ct on) := hD
    refine lv_istore (lv' := [(4, .int (mI (lst χ b 16))), (0, .ref (a 0)), (1, .int (mI (lsA χ b))), (2, .int (mI (grA χ b))), (3, .int (nI (b)))]) hx hb dX2_findEvents_27 hl (by decide) rfl (fun ls hl => ?_)
    refine lv_aload_n hx hb dX2_findEvents_29 rfl (lv_at hl 1 rfl) ?_
    refine lv_aload_n hx hb dX2_findEvents_30 rfl (lv_at hl 1 rfl) ?_
    refine va_get (D := D) (ci := 2) (v := .ref (a 1)) (C := RX2) (T := TX2) (N := 8) hx hb hts hiX2 hown hK hP 0 rfl rfl 0 (by decide) (hts (.fieldLink RX2 11 "PairedCells" "blocks" "[LPairedCells$Block;") (by decide +kernel)) (fun _ h9 => h9) rfl dX2_findEvents_31 ?_
    refine lv_iload_n hx hb dX2_findEvents_34 rfl (lv_at hl 4 rfl) ?_
    refine xr_aald hx hb hK hP 1 1 rfl rfl (by omega) (by decide) dX2_findEvents_35 ?_
    have hF9 := x_hF (hD) hS hA
    refine xw_Vi (ci := 2) (rest := []) (As := [.ref (a (6 + 4 * b))]) ⟨hx, hb, hml, hown, hts⟩ (c_X2_greatestEvent l D a u_24 O χ (cuA χ b) fi ne ct on b (by omega) hχ hwf H.size) (cwV 1 hts gX2_findEvents_X2_greatestEvent rfl rfl rfl (by decide +kernel) ⟨Nat.le_of_ble_eq_true rfl, Nat.le_of_ble_eq_true rfl⟩) hN hK (hP) (hD) hS hA rfl 0 rfl rfl hl.1 rfl (Nat.le_of_ble_eq_true rfl) dX2_findEvents_36 ⟨Nat.le_of_ble_eq_true rfl, Nat.le_of_ble_eq_true rfl⟩ (fun r_36 u_36 H1 locs hw_36 hP1 hD1 hDA hk9 hS => ?_)
    subst hw_36
    have hP := hP1
    have hD := hDA
    generalize H1 = H at hP hS ⊢
    have hP : va_P D vwCl (wP cI cB a u_36 O χ (cuA χ b) fi ne ct on) H := hP
    have hD : va_D A (wP cI cB a u_36 O χ (cuA χ b) fi ne ct on) := hD
    refine lv_istore (lv' := [(5, .int (mI (grt χ b 16))), (4, .int (mI (lst χ b 16))), (0, .ref (a 0)), (1, .int (mI (lsA χ b))), (2, .int (mI (grA χ b))), (3, .int (nI (b)))]) hx hb dX2_findEvents_39 hl (by decide) rfl (fun ls hl => ?_)
    refine lv_iload hx hb dX2_findEvents_41 (lv_at hl 1 rfl) ?_
    refine lv_iconst (v := mI 0) hx hb dX2_findEvents_43 (by decide) ?_
    refine xi_eq (tgt := 61) hx hb dX2_findEvents_44 (by decide) (mI_toInt (by omega)) (mI_toInt (by omega)) (fun c_44 => ?_) (fun c_44 => ?_)
    · refine lv_iload hx hb dX2_findEvents_61 (lv_at hl 0 rfl) ?_
      refine lv_iload_n hx hb dX2_findEvents_63 rfl (lv_at hl 4 rfl) ?_
      refine xi_le (tgt := 75) hx hb dX2_findEvents_64 (by decide) (mI_toInt (by omega)) (mI_toInt (by omega)) (fun c_64 => ?_) (fun c_64 => ?_)
      · refine lv_iinc (v := nI (b + 1)) (lv' := [(3, .int (nI (b + 1))), (5, .int (mI (grt χ b 16))), (4, .int (mI (lst χ b 16))), (0, .ref (a 0)), (1, .int (mI (lsA χ b))), (2, .int (mI (grA χ b)))]) hx hb dX2_findEvents_75 hl (k := 5) rfl (nI_add _ _) (by decide) rfl (fun ls hl => ?_)
        refine lv_goto (tgt := 11) hx hb dX2_findEvents_78 (by decide) ?_
        have e9 : lsA χ b = lsA χ (b + 1) := by show _ = mn (lsA χ b) (lst χ b 16); unfold mn; (repeat' split) <;> omega
        rw [e9] at hl
        have e9 : grA χ b = grA χ (b + 1) := by show _ = max (grA χ b) (grt χ b 16); omega
        rw [e9] at hl
        have hq9 : (wP cI cB a u_36 O χ (cuA χ b) fi ne ct on : va_W) = wP cI cB a u_36 O χ (cuA χ (b + 1)) fi ne ct on := (by rw [show cuA χ (b + 1) = cuA χ b from cif_f (by omega)])
        exact ih_11 (b + 1, u_36) _ _ _ (⟨by omega, va_P.eqw hq9 hP, va_D.eqw hq9 hD, hS⟩) (by first | omega | (dsimp only; omega)) (lv_sub hl [3, 4, 5, 0] rfl)
      · refine lv_iload hx hb dX2_findEvents_67 (lv_at hl 0 rfl) ?_
        refine lv_istore_n (lv' := [(2, .int (mI (grt χ b 16))), (5, .int (mI (grt χ b 16))), (4, .int (mI (lst χ b 16))), (0, .ref (a 0)), (1, .int (mI (lsA χ b))), (3, .int (nI (b)))]) hx hb dX2_findEvents_69 rfl hl (by decide) rfl (fun ls hl => ?_)
        refine lv_aload_n hx hb dX2_findEvents_70 rfl (lv_at hl 3 rfl) ?_
        refine lv_iload_n hx hb dX2_findEvents_71 rfl (lv_at hl 5 rfl) ?_
        refine va_put (D := D) (ci := 2) (v := .int (nI (b))) (ty := .int) (C := RX2) (T := TX2) (N := 8) hx hb hts hiX2 tyX2 tyX2_ok nmX2 hown hK hP hD hS 0 rfl rfl 3 (by decide) (hts (.fieldLink RX2 25 "PairedCells" "current" "I") (by decide +kernel)) (fun _ h9 => h9) rfl (by decide +kernel) rfl rfl (Nat.le_of_ble_eq_true rfl) dX2_findEvents_72 (fun H locs hP hD hS => ?_)
        have hP : va_P D vwCl (wP cI cB a u_36 O χ b fi ne ct on) H := hP
        have hD : va_D A (wP cI cB a u_36 O χ b fi ne ct on) := hD
        refine lv_iinc (v := nI (b + 1)) (lv' := [(3, .int (nI (b + 1))), (2, .int (mI (grt χ b 16))), (5, .int (mI (grt χ b 16))), (4, .int (mI (lst χ b 16))), (0, .ref (a 0)), (1, .int (mI (lsA χ b)))]) hx hb dX2_findEvents_75 hl (k := 5) rfl (nI_add _ _) (by decide) rfl (fun ls hl => ?_)
        refine lv_goto (tgt := 11) hx hb dX2_findEvents_78 (by decide) ?_
        have e9 : lsA χ b = lsA χ (b + 1) := by show _ = mn (lsA χ b) (lst χ b 16); unfold mn; (repeat' split) <;> omega
        rw [e9] at hl
        have e9 : grt χ b 16 = grA χ (b + 1) := by show _ = max (grA χ b) (grt χ b 16); omega
        rw [e9] at hl
        have hq9 : (wP cI cB a u_36 O χ b fi ne ct on : va_W) = wP cI cB a u_36 O χ (cuA χ (b + 1)) fi ne ct on := (by rw [show cuA χ (b + 1) = b from cif_t (by omega)])
        exact ih_11 (b + 1, u_36) _ _ _ (⟨by omega, va_P.eqw hq9 hP, va_D.eqw hq9 hD, hS⟩) (by first | omega | (dsimp only; omega)) (lv_sub hl [4, 5, 1, 0] rfl)
    · refine lv_iload_n hx hb dX2_findEvents_47 rfl (lv_at hl 3 rfl) ?_
      refine lv_iconst (v := mI 0) hx hb dX2_findEvents_48 (by decide) ?_
      refine xi_eq (tgt := 58) hx hb dX2_findEvents_49 (by decide) (mI_toInt (by omega)) (mI_toInt (by omega)) (fun c_49 => ?_) (fun c_49 => ?_)
      · refine lv_iload hx hb dX2_findEvents_58 (lv_at hl 1 rfl) ?_
        refine lv_istore_n (lv' := [(1, .int (mI (lst χ b 16))), (5, .int (mI (grt χ b 16))), (4, .int (mI (lst χ b 16))), (0, .ref (a 0)), (2, .int (mI (grA χ b))), (3, .int (nI (b)))]) hx hb dX2_findEvents_60 rfl hl (by decide) rfl (fun ls hl => ?_)
        refine lv_iload hx hb dX2_findEvents_61 (lv_at hl 1 rfl) ?_
        refine lv_iload_n hx hb dX2_findEvents_63 rfl (lv_at hl 4 rfl) ?_
        refine xi_le (tgt := 75) hx hb dX2_findEvents_64 (by decide) (mI_toInt (by omega)) (mI_toInt (by omega)) (fun c_64 => ?_) (fun c_64 => ?_)
        · refine lv_iinc (v := nI (b + 1)) (lv' := [(3, .int (nI (b + 1))), (1, .int (mI (lst χ b 16))), (5, .int (mI (grt χ b 16))), (4, .int (mI (lst χ b 16))), (0, .ref (a 0)), (2, .int (mI (grA χ b)))]) hx hb dX2_findEvents_75 hl (k := 5) rfl (nI_add _ _) (by decide) rfl (fun ls hl => ?_)
          refine lv_goto (tgt := 11) hx hb dX2_findEvents_78 (by decide) ?_
          have e9 : lst χ b 16 = lsA χ (b + 1) := by show _ = mn (lsA χ b) (lst χ b 16); unfold mn; (repeat' split) <;> omega
          rw [e9] at hl
          have e9 : grA χ b = grA χ (b + 1) := by show _ = max (grA χ b) (grt χ b 16); omega
          rw [e9] at hl
          have hq9 : (wP cI cB a u_36 O χ (cuA χ b) fi ne ct on : va_W) = wP cI cB a u_36 O χ (cuA χ (b + 1)) fi ne ct on := (by rw [show cuA χ (b + 1) = cuA χ b from cif_f (by omega)])
          exact ih_11 (b + 1, u_36) _ _ _ (⟨by omega, va_P.eqw hq9 hP, va_D.eqw hq9 hD, hS⟩) (by first | omega | (dsimp only; omega)) (lv_sub hl [4, 1, 5, 0] rfl)
        · refine lv_iload hx hb dX2_findEvents_67 (lv_at hl 1 rfl) ?_
          refine lv_istore_n (lv' := [(2, .int (mI (grt χ b 16))), (1, .int (mI (lst χ b 16))), (5, .int (mI (grt χ b 16))), (4, .int (mI (lst χ b 16))), (0, .ref (a 0)), (3, .int (nI (b)))]) hx hb dX2_findEvents_69 rfl hl (by decide) rfl (fun ls hl => ?_)
          refine lv_aload_n hx hb dX2_findEvents_70 rfl (lv_at hl 4 rfl) ?_
          refine lv_iload_n hx hb dX2_findEvents_71 rfl (lv_at hl 5 rfl) ?_
          refine va_put (D := D) (ci := 2) (v := .int (nI (b))) (ty := .int) (C := RX2) (T := TX2) (N := 8) hx hb hts hiX2 tyX2 tyX2_ok nmX2 hown hK hP hD hS 0 rfl rfl 3 (by decide) (hts (.fieldLink RX2 25 "PairedCells" "current" "I") (by decide +kernel)) (fun _ h9 => h9) rfl (by decide +kernel) rfl rfl (Nat.le_of_ble_eq_true rfl) dX2_findEvents_72 (fun H locs hP hD hS => ?_)
          have hP : va_P D vwCl (wP cI cB a u_36 O χ b fi ne ct on) H := hP
          have hD : va_D A (wP cI cB a u_36 O χ b fi ne ct on) := hD
          refine lv_iinc (v := nI (b + 1)) (lv' := [(3, .int (nI (b + 1))), (2, .int (mI (grt χ b 16))), (1, .int (mI (lst χ b 16))), (5, .int (mI (grt χ b 16))), (4, .int (mI (lst χ b 16))), (0, .ref (a 0))]) hx hb dX2_findEvents_75 hl (k := 5) rfl (nI_add _ _) (by decide) rfl (fun ls hl => ?_)
          refine lv_goto (tgt := 11) hx hb dX2_findEvents_78 (by decide) ?_
          have e9 : lst χ b 16 = lsA χ (b + 1) := by show _ = mn (lsA χ b) (lst χ b 16); unfold mn; (repeat' split) <;> omega
          rw [e9] at hl
          have e9 : grt χ b 16 = grA χ (b + 1) := by show _ = max (grA χ b) (grt χ b 16); omega
          rw [e9] at hl
          have hq9 : (wP cI cB a u_36 O χ b fi ne ct on : va_W) = wP cI cB a u_36 O χ (cuA χ (b + 1)) fi ne ct on := (by rw [show cuA χ (b + 1) = b from cif_t (by omega)])
          exact ih_11 (b + 1, u_36) _ _ _ (⟨by omega, va_P.eqw hq9 hP, va_D.eqw hq9 hD, hS⟩) (by first | omega | (dsimp only; omega)) (lv_sub hl [5, 2, 1, 0] rfl)
      · refine lv_iload hx hb dX2_findEvents_52 (lv_at hl 1 rfl) ?_
        refine lv_iload_n hx hb dX2_findEvents_54 rfl (lv_at hl 3 rfl) ?_
        refine xi_ge (tgt := 61) hx hb dX2_findEvents_55 (by decide) (mI_toInt (by omega)) (mI_toInt (by omega)) (fun c_55 => ?_) (fun c_55 => ?_)
        · refine lv_iload hx hb dX2_findEvents_61 (lv_at hl 0 rfl) ?_
          refine lv_iload_n hx hb dX2_findEvents_63 rfl (lv_at hl 4 rfl) ?_
          refine xi_le (tgt := 75) hx hb dX2_findEvents_64 (by decide) (mI_toInt (by omega)) (mI_toInt (by omega)) (fun c_64 => ?_) (fun c_64 => ?_)
          · refine lv_iinc (v := nI (b + 1)) (lv' := [(3, .int (nI (b + 1))), (5, .int (mI (grt χ b 16))), (4, .int (mI (lst χ b 16))), (0, .ref (a 0)), (1, .int (mI (lsA χ b))), (2, .int (mI (grA χ b)))]) hx hb dX2_findEvents_75 hl (k := 5) rfl (nI_add _ _) (by decide) rfl (fun ls hl => ?_)
            refine lv_goto (tgt := 11) hx hb dX2_findEvents_78 (by decide) ?_
            have e9 : lsA χ b = lsA χ (b + 1) := by show _ = mn (lsA χ b) (lst χ b 16); unfold mn; (repeat' split) <;> omega
            rw [e9] at hl
            have e9 : grA χ b = grA χ (b + 1) := by show _ = max (grA χ b) (grt χ b 16); omega
            rw [e9] at hl
            have hq9 : (wP cI cB a u_36 O χ (cuA χ b) fi ne ct on : va_W) = wP cI cB a u_36 O χ (cuA χ (b + 1)) fi ne ct on := (by rw [show cuA χ (b + 1) = cuA χ b from cif_f (by omega)])
            exact ih_11 (b + 1, u_36) _ _ _ (⟨by omega, va_P.eqw hq9 hP, va_D.eqw hq9 hD, hS⟩) (by first | omega | (dsimp only; omega)) (lv_sub hl [3, 4, 5, 0] rfl)
          · refine lv_iload hx hb dX2_findEvents_67 (lv_at hl 0 rfl) ?_
            refine lv_istore_n (lv' := [(2, .int (mI (grt χ b 16))), (5, .int (mI (grt χ b 16))), (4, .int (mI (lst χ b 16))), (0, .ref (a 0)), (1, .int (mI (lsA χ b))), (3, .int (nI (b)))]) hx hb dX2_findEvents_69 rfl hl (by decide) rfl (fun ls hl => ?_)
            refine lv_aload_n hx hb dX2_findEvents_70 rfl (lv_at hl 3 rfl) ?_
            refine lv_iload_n hx hb dX2_findEvents_71 rfl (lv_at hl 5 rfl) ?_
            refine va_put (D := D) (ci := 2) (v := .int (nI (b))) (ty := .int) (C := RX2) (T := TX2) (N := 8) hx hb hts hiX2 tyX2 tyX2_ok nmX2 hown hK hP hD hS 0 rfl rfl 3 (by decide) (hts (.fieldLink RX2 25 "PairedCells" "current" "I") (by decide +kernel)) (fun _ h9 => h9) rfl (by decide +kernel) rfl rfl (Nat.le_of_ble_eq_true rfl) dX2_findEvents_72 (fun H locs hP hD hS => ?_)
            have hP : va_P D vwCl (wP cI cB a u_36 O χ b fi ne ct on) H := hP
            have hD : va_D A (wP cI cB a u_36 O χ b fi ne ct on) := hD
            refine lv_iinc (v := nI (b + 1)) (lv' := [(3, .int (nI (b + 1))), (2, .int (mI (grt χ b 16))), (5, .int (mI (grt χ b 16))), (4, .int (mI (lst χ b 16))), (0, .ref (a 0)), (1, .int (mI (lsA χ b)))]) hx hb dX2_findEvents_75 hl (k := 5) rfl (nI_add _ _) (by decide) rfl (fun ls hl => ?_)
            refine lv_goto (tgt := 11) hx hb dX2_findEvents_78 (by decide) ?_
            have e9 : lsA χ b = lsA χ (b + 1) := by show _ = mn (lsA χ b) (lst χ b 16); unfold mn; (repeat' split) <;> omega
            rw [e9] at hl
            have e9 : grt χ b 16 = grA χ (b + 1) := by show _ = max (grA χ b) (grt χ b 16); omega
            rw [e9] at hl
            have hq9 : (wP cI cB a u_36 O χ b fi ne ct on : va_W) = wP cI cB a u_36 O χ (cuA χ (b + 1)) fi ne ct on := (by rw [show cuA χ (b + 1) = b from cif_t (by omega)])
            exact ih_11 (b + 1, u_36) _ _ _ (⟨by omega, va_P.eqw hq9 hP, va_D.eqw hq9 hD, hS⟩) (by first | omega | (dsimp only; omega)) (lv_sub hl [4, 5, 1, 0] rfl)
        · refine lv_iload hx hb dX2_findEvents_58 (lv_at hl 1 rfl) ?_
          refine lv_istore_n (lv' := [(1, .int (mI (lst χ b 16))), (5, .int (mI (grt χ b 16))), (4, .int (mI (lst χ b 16))), (0, .ref (a 0)), (2, .int (mI (grA χ b))), (3, .int (nI (b)))]) hx hb dX2_findEvents_60 rfl hl (by decide) rfl (fun ls hl => ?_)
          refine lv_iload hx hb dX2_findEvents_61 (lv_at hl 1 rfl) ?_
          refine lv_iload_n hx hb dX2_findEvents_63 rfl (lv_at hl 4 rfl) ?_
          refine xi_le (tgt := 75) hx hb dX2_findEvents_64 (by decide) (mI_toInt (by omega)) (mI_toInt (by omega)) (fun c_64 => ?_) (fun c_64 => ?_)
          · refine lv_iinc (v := nI (b + 1)) (lv' := [(3, .int (nI (b + 1))), (1, .int (mI (lst χ b 16))), (5, .int (mI (grt χ b 16))), (4, .int (mI (lst χ b 16))), (0, .ref (a 0)), (2, .int (mI (grA χ b)))]) hx hb dX2_findEvents_75 hl (k := 5) rfl (nI_add _ _) (by decide) rfl (fun ls hl => ?_)
            refine lv_goto (tgt := 11) hx hb dX2_findEvents_78 (by decide) ?_
            have e9 : lst χ b 16 = lsA χ (b + 1) := by show _ = mn (lsA χ b) (lst χ b 16); unfold mn; (repeat' split) <;> omega
            rw [e9] at hl
            have e9 : grA χ b = grA χ (b + 1) := by show _ = max (grA χ b) (grt χ b 16); omega
            rw [e9] at hl
            have hq9 : (wP cI cB a u_36 O χ (cuA χ b) fi ne ct on : va_W) = wP cI cB a u_36 O χ (cuA χ (b + 1)) fi ne ct on := (by rw [show cuA χ (b + 1) = cuA χ b from cif_f (by omega)])
            exact ih_11 (b + 1, u_36) _ _ _ (⟨by omega, va_P.eqw hq9 hP, va_D.eqw hq9 hD, hS⟩) (by first | omega | (dsimp only; omega)) (lv_sub hl [4, 1, 5, 0] rfl)
          · refine lv_iload hx hb dX2_findEvents_67 (lv_at hl 1 rfl) ?_
            refine lv_istore_n (lv' := [(2, .int (mI (grt χ b 16))), (1, .int (mI (lst χ b 16))), (5, .int (mI (grt χ b 16))), (4, .int (mI (lst χ b 16))), (0, .ref (a 0)), (3, .int (nI (b)))]) hx hb dX2_findEvents_69 rfl hl (by decide) rfl (fun ls hl => ?_)
            refine lv_aload_n hx hb dX2_findEvents_70 rfl (lv_at hl 4 rfl) ?_
            refine lv_iload_n hx hb dX2_findEvents_71 rfl (lv_at hl 5 rfl) ?_
            refine va_put (D := D) (ci := 2) (v := .int (nI (b))) (ty := .int) (C := RX2) (T := TX2) (N := 8) hx hb hts hiX2 tyX2 tyX2_ok nmX2 hown hK hP hD hS 0 rfl rfl 3 (by decide) (hts (.fieldLink RX2 25 "PairedCells" "current" "I") (by decide +kernel)) (fun _ h9 => h9) rfl (by decide +kernel) rfl rfl (Nat.le_of_ble_eq_true rfl) dX2_findEvents_72 (fun H locs hP hD hS => ?_)
            have hP : va_P D vwCl (wP cI cB a u_36 O χ b fi ne ct on) H := hP
            have hD : va_D A (wP cI cB a u_36 O χ b fi ne ct on) := hD
            refine lv_iinc (v := nI (b + 1)) (lv' := [(3, .int (nI (b + 1))), (2, .int (mI (grt χ b 16))), (1, .int (mI (lst χ b 16))), (5, .int (mI (grt χ b 16))), (4, .int (mI (lst χ b 16))), (0, .ref (a 0))]) hx hb dX2_findEvents_75 hl (k := 5) rfl (nI_add _ _) (by decide) rfl (fun ls hl => ?_)
            refine lv_goto (tgt := 11) hx hb dX2_findEvents_78 (by decide) ?_
            have e9 : lst χ b 16 = lsA χ (b + 1) := by show _ = mn (lsA χ b) (lst χ b 16); unfold mn; (repeat' split) <;> omega
            rw [e9] at hl
            have e9 : grt χ b 16 = grA χ (b + 1) := by show _ = max (grA χ b) (grt χ b 16); omega
            rw [e9] at hl
            have hq9 : (wP cI cB a u_36 O χ b fi ne ct on : va_W) = wP cI cB a u_36 O χ (cuA χ (b + 1)) fi ne ct on := (by rw [show cuA χ (b + 1) = b from cif_t (by omega)])
            exact ih_11 (b + 1, u_36) _ _ _ (⟨by omega, va_P.eqw hq9 hP, va_D.eqw hq9 hD, hS⟩) (by first | omega | (dsimp only; omega)) (lv_sub hl [5, 2, 1, 0] rfl)
