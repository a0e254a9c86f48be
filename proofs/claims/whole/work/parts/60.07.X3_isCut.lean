set_option maxHeartbeats 4000000 in
set_option maxRecDepth 100000 in
theorem c_X3_isCut (l : Launch) (D : va_G) {cI : ClassId} (r : Nat → Nat) (th fp fa : Int32) (χ P : Nat → Nat) (hd tn cu fi ne ct on : Nat) (hct : ct < 100) (sz : Nat) : Met l yX3_isCut wsX3_isCut ({ frames := 0, cells := 0, slots := 0, locals := 0 }) (va_Pc [.ref (r 0)] (x_U D (tyM cI) (wM cI r th fp fa χ P hd tn cu fi ne ct on) sz)) (va_Qi (fun (x : Int32) (u : Nat × Nat) => (ct = 1 ∧ x = nI 1 ∧ u = (0, 0)) ∨ (ct ≠ 1 ∧ x = nI 0 ∧ u = (ct - 1, on))) (fun u t => x_E D (tyM cI) (va_A (wM cI r th fp fa χ P hd tn cu fi ne ct on) sz) (wM cI r th fp fa χ P hd tn cu fi ne (u.1) (u.2)) t) (va_A (wM cI r th fp fa χ P hd tn cu fi ne ct on) sz)) 0 0 (va_A (wM cI r th fp fa χ P hd tn cu fi ne ct on) sz) := by
  refine Met.ofW (cc := cX3_isCut) (maxL := 1) (ret := (some .boolean)) (by decide) rfl ?_
  intro p e s m args below meth c s₁ B hml hv
  obtain ⟨rfl, hsz, hN, hP, hK, hD0⟩ := hv
  have hx := B.exec
  have hb := B.bytes
  have hr := B.returns
  have hts := atoms_spec (ws := wsX3_isCut) B.pre
  have hown : s.vm.findClass RX3 = some m.cls := findClass_of_methodNamed B.named
  have hlocks := B.notSynchronized
  subst hsz
  have hD := hD0.self (sz := s.heap.size)
  generalize hAe : va_A (wM cI r th fp fa χ P hd tn cu fi ne ct on) s.heap.size = A at hD ⊢
  have hA : ∀ q : Nat, s.heap.size ≤ q → A q := fun q h => by rw [← hAe]; exact Or.inr h
  obtain ⟨H, hH⟩ : ∃ H : Heap, s.heap = H := ⟨_, rfl⟩
  obtain ⟨locs, hlo⟩ : ∃ L : List Loc, ([] : List Loc) = L := ⟨_, rfl⟩
  have hS : va_S A s.heap H locs := by rw [← hH, ← hlo]; exact va_S.rf
  have hP : va_P D vwCl (wM cI r th fp fa χ P hd tn cu fi ne ct on) H := hH ▸ hP
  rw [hH, hlo]
  have hiX3 : ∀ w ∈ u_ws RX3 TX3 16, w ∈ wsX3_isCut := by decide +kernel
  have hl := lv_entry ([.ref (r 0)]) (n := 1) (Nat.le_of_ble_eq_true rfl)
  rw [lg_entry_eq]
  generalize (lg_sl ([.ref (r 0)]) ++ List.replicate (1 - (lg_sl ([.ref (r 0)])).length) Slot.unset).toArray = ls at hl ⊢
  have hl : lv_has ls 1 [(0, .ref (r 0))] := hl
  refine lv_aload_n hx hb dX3_isCut_0 rfl (lv_at hl 0 rfl) ?_
  refine va_get (D := D) (ci := 3) (v := .int (nI (ct))) (C := RX3) (T := TX3) (N := 16) hx hb hts hiX3 hown hK hP 0 rfl rfl 7 (by decide) (hts (.fieldLink RX3 47 "PairedCellsModel" "cut" "I") (by decide +kernel)) (fun _ h9 => h9) rfl dX3_isCut_1 ?_
  refine xz_ne (tgt := 9) hx hb dX3_isCut_4 (by decide) (nI_toInt (by omega)) (fun c_4 => ?_) (fun c_4 => ?_)
  · refine lv_aload_n hx hb dX3_isCut_9 rfl (lv_at hl 0 rfl) ?_
    refine lv_dup hx hb dX3_isCut_10 rfl ?_
    refine va_get (D := D) (ci := 3) (v := .int (nI (ct))) (C := RX3) (T := TX3) (N := 16) hx hb hts hiX3 hown hK hP 0 rfl rfl 7 (by decide) (hts (.fieldLink RX3 47 "PairedCellsModel" "cut" "I") (by decide +kernel)) (fun _ h9 => h9) rfl dX3_isCut_11 ?_
    refine lv_iconst (v := nI 1) hx hb dX3_isCut_14 (by decide) ?_
    refine xr_sub hx hb (by omega) dX3_isCut_15 ?_
    refine va_put (D := D) (ci := 3) (v := .int (nI (ct - 1))) (ty := .int) (C := RX3) (T := TX3) (N := 16) hx hb hts hiX3 tyX3 tyX3_ok nmX3 hown hK hP hD hS 0 rfl rfl 7 (by decide) (hts (.fieldLink RX3 47 "PairedCellsModel" "cut" "I") (by decide +kernel)) (fun _ h9 => h9) rfl (by decide +kernel) rfl rfl (Nat.le_of_ble_eq_true rfl) dX3_isCut_16 (fun H locs hP hD hS => ?_)
    have hP : va_P D vwCl (wM cI r th fp fa χ P hd tn cu fi ne (ct - 1) on) H := hP
    have hD : va_D A (wM cI r th fp fa χ P hd tn cu fi ne (ct - 1) on) := hD
    refine lv_aload_n hx hb dX3_isCut_19 rfl (lv_at hl 0 rfl) ?_
    refine va_get (D := D) (ci := 3) (v := .int (nI (ct - 1))) (C := RX3) (T := TX3) (N := 16) hx hb hts hiX3 hown hK hP 0 rfl rfl 7 (by decide) (hts (.fieldLink RX3 47 "PairedCellsModel" "cut" "I") (by decide +kernel)) (fun _ h9 => h9) rfl dX3_isCut_20 ?_
    refine xz_le (tgt := 28) hx hb dX3_isCut_23 (by decide) (nI_toInt (by omega)) (fun c_23 => ?_) (fun c_23 => ?_)
    · refine lv_aload_n hx hb dX3_isCut_28 rfl (lv_at hl 0 rfl) ?_
      refine lv_iconst (v := nI 0) hx hb dX3_isCut_29 (by decide) ?_
      refine va_put (D := D) (ci := 3) (v := .int (nI (0))) (ty := .boolean) (C := RX3) (T := TX3) (N := 16) hx hb hts hiX3 tyX3 tyX3_ok nmX3 hown hK hP hD hS 0 rfl rfl 6 (by decide) (hts (.fieldLink RX3 25 "PairedCellsModel" "on" "Z") (by decide +kernel)) (fun _ h9 => h9) rfl (by decide +kernel) rfl rfl (Nat.le_of_ble_eq_true rfl) dX3_isCut_30 (fun H locs hP hD hS => ?_)
      have hP : va_P D vwCl (wM cI r th fp fa χ P hd tn cu fi ne (ct - 1) 0) H := hP
      have hD : va_D A (wM cI r th fp fa χ P hd tn cu fi ne (ct - 1) 0) := hD
      refine lv_iconst (v := nI 1) hx hb dX3_isCut_33 (by decide) ?_
      have hq9 : (wM cI r th fp fa χ P hd tn cu fi ne (ct - 1) 0 : va_W) = wM cI r th fp fa χ P hd tn cu fi ne 0 0 := (by rw [show ct - 1 = 0 by omega])
      exact xf_z (post := fun (x : Int32) (u : Nat × Nat) => (ct = 1 ∧ x = nI 1 ∧ u = (0, 0)) ∨ (ct ≠ 1 ∧ x = nI 0 ∧ u = (ct - 1, on))) (w1 := fun (u : Nat × Nat) => wM cI r th fp fa χ P hd tn cu fi ne (u.1) (u.2)) (0, 0) hx hb hr hlocks rfl (Or.inl ⟨by omega, rfl, rfl⟩) (va_P.eqw hq9 hP) hK (va_D.eqw hq9 hD) hS dX3_isCut_34
    · refine lv_iconst (v := nI 0) hx hb dX3_isCut_26 (by decide) ?_
      exact xf_z (post := fun (x : Int32) (u : Nat × Nat) => (ct = 1 ∧ x = nI 1 ∧ u = (0, 0)) ∨ (ct ≠ 1 ∧ x = nI 0 ∧ u = (ct - 1, on))) (w1 := fun (u : Nat × Nat) => wM cI r th fp fa χ P hd tn cu fi ne (u.1) (u.2)) (ct - 1, on) hx hb hr hlocks rfl (Or.inr ⟨by omega, rfl, rfl⟩) hP hK hD hS dX3_isCut_27
  · refine lv_iconst (v := nI 0) hx hb dX3_isCut_7 (by decide) ?_
    have hq9 : (wM cI r th fp fa χ P hd tn cu fi ne ct on : va_W) = wM cI r th fp fa χ P hd tn cu fi ne (ct - 1) on := (by rw [show ct - 1 = ct by omega])
    exact xf_z (post := fun (x : Int32) (u : Nat × Nat) => (ct = 1 ∧ x = nI 1 ∧ u = (0, 0)) ∨ (ct ≠ 1 ∧ x = nI 0 ∧ u = (ct - 1, on))) (w1 := fun (u : Nat × Nat) => wM cI r th fp fa χ P hd tn cu fi ne (u.1) (u.2)) (ct - 1, on) hx hb hr hlocks rfl (Or.inr ⟨by omega, rfl, rfl⟩) (va_P.eqw hq9 hP) hK (va_D.eqw hq9 hD) hS dX3_isCut_8
