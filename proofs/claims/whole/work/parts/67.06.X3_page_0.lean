set_option maxHeartbeats 4000000 in
set_option maxRecDepth 100000 in
theorem c_X3_page_0 (l : Launch) (D : va_G) {cI : ClassId} (r : Nat → Nat) (th fp fa : Int32) (χ O : Nat → Nat) (cu fi ne ct on : Nat) (b k u9 : Nat) (hb6 : b < 6) (hk8 : k < 8) (hu : u9 < 2) (hχ : ∀ i, χ i < 65536) (sz : Nat) : Met l yX3_page wsX3_page ({ frames := 2, cells := 0, slots := 0, locals := 46 }) (va_Pc [.ref (r 0), .int (nI (b)), .int (nI (k)), .int (nI (u9))] (x_U D (tyM cI) (wM cI r th fp fa χ (opn O) (O 0) (pl O (O 0)) cu fi ne ct on) sz)) (va_Qi (fun (x : Int32) (u : Unit) => (reb χ b (plo k u9) ∧ x = nI 3) ∨ (¬ reb χ b (plo k u9) ∧ x = nI (χ (16 * b + plo k u9)))) (fun u t => x_E D (tyM cI) (va_A (wM cI r th fp fa χ (opn O) (O 0) (pl O (O 0)) cu fi ne ct on) sz) (wM cI r (nI (0)) fp fa χ (opn O) (O 0) (pl O (O 0)) cu fi ne ct on) t) (va_A (wM cI r th fp fa χ (opn O) (O 0) (pl O (O 0)) cu fi ne ct on) sz)) 0 0 (va_A (wM cI r th fp fa χ (opn O) (O 0) (pl O (O 0)) cu fi ne ct on) sz) := by
  refine Met.ofW (cc := cX3_page) (maxL := 5) (ret := (some .int)) (by decide) rfl ?_
  intro p e s m args below meth c s₁ B hml hv
  obtain ⟨rfl, hsz, hN, hP, hK, hD0⟩ := hv
  have hx := B.exec
  have hb := B.bytes
  have hr := B.returns
  have hts := atoms_spec (ws := wsX3_page) B.pre
  have hown : s.vm.findClass RX3 = some m.cls := findClass_of_methodNamed B.named
  have hlocks := B.notSynchronized
  subst hsz
  have hD := hD0.self (sz := s.heap.size)
  generalize hAe : va_A (wM cI r th fp fa χ (opn O) (O 0) (pl O (O 0)) cu fi ne ct on) s.heap.size = A at hD ⊢
  have hA : ∀ q : Nat, s.heap.size ≤ q → A q := fun q h => by rw [← hAe]; exact Or.inr h
  obtain ⟨H, hH⟩ : ∃ H : Heap, s.heap = H := ⟨_, rfl⟩
  obtain ⟨locs, hlo⟩ : ∃ L : List Loc, ([] : List Loc) = L := ⟨_, rfl⟩
  have hS : va_S A s.heap H locs := by rw [← hH, ← hlo]; exact va_S.rf
  have hP : va_P D vwCl (wM cI r th fp fa χ (opn O) (O 0) (pl O (O 0)) cu fi ne ct on) H := hH ▸ hP
  rw [hH, hlo]
  have hiX3 : ∀ w ∈ u_ws RX3 TX3 16, w ∈ wsX3_page := by decide +kernel
  have hl := lv_entry ([.ref (r 0), .int (nI (b)), .int (nI (k)), .int (nI (u9))]) (n := 5) (Nat.le_of_ble_eq_true rfl)
  rw [lg_entry_eq]
  generalize (lg_sl ([.ref (r 0), .int (nI (b)), .int (nI (k)), .int (nI (u9))]) ++ List.replicate (5 - (lg_sl ([.ref (r 0), .int (nI (b)), .int (nI (k)), .int (nI (u9))])).length) Slot.unset).toArray = ls at hl ⊢
  have hl : lv_has ls 5 [(0, .ref (r 0)), (1, .int (nI (b))), (2, .int (nI (k))), (3, .int (nI (u9)))] := hl
  have hpl : plo k u9 < 16 := by unfold plo; split <;> omega
  refine lv_aload_n hx hb dX3_page_0 rfl (lv_at hl 0 rfl) ?_
  refine lv_iload_n hx hb dX3_page_1 rfl (lv_at hl 1 rfl) ?_
  refine lv_iload_n hx hb dX3_page_2 rfl (lv_at hl 2 rfl) ?_
  refine xc_Si (rest := [.ref (r 0)]) (As := [.int (nI (b)), .int (nI (k))]) ⟨hx, hb, hml, hown, hts⟩ (c_X3_noPage_0 l D b k hb6 hk8) (va_cwS 2 hts gX3_page_X3_noPage rfl rfl rfl (by decide +kernel) ⟨Nat.le_of_ble_eq_true rfl, Nat.le_of_ble_eq_true rfl⟩) hN hK (va_P_nil) rfl hl.1 rfl (Nat.le_of_ble_eq_true rfl) dX3_page_3 ⟨Nat.le_of_ble_eq_true rfl, Nat.le_of_ble_eq_true rfl⟩ (fun r_3 hw_3 => ?_)
  subst hw_3
  refine xz_eq (tgt := 13) hx hb dX3_page_6 (by decide) (nI_toInt (by omega)) (fun c_6 => ?_) (fun c_6 => ?_)
  · refine lv_iconst (v := nI 0) hx hb dX3_page_13 (by decide) ?_
    refine va_put (D := D) (ci := 3) (v := .int (nI (0))) (ty := .int) (C := RX3) (T := TX3) (N := 16) hx hb hts hiX3 tyX3 tyX3_ok nmX3 hown hK hP hD hS 0 rfl rfl 0 (by decide) (hts (.fieldLink RX3 36 "PairedCellsModel" "thrown" "I") (by decide +kernel)) (fun _ h9 => h9) rfl (by decide +kernel) rfl rfl (Nat.le_of_ble_eq_true rfl) dX3_page_14 (fun H locs hP hD hS => ?_)
    have hP : va_P D vwCl (wM cI r (nI (0)) fp fa χ (opn O) (O 0) (pl O (O 0)) cu fi ne ct on) H := hP
    have hD : va_D A (wM cI r (nI (0)) fp fa χ (opn O) (O 0) (pl O (O 0)) cu fi ne ct on) := hD
    refine lv_aload_n hx hb dX3_page_17 rfl (lv_at hl 0 rfl) ?_
    refine va_get (D := D) (ci := 3) (v := .int (nI (0))) (C := RX3) (T := TX3) (N := 16) hx hb hts hiX3 hown hK hP 0 rfl rfl 0 (by decide) (hts (.fieldLink RX3 36 "PairedCellsModel" "thrown" "I") (by decide +kernel)) (fun _ h9 => h9) rfl dX3_page_18 ?_
    refine xz_eq (tgt := 26) hx hb dX3_page_21 (by decide) (nI_toInt (by omega)) (fun c_21 => ?_) (fun c_21 => ?_)
    · refine lv_iload_n hx hb dX3_page_26 rfl (lv_at hl 1 rfl) ?_
      refine lv_iload_n hx hb dX3_page_27 rfl (lv_at hl 2 rfl) ?_
      refine lv_iload_n hx hb dX3_page_28 rfl (lv_at hl 3 rfl) ?_
      refine xc_Si (rest := []) (As := [.int (nI (b)), .int (nI (k)), .int (nI (u9))]) ⟨hx, hb, hml, hown, hts⟩ (c_X3_place_0 l D b k u9 hb6 hk8 hu) (va_cwS 3 hts gX3_page_X3_place rfl rfl rfl (by decide +kernel) ⟨Nat.le_of_ble_eq_true rfl, Nat.le_of_ble_eq_true rfl⟩) hN hK (va_P_nil) rfl hl.1 rfl (Nat.le_of_ble_eq_true rfl) dX3_page_29 ⟨Nat.le_of_ble_eq_true rfl, Nat.le_of_ble_eq_true rfl⟩ (fun r_29 hw_29 => ?_)
      subst hw_29
      refine lv_istore (lv' := [(4, .int (nI (16 * b + plo k u9))), (0, .ref (r 0)), (1, .int (nI (b))), (2, .int (nI (k))), (3, .int (nI (u9)))]) hx hb dX3_page_32 hl (by decide) rfl (fun ls hl => ?_)
      refine lv_aload_n hx hb dX3_page_34 rfl (lv_at hl 1 rfl) ?_
      refine lv_iload hx hb dX3_page_35 (lv_at hl 0 rfl) ?_
      refine xc_Vi (ci := 3) (rest := []) (As := [.int (nI (16 * b + plo k u9))]) ⟨hx, hb, hml, hown, hts⟩ (c_X3_isRebuilt l D r (nI 0) fp fa χ (opn O) (O 0) (pl O (O 0)) cu fi ne ct on b hb6 (plo k u9) hpl hχ) (cwV 1 hts gX3_page_X3_isRebuilt rfl rfl rfl (by decide +kernel) ⟨Nat.le_of_ble_eq_true rfl, Nat.le_of_ble_eq_true rfl⟩) hN hK (hP) rfl 0 rfl rfl hl.1 rfl (Nat.le_of_ble_eq_true rfl) dX3_page_37 ⟨Nat.le_of_ble_eq_true rfl, Nat.le_of_ble_eq_true rfl⟩ (fun r_37 hw_37 => ?_)
      refine xz_eq (tgt := 47) hx hb dX3_page_40 (by decide) rfl (fun c_40 => ?_) (fun c_40 => ?_)
      · have h_40 := bo.f hw_37 c_40
        refine lv_aload_n hx hb dX3_page_47 rfl (lv_at hl 1 rfl) ?_
        refine va_get (D := D) (ci := 3) (v := .ref (r 1)) (C := RX3) (T := TX3) (N := 16) hx hb hts hiX3 hown hK hP 0 rfl rfl 1 (by decide) (hts (.fieldLink RX3 7 "PairedCellsModel" "states" "[I") (by decide +kernel)) (fun _ h9 => h9) rfl dX3_page_48 ?_
        refine lv_iload hx hb dX3_page_51 (lv_at hl 0 rfl) ?_
        refine xr_iald hx hb hK hP 1 0 rfl rfl (by omega) (by decide) dX3_page_53 ?_
        have hb_53 := hχ (16 * b + plo k u9)
        exact xf_i (post := fun (x : Int32) (u : Unit) => (reb χ b (plo k u9) ∧ x = nI 3) ∨ (¬ reb χ b (plo k u9) ∧ x = nI (χ (16 * b + plo k u9)))) (w1 := fun (u : Unit) => wM cI r (nI (0)) fp fa χ (opn O) (O 0) (pl O (O 0)) cu fi ne ct on) () hx hb hr hlocks (Or.inr ⟨h_40, rfl⟩) hP hK hD hS dX3_page_54
      · have h_40 := bo.t hw_37 c_40
        refine lv_iconst (v := nI 3) hx hb dX3_page_43 (by decide) ?_
        refine lv_goto (tgt := 54) hx hb dX3_page_44 (by decide) ?_
        exact xf_i (post := fun (x : Int32) (u : Unit) => (reb χ b (plo k u9) ∧ x = nI 3) ∨ (¬ reb χ b (plo k u9) ∧ x = nI (χ (16 * b + plo k u9)))) (w1 := fun (u : Unit) => wM cI r (nI (0)) fp fa χ (opn O) (O 0) (pl O (O 0)) cu fi ne ct on) () hx hb hr hlocks (Or.inl ⟨h_40, rfl⟩) hP hK hD hS dX3_page_54
    · exfalso; omega
  · exfalso; omega
