set_option maxHeartbeats 4000000 in
set_option maxRecDepth 100000 in
theorem c_X3_at_2 (l : Launch) (D : va_G) {cI : ClassId} (r : Nat → Nat) (th fp fa : Int32) (χ O : Nat → Nat) (cu fi ne ct on : Nat) (b k u9 : Nat) (hb6 : b < 6) (hk8 : k < 8) (hu : u9 < 2) (hχ : ∀ i, χ i < 65536) (i : Nat) (hi : i < 16) (hrd : ¬ rdb χ b (plo k u9)) (sz : Nat) : Met l yX3_at wsX3_at ({ frames := 3, cells := 0, slots := 0, locals := 67 }) (va_Pc [.ref (r 0), .int (nI (b)), .int (nI (k)), .int (nI (u9)), .int (nI (i))] (x_U D (tyM cI) (wM cI r th fp fa χ (opn O) (O 0) (pl O (O 0)) cu fi ne ct on) sz)) (va_Qi (fun (x : Int32) (u : Unit) => True) (fun u t => x_E D (tyM cI) (va_A (wM cI r th fp fa χ (opn O) (O 0) (pl O (O 0)) cu fi ne ct on) sz) (wM cI r (nI (2)) fp fa χ (opn O) (O 0) (pl O (O 0)) cu fi ne ct on) t) (va_A (wM cI r th fp fa χ (opn O) (O 0) (pl O (O 0)) cu fi ne ct on) sz)) 0 0 (va_A (wM cI r th fp fa χ (opn O) (O 0) (pl O (O 0)) cu fi ne ct on) sz) := by
  refine Met.ofW (cc := cX3_at) (maxL := 6) (ret := (some .int)) (by decide) rfl ?_
  intro p e s m args below meth c s₁ B hml hv
  obtain ⟨rfl, hsz, hN, hP, hK, hD0⟩ := hv
  have hx := B.exec
  have hb := B.bytes
  have hr := B.returns
  have hts := atoms_spec (ws := wsX3_at) B.pre
  have hown : s.vm.findClass RX3 = some m.cls := findClass_of_methodNamed B.named
  have hlocks := B.notSynchronized
  subst hsz
  have hD := hD0.self (sz := s.heap.size)
  generalize hAe : va_A (wM cI r th fp fa χ (opn O) (O 0) (pl O (O 0)) cu fi ne ct on) s.heap.size = A at hD ⊢
  have hA : ∀ q : Nat, s.heap.size ≤ q → A q := fun q h => by rw [← hAe]; exact Or.inr h
  obtain ⟨H, hH⟩ : ∃ H : Heap, s.heap = H := ⟨_, rfl⟩
  obtain ⟨locs, hlo⟩ : ∃ L : List Loc, ([] : List Loc) = L := ⟨_, rfl⟩
  have hS : va_S A s.heap H locs := by rw [← hH, ← hlo]; exact va_S.rf
  have hP : va_P D vwCl (wM cI r th fp fa χ (opn O) (O 0) (pl O (O 0)) cu fi ne ct on) H := hH ▸ hP
  rw [hH, hlo]
  have hiX3 : ∀ w ∈ u_ws RX3 TX3 16, w ∈ wsX3_at := by decide +kernel
  have hl := lv_entry ([.ref (r 0), .int (nI (b)), .int (nI (k)), .int (nI (u9)), .int (nI (i))]) (n := 6) (Nat.le_of_ble_eq_true rfl)
  rw [lg_entry_eq]
  generalize (lg_sl ([.ref (r 0), .int (nI (b)), .int (nI (k)), .int (nI (u9)), .int (nI (i))]) ++ List.replicate (6 - (lg_sl ([.ref (r 0), .int (nI (b)), .int (nI (k)), .int (nI (u9)), .int (nI (i))])).length) Slot.unset).toArray = ls at hl ⊢
  have hl : lv_has ls 6 [(0, .ref (r 0)), (1, .int (nI (b))), (2, .int (nI (k))), (3, .int (nI (u9))), (4, .int (nI (i)))] := hl
  have hpl : plo k u9 < 16 := by unfold plo; split <;> omega
  refine lv_aload_n hx hb dX3_at_0 rfl (lv_at hl 0 rfl) ?_
  refine lv_iload_n hx hb dX3_at_1 rfl (lv_at hl 1 rfl) ?_
  refine lv_iload_n hx hb dX3_at_2 rfl (lv_at hl 2 rfl) ?_
  refine xc_Si (rest := [.ref (r 0)]) (As := [.int (nI (b)), .int (nI (k))]) ⟨hx, hb, hml, hown, hts⟩ (c_X3_noPage_0 l D b k hb6 hk8) (va_cwS 2 hts gX3_at_X3_noPage rfl rfl rfl (by decide +kernel) ⟨Nat.le_of_ble_eq_true rfl, Nat.le_of_ble_eq_true rfl⟩) hN hK (va_P_nil) rfl hl.1 rfl (Nat.le_of_ble_eq_true rfl) dX3_at_3 ⟨Nat.le_of_ble_eq_true rfl, Nat.le_of_ble_eq_true rfl⟩ (fun r_3 hw_3 => ?_)
  subst hw_3
  refine xz_ne (tgt := 21) hx hb dX3_at_6 (by decide) (nI_toInt (by omega)) (fun c_6 => ?_) (fun c_6 => ?_)
  · exfalso; omega
  · refine lv_iload hx hb dX3_at_9 (lv_at hl 4 rfl) ?_
    refine xz_lt (tgt := 21) hx hb dX3_at_11 (by decide) (nI_toInt (by omega)) (fun c_11 => ?_) (fun c_11 => ?_)
    · exfalso; omega
    · refine lv_iload hx hb dX3_at_14 (lv_at hl 4 rfl) ?_
      refine lv_bipush (v := nI 15) hx hb dX3_at_16 (by decide) ?_
      refine xi_le (tgt := 25) hx hb dX3_at_18 (by decide) (nI_toInt (by omega)) (nI_toInt (by omega)) (fun c_18 => ?_) (fun c_18 => ?_)
      · refine lv_iconst (v := nI 0) hx hb dX3_at_25 (by decide) ?_
        refine va_put (D := D) (ci := 3) (v := .int (nI (0))) (ty := .int) (C := RX3) (T := TX3) (N := 16) hx hb hts hiX3 tyX3 tyX3_ok nmX3 hown hK hP hD hS 0 rfl rfl 0 (by decide) (hts (.fieldLink RX3 36 "PairedCellsModel" "thrown" "I") (by decide +kernel)) (fun _ h9 => h9) rfl (by decide +kernel) rfl rfl (Nat.le_of_ble_eq_true rfl) dX3_at_26 (fun H locs hP hD hS => ?_)
        have hP : va_P D vwCl (wM cI r (nI (0)) fp fa χ (opn O) (O 0) (pl O (O 0)) cu fi ne ct on) H := hP
        have hD : va_D A (wM cI r (nI (0)) fp fa χ (opn O) (O 0) (pl O (O 0)) cu fi ne ct on) := hD
        refine lv_aload_n hx hb dX3_at_29 rfl (lv_at hl 0 rfl) ?_
        refine va_get (D := D) (ci := 3) (v := .int (nI (0))) (C := RX3) (T := TX3) (N := 16) hx hb hts hiX3 hown hK hP 0 rfl rfl 0 (by decide) (hts (.fieldLink RX3 36 "PairedCellsModel" "thrown" "I") (by decide +kernel)) (fun _ h9 => h9) rfl dX3_at_30 ?_
        refine xz_eq (tgt := 38) hx hb dX3_at_33 (by decide) (nI_toInt (by omega)) (fun c_33 => ?_) (fun c_33 => ?_)
        · refine lv_iload_n hx hb dX3_at_38 rfl (lv_at hl 1 rfl) ?_
          refine lv_iload_n hx hb dX3_at_39 rfl (lv_at hl 2 rfl) ?_
          refine lv_iload_n hx hb dX3_at_40 rfl (lv_at hl 3 rfl) ?_
          refine xc_Si (rest := []) (As := [.int (nI (b)), .int (nI (k)), .int (nI (u9))]) ⟨hx, hb, hml, hown, hts⟩ (c_X3_place_0 l D b k u9 hb6 hk8 hu) (va_cwS 3 hts gX3_at_X3_place rfl rfl rfl (by decide +kernel) ⟨Nat.le_of_ble_eq_true rfl, Nat.le_of_ble_eq_true rfl⟩) hN hK (va_P_nil) rfl hl.1 rfl (Nat.le_of_ble_eq_true rfl) dX3_at_41 ⟨Nat.le_of_ble_eq_true rfl, Nat.le_of_ble_eq_true rfl⟩ (fun r_41 hw_41 => ?_)
          subst hw_41
          refine lv_istore (lv' := [(5, .int (nI (16 * b + plo k u9))), (0, .ref (r 0)), (1, .int (nI (b))), (2, .int (nI (k))), (3, .int (nI (u9))), (4, .int (nI (i)))]) hx hb dX3_at_44 hl (by decide) rfl (fun ls hl => ?_)
          refine lv_aload_n hx hb dX3_at_46 rfl (lv_at hl 1 rfl) ?_
          refine lv_aload_n hx hb dX3_at_47 rfl (lv_at hl 1 rfl) ?_
          refine lv_iload hx hb dX3_at_48 (lv_at hl 0 rfl) ?_
          refine xc_Vi (ci := 3) (rest := [.ref (r 0)]) (As := [.int (nI (16 * b + plo k u9))]) ⟨hx, hb, hml, hown, hts⟩ (c_X3_isReadable l D r (nI 0) fp fa χ (opn O) (O 0) (pl O (O 0)) cu fi ne ct on b hb6 (plo k u9) hpl hχ) (cwV 1 hts gX3_at_X3_isReadable rfl rfl rfl (by decide +kernel) ⟨Nat.le_of_ble_eq_true rfl, Nat.le_of_ble_eq_true rfl⟩) hN hK (hP) rfl 0 rfl rfl hl.1 rfl (Nat.le_of_ble_eq_true rfl) dX3_at_50 ⟨Nat.le_of_ble_eq_true rfl, Nat.le_of_ble_eq_true rfl⟩ (fun r_50 hw_50 => ?_)
          refine xz_eq (tgt := 60) hx hb dX3_at_53 (by decide) rfl (fun c_53 => ?_) (fun c_53 => ?_)
          · have h_53 := bo.f hw_50 c_53
            refine lv_iconst (v := nI 2) hx hb dX3_at_60 (by decide) ?_
            refine va_put (D := D) (ci := 3) (v := .int (nI (2))) (ty := .int) (C := RX3) (T := TX3) (N := 16) hx hb hts hiX3 tyX3 tyX3_ok nmX3 hown hK hP hD hS 0 rfl rfl 0 (by decide) (hts (.fieldLink RX3 36 "PairedCellsModel" "thrown" "I") (by decide +kernel)) (fun _ h9 => h9) rfl (by decide +kernel) rfl rfl (Nat.le_of_ble_eq_true rfl) dX3_at_61 (fun H locs hP hD hS => ?_)
            have hP : va_P D vwCl (wM cI r (nI (2)) fp fa χ (opn O) (O 0) (pl O (O 0)) cu fi ne ct on) H := hP
            have hD : va_D A (wM cI r (nI (2)) fp fa χ (opn O) (O 0) (pl O (O 0)) cu fi ne ct on) := hD
            refine lv_aload_n hx hb dX3_at_64 rfl (lv_at hl 1 rfl) ?_
            refine va_get (D := D) (ci := 3) (v := .int (nI (2))) (C := RX3) (T := TX3) (N := 16) hx hb hts hiX3 hown hK hP 0 rfl rfl 0 (by decide) (hts (.fieldLink RX3 36 "PairedCellsModel" "thrown" "I") (by decide +kernel)) (fun _ h9 => h9) rfl dX3_at_65 ?_
            refine xz_ne (tgt := 82) hx hb dX3_at_68 (by decide) (nI_toInt (by omega)) (fun c_68 => ?_) (fun c_68 => ?_)
            · refine lv_iconst (v := nI 0) hx hb dX3_at_82 (by decide) ?_
              exact xf_i (post := fun (x : Int32) (u : Unit) => True) (w1 := fun (u : Unit) => wM cI r (nI (2)) fp fa χ (opn O) (O 0) (pl O (O 0)) cu fi ne ct on) () hx hb hr hlocks (trivial) hP hK hD hS dX3_at_83
            · exfalso; omega
          · exact absurd (bo.t hw_50 c_53) hrd
        · exfalso; omega
      · exfalso; omega
