set_option maxHeartbeats 4000000 in
set_option maxRecDepth 100000 in
theorem c_X3_guarded_2 (l : Launch) (D : va_G) {cI : ClassId} (r : Nat → Nat) (th fp fa : Int32) (χ O : Nat → Nat) (cu fi ne ct on : Nat) (b : Nat) (hb6 : b < 6) (hχ : ∀ i, χ i < 65536) (i : Nat) (hi : i < 17) (hg : χ (100 + b) ≠ 1) (sz : Nat) : Met l yX3_guarded wsX3_guarded ({ frames := 0, cells := 0, slots := 0, locals := 0 }) (va_Pc [.ref (r 0), .int (nI (b)), .int (nI (i))] (x_U D (tyM cI) (wM cI r th fp fa χ (opn O) (O 0) (pl O (O 0)) cu fi ne ct on) sz)) (va_Qi (fun (x : Int32) (u : Unit) => True) (fun u t => x_E D (tyM cI) (va_A (wM cI r th fp fa χ (opn O) (O 0) (pl O (O 0)) cu fi ne ct on) sz) (wM cI r (nI (2)) fp fa χ (opn O) (O 0) (pl O (O 0)) cu fi ne ct on) t) (va_A (wM cI r th fp fa χ (opn O) (O 0) (pl O (O 0)) cu fi ne ct on) sz)) 0 0 (va_A (wM cI r th fp fa χ (opn O) (O 0) (pl O (O 0)) cu fi ne ct on) sz) := by
  refine Met.ofW (cc := cX3_guarded) (maxL := 3) (ret := (some .int)) (by decide) rfl ?_
  intro p e s m args below meth c s₁ B hml hv
  obtain ⟨rfl, hsz, hN, hP, hK, hD0⟩ := hv
  have hx := B.exec
  have hb := B.bytes
  have hr := B.returns
  have hts := atoms_spec (ws := wsX3_guarded) B.pre
  have hown : s.vm.findClass RX3 = some m.cls := findClass_of_methodNamed B.named
  have hlocks := B.notSynchronized
  subst hsz
  have hD := hD0.self (sz := s.heap.size)
  generalize hAe : va_A (wM cI r th fp fa χ (opn O) (O 0) (pl O (O 0)) cu fi ne ct on) s.heap.size = A at hD ⊢
  have hA : ∀ q : Nat, s.heap.size ≤ q → A q := fun q h => by rw [← hAe]; exact Or.inr h
  obtain ⟨H, hH⟩ : ∃ H : Heap, s.heap = H := ⟨_, rfl⟩
  obtain ⟨locs, hlo⟩ : ∃ L : List Loc, ([] : List Loc) = L := ⟨_, rfl⟩
  have hS : va_S A s.heap H locs := by rw [← hH, ← hlo]; exact va_S.rf
  have hP : va_P D vwCl (wM cI r th fp fa χ (opn O) (O 0) (pl O (O 0)) cu fi ne ct on) H := hH ▸ hP
  rw [hH, hlo]
  have hiX3 : ∀ w ∈ u_ws RX3 TX3 16, w ∈ wsX3_guarded := by decide +kernel
  have hl := lv_entry ([.ref (r 0), .int (nI (b)), .int (nI (i))]) (n := 3) (Nat.le_of_ble_eq_true rfl)
  rw [lg_entry_eq]
  generalize (lg_sl ([.ref (r 0), .int (nI (b)), .int (nI (i))]) ++ List.replicate (3 - (lg_sl ([.ref (r 0), .int (nI (b)), .int (nI (i))])).length) Slot.unset).toArray = ls at hl ⊢
  have hl : lv_has ls 3 [(0, .ref (r 0)), (1, .int (nI (b))), (2, .int (nI (i)))] := hl
  refine lv_aload_n hx hb dX3_guarded_0 rfl (lv_at hl 0 rfl) ?_
  refine lv_iload_n hx hb dX3_guarded_1 rfl (lv_at hl 1 rfl) ?_
  refine xz_lt (tgt := 20) hx hb dX3_guarded_2 (by decide) (nI_toInt (by omega)) (fun c_2 => ?_) (fun c_2 => ?_)
  · exfalso; omega
  · refine lv_iload_n hx hb dX3_guarded_5 rfl (lv_at hl 1 rfl) ?_
    refine lv_iconst (v := nI 5) hx hb dX3_guarded_6 (by decide) ?_
    refine xi_gt (tgt := 20) hx hb dX3_guarded_7 (by decide) (nI_toInt (by omega)) (nI_toInt (by omega)) (fun c_7 => ?_) (fun c_7 => ?_)
    · exfalso; omega
    · refine lv_iload_n hx hb dX3_guarded_10 rfl (lv_at hl 2 rfl) ?_
      refine xz_lt (tgt := 20) hx hb dX3_guarded_11 (by decide) (nI_toInt (by omega)) (fun c_11 => ?_) (fun c_11 => ?_)
      · exfalso; omega
      · refine lv_iload_n hx hb dX3_guarded_14 rfl (lv_at hl 2 rfl) ?_
        refine lv_bipush (v := nI 16) hx hb dX3_guarded_15 (by decide) ?_
        refine xi_le (tgt := 24) hx hb dX3_guarded_17 (by decide) (nI_toInt (by omega)) (nI_toInt (by omega)) (fun c_17 => ?_) (fun c_17 => ?_)
        · refine lv_iconst (v := nI 0) hx hb dX3_guarded_24 (by decide) ?_
          refine va_put (D := D) (ci := 3) (v := .int (nI (0))) (ty := .int) (C := RX3) (T := TX3) (N := 16) hx hb hts hiX3 tyX3 tyX3_ok nmX3 hown hK hP hD hS 0 rfl rfl 0 (by decide) (hts (.fieldLink RX3 36 "PairedCellsModel" "thrown" "I") (by decide +kernel)) (fun _ h9 => h9) rfl (by decide +kernel) rfl rfl (Nat.le_of_ble_eq_true rfl) dX3_guarded_25 (fun H locs hP hD hS => ?_)
          have hP : va_P D vwCl (wM cI r (nI (0)) fp fa χ (opn O) (O 0) (pl O (O 0)) cu fi ne ct on) H := hP
          have hD : va_D A (wM cI r (nI (0)) fp fa χ (opn O) (O 0) (pl O (O 0)) cu fi ne ct on) := hD
          refine lv_aload_n hx hb dX3_guarded_28 rfl (lv_at hl 0 rfl) ?_
          refine va_get (D := D) (ci := 3) (v := .int (nI (0))) (C := RX3) (T := TX3) (N := 16) hx hb hts hiX3 hown hK hP 0 rfl rfl 0 (by decide) (hts (.fieldLink RX3 36 "PairedCellsModel" "thrown" "I") (by decide +kernel)) (fun _ h9 => h9) rfl dX3_guarded_29 ?_
          refine xz_eq (tgt := 37) hx hb dX3_guarded_32 (by decide) (nI_toInt (by omega)) (fun c_32 => ?_) (fun c_32 => ?_)
          · refine lv_aload_n hx hb dX3_guarded_37 rfl (lv_at hl 0 rfl) ?_
            refine lv_aload_n hx hb dX3_guarded_38 rfl (lv_at hl 0 rfl) ?_
            refine va_get (D := D) (ci := 3) (v := .ref (r 3)) (C := RX3) (T := TX3) (N := 16) hx hb hts hiX3 hown hK hP 0 rfl rfl 3 (by decide) (hts (.fieldLink RX3 16 "PairedCellsModel" "guards" "[I") (by decide +kernel)) (fun _ h9 => h9) rfl dX3_guarded_39 ?_
            refine lv_iload_n hx hb dX3_guarded_42 rfl (lv_at hl 1 rfl) ?_
            refine xr_iald hx hb hK hP 3 0 rfl rfl (by omega) (by decide) dX3_guarded_43 ?_
            have hb_43 := hχ (100 + b)
            refine lv_iconst (v := nI 1) hx hb dX3_guarded_44 (by decide) ?_
            refine xi_ne (tgt := 52) hx hb dX3_guarded_45 (by decide) (nI_toInt (by omega)) (nI_toInt (by omega)) (fun c_45 => ?_) (fun c_45 => ?_)
            · refine lv_iconst (v := nI 2) hx hb dX3_guarded_52 (by decide) ?_
              refine va_put (D := D) (ci := 3) (v := .int (nI (2))) (ty := .int) (C := RX3) (T := TX3) (N := 16) hx hb hts hiX3 tyX3 tyX3_ok nmX3 hown hK hP hD hS 0 rfl rfl 0 (by decide) (hts (.fieldLink RX3 36 "PairedCellsModel" "thrown" "I") (by decide +kernel)) (fun _ h9 => h9) rfl (by decide +kernel) rfl rfl (Nat.le_of_ble_eq_true rfl) dX3_guarded_53 (fun H locs hP hD hS => ?_)
              have hP : va_P D vwCl (wM cI r (nI (2)) fp fa χ (opn O) (O 0) (pl O (O 0)) cu fi ne ct on) H := hP
              have hD : va_D A (wM cI r (nI (2)) fp fa χ (opn O) (O 0) (pl O (O 0)) cu fi ne ct on) := hD
              refine lv_aload_n hx hb dX3_guarded_56 rfl (lv_at hl 0 rfl) ?_
              refine va_get (D := D) (ci := 3) (v := .int (nI (2))) (C := RX3) (T := TX3) (N := 16) hx hb hts hiX3 hown hK hP 0 rfl rfl 0 (by decide) (hts (.fieldLink RX3 36 "PairedCellsModel" "thrown" "I") (by decide +kernel)) (fun _ h9 => h9) rfl dX3_guarded_57 ?_
              refine xz_ne (tgt := 77) hx hb dX3_guarded_60 (by decide) (nI_toInt (by omega)) (fun c_60 => ?_) (fun c_60 => ?_)
              · refine lv_iconst (v := nI 0) hx hb dX3_guarded_77 (by decide) ?_
                exact xf_i (post := fun (x : Int32) (u : Unit) => True) (w1 := fun (u : Unit) => wM cI r (nI (2)) fp fa χ (opn O) (O 0) (pl O (O 0)) cu fi ne ct on) () hx hb hr hlocks (trivial) hP hK hD hS dX3_guarded_78
              · exfalso; omega
            · exfalso; omega
          · exfalso; omega
        · exfalso; omega
