set_option maxHeartbeats 4000000 in
set_option maxRecDepth 100000 in
theorem c_X3_append_3 (l : Launch) (D : va_G) {cI : ClassId} (r : Nat → Nat) (th fp fa : Int32) (χ O : Nat → Nat) (cu fi ne ct on : Nat) (hon : on = 1) (k : Nat) (w : Int64) (hk1 : 1 ≤ k) (hk6 : k ≤ 6) (hwO : wf O) (hcu : cu < 6) (hχ : ∀ i, χ i < 65536) (hpx : pfx χ) (hnf : ¬ fit O k) (hfl : ful χ cu) (sz : Nat) : Met l yX3_append wsX3_append ({ frames := 3, cells := 0, slots := 0, locals := 66 }) (va_Pc [.ref (r 0), .int (nI (k)), .long (w)] (x_U D (tyM cI) (wM cI r th fp fa χ (opn O) (O 0) (pl O (O 0)) cu fi ne ct on) sz)) (va_Qi (fun (x : Int32) (u : Unit) => True) (fun u t => x_E D (tyM cI) (va_A (wM cI r th fp fa χ (opn O) (O 0) (pl O (O 0)) cu fi ne ct on) sz) (wM cI r (nI (3)) fp fa χ (opn O) (O 0) (pl O (O 0)) cu fi ne ct on) t) (va_A (wM cI r th fp fa χ (opn O) (O 0) (pl O (O 0)) cu fi ne ct on) sz)) 0 0 (va_A (wM cI r th fp fa χ (opn O) (O 0) (pl O (O 0)) cu fi ne ct on) sz) := by
  refine Met.ofW (cc := cX3_append) (maxL := 5) (ret := (some .int)) (by decide) rfl ?_
  intro p e s m args below meth c s₁ B hml hv
  obtain ⟨rfl, hsz, hN, hP, hK, hD0⟩ := hv
  have hx := B.exec
  have hb := B.bytes
  have hr := B.returns
  have hts := atoms_spec (ws := wsX3_append) B.pre
  have hown : s.vm.findClass RX3 = some m.cls := findClass_of_methodNamed B.named
  have hlocks := B.notSynchronized
  subst hsz
  have hD := hD0.self (sz := s.heap.size)
  generalize hAe : va_A (wM cI r th fp fa χ (opn O) (O 0) (pl O (O 0)) cu fi ne ct on) s.heap.size = A at hD ⊢
  have hA : ∀ q : Nat, s.heap.size ≤ q → A q := fun q h => by rw [← hAe]; exact Or.inr h
  obtain ⟨H, hH⟩ : ∃ H : Heap, s.heap = H := ⟨_, rfl⟩
  obtain ⟨locs, hlo⟩ : ∃ L : List Loc, ([] : List Loc) = L := ⟨_, rfl⟩
  have hS : va_S A s.heap H locs := by rw [← hH, ← hlo]; exact va_S.rf
  have hP : va_P D vwCl (wM cI r th fp fa χ (opn O) (O 0) (pl O (O 0)) cu fi ne ct on) H := hH ▸ hP
  rw [hH, hlo]
  have hiX3 : ∀ w ∈ u_ws RX3 TX3 16, w ∈ wsX3_append := by decide +kernel
  have hl := lv_entry ([.ref (r 0), .int (nI (k)), .long (w)]) (n := 5) (Nat.le_of_ble_eq_true rfl)
  rw [lg_entry_eq]
  generalize (lg_sl ([.ref (r 0), .int (nI (k)), .long (w)]) ++ List.replicate (5 - (lg_sl ([.ref (r 0), .int (nI (k)), .long (w)])).length) Slot.unset).toArray = ls at hl ⊢
  have hl : lv_has ls 5 [(0, .ref (r 0)), (1, .int (nI (k))), (2, .long (w))] := hl
  have hp9 := pl_le hwO (O 0) (Nat.le_refl _)
  unfold fit at hnf
  refine lv_aload_n hx hb dX3_append_0 rfl (lv_at hl 0 rfl) ?_
  refine lv_aload_n hx hb dX3_append_1 rfl (lv_at hl 0 rfl) ?_
  refine va_get (D := D) (ci := 3) (v := .int (nI (on))) (C := RX3) (T := TX3) (N := 16) hx hb hts hiX3 hown hK hP 0 rfl rfl 6 (by decide) (hts (.fieldLink RX3 25 "PairedCellsModel" "on" "Z") (by decide +kernel)) (fun _ h9 => h9) rfl dX3_append_2 ?_
  refine xz_ne (tgt := 12) hx hb dX3_append_5 (by decide) (nI_toInt (by omega)) (fun c_5 => ?_) (fun c_5 => ?_)
  · refine lv_iload_n hx hb dX3_append_12 rfl (lv_at hl 1 rfl) ?_
    refine lv_iconst (v := nI 1) hx hb dX3_append_13 (by decide) ?_
    refine xi_lt (tgt := 23) hx hb dX3_append_14 (by decide) (nI_toInt (by omega)) (nI_toInt (by omega)) (fun c_14 => ?_) (fun c_14 => ?_)
    · exfalso; omega
    · refine lv_iload_n hx hb dX3_append_17 rfl (lv_at hl 1 rfl) ?_
      refine lv_bipush (v := nI 6) hx hb dX3_append_18 (by decide) ?_
      refine xi_le (tgt := 27) hx hb dX3_append_20 (by decide) (nI_toInt (by omega)) (nI_toInt (by omega)) (fun c_20 => ?_) (fun c_20 => ?_)
      · refine lv_iconst (v := nI 0) hx hb dX3_append_27 (by decide) ?_
        refine va_put (D := D) (ci := 3) (v := .int (nI (0))) (ty := .int) (C := RX3) (T := TX3) (N := 16) hx hb hts hiX3 tyX3 tyX3_ok nmX3 hown hK hP hD hS 0 rfl rfl 0 (by decide) (hts (.fieldLink RX3 36 "PairedCellsModel" "thrown" "I") (by decide +kernel)) (fun _ h9 => h9) rfl (by decide +kernel) rfl rfl (Nat.le_of_ble_eq_true rfl) dX3_append_28 (fun H locs hP hD hS => ?_)
        have hP : va_P D vwCl (wM cI r (nI (0)) fp fa χ (opn O) (O 0) (pl O (O 0)) cu fi ne ct on) H := hP
        have hD : va_D A (wM cI r (nI (0)) fp fa χ (opn O) (O 0) (pl O (O 0)) cu fi ne ct on) := hD
        refine lv_aload_n hx hb dX3_append_31 rfl (lv_at hl 0 rfl) ?_
        refine va_get (D := D) (ci := 3) (v := .int (nI (0))) (C := RX3) (T := TX3) (N := 16) hx hb hts hiX3 hown hK hP 0 rfl rfl 0 (by decide) (hts (.fieldLink RX3 36 "PairedCellsModel" "thrown" "I") (by decide +kernel)) (fun _ h9 => h9) rfl dX3_append_32 ?_
        refine xz_eq (tgt := 40) hx hb dX3_append_35 (by decide) (nI_toInt (by omega)) (fun c_35 => ?_) (fun c_35 => ?_)
        · refine lv_aload_n hx hb dX3_append_40 rfl (lv_at hl 0 rfl) ?_
          refine va_get (D := D) (ci := 3) (v := .int (nI ((pl O (O 0))))) (C := RX3) (T := TX3) (N := 16) hx hb hts hiX3 hown hK hP 0 rfl rfl 12 (by decide) (hts (.fieldLink RX3 29 "PairedCellsModel" "taken" "I") (by decide +kernel)) (fun _ h9 => h9) rfl dX3_append_41 ?_
          refine lv_iconst (v := nI 1) hx hb dX3_append_44 (by decide) ?_
          refine xr_add hx hb dX3_append_45 ?_
          refine lv_iload_n hx hb dX3_append_46 rfl (lv_at hl 1 rfl) ?_
          refine xr_add hx hb dX3_append_47 ?_
          refine lv_bipush (v := nI 16) hx hb dX3_append_48 (by decide) ?_
          refine xi_le (tgt := 88) hx hb dX3_append_50 (by decide) (nI_toInt (by omega)) (nI_toInt (by omega)) (fun c_50 => ?_) (fun c_50 => ?_)
          · exfalso; omega
          · refine lv_aload_n hx hb dX3_append_53 rfl (lv_at hl 0 rfl) ?_
            refine lv_aload_n hx hb dX3_append_54 rfl (lv_at hl 0 rfl) ?_
            refine xc_Vi (ci := 3) (rest := [.ref (r 0)]) (As := []) ⟨hx, hb, hml, hown, hts⟩ (c_X3_isFull l D r (nI 0) fp fa χ (opn O) (O 0) (pl O (O 0)) cu fi ne ct on hcu hχ hpx) (cwV 0 hts gX3_append_X3_isFull rfl rfl rfl (by decide +kernel) ⟨Nat.le_of_ble_eq_true rfl, Nat.le_of_ble_eq_true rfl⟩) hN hK (hP) rfl 0 rfl rfl hl.1 rfl (Nat.le_of_ble_eq_true rfl) dX3_append_55 ⟨Nat.le_of_ble_eq_true rfl, Nat.le_of_ble_eq_true rfl⟩ (fun r_55 hw_55 => ?_)
            refine xz_eq (tgt := 65) hx hb dX3_append_58 (by decide) rfl (fun c_58 => ?_) (fun c_58 => ?_)
            · exact absurd hfl (bo.f hw_55 c_58)
            · have h_58 := bo.t hw_55 c_58
              refine lv_iconst (v := nI 3) hx hb dX3_append_61 (by decide) ?_
              refine lv_goto (tgt := 66) hx hb dX3_append_62 (by decide) ?_
              refine va_put (D := D) (ci := 3) (v := .int (nI (3))) (ty := .int) (C := RX3) (T := TX3) (N := 16) hx hb hts hiX3 tyX3 tyX3_ok nmX3 hown hK hP hD hS 0 rfl rfl 0 (by decide) (hts (.fieldLink RX3 36 "PairedCellsModel" "thrown" "I") (by decide +kernel)) (fun _ h9 => h9) rfl (by decide +kernel) rfl rfl (Nat.le_of_ble_eq_true rfl) dX3_append_66 (fun H locs hP hD hS => ?_)
              have hP : va_P D vwCl (wM cI r (nI (3)) fp fa χ (opn O) (O 0) (pl O (O 0)) cu fi ne ct on) H := hP
              have hD : va_D A (wM cI r (nI (3)) fp fa χ (opn O) (O 0) (pl O (O 0)) cu fi ne ct on) := hD
              refine lv_aload_n hx hb dX3_append_69 rfl (lv_at hl 0 rfl) ?_
              refine va_get (D := D) (ci := 3) (v := .int (nI (3))) (C := RX3) (T := TX3) (N := 16) hx hb hts hiX3 hown hK hP 0 rfl rfl 0 (by decide) (hts (.fieldLink RX3 36 "PairedCellsModel" "thrown" "I") (by decide +kernel)) (fun _ h9 => h9) rfl dX3_append_70 ?_
              refine xz_eq (tgt := 78) hx hb dX3_append_73 (by decide) (nI_toInt (by omega)) (fun c_73 => ?_) (fun c_73 => ?_)
              · exfalso; omega
              · refine lv_iconst (v := nI 0) hx hb dX3_append_76 (by decide) ?_
                exact xf_i (post := fun (x : Int32) (u : Unit) => True) (w1 := fun (u : Unit) => wM cI r (nI (3)) fp fa χ (opn O) (O 0) (pl O (O 0)) cu fi ne ct on) () hx hb hr hlocks (trivial) hP hK hD hS dX3_append_77
        · exfalso; omega
      · exfalso; omega
  · exfalso; omega
