set_option maxHeartbeats 4000000 in
set_option maxRecDepth 100000 in
theorem c_X3_trim_0 (l : Launch) (D : va_G) {cI : ClassId} (r : Nat → Nat) (th fp fa : Int32) (χ O : Nat → Nat) (cu fi ne ct on : Nat) (hon : on = 1) (hcu : cu < 6) (k : Nat) (h1 : fi ≤ k) (h2 : k ≤ ne) (h3 : ne < 65536) (hχ : ∀ i, χ i < 65000) (hpx : pfx χ) (hwf : wfs χ) (sz : Nat) : Met l yX3_trim wsX3_trim ({ frames := 5, cells := 0, slots := 0, locals := 112 }) (va_Pc [.ref (r 0), .int (nI (k))] (x_U D (tyM cI) (wM cI r th fp fa χ (opn O) (O 0) (pl O (O 0)) cu fi ne ct on) sz)) (va_Qi (fun (x : Int32) (u : Unit) => x = nI (trc χ cu k 6)) (fun u t => x_E D (tyM cI) (va_A (wM cI r th fp fa χ (opn O) (O 0) (pl O (O 0)) cu fi ne ct on) sz) (wM cI r (nI (0)) fp fa (tr χ cu k 6) (opn O) (O 0) (pl O (O 0)) cu k ne ct on) t) (va_A (wM cI r th fp fa χ (opn O) (O 0) (pl O (O 0)) cu fi ne ct on) sz)) 0 0 (va_A (wM cI r th fp fa χ (opn O) (O 0) (pl O (O 0)) cu fi ne ct on) sz) := by
  refine Met.ofW (cc := cX3_trim) (maxL := 4) (ret := (some .int)) (by decide) rfl ?_
  intro p e s m args below meth c s₁ B hml hv
  obtain ⟨rfl, hsz, hN, hP, hK, hD0⟩ := hv
  have hx := B.exec
  have hb := B.bytes
  have hr := B.returns
  have hts := atoms_spec (ws := wsX3_trim) B.pre
  have hown : s.vm.findClass RX3 = some m.cls := findClass_of_methodNamed B.named
  have hlocks := B.notSynchronized
  subst hsz
  have hD := hD0.self (sz := s.heap.size)
  generalize hAe : va_A (wM cI r th fp fa χ (opn O) (O 0) (pl O (O 0)) cu fi ne ct on) s.heap.size = A at hD ⊢
  have hA : ∀ q : Nat, s.heap.size ≤ q → A q := fun q h => by rw [← hAe]; exact Or.inr h
  obtain ⟨H, hH⟩ : ∃ H : Heap, s.heap = H := ⟨_, rfl⟩
  obtain ⟨locs, hlo⟩ : ∃ L : List Loc, ([] : List Loc) = L := ⟨_, rfl⟩
  have hS : va_S A s.heap H locs := by rw [← hH, ← hlo]; exact va_S.rf
  have hP : va_P D vwCl (wM cI r th fp fa χ (opn O) (O 0) (pl O (O 0)) cu fi ne ct on) H := hH ▸ hP
  rw [hH, hlo]
  have hiX3 : ∀ w ∈ u_ws RX3 TX3 16, w ∈ wsX3_trim := by decide +kernel
  have hl := lv_entry ([.ref (r 0), .int (nI (k))]) (n := 4) (Nat.le_of_ble_eq_true rfl)
  rw [lg_entry_eq]
  generalize (lg_sl ([.ref (r 0), .int (nI (k))]) ++ List.replicate (4 - (lg_sl ([.ref (r 0), .int (nI (k))])).length) Slot.unset).toArray = ls at hl ⊢
  have hl : lv_has ls 4 [(0, .ref (r 0)), (1, .int (nI (k)))] := hl
  refine lv_aload_n hx hb dX3_trim_0 rfl (lv_at hl 0 rfl) ?_
  refine lv_aload_n hx hb dX3_trim_1 rfl (lv_at hl 0 rfl) ?_
  refine va_get (D := D) (ci := 3) (v := .int (nI (on))) (C := RX3) (T := TX3) (N := 16) hx hb hts hiX3 hown hK hP 0 rfl rfl 6 (by decide) (hts (.fieldLink RX3 25 "PairedCellsModel" "on" "Z") (by decide +kernel)) (fun _ h9 => h9) rfl dX3_trim_2 ?_
  refine xz_ne (tgt := 12) hx hb dX3_trim_5 (by decide) (nI_toInt (by omega)) (fun c_5 => ?_) (fun c_5 => ?_)
  · refine lv_iload_n hx hb dX3_trim_12 rfl (lv_at hl 1 rfl) ?_
    refine lv_aload_n hx hb dX3_trim_13 rfl (lv_at hl 0 rfl) ?_
    refine va_get (D := D) (ci := 3) (v := .int (nI (fi))) (C := RX3) (T := TX3) (N := 16) hx hb hts hiX3 hown hK hP 0 rfl rfl 9 (by decide) (hts (.fieldLink RX3 107 "PairedCellsModel" "least" "I") (by decide +kernel)) (fun _ h9 => h9) rfl dX3_trim_14 ?_
    refine xi_lt (tgt := 28) hx hb dX3_trim_17 (by decide) (nI_toInt (by omega)) (nI_toInt (by omega)) (fun c_17 => ?_) (fun c_17 => ?_)
    · exfalso; omega
    · refine lv_iload_n hx hb dX3_trim_20 rfl (lv_at hl 1 rfl) ?_
      refine lv_aload_n hx hb dX3_trim_21 rfl (lv_at hl 0 rfl) ?_
      refine va_get (D := D) (ci := 3) (v := .int (nI (ne))) (C := RX3) (T := TX3) (N := 16) hx hb hts hiX3 hown hK hP 0 rfl rfl 10 (by decide) (hts (.fieldLink RX3 73 "PairedCellsModel" "next" "I") (by decide +kernel)) (fun _ h9 => h9) rfl dX3_trim_22 ?_
      refine xi_le (tgt := 32) hx hb dX3_trim_25 (by decide) (nI_toInt (by omega)) (nI_toInt (by omega)) (fun c_25 => ?_) (fun c_25 => ?_)
      · refine lv_iconst (v := nI 0) hx hb dX3_trim_32 (by decide) ?_
        refine va_put (D := D) (ci := 3) (v := .int (nI (0))) (ty := .int) (C := RX3) (T := TX3) (N := 16) hx hb hts hiX3 tyX3 tyX3_ok nmX3 hown hK hP hD hS 0 rfl rfl 0 (by decide) (hts (.fieldLink RX3 36 "PairedCellsModel" "thrown" "I") (by decide +kernel)) (fun _ h9 => h9) rfl (by decide +kernel) rfl rfl (Nat.le_of_ble_eq_true rfl) dX3_trim_33 (fun H locs hP hD hS => ?_)
        have hP : va_P D vwCl (wM cI r (nI (0)) fp fa χ (opn O) (O 0) (pl O (O 0)) cu fi ne ct on) H := hP
        have hD : va_D A (wM cI r (nI (0)) fp fa χ (opn O) (O 0) (pl O (O 0)) cu fi ne ct on) := hD
        refine lv_aload_n hx hb dX3_trim_36 rfl (lv_at hl 0 rfl) ?_
        refine va_get (D := D) (ci := 3) (v := .int (nI (0))) (C := RX3) (T := TX3) (N := 16) hx hb hts hiX3 hown hK hP 0 rfl rfl 0 (by decide) (hts (.fieldLink RX3 36 "PairedCellsModel" "thrown" "I") (by decide +kernel)) (fun _ h9 => h9) rfl dX3_trim_37 ?_
        refine xz_eq (tgt := 45) hx hb dX3_trim_40 (by decide) (nI_toInt (by omega)) (fun c_40 => ?_) (fun c_40 => ?_)
        · refine lv_aload_n hx hb dX3_trim_45 rfl (lv_at hl 0 rfl) ?_
          refine lv_iload_n hx hb dX3_trim_46 rfl (lv_at hl 1 rfl) ?_
          refine va_put (D := D) (ci := 3) (v := .int (nI (k))) (ty := .int) (C := RX3) (T := TX3) (N := 16) hx hb hts hiX3 tyX3 tyX3_ok nmX3 hown hK hP hD hS 0 rfl rfl 9 (by decide) (hts (.fieldLink RX3 107 "PairedCellsModel" "least" "I") (by decide +kernel)) (fun _ h9 => h9) rfl (by decide +kernel) rfl rfl (Nat.le_of_ble_eq_true rfl) dX3_trim_47 (fun H locs hP hD hS => ?_)
          have hP : va_P D vwCl (wM cI r (nI (0)) fp fa χ (opn O) (O 0) (pl O (O 0)) cu k ne ct on) H := hP
          have hD : va_D A (wM cI r (nI (0)) fp fa χ (opn O) (O 0) (pl O (O 0)) cu k ne ct on) := hD
          refine lv_iconst (v := nI 0) hx hb dX3_trim_50 (by decide) ?_
          refine lv_istore_n (lv' := [(2, .int (nI (0))), (0, .ref (r 0)), (1, .int (nI (k)))]) hx hb dX3_trim_51 rfl hl (by decide) rfl (fun ls hl => ?_)
          refine lv_iconst (v := nI 0) hx hb dX3_trim_52 (by decide) ?_
          refine lv_istore_n (lv' := [(3, .int (nI (0))), (2, .int (nI (0))), (0, .ref (r 0)), (1, .int (nI (k)))]) hx hb dX3_trim_53 rfl hl (by decide) rfl (fun ls hl => ?_)
          refine lpW (α := Nat) (fun b H locs => (b ≤ 6) ∧ va_P D vwCl (wM cI r (nI (0)) fp fa (tr χ cu k b) (opn O) (O 0) (pl O (O 0)) cu k ne ct on) H ∧ va_D A (wM cI r (nI (0)) fp fa (tr χ cu k b) (opn O) (O 0) (pl O (O 0)) cu k ne ct on) ∧ va_S A s.heap H locs) (fun b => [(0, .ref (r 0)), (1, .int (nI (k))), (2, .int (nI (trc χ cu k b))), (3, .int (nI (b)))]) 4 (fun b => 6 - b) 0 (⟨by omega, hP, hD, hS⟩) (lv_sub hl [2, 3, 1, 0] rfl) (fun s9 H locs ls hI9 hl9 ih_54 => ?_)
          obtain ⟨b, rfl⟩ : ∃ z, z = s9 := ⟨_, rfl⟩
          have hl : lv_has ls 4 [(0, .ref (r 0)), (1, .int (nI (k))), (2, .int (nI (trc χ cu k b))), (3, .int (nI (b)))] := hl9
          obtain ⟨hb7, hP, hD, hS⟩ : (b ≤ 6) ∧ va_P D vwCl (wM cI r (nI (0)) fp fa (tr χ cu k b) (opn O) (O 0) (pl O (O 0)) cu k ne ct on) H ∧ va_D A (wM cI r (nI (0)) fp fa (tr χ cu k b) (opn O) (O 0) (pl O (O 0)) cu k ne ct on) ∧ va_S A s.heap H locs := hI9
          refine lv_iload_n hx hb dX3_trim_54 rfl (lv_at hl 3 rfl) ?_
          refine lv_bipush (v := nI 6) hx hb dX3_trim_55 (by decide) ?_
          refine xi_ge (tgt := 102) hx hb dX3_trim_57 (by decide) (nI_toInt (by omega)) (nI_toInt (by omega)) (fun c_57 => ?_) (fun c_57 => ?_)
          · refine lv_iload_n hx hb dX3_trim_102 rfl (lv_at hl 2 rfl) ?_
            have hq9 : (wM cI r (nI (0)) fp fa (tr χ cu k b) (opn O) (O 0) (pl O (O 0)) cu k ne ct on : va_W) = wM cI r (nI (0)) fp fa (tr χ cu k 6) (opn O) (O 0) (pl O (O 0)) cu k ne ct on := (by rw [show b = 6 by omega])
            exact xf_i (post := fun (x : Int32) (u : Unit) => x = nI (trc χ cu k 6)) (w1 := fun (u : Unit) => wM cI r (nI (0)) fp fa (tr χ cu k 6) (opn O) (O 0) (pl O (O 0)) cu k ne ct on) () hx hb hr hlocks (by rw [show b = 6 by omega]) (va_P.eqw hq9 hP) hK (va_D.eqw hq9 hD) hS dX3_trim_103
          · refine lv_iload_n hx hb dX3_trim_60 rfl (lv_at hl 3 rfl) ?_
            refine lv_aload_n hx hb dX3_trim_61 rfl (lv_at hl 0 rfl) ?_
            refine va_get (D := D) (ci := 3) (v := .int (nI (cu))) (C := RX3) (T := TX3) (N := 16) hx hb hts hiX3 hown hK hP 0 rfl rfl 8 (by decide) (hts (.fieldLink RX3 54 "PairedCellsModel" "current" "I") (by decide +kernel)) (fun _ h9 => h9) rfl dX3_trim_62 ?_
            refine xi_eq (tgt := 96) hx hb dX3_trim_65 (by decide) (nI_toInt (by omega)) (nI_toInt (by omega)) (fun c_65 => ?_) (fun c_65 => ?_)
            · refine lv_iinc (v := nI (b + 1)) (lv' := [(3, .int (nI (b + 1))), (0, .ref (r 0)), (1, .int (nI (k))), (2, .int (nI (trc χ cu k b)))]) hx hb dX3_trim_96 hl (k := 3) rfl (nI_add _ _) (by decide) rfl (fun ls hl => ?_)
              refine lv_goto (tgt := 54) hx hb dX3_trim_99 (by decide) ?_
              have e9 : trc χ cu k b = trc χ cu k (b + 1) := by first | exact (tr_in ⟨by omega, h_73, by omega⟩).2.symm | exact (tr_out (fun h7 => absurd h7.1 (by omega))).2.symm | exact (tr_out (fun h7 => h7.2.1 h_73)).2.symm | exact (tr_out (fun h7 => absurd h7.2.2 (by omega))).2.symm
              rw [e9] at hl
              have hq9 : (wM cI r (nI (0)) fp fa (tr χ cu k b) (opn O) (O 0) (pl O (O 0)) cu k ne ct on : va_W) = wM cI r (nI (0)) fp fa (tr χ cu k (b + 1)) (opn O) (O 0) (pl O (O 0)) cu k ne ct on := (by first | rw [(tr_in ⟨by omega, h_73, by omega⟩).1] | rw [(tr_out (fun h7 => absurd h7.1 (by omega))).1] | rw [(tr_out (fun h7 => h7.2.1 h_73)).1] | rw [(tr_out (fun h7 => absurd h7.2.2 (by omega))).1])
              exact ih_54 (b + 1) _ _ _ (⟨by omega, va_P.eqw hq9 hP, va_D.eqw hq9 hD, hS⟩) (by first | omega | (dsimp only; omega)) (lv_sub hl [1, 2, 3, 0] rfl)
            · refine lv_aload_n hx hb dX3_trim_68 rfl (lv_at hl 0 rfl) ?_
              refine lv_iload_n hx hb dX3_trim_69 rfl (lv_at hl 3 rfl) ?_
              refine xc_Vi (ci := 3) (rest := []) (As := [.int (nI (b))]) ⟨hx, hb, hml, hown, hts⟩ (c_X3_isErased l D r (nI 0) fp fa (tr χ cu k b) (opn O) (O 0) (pl O (O 0)) cu k ne ct on b (by omega) (fun i => by have h7 := (tr_le (χ := χ) (cu := cu) (m := k) b (by omega) i).1; have h8 := hχ i; omega) (pfx_tr hpx b (by omega))) (cwV 1 hts gX3_trim_X3_isErased rfl rfl rfl (by decide +kernel) ⟨Nat.le_of_ble_eq_true rfl, Nat.le_of_ble_eq_true rfl⟩) hN hK (hP) rfl 0 rfl rfl hl.1 rfl (Nat.le_of_ble_eq_true rfl) dX3_trim_70 ⟨Nat.le_of_ble_eq_true rfl, Nat.le_of_ble_eq_true rfl⟩ (fun r_70 hw_70 => ?_)
              refine xz_ne (tgt := 96) hx hb dX3_trim_73 (by decide) rfl (fun c_73 => ?_) (fun c_73 => ?_)
              · have h_73 := bo.t hw_70 c_73
                refine lv_iinc (v := nI (b + 1)) (lv' := [(3, .int (nI (b + 1))), (0, .ref (r 0)), (1, .int (nI (k))), (2, .int (nI (trc χ cu k b)))]) hx hb dX3_trim_96 hl (k := 3) rfl (nI_add _ _) (by decide) rfl (fun ls hl => ?_)
                refine lv_goto (tgt := 54) hx hb dX3_trim_99 (by decide) ?_
                have e9 : trc χ cu k b = trc χ cu k (b + 1) := by first | exact (tr_in ⟨by omega, h_73, by omega⟩).2.symm | exact (tr_out (fun h7 => absurd h7.1 (by omega))).2.symm | exact (tr_out (fun h7 => h7.2.1 h_73)).2.symm | exact (tr_out (fun h7 => absurd h7.2.2 (by omega))).2.symm
                rw [e9] at hl
                have hq9 : (wM cI r (nI (0)) fp fa (tr χ cu k b) (opn O) (O 0) (pl O (O 0)) cu k ne ct on : va_W) = wM cI r (nI (0)) fp fa (tr χ cu k (b + 1)) (opn O) (O 0) (pl O (O 0)) cu k ne ct on := (by first | rw [(tr_in ⟨by omega, h_73, by omega⟩).1] | rw [(tr_out (fun h7 => absurd h7.1 (by omega))).1] | rw [(tr_out (fun h7 => h7.2.1 h_73)).1] | rw [(tr_out (fun h7 => absurd h7.2.2 (by omega))).1])
                exact ih_54 (b + 1) _ _ _ (⟨by omega, va_P.eqw hq9 hP, va_D.eqw hq9 hD, hS⟩) (by first | omega | (dsimp only; omega)) (lv_sub hl [1, 2, 3, 0] rfl)
              · have h_73 := bo.f hw_70 c_73
                refine lv_aload_n hx hb dX3_trim_76 rfl (lv_at hl 0 rfl) ?_
                refine lv_iload_n hx hb dX3_trim_77 rfl (lv_at hl 3 rfl) ?_
                have hg9 := grt_lt (wfs_tr (cu := cu) (m := k) hwf b (by omega)) (show b < 6 by omega) 16 (Nat.le_refl _)
                refine xc_Vi (ci := 3) (rest := []) (As := [.int (nI (b))]) ⟨hx, hb, hml, hown, hts⟩ (c_X3_greatestIn l D r (nI 0) fp fa (tr χ cu k b) (opn O) (O 0) (pl O (O 0)) cu k ne ct on b (by omega) (fun i => by have h7 := (tr_le (χ := χ) (cu := cu) (m := k) b (by omega) i).1; have h8 := hχ i; omega) (wfs_tr hwf b (by omega))) (cwV 1 hts gX3_trim_X3_greatestIn rfl rfl rfl (by decide +kernel) ⟨Nat.le_of_ble_eq_true rfl, Nat.le_of_ble_eq_true rfl⟩) hN hK (hP) rfl 0 rfl rfl hl.1 rfl (Nat.le_of_ble_eq_true rfl) dX3_trim_78 ⟨Nat.le_of_ble_eq_true rfl, Nat.le_of_ble_eq_true rfl⟩ (fun r_78 hw_78 => ?_)
                subst hw_78
                refine lv_iload_n hx hb dX3_trim_81 rfl (lv_at hl 1 rfl) ?_
                refine xi_lt (tgt := 88) hx hb dX3_trim_82 (by decide) (mI_toInt (by omega)) (nI_toInt (by omega)) (fun c_82 => ?_) (fun c_82 => ?_)
                · refine lv_aload_n hx hb dX3_trim_88 rfl (lv_at hl 0 rfl) ?_
                  refine lv_iload_n hx hb dX3_trim_89 rfl (lv_at hl 3 rfl) ?_
                  have hF9 := x_hF (hD) hS hA
                  refine xw_Vv (ci := 3) (rest := []) (As := [.int (nI (b))]) ⟨hx, hb, hml, hown, hts⟩ (c_X3_eraseBlock l D r (nI 0) fp fa (tr χ cu k b) (opn O) (O 0) (pl O (O 0)) cu k ne ct on b (by omega) (fun i => by have h7 := (tr_le (χ := χ) (cu := cu) (m := k) b (by omega) i).1; have h8 := hχ i; omega) H.size) (cwV 1 hts gX3_trim_X3_eraseBlock rfl rfl rfl (by decide +kernel) ⟨Nat.le_of_ble_eq_true rfl, Nat.le_of_ble_eq_true rfl⟩) hN hK (hP) (hD) hS hA rfl 0 rfl rfl hl.1 rfl (Nat.le_of_ble_eq_true rfl) dX3_trim_90 ⟨Nat.le_of_ble_eq_true rfl, Nat.le_of_ble_eq_true rfl⟩ (fun u_90 H1 locs hw_90 hP1 hD1 hDA hk9 hS => ?_)
                  have hP := hP1
                  have hD := hDA
                  generalize H1 = H at hP hS ⊢
                  have hP : va_P D vwCl (wM cI r (nI (0)) fp fa (ers (tr χ cu k b) b) (opn O) (O 0) (pl O (O 0)) cu k ne ct on) H := hP
                  have hD : va_D A (wM cI r (nI (0)) fp fa (ers (tr χ cu k b) b) (opn O) (O 0) (pl O (O 0)) cu k ne ct on) := hD
                  refine lv_iinc (v := nI (trc χ cu k b + 1)) (lv' := [(2, .int (nI (trc χ cu k b + 1))), (0, .ref (r 0)), (1, .int (nI (k))), (3, .int (nI (b)))]) hx hb dX3_trim_93 hl (k := 2) rfl (nI_add _ _) (by decide) rfl (fun ls hl => ?_)
                  refine lv_iinc (v := nI (b + 1)) (lv' := [(3, .int (nI (b + 1))), (2, .int (nI (trc χ cu k b + 1))), (0, .ref (r 0)), (1, .int (nI (k)))]) hx hb dX3_trim_96 hl (k := 3) rfl (nI_add _ _) (by decide) rfl (fun ls hl => ?_)
                  refine lv_goto (tgt := 54) hx hb dX3_trim_99 (by decide) ?_
                  have e9 : trc χ cu k b + 1 = trc χ cu k (b + 1) := by first | exact (tr_in ⟨by omega, h_73, by omega⟩).2.symm | exact (tr_out (fun h7 => absurd h7.1 (by omega))).2.symm | exact (tr_out (fun h7 => h7.2.1 h_73)).2.symm | exact (tr_out (fun h7 => absurd h7.2.2 (by omega))).2.symm
                  rw [e9] at hl
                  have hq9 : (wM cI r (nI (0)) fp fa (ers (tr χ cu k b) b) (opn O) (O 0) (pl O (O 0)) cu k ne ct on : va_W) = wM cI r (nI (0)) fp fa (tr χ cu k (b + 1)) (opn O) (O 0) (pl O (O 0)) cu k ne ct on := (by first | rw [(tr_in ⟨by omega, h_73, by omega⟩).1] | rw [(tr_out (fun h7 => absurd h7.1 (by omega))).1] | rw [(tr_out (fun h7 => h7.2.1 h_73)).1] | rw [(tr_out (fun h7 => absurd h7.2.2 (by omega))).1])
                  exact ih_54 (b + 1) _ _ _ (⟨by omega, va_P.eqw hq9 hP, va_D.eqw hq9 hD, hS⟩) (by first | omega | (dsimp only; omega)) (lv_sub hl [2, 3, 1, 0] rfl)
                · refine lv_goto (tgt := 96) hx hb dX3_trim_85 (by decide) ?_
                  refine lv_iinc (v := nI (b + 1)) (lv' := [(3, .int (nI (b + 1))), (0, .ref (r 0)), (1, .int (nI (k))), (2, .int (nI (trc χ cu k b)))]) hx hb dX3_trim_96 hl (k := 3) rfl (nI_add _ _) (by decide) rfl (fun ls hl => ?_)
                  refine lv_goto (tgt := 54) hx hb dX3_trim_99 (by decide) ?_
                  have e9 : trc χ cu k b = trc χ cu k (b + 1) := by first | exact (tr_in ⟨by omega, h_73, by omega⟩).2.symm | exact (tr_out (fun h7 => absurd h7.1 (by omega))).2.symm | exact (tr_out (fun h7 => h7.2.1 h_73)).2.symm | exact (tr_out (fun h7 => absurd h7.2.2 (by omega))).2.symm
                  rw [e9] at hl
                  have hq9 : (wM cI r (nI (0)) fp fa (tr χ cu k b) (opn O) (O 0) (pl O (O 0)) cu k ne ct on : va_W) = wM cI r (nI (0)) fp fa (tr χ cu k (b + 1)) (opn O) (O 0) (pl O (O 0)) cu k ne ct on := (by first | rw [(tr_in ⟨by omega, h_73, by omega⟩).1] | rw [(tr_out (fun h7 => absurd h7.1 (by omega))).1] | rw [(tr_out (fun h7 => h7.2.1 h_73)).1] | rw [(tr_out (fun h7 => absurd h7.2.2 (by omega))).1])
                  exact ih_54 (b + 1) _ _ _ (⟨by omega, va_P.eqw hq9 hP, va_D.eqw hq9 hD, hS⟩) (by first | omega | (dsimp only; omega)) (lv_sub hl [1, 2, 3, 0] rfl)
        · exfalso; omega
      · exfalso; omega
  · exfalso; omega
