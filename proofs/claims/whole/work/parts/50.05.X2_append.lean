theorem wf0 : wf (fun _ => 0) := ⟨by decide, by decide, by decide, fun i hi => absurd hi (Nat.not_lt_zero i)⟩

set_option maxHeartbeats 4000000 in
set_option maxRecDepth 100000 in
theorem c_X2_append (l : Launch) (D : va_G) {cI cB : ClassId} (a shw O χ : Nat → Nat) (cu fi ne ct on : Nat) (hon : on = 1) (hcu : cu < 6) (hχ : ∀ i, χ i < 65536) (hct : ct < 100) (hO0 : O 0 < 65536) (hb6 : nxb χ cu < 6) (hp16 : plc χ (nxb χ cu) < 16) (hχg : ∀ i, wgd χ (nxb χ cu) i < 65536) (k : Nat) (w : Int64) (hwO : wf O) (hne : ne < 65536) (hk1 : 1 ≤ k) (hk6 : k ≤ 6) (hnf : ¬ fit O k → ¬ ful χ cu) (sz : Nat) : Met l yX2_append wsX2_append ({ frames := 4, cells := 0, slots := 0, locals := 104 }) (va_Pc [.ref (a 0), .int (nI (k)), .long (w)] (x_U D (tyP cI cB) (wP cI cB a shw O χ cu fi ne ct on) sz)) (va_Qi (fun (r : Int32) (u : (Nat → Nat) × (Nat → Nat) × Nat × Nat × Nat × Nat) => u = apS O χ cu ne ct on k w ∧ ((fit O k ∨ fOk χ (nxb χ cu) ct) ∧ r = nI ne ∨ ¬ (fit O k ∨ fOk χ (nxb χ cu) ct) ∧ r = -2)) (fun u t => x_E D (tyP cI cB) (va_A (wP cI cB a shw O χ cu fi ne ct on) sz) (wP cI cB a shw u.1 u.2.1 u.2.2.1 fi u.2.2.2.1 u.2.2.2.2.1 u.2.2.2.2.2) t) (va_A (wP cI cB a shw O χ cu fi ne ct on) sz)) 0 0 (va_A (wP cI cB a shw O χ cu fi ne ct on) sz) := by
  refine Met.ofW (cc := cX2_append) (maxL := 4) (ret := (some .int)) (by decide) rfl ?_
  intro p e s m args below meth c s₁ B hml hv
  obtain ⟨rfl, hsz, hN, hP, hK, hD0⟩ := hv
  have hx := B.exec
  have hb := B.bytes
  have hr := B.returns
  have hts := atoms_spec (ws := wsX2_append) B.pre
  have hown : s.vm.findClass RX2 = some m.cls := findClass_of_methodNamed B.named
  have hlocks := B.notSynchronized
  subst hsz
  have hD := hD0.self (sz := s.heap.size)
  generalize hAe : va_A (wP cI cB a shw O χ cu fi ne ct on) s.heap.size = A at hD ⊢
  have hA : ∀ q : Nat, s.heap.size ≤ q → A q := fun q h => by rw [← hAe]; exact Or.inr h
  obtain ⟨H, hH⟩ : ∃ H : Heap, s.heap = H := ⟨_, rfl⟩
  obtain ⟨locs, hlo⟩ : ∃ L : List Loc, ([] : List Loc) = L := ⟨_, rfl⟩
  have hS : va_S A s.heap H locs := by rw [← hH, ← hlo]; exact va_S.rf
  have hP : va_P D vwCl (wP cI cB a shw O χ cu fi ne ct on) H := hH ▸ hP
  rw [hH, hlo]
  have hiX2 : ∀ w ∈ u_ws RX2 TX2 8, w ∈ wsX2_append := by decide +kernel
  have hl := lv_entry ([.ref (a 0), .int (nI (k)), .long (w)]) (n := 4) (Nat.le_of_ble_eq_true rfl)
  rw [lg_entry_eq]
  generalize (lg_sl ([.ref (a 0), .int (nI (k)), .long (w)]) ++ List.replicate (4 - (lg_sl ([.ref (a 0), .int (nI (k)), .long (w)])).length) Slot.unset).toArray = ls at hl ⊢
  have hl : lv_has ls 4 [(0, .ref (a 0)), (1, .int (nI (k))), (2, .long (w))] := hl
  refine lv_aload_n hx hb dX2_append_0 rfl (lv_at hl 0 rfl) ?_
  refine xc_Vv (ci := 2) (rest := []) (As := []) ⟨hx, hb, hml, hown, hts⟩ (c_X2_requirePower l D a shw O χ cu fi ne ct on hon) (cwV 0 hts gX2_append_X2_requirePower rfl rfl rfl (by decide +kernel) ⟨Nat.le_of_ble_eq_true rfl, Nat.le_of_ble_eq_true rfl⟩) hN hK (hP) rfl 0 rfl rfl hl.1 rfl (Nat.le_of_ble_eq_true rfl) dX2_append_1 ⟨Nat.le_of_ble_eq_true rfl, Nat.le_of_ble_eq_true rfl⟩ (fun hw_1 => ?_)
  refine lv_iload_n hx hb dX2_append_4 rfl (lv_at hl 1 rfl) ?_
  refine lv_iconst (v := nI 1) hx hb dX2_append_5 (by decide) ?_
  refine xi_lt (tgt := 15) hx hb dX2_append_6 (by decide) (nI_toInt (by omega)) (nI_toInt (by omega)) (fun c_6 => ?_) (fun c_6 => ?_)
  · exfalso; omega
  · refine lv_iload_n hx hb dX2_append_9 rfl (lv_at hl 1 rfl) ?_
    refine lv_bipush (v := nI 6) hx hb dX2_append_10 (by decide) ?_
    refine xi_le (tgt := 25) hx hb dX2_append_12 (by decide) (nI_toInt (by omega)) (nI_toInt (by omega)) (fun c_12 => ?_) (fun c_12 => ?_)
    · refine lv_aload_n hx hb dX2_append_25 rfl (lv_at hl 0 rfl) ?_
      refine va_get (D := D) (ci := 2) (v := .ref (a 2)) (C := RX2) (T := TX2) (N := 8) hx hb hts hiX2 hown hK hP 0 rfl rfl 1 (by decide) (hts (.fieldLink RX2 18 "PairedCells" "openPage" "LPairedCells$EventPage;") (by decide +kernel)) (fun _ h9 => h9) rfl dX2_append_26 ?_
      refine lv_iload_n hx hb dX2_append_29 rfl (lv_at hl 1 rfl) ?_
      refine xc_Vi (ci := 1) (rest := []) (As := [.int (nI (k))]) ⟨hx, hb, hml, hown, hts⟩ (c_X1_fits l D (a 2) (a 3) O hO0 hwO k (by omega)) (cwV 1 hts gX2_append_X1_fits rfl rfl rfl (by decide +kernel) ⟨Nat.le_of_ble_eq_true rfl, Nat.le_of_ble_eq_true rfl⟩) hN hK (wP_open hP) rfl 0 rfl rfl hl.1 rfl (Nat.le_of_ble_eq_true rfl) dX2_append_30 ⟨Nat.le_of_ble_eq_true rfl, Nat.le_of_ble_eq_true rfl⟩ (fun r_30 hw_30 => ?_)
      refine xz_ne (tgt := 46) hx hb dX2_append_33 (by decide) rfl (fun c_33 => ?_) (fun c_33 => ?_)
      · have h_33 := bo.t hw_30 c_33
        refine lv_aload_n hx hb dX2_append_46 rfl (lv_at hl 0 rfl) ?_
        refine va_get (D := D) (ci := 2) (v := .ref (a 2)) (C := RX2) (T := TX2) (N := 8) hx hb hts hiX2 hown hK hP 0 rfl rfl 1 (by decide) (hts (.fieldLink RX2 18 "PairedCells" "openPage" "LPairedCells$EventPage;") (by decide +kernel)) (fun _ h9 => h9) rfl dX2_append_47 ?_
        refine lv_aload_n hx hb dX2_append_50 rfl (lv_at hl 0 rfl) ?_
        refine va_get (D := D) (ci := 2) (v := .int (nI (ne))) (C := RX2) (T := TX2) (N := 8) hx hb hts hiX2 hown hK hP 0 rfl rfl 5 (by decide) (hts (.fieldLink RX2 32 "PairedCells" "nextEvent" "I") (by decide +kernel)) (fun _ h9 => h9) rfl dX2_append_51 ?_
        refine lv_iload_n hx hb dX2_append_54 rfl (lv_at hl 1 rfl) ?_
        refine lv_lload_n hx hb dX2_append_55 rfl (lv_at hl 2 rfl) ?_
        have hF9 := x_hF (dP_open hD) hS hA
        refine xw_Vv (ci := 1) (rest := []) (As := [.int (nI (ne)), .int (nI (k)), .long (w)]) ⟨hx, hb, hml, hown, hts⟩ (c_X1_add l D (a 2) (a 3) O hO0 hwO ne k w hne (by omega) h_33 H.size) (cwV 3 hts gX2_append_X1_add rfl rfl rfl (by decide +kernel) ⟨Nat.le_of_ble_eq_true rfl, Nat.le_of_ble_eq_true rfl⟩) hN hK (wP_open hP) (dP_open hD) hS hA rfl 0 rfl rfl hl.1 rfl (Nat.le_of_ble_eq_true rfl) dX2_append_56 ⟨Nat.le_of_ble_eq_true rfl, Nat.le_of_ble_eq_true rfl⟩ (fun u_56 H1 locs hw_56 hP1 hD1 hDA hk9 hS => ?_)
        obtain ⟨hP, hD⟩ := jP_open hP hD hF9 hk9 hP1 hD1
        generalize H1 = H at hP hS ⊢
        have hP : va_P D vwCl (wP cI cB a shw (adO O ne k w) χ cu fi ne ct on) H := hP
        have hD : va_D A (wP cI cB a shw (adO O ne k w) χ cu fi ne ct on) := hD
        refine lv_aload_n hx hb dX2_append_59 rfl (lv_at hl 0 rfl) ?_
        refine lv_dup hx hb dX2_append_60 rfl ?_
        refine va_get (D := D) (ci := 2) (v := .int (nI (ne))) (C := RX2) (T := TX2) (N := 8) hx hb hts hiX2 hown hK hP 0 rfl rfl 5 (by decide) (hts (.fieldLink RX2 32 "PairedCells" "nextEvent" "I") (by decide +kernel)) (fun _ h9 => h9) rfl dX2_append_61 ?_
        refine lv_iconst (v := nI 1) hx hb dX2_append_64 (by decide) ?_
        refine xr_add hx hb dX2_append_65 ?_
        refine va_put (D := D) (ci := 2) (v := .int (nI (ne + 1))) (ty := .int) (C := RX2) (T := TX2) (N := 8) hx hb hts hiX2 tyX2 tyX2_ok nmX2 hown hK hP hD hS 0 rfl rfl 5 (by decide) (hts (.fieldLink RX2 32 "PairedCells" "nextEvent" "I") (by decide +kernel)) (fun _ h9 => h9) rfl (by decide +kernel) rfl rfl (Nat.le_of_ble_eq_true rfl) dX2_append_66 (fun H locs hP hD hS => ?_)
        have hP : va_P D vwCl (wP cI cB a shw (adO O ne k w) χ cu fi (ne + 1) ct on) H := hP
        have hD : va_D A (wP cI cB a shw (adO O ne k w) χ cu fi (ne + 1) ct on) := hD
        refine lv_aload_n hx hb dX2_append_69 rfl (lv_at hl 0 rfl) ?_
        refine va_get (D := D) (ci := 2) (v := .int (nI (ne + 1))) (C := RX2) (T := TX2) (N := 8) hx hb hts hiX2 hown hK hP 0 rfl rfl 5 (by decide) (hts (.fieldLink RX2 32 "PairedCells" "nextEvent" "I") (by decide +kernel)) (fun _ h9 => h9) rfl dX2_append_70 ?_
        refine lv_iconst (v := nI 1) hx hb dX2_append_73 (by decide) ?_
        refine xr_sub hx hb (by omega) dX2_append_74 ?_
        exact xf_i (post := fun (r : Int32) (u : (Nat → Nat) × (Nat → Nat) × Nat × Nat × Nat × Nat) => u = apS O χ cu ne ct on k w ∧ ((fit O k ∨ fOk χ (nxb χ cu) ct) ∧ r = nI ne ∨ ¬ (fit O k ∨ fOk χ (nxb χ cu) ct) ∧ r = -2)) (w1 := fun (u : (Nat → Nat) × (Nat → Nat) × Nat × Nat × Nat × Nat) => wP cI cB a shw u.1 u.2.1 u.2.2.1 fi u.2.2.2.1 u.2.2.2.2.1 u.2.2.2.2.2) ((adO O ne k w), χ, cu, ne + 1, ct, on) hx hb hr hlocks (⟨(cif_t h_33).symm, Or.inl ⟨Or.inl h_33, rfl⟩⟩) hP hK hD hS dX2_append_75
      · have h_33 := bo.f hw_30 c_33
        refine lv_aload_n hx hb dX2_append_36 rfl (lv_at hl 0 rfl) ?_
        have hF9 := x_hF (hD) hS hA
        refine xw_Vi (ci := 2) (rest := []) (As := []) ⟨hx, hb, hml, hown, hts⟩ (c_X2_flush l D a shw O χ cu fi ne ct on hcu hχ hct hO0 (hnf h_33) (nxb χ cu) rfl hb6 hp16 hχg H.size) (cwV 0 hts gX2_append_X2_flush rfl rfl rfl (by decide +kernel) ⟨Nat.le_of_ble_eq_true rfl, Nat.le_of_ble_eq_true rfl⟩) hN hK (hP) (hD) hS hA rfl 0 rfl rfl hl.1 rfl (Nat.le_of_ble_eq_true rfl) dX2_append_37 ⟨Nat.le_of_ble_eq_true rfl, Nat.le_of_ble_eq_true rfl⟩ (fun r_37 u_37 H1 locs hw_37 hP1 hD1 hDA hk9 hS => ?_)
        obtain ⟨hok, rfl⟩ := hw_37
        have hP := hP1
        have hD := hDA
        generalize H1 = H at hP hS ⊢
        have hP : va_P D vwCl (wP cI cB a shw (fO χ (nxb χ cu) ct O) (fX χ (nxb χ cu) ct O) (nxb χ cu) fi ne (fCt χ (nxb χ cu) ct) (fOn χ (nxb χ cu) ct on)) H := hP
        have hD : va_D A (wP cI cB a shw (fO χ (nxb χ cu) ct O) (fX χ (nxb χ cu) ct O) (nxb χ cu) fi ne (fCt χ (nxb χ cu) ct) (fOn χ (nxb χ cu) ct on)) := hD
        refine xz_ne (tgt := 46) hx hb dX2_append_40 (by decide) rfl (fun c_40 => ?_) (fun c_40 => ?_)
        · have h_40 := bo.t hok c_40
          rw [fO_ok h_40, fOn_ok h_40] at hP hD
          refine lv_aload_n hx hb dX2_append_46 rfl (lv_at hl 0 rfl) ?_
          refine va_get (D := D) (ci := 2) (v := .ref (a 2)) (C := RX2) (T := TX2) (N := 8) hx hb hts hiX2 hown hK hP 0 rfl rfl 1 (by decide) (hts (.fieldLink RX2 18 "PairedCells" "openPage" "LPairedCells$EventPage;") (by decide +kernel)) (fun _ h9 => h9) rfl dX2_append_47 ?_
          refine lv_aload_n hx hb dX2_append_50 rfl (lv_at hl 0 rfl) ?_
          refine va_get (D := D) (ci := 2) (v := .int (nI (ne))) (C := RX2) (T := TX2) (N := 8) hx hb hts hiX2 hown hK hP 0 rfl rfl 5 (by decide) (hts (.fieldLink RX2 32 "PairedCells" "nextEvent" "I") (by decide +kernel)) (fun _ h9 => h9) rfl dX2_append_51 ?_
          refine lv_iload_n hx hb dX2_append_54 rfl (lv_at hl 1 rfl) ?_
          refine lv_lload_n hx hb dX2_append_55 rfl (lv_at hl 2 rfl) ?_
          have hF9 := x_hF (dP_open hD) hS hA
          refine xw_Vv (ci := 1) (rest := []) (As := [.int (nI (ne)), .int (nI (k)), .long (w)]) ⟨hx, hb, hml, hown, hts⟩ (c_X1_add l D (a 2) (a 3) (fun _ => 0) (by decide) wf0 ne k w hne (by omega) (by show 3 + 1 + k ≤ 16; omega) H.size) (cwV 3 hts gX2_append_X1_add rfl rfl rfl (by decide +kernel) ⟨Nat.le_of_ble_eq_true rfl, Nat.le_of_ble_eq_true rfl⟩) hN hK (wP_open hP) (dP_open hD) hS hA rfl 0 rfl rfl hl.1 rfl (Nat.le_of_ble_eq_true rfl) dX2_append_56 ⟨Nat.le_of_ble_eq_true rfl, Nat.le_of_ble_eq_true rfl⟩ (fun u_56 H1 locs hw_56 hP1 hD1 hDA hk9 hS => ?_)
          obtain ⟨hP, hD⟩ := jP_open hP hD hF9 hk9 hP1 hD1
          generalize H1 = H at hP hS ⊢
          have hP : va_P D vwCl (wP cI cB a shw (adO (fun _ => 0) ne k w) (fX χ (nxb χ cu) ct O) (nxb χ cu) fi ne (fCt χ (nxb χ cu) ct) on) H := hP
          have hD : va_D A (wP cI cB a shw (adO (fun _ => 0) ne k w) (fX χ (nxb χ cu) ct O) (nxb χ cu) fi ne (fCt χ (nxb χ cu) ct) on) := hD
          refine lv_aload_n hx hb dX2_append_59 rfl (lv_at hl 0 rfl) ?_
          refine lv_dup hx hb dX2_append_60 rfl ?_
          refine va_get (D := D) (ci := 2) (v := .int (nI (ne))) (C := RX2) (T := TX2) (N := 8) hx hb hts hiX2 hown hK hP 0 rfl rfl 5 (by decide) (hts (.fieldLink RX2 32 "PairedCells" "nextEvent" "I") (by decide +kernel)) (fun _ h9 => h9) rfl dX2_append_61 ?_
          refine lv_iconst (v := nI 1) hx hb dX2_append_64 (by decide) ?_
          refine xr_add hx hb dX2_append_65 ?_
          refine va_put (D := D) (ci := 2) (v := .int (nI (ne + 1))) (ty := .int) (C := RX2) (T := TX2) (N := 8) hx hb hts hiX2 tyX2 tyX2_ok nmX2 hown hK hP hD hS 0 rfl rfl 5 (by decide) (hts (.fieldLink RX2 32 "PairedCells" "nextEvent" "I") (by decide +kernel)) (fun _ h9 => h9) rfl (by decide +kernel) rfl rfl (Nat.le_of_ble_eq_true rfl) dX2_append_66 (fun H locs hP hD hS => ?_)
          have hP : va_P D vwCl (wP cI cB a shw (adO (fun _ => 0) ne k w) (fX χ (nxb χ cu) ct O) (nxb χ cu) fi (ne + 1) (fCt χ (nxb χ cu) ct) on) H := hP
          have hD : va_D A (wP cI cB a shw (adO (fun _ => 0) ne k w) (fX χ (nxb χ cu) ct O) (nxb χ cu) fi (ne + 1) (fCt χ (nxb χ cu) ct) on) := hD
          refine lv_aload_n hx hb dX2_append_69 rfl (lv_at hl 0 rfl) ?_
          refine va_get (D := D) (ci := 2) (v := .int (nI (ne + 1))) (C := RX2) (T := TX2) (N := 8) hx hb hts hiX2 hown hK hP 0 rfl rfl 5 (by decide) (hts (.fieldLink RX2 32 "PairedCells" "nextEvent" "I") (by decide +kernel)) (fun _ h9 => h9) rfl dX2_append_70 ?_
          refine lv_iconst (v := nI 1) hx hb dX2_append_73 (by decide) ?_
          refine xr_sub hx hb (by omega) dX2_append_74 ?_
          exact xf_i (post := fun (r : Int32) (u : (Nat → Nat) × (Nat → Nat) × Nat × Nat × Nat × Nat) => u = apS O χ cu ne ct on k w ∧ ((fit O k ∨ fOk χ (nxb χ cu) ct) ∧ r = nI ne ∨ ¬ (fit O k ∨ fOk χ (nxb χ cu) ct) ∧ r = -2)) (w1 := fun (u : (Nat → Nat) × (Nat → Nat) × Nat × Nat × Nat × Nat) => wP cI cB a shw u.1 u.2.1 u.2.2.1 fi u.2.2.2.1 u.2.2.2.2.1 u.2.2.2.2.2) ((adO (fun _ => 0) ne k w), (fX χ (nxb χ cu) ct O), (nxb χ cu), ne + 1, (fCt χ (nxb χ cu) ct), on) hx hb hr hlocks (⟨((cif_f h_33).trans (cif_t h_40)).symm, Or.inl ⟨Or.inr h_40, rfl⟩⟩) hP hK hD hS dX2_append_75
        · have h_40 := bo.f hok c_40
          refine lv_bipush (v := (-2 : Int32)) hx hb dX2_append_43 (by decide) ?_
          have hq9 : (wP cI cB a shw (fO χ (nxb χ cu) ct O) (fX χ (nxb χ cu) ct O) (nxb χ cu) fi ne (fCt χ (nxb χ cu) ct) (fOn χ (nxb χ cu) ct on) : va_W) = wP cI cB a shw (O, fX χ (nxb χ cu) ct O, (nxb χ cu), ne, fCt χ (nxb χ cu) ct, 0).1 (O, fX χ (nxb χ cu) ct O, (nxb χ cu), ne, fCt χ (nxb χ cu) ct, 0).2.1 (O, fX χ (nxb χ cu) ct O, (nxb χ cu), ne, fCt χ (nxb χ cu) ct, 0).2.2.1 fi (O, fX χ (nxb χ cu) ct O, (nxb χ cu), ne, fCt χ (nxb χ cu) ct, 0).2.2.2.1 (O, fX χ (nxb χ cu) ct O, (nxb χ cu), ne, fCt χ (nxb χ cu) ct, 0).2.2.2.2.1 (O, fX χ (nxb χ cu) ct O, (nxb χ cu), ne, fCt χ (nxb χ cu) ct, 0).2.2.2.2.2 := (by rw [fO_no h_40, fOn_no h_40])
          exact xf_i (post := fun (r : Int32) (u : (Nat → Nat) × (Nat → Nat) × Nat × Nat × Nat × Nat) => u = apS O χ cu ne ct on k w ∧ ((fit O k ∨ fOk χ (nxb χ cu) ct) ∧ r = nI ne ∨ ¬ (fit O k ∨ fOk χ (nxb χ cu) ct) ∧ r = -2)) (w1 := fun (u : (Nat → Nat) × (Nat → Nat) × Nat × Nat × Nat × Nat) => wP cI cB a shw u.1 u.2.1 u.2.2.1 fi u.2.2.2.1 u.2.2.2.2.1 u.2.2.2.2.2) (O, fX χ (nxb χ cu) ct O, (nxb χ cu), ne, fCt χ (nxb χ cu) ct, 0) hx hb hr hlocks (⟨((cif_f h_33).trans (cif_f h_40)).symm, Or.inr ⟨fun h7 => h7.elim h_33 h_40, rfl⟩⟩) (va_P.eqw hq9 hP) hK (va_D.eqw hq9 hD) hS dX2_append_45
    · exfalso; omega
