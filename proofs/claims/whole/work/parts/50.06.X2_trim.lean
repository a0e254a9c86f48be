set_option maxHeartbeats 4000000 in
set_option maxRecDepth 100000 in
theorem c_X2_trim (l : Launch) (D : va_G) {cI cB : ClassId} (a shw O χ : Nat → Nat) (cu fi ne ct on : Nat) (hon : on = 1) (hcu : cu < 6) (k : Nat) (h1 : fi ≤ k) (h2 : k ≤ ne) (h3 : ne < 65536) (hχ : ∀ i, χ i < 65000) (hwf : wfs χ) (sz : Nat) : Met l yX2_trim wsX2_trim ({ frames := 5, cells := 0, slots := 0, locals := 110 }) (va_Pc [.ref (a 0), .int (nI (k))] (x_U D (tyP cI cB) (wP cI cB a shw O χ cu fi ne ct on) sz)) (va_Qi (fun (r : Int32) (u : Nat → Nat) => r = nI (trc χ cu k 6)) (fun u t => x_E D (tyP cI cB) (va_A (wP cI cB a shw O χ cu fi ne ct on) sz) (wP cI cB a u O (tr χ cu k 6) cu k ne ct on) t) (va_A (wP cI cB a shw O χ cu fi ne ct on) sz)) 0 0 (va_A (wP cI cB a shw O χ cu fi ne ct on) sz) := by
  refine Met.ofW (cc := cX2_trim) (maxL := 4) (ret := (some .int)) (by decide) rfl ?_
  intro p e s m args below meth c s₁ B hml hv
  obtain ⟨rfl, hsz, hN, hP, hK, hD0⟩ := hv
  have hx := B.exec
  have hb := B.bytes
  have hr := B.returns
  have hts := atoms_spec (ws := wsX2_trim) B.pre
  have hown : s.vm.findClass RX2 = some m.cls := findClass_of_methodNamed B.named
  have hlocks := B.notSynchronized
  subst hsz
  have hD := hD0.self (sz := s.heap.size)
  generalize hAe : va_A (wP cI cB a shw O χ cu fi ne ct on) s.heap.size = A at hD ⊢
  have hA : ∀ q : Nat, s.heap.size ≤ q → A q := fun q h => by rw [← hAe]; exact Or.inr h
  obtain ⟨H, hH⟩ : ∃ H : Heap, s.heap = H := ⟨_, rfl⟩
  obtain ⟨locs, hlo⟩ : ∃ L : List Loc, ([] : List Loc) = L := ⟨_, rfl⟩
  have hS : va_S A s.heap H locs := by rw [← hH, ← hlo]; exact va_S.rf
  have hP : va_P D vwCl (wP cI cB a shw O χ cu fi ne ct on) H := hH ▸ hP
  rw [hH, hlo]
  have hiX2 : ∀ w ∈ u_ws RX2 TX2 8, w ∈ wsX2_trim := by decide +kernel
  have hl := lv_entry ([.ref (a 0), .int (nI (k))]) (n := 4) (Nat.le_of_ble_eq_true rfl)
  rw [lg_entry_eq]
  generalize (lg_sl ([.ref (a 0), .int (nI (k))]) ++ List.replicate (4 - (lg_sl ([.ref (a 0), .int (nI (k))])).length) Slot.unset).toArray = ls at hl ⊢
  have hl : lv_has ls 4 [(0, .ref (a 0)), (1, .int (nI (k)))] := hl
  refine lv_aload_n hx hb dX2_trim_0 rfl (lv_at hl 0 rfl) ?_
  refine xc_Vv (ci := 2) (rest := []) (As := []) ⟨hx, hb, hml, hown, hts⟩ (c_X2_requirePower l D a shw O χ cu fi ne ct on hon) (cwV 0 hts gX2_trim_X2_requirePower rfl rfl rfl (by decide +kernel) ⟨Nat.le_of_ble_eq_true rfl, Nat.le_of_ble_eq_true rfl⟩) hN hK (hP) rfl 0 rfl rfl hl.1 rfl (Nat.le_of_ble_eq_true rfl) dX2_trim_1 ⟨Nat.le_of_ble_eq_true rfl, Nat.le_of_ble_eq_true rfl⟩ (fun hw_1 => ?_)
  refine lv_iload_n hx hb dX2_trim_4 rfl (lv_at hl 1 rfl) ?_
  refine lv_aload_n hx hb dX2_trim_5 rfl (lv_at hl 0 rfl) ?_
  refine va_get (D := D) (ci := 2) (v := .int (nI (fi))) (C := RX2) (T := TX2) (N := 8) hx hb hts hiX2 hown hK hP 0 rfl rfl 4 (by decide) (hts (.fieldLink RX2 29 "PairedCells" "firstEvent" "I") (by decide +kernel)) (fun _ h9 => h9) rfl dX2_trim_6 ?_
  refine xi_lt (tgt := 20) hx hb dX2_trim_9 (by decide) (nI_toInt (by omega)) (nI_toInt (by omega)) (fun c_9 => ?_) (fun c_9 => ?_)
  · exfalso; omega
  · refine lv_iload_n hx hb dX2_trim_12 rfl (lv_at hl 1 rfl) ?_
    refine lv_aload_n hx hb dX2_trim_13 rfl (lv_at hl 0 rfl) ?_
    refine va_get (D := D) (ci := 2) (v := .int (nI (ne))) (C := RX2) (T := TX2) (N := 8) hx hb hts hiX2 hown hK hP 0 rfl rfl 5 (by decide) (hts (.fieldLink RX2 32 "PairedCells" "nextEvent" "I") (by decide +kernel)) (fun _ h9 => h9) rfl dX2_trim_14 ?_
    refine xi_le (tgt := 30) hx hb dX2_trim_17 (by decide) (nI_toInt (by omega)) (nI_toInt (by omega)) (fun c_17 => ?_) (fun c_17 => ?_)
    · refine lv_aload_n hx hb dX2_trim_30 rfl (lv_at hl 0 rfl) ?_
      refine lv_iload_n hx hb dX2_trim_31 rfl (lv_at hl 1 rfl) ?_
      refine va_put (D := D) (ci := 2) (v := .int (nI (k))) (ty := .int) (C := RX2) (T := TX2) (N := 8) hx hb hts hiX2 tyX2 tyX2_ok nmX2 hown hK hP hD hS 0 rfl rfl 4 (by decide) (hts (.fieldLink RX2 29 "PairedCells" "firstEvent" "I") (by decide +kernel)) (fun _ h9 => h9) rfl (by decide +kernel) rfl rfl (Nat.le_of_ble_eq_true rfl) dX2_trim_32 (fun H locs hP hD hS => ?_)
      have hP : va_P D vwCl (wP cI cB a shw O χ cu k ne ct on) H := hP
      have hD : va_D A (wP cI cB a shw O χ cu k ne ct on) := hD
      refine lv_iconst (v := nI 0) hx hb dX2_trim_35 (by decide) ?_
      refine lv_istore_n (lv' := [(2, .int (nI (0))), (0, .ref (a 0)), (1, .int (nI (k)))]) hx hb dX2_trim_36 rfl hl (by decide) rfl (fun ls hl => ?_)
      refine lv_iconst (v := nI 0) hx hb dX2_trim_37 (by decide) ?_
      refine lv_istore_n (lv' := [(3, .int (nI (0))), (2, .int (nI (0))), (0, .ref (a 0)), (1, .int (nI (k)))]) hx hb dX2_trim_38 rfl hl (by decide) rfl (fun ls hl => ?_)
      refine lpW (α := Nat × (Nat → Nat)) (fun (b, h9) H locs => (b ≤ 6) ∧ va_P D vwCl (wP cI cB a h9 O (tr χ cu k b) cu k ne ct on) H ∧ va_D A (wP cI cB a h9 O (tr χ cu k b) cu k ne ct on) ∧ va_S A s.heap H locs) (fun (b, h9) => [(0, .ref (a 0)), (1, .int (nI (k))), (2, .int (nI (trc χ cu k b))), (3, .int (nI (b)))]) 4 (fun (b, h9) => 6 - b) (0, shw) (⟨by omega, hP, hD, hS⟩) (lv_sub hl [2, 3, 1, 0] rfl) (fun s9 H locs ls hI9 hl9 ih_39 => ?_)
      obtain ⟨b, h9⟩ := s9
      have hl : lv_has ls 4 [(0, .ref (a 0)), (1, .int (nI (k))), (2, .int (nI (trc χ cu k b))), (3, .int (nI (b)))] := hl9
      obtain ⟨hb7, hP, hD, hS⟩ : (b ≤ 6) ∧ va_P D vwCl (wP cI cB a h9 O (tr χ cu k b) cu k ne ct on) H ∧ va_D A (wP cI cB a h9 O (tr χ cu k b) cu k ne ct on) ∧ va_S A s.heap H locs := hI9
      refine lv_iload_n hx hb dX2_trim_39 rfl (lv_at hl 3 rfl) ?_
      refine lv_bipush (v := nI 6) hx hb dX2_trim_40 (by decide) ?_
      refine xi_ge (tgt := 97) hx hb dX2_trim_42 (by decide) (nI_toInt (by omega)) (nI_toInt (by omega)) (fun c_42 => ?_) (fun c_42 => ?_)
      · refine lv_iload_n hx hb dX2_trim_97 rfl (lv_at hl 2 rfl) ?_
        have hq9 : (wP cI cB a h9 O (tr χ cu k b) cu k ne ct on : va_W) = wP cI cB a h9 O (tr χ cu k 6) cu k ne ct on := (by rw [show b = 6 by omega])
        exact xf_i (post := fun (r : Int32) (u : Nat → Nat) => r = nI (trc χ cu k 6)) (w1 := fun (u : Nat → Nat) => wP cI cB a u O (tr χ cu k 6) cu k ne ct on) h9 hx hb hr hlocks (by rw [show b = 6 by omega]) (va_P.eqw hq9 hP) hK (va_D.eqw hq9 hD) hS dX2_trim_98
      · refine lv_iload_n hx hb dX2_trim_45 rfl (lv_at hl 3 rfl) ?_
        refine lv_aload_n hx hb dX2_trim_46 rfl (lv_at hl 0 rfl) ?_
        refine va_get (D := D) (ci := 2) (v := .int (nI (cu))) (C := RX2) (T := TX2) (N := 8) hx hb hts hiX2 hown hK hP 0 rfl rfl 3 (by decide) (hts (.fieldLink RX2 25 "PairedCells" "current" "I") (by decide +kernel)) (fun _ h9 => h9) rfl dX2_trim_47 ?_
        refine xi_eq (tgt := 91) hx hb dX2_trim_50 (by decide) (nI_toInt (by omega)) (nI_toInt (by omega)) (fun c_50 => ?_) (fun c_50 => ?_)
        · refine lv_iinc (v := nI (b + 1)) (lv' := [(3, .int (nI (b + 1))), (0, .ref (a 0)), (1, .int (nI (k))), (2, .int (nI (trc χ cu k b)))]) hx hb dX2_trim_91 hl (k := 3) rfl (nI_add _ _) (by decide) rfl (fun ls hl => ?_)
          refine lv_goto (tgt := 39) hx hb dX2_trim_94 (by decide) ?_
          have e9 : trc χ cu k b = trc χ cu k (b + 1) := by first | exact (tr_in ⟨by omega, h_62, by omega⟩).2.symm | exact (tr_out (fun h7 => absurd h7.1 (by omega))).2.symm | exact (tr_out (fun h7 => h7.2.1 h_62)).2.symm | exact (tr_out (fun h7 => absurd h7.2.2 (by omega))).2.symm
          rw [e9] at hl
          have hq9 : (wP cI cB a h9 O (tr χ cu k b) cu k ne ct on : va_W) = wP cI cB a h9 O (tr χ cu k (b + 1)) cu k ne ct on := (by first | rw [(tr_in ⟨by omega, h_62, by omega⟩).1] | rw [(tr_out (fun h7 => absurd h7.1 (by omega))).1] | rw [(tr_out (fun h7 => h7.2.1 h_62)).1] | rw [(tr_out (fun h7 => absurd h7.2.2 (by omega))).1])
          exact ih_39 (b + 1, h9) _ _ _ (⟨by omega, va_P.eqw hq9 hP, va_D.eqw hq9 hD, hS⟩) (by first | omega | (dsimp only; omega)) (lv_sub hl [1, 2, 3, 0] rfl)
        · refine lv_aload_n hx hb dX2_trim_53 rfl (lv_at hl 0 rfl) ?_
          refine va_get (D := D) (ci := 2) (v := .ref (a 1)) (C := RX2) (T := TX2) (N := 8) hx hb hts hiX2 hown hK hP 0 rfl rfl 0 (by decide) (hts (.fieldLink RX2 11 "PairedCells" "blocks" "[LPairedCells$Block;") (by decide +kernel)) (fun _ h9 => h9) rfl dX2_trim_54 ?_
          refine lv_iload_n hx hb dX2_trim_57 rfl (lv_at hl 3 rfl) ?_
          refine xr_aald hx hb hK hP 1 1 rfl rfl (by omega) (by decide) dX2_trim_58 ?_
          refine xc_Vi (ci := 0) (rest := []) (As := []) ⟨hx, hb, hml, hown, hts⟩ (c_X0_isErased l D a (tr χ cu k b) b (by omega) (fun i => by have h7 := (tr_le (χ := χ) (cu := cu) (m := k) b (by omega) i).1; have h8 := hχ i; omega)) (cwV 0 hts gX2_trim_X0_isErased rfl rfl rfl (by decide +kernel) ⟨Nat.le_of_ble_eq_true rfl, Nat.le_of_ble_eq_true rfl⟩) hN hK (wP_blk (show b < 6 by omega) hP) rfl 0 rfl rfl hl.1 rfl (Nat.le_of_ble_eq_true rfl) dX2_trim_59 ⟨Nat.le_of_ble_eq_true rfl, Nat.le_of_ble_eq_true rfl⟩ (fun r_59 hw_59 => ?_)
          refine xz_ne (tgt := 91) hx hb dX2_trim_62 (by decide) rfl (fun c_62 => ?_) (fun c_62 => ?_)
          · have h_62 := bo.t hw_59 c_62
            refine lv_iinc (v := nI (b + 1)) (lv' := [(3, .int (nI (b + 1))), (0, .ref (a 0)), (1, .int (nI (k))), (2, .int (nI (trc χ cu k b)))]) hx hb dX2_trim_91 hl (k := 3) rfl (nI_add _ _) (by decide) rfl (fun ls hl => ?_)
            refine lv_goto (tgt := 39) hx hb dX2_trim_94 (by decide) ?_
            have e9 : trc χ cu k b = trc χ cu k (b + 1) := by first | exact (tr_in ⟨by omega, h_62, by omega⟩).2.symm | exact (tr_out (fun h7 => absurd h7.1 (by omega))).2.symm | exact (tr_out (fun h7 => h7.2.1 h_62)).2.symm | exact (tr_out (fun h7 => absurd h7.2.2 (by omega))).2.symm
            rw [e9] at hl
            have hq9 : (wP cI cB a h9 O (tr χ cu k b) cu k ne ct on : va_W) = wP cI cB a h9 O (tr χ cu k (b + 1)) cu k ne ct on := (by first | rw [(tr_in ⟨by omega, h_62, by omega⟩).1] | rw [(tr_out (fun h7 => absurd h7.1 (by omega))).1] | rw [(tr_out (fun h7 => h7.2.1 h_62)).1] | rw [(tr_out (fun h7 => absurd h7.2.2 (by omega))).1])
            exact ih_39 (b + 1, h9) _ _ _ (⟨by omega, va_P.eqw hq9 hP, va_D.eqw hq9 hD, hS⟩) (by first | omega | (dsimp only; omega)) (lv_sub hl [1, 2, 3, 0] rfl)
          · have h_62 := bo.f hw_59 c_62
            refine lv_aload_n hx hb dX2_trim_65 rfl (lv_at hl 0 rfl) ?_
            refine lv_aload_n hx hb dX2_trim_66 rfl (lv_at hl 0 rfl) ?_
            refine va_get (D := D) (ci := 2) (v := .ref (a 1)) (C := RX2) (T := TX2) (N := 8) hx hb hts hiX2 hown hK hP 0 rfl rfl 0 (by decide) (hts (.fieldLink RX2 11 "PairedCells" "blocks" "[LPairedCells$Block;") (by decide +kernel)) (fun _ h9 => h9) rfl dX2_trim_67 ?_
            refine lv_iload_n hx hb dX2_trim_70 rfl (lv_at hl 3 rfl) ?_
            refine xr_aald hx hb hK hP 1 1 rfl rfl (by omega) (by decide) dX2_trim_71 ?_
            have hg9 := grt_lt (wfs_tr (cu := cu) (m := k) hwf b (by omega)) (show b < 6 by omega) 16 (Nat.le_refl _)
            have hF9 := x_hF (hD) hS hA
            refine xw_Vi (ci := 2) (rest := []) (As := [.ref (a (6 + 4 * b))]) ⟨hx, hb, hml, hown, hts⟩ (c_X2_greatestEvent l D a h9 O (tr χ cu k b) cu k ne ct on b (by omega) (fun i => by have h7 := (tr_le (χ := χ) (cu := cu) (m := k) b (by omega) i).1; have h8 := hχ i; omega) (wfs_tr hwf b (by omega)) H.size) (cwV 1 hts gX2_trim_X2_greatestEvent rfl rfl rfl (by decide +kernel) ⟨Nat.le_of_ble_eq_true rfl, Nat.le_of_ble_eq_true rfl⟩) hN hK (hP) (hD) hS hA rfl 0 rfl rfl hl.1 rfl (Nat.le_of_ble_eq_true rfl) dX2_trim_72 ⟨Nat.le_of_ble_eq_true rfl, Nat.le_of_ble_eq_true rfl⟩ (fun r_72 u_72 H1 locs hw_72 hP1 hD1 hDA hk9 hS => ?_)
            subst hw_72
            have hP := hP1
            have hD := hDA
            generalize H1 = H at hP hS ⊢
            have hP : va_P D vwCl (wP cI cB a u_72 O (tr χ cu k b) cu k ne ct on) H := hP
            have hD : va_D A (wP cI cB a u_72 O (tr χ cu k b) cu k ne ct on) := hD
            refine lv_iload_n hx hb dX2_trim_75 rfl (lv_at hl 1 rfl) ?_
            refine xi_ge (tgt := 91) hx hb dX2_trim_76 (by decide) (mI_toInt (by omega)) (nI_toInt (by omega)) (fun c_76 => ?_) (fun c_76 => ?_)
            · refine lv_iinc (v := nI (b + 1)) (lv' := [(3, .int (nI (b + 1))), (0, .ref (a 0)), (1, .int (nI (k))), (2, .int (nI (trc χ cu k b)))]) hx hb dX2_trim_91 hl (k := 3) rfl (nI_add _ _) (by decide) rfl (fun ls hl => ?_)
              refine lv_goto (tgt := 39) hx hb dX2_trim_94 (by decide) ?_
              have e9 : trc χ cu k b = trc χ cu k (b + 1) := by first | exact (tr_in ⟨by omega, h_62, by omega⟩).2.symm | exact (tr_out (fun h7 => absurd h7.1 (by omega))).2.symm | exact (tr_out (fun h7 => h7.2.1 h_62)).2.symm | exact (tr_out (fun h7 => absurd h7.2.2 (by omega))).2.symm
              rw [e9] at hl
              have hq9 : (wP cI cB a u_72 O (tr χ cu k b) cu k ne ct on : va_W) = wP cI cB a u_72 O (tr χ cu k (b + 1)) cu k ne ct on := (by first | rw [(tr_in ⟨by omega, h_62, by omega⟩).1] | rw [(tr_out (fun h7 => absurd h7.1 (by omega))).1] | rw [(tr_out (fun h7 => h7.2.1 h_62)).1] | rw [(tr_out (fun h7 => absurd h7.2.2 (by omega))).1])
              exact ih_39 (b + 1, u_72) _ _ _ (⟨by omega, va_P.eqw hq9 hP, va_D.eqw hq9 hD, hS⟩) (by first | omega | (dsimp only; omega)) (lv_sub hl [1, 2, 3, 0] rfl)
            · refine lv_aload_n hx hb dX2_trim_79 rfl (lv_at hl 0 rfl) ?_
              refine va_get (D := D) (ci := 2) (v := .ref (a 1)) (C := RX2) (T := TX2) (N := 8) hx hb hts hiX2 hown hK hP 0 rfl rfl 0 (by decide) (hts (.fieldLink RX2 11 "PairedCells" "blocks" "[LPairedCells$Block;") (by decide +kernel)) (fun _ h9 => h9) rfl dX2_trim_80 ?_
              refine lv_iload_n hx hb dX2_trim_83 rfl (lv_at hl 3 rfl) ?_
              refine xr_aald hx hb hK hP 1 1 rfl rfl (by omega) (by decide) dX2_trim_84 ?_
              have hF9 := x_hF (dP_blk (show b < 6 by omega) hD) hS hA
              refine xw_Vv (ci := 0) (rest := []) (As := []) ⟨hx, hb, hml, hown, hts⟩ (c_X0_erase l D a (tr χ cu k b) b (by omega) (fun i => by have h7 := (tr_le (χ := χ) (cu := cu) (m := k) b (by omega) i).1; have h8 := hχ i; omega) H.size) (cwV 0 hts gX2_trim_X0_erase rfl rfl rfl (by decide +kernel) ⟨Nat.le_of_ble_eq_true rfl, Nat.le_of_ble_eq_true rfl⟩) hN hK (wP_blk (show b < 6 by omega) hP) (dP_blk (show b < 6 by omega) hD) hS hA rfl 0 rfl rfl hl.1 rfl (Nat.le_of_ble_eq_true rfl) dX2_trim_85 ⟨Nat.le_of_ble_eq_true rfl, Nat.le_of_ble_eq_true rfl⟩ (fun u_85 H1 locs hw_85 hP1 hD1 hDA hk9 hS => ?_)
              obtain ⟨hP, hD⟩ := jP_blk (show b < 6 by omega) hP hD hF9 hk9 hP1 hD1 (fun i hi => ers_out i hi)
              generalize H1 = H at hP hS ⊢
              have hP : va_P D vwCl (wP cI cB a u_72 O (ers (tr χ cu k b) b) cu k ne ct on) H := hP
              have hD : va_D A (wP cI cB a u_72 O (ers (tr χ cu k b) b) cu k ne ct on) := hD
              refine lv_iinc (v := nI (trc χ cu k b + 1)) (lv' := [(2, .int (nI (trc χ cu k b + 1))), (0, .ref (a 0)), (1, .int (nI (k))), (3, .int (nI (b)))]) hx hb dX2_trim_88 hl (k := 2) rfl (nI_add _ _) (by decide) rfl (fun ls hl => ?_)
              refine lv_iinc (v := nI (b + 1)) (lv' := [(3, .int (nI (b + 1))), (2, .int (nI (trc χ cu k b + 1))), (0, .ref (a 0)), (1, .int (nI (k)))]) hx hb dX2_trim_91 hl (k := 3) rfl (nI_add _ _) (by decide) rfl (fun ls hl => ?_)
              refine lv_goto (tgt := 39) hx hb dX2_trim_94 (by decide) ?_
              have e9 : trc χ cu k b + 1 = trc χ cu k (b + 1) := by first | exact (tr_in ⟨by omega, h_62, by omega⟩).2.symm | exact (tr_out (fun h7 => absurd h7.1 (by omega))).2.symm | exact (tr_out (fun h7 => h7.2.1 h_62)).2.symm | exact (tr_out (fun h7 => absurd h7.2.2 (by omega))).2.symm
              rw [e9] at hl
              have hq9 : (wP cI cB a u_72 O (ers (tr χ cu k b) b) cu k ne ct on : va_W) = wP cI cB a u_72 O (tr χ cu k (b + 1)) cu k ne ct on := (by first | rw [(tr_in ⟨by omega, h_62, by omega⟩).1] | rw [(tr_out (fun h7 => absurd h7.1 (by omega))).1] | rw [(tr_out (fun h7 => h7.2.1 h_62)).1] | rw [(tr_out (fun h7 => absurd h7.2.2 (by omega))).1])
              exact ih_39 (b + 1, u_72) _ _ _ (⟨by omega, va_P.eqw hq9 hP, va_D.eqw hq9 hD, hS⟩) (by first | omega | (dsimp only; omega)) (lv_sub hl [2, 3, 1, 0] rfl)
    · exfalso; omega
