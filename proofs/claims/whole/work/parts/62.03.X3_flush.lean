set_option maxHeartbeats 4000000 in
set_option maxRecDepth 100000 in
theorem c_X3_flush (l : Launch) (D : va_G) {cI : ClassId} (r : Nat → Nat) (th fp fa : Int32) (χ O : Nat → Nat) (cu fi ne ct on : Nat) (hcu : cu < 6) (hχ : ∀ i, χ i < 65536) (hpx : pfx χ) (hct : ct < 100) (b : Nat) (hbe : b = nxb χ cu) (hb6 : b < 6) (hp16 : plc χ b < 16) (hh : hdo O ne) (hO0 : O 0 ≠ 0) (hO1 : O 1 < 256) (hO2 : O 2 < 256) (hne : ne < 65536) (sz : Nat) : Met l yX3_flush wsX3_flush ({ frames := 2, cells := 0, slots := 0, locals := 46 }) (va_Pc [.ref (r 0)] (x_U D (tyM cI) (wM cI r th fp fa χ (opn O) (O 0) (pl O (O 0)) cu fi ne ct on) sz)) (va_Qi (fun (x : Int32) (u : (Nat → Nat) × (Nat → Nat) × Nat × Nat) => bo x (fOk χ b ct) ∧ u = (fO χ b ct O, fX χ b ct O, fCt χ b ct, fOn χ b ct on)) (fun u t => x_E D (tyM cI) (va_A (wM cI r th fp fa χ (opn O) (O 0) (pl O (O 0)) cu fi ne ct on) sz) (wM cI r th fp fa u.2.1 (opn u.1) (u.1 0) (pl u.1 (u.1 0)) b fi ne u.2.2.1 u.2.2.2) t) (va_A (wM cI r th fp fa χ (opn O) (O 0) (pl O (O 0)) cu fi ne ct on) sz)) 0 0 (va_A (wM cI r th fp fa χ (opn O) (O 0) (pl O (O 0)) cu fi ne ct on) sz) := by
  refine Met.ofW (cc := cX3_flush) (maxL := 4) (ret := (some .boolean)) (by decide) rfl ?_
  intro p e s m args below meth c s₁ B hml hv
  obtain ⟨rfl, hsz, hN, hP, hK, hD0⟩ := hv
  have hx := B.exec
  have hb := B.bytes
  have hr := B.returns
  have hts := atoms_spec (ws := wsX3_flush) B.pre
  have hown : s.vm.findClass RX3 = some m.cls := findClass_of_methodNamed B.named
  have hlocks := B.notSynchronized
  subst hsz
  have hD := hD0.self (sz := s.heap.size)
  generalize hAe : va_A (wM cI r th fp fa χ (opn O) (O 0) (pl O (O 0)) cu fi ne ct on) s.heap.size = A at hD ⊢
  have hA : ∀ q : Nat, s.heap.size ≤ q → A q := fun q h => by rw [← hAe]; exact Or.inr h
  obtain ⟨H, hH⟩ : ∃ H : Heap, s.heap = H := ⟨_, rfl⟩
  obtain ⟨locs, hlo⟩ : ∃ L : List Loc, ([] : List Loc) = L := ⟨_, rfl⟩
  have hS : va_S A s.heap H locs := by rw [← hH, ← hlo]; exact va_S.rf
  have hP : va_P D vwCl (wM cI r th fp fa χ (opn O) (O 0) (pl O (O 0)) cu fi ne ct on) H := hH ▸ hP
  rw [hH, hlo]
  have hiX3 : ∀ w ∈ u_ws RX3 TX3 16, w ∈ wsX3_flush := by decide +kernel
  have hl := lv_entry ([.ref (r 0)]) (n := 4) (Nat.le_of_ble_eq_true rfl)
  rw [lg_entry_eq]
  generalize (lg_sl ([.ref (r 0)]) ++ List.replicate (4 - (lg_sl ([.ref (r 0)])).length) Slot.unset).toArray = ls at hl ⊢
  have hl : lv_has ls 4 [(0, .ref (r 0))] := hl
  have hh1 := hh.1
  have hh2 := hh.2 hO0
  refine lv_aload_n hx hb dX3_flush_0 rfl (lv_at hl 0 rfl) ?_
  refine lv_aload_n hx hb dX3_flush_1 rfl (lv_at hl 0 rfl) ?_
  refine va_get (D := D) (ci := 3) (v := .int (nI (cu))) (C := RX3) (T := TX3) (N := 16) hx hb hts hiX3 hown hK hP 0 rfl rfl 8 (by decide) (hts (.fieldLink RX3 54 "PairedCellsModel" "current" "I") (by decide +kernel)) (fun _ h9 => h9) rfl dX3_flush_2 ?_
  refine xc_Vi (ci := 3) (rest := []) (As := [.int (nI (cu))]) ⟨hx, hb, hml, hown, hts⟩ (c_X3_takesMore l D r th fp fa χ (opn O) (O 0) (pl O (O 0)) cu fi ne ct on cu hcu hχ hpx) (cwV 1 hts gX3_flush_X3_takesMore rfl rfl rfl (by decide +kernel) ⟨Nat.le_of_ble_eq_true rfl, Nat.le_of_ble_eq_true rfl⟩) hN hK (hP) rfl 0 rfl rfl hl.1 rfl (Nat.le_of_ble_eq_true rfl) dX3_flush_5 ⟨Nat.le_of_ble_eq_true rfl, Nat.le_of_ble_eq_true rfl⟩ (fun r_5 hw_5 => ?_)
  refine xz_ne (tgt := 24) hx hb dX3_flush_8 (by decide) rfl (fun c_8 => ?_) (fun c_8 => ?_)
  · have h_8 := bo.t hw_5 c_8
    have hcb : cu = b := (nxb_in h_8).symm.trans hbe.symm
    rw [hcb] at hP hD
    refine lv_bipush (v := nI 16) hx hb dX3_flush_24 (by decide) ?_
    refine lv_aload_n hx hb dX3_flush_26 rfl (lv_at hl 0 rfl) ?_
    refine va_get (D := D) (ci := 3) (v := .int (nI (b))) (C := RX3) (T := TX3) (N := 16) hx hb hts hiX3 hown hK hP 0 rfl rfl 8 (by decide) (hts (.fieldLink RX3 54 "PairedCellsModel" "current" "I") (by decide +kernel)) (fun _ h9 => h9) rfl dX3_flush_27 ?_
    refine xr_mul hx hb dX3_flush_30 ?_
    refine lv_aload_n hx hb dX3_flush_31 rfl (lv_at hl 0 rfl) ?_
    refine lv_aload_n hx hb dX3_flush_32 rfl (lv_at hl 0 rfl) ?_
    refine va_get (D := D) (ci := 3) (v := .int (nI (b))) (C := RX3) (T := TX3) (N := 16) hx hb hts hiX3 hown hK hP 0 rfl rfl 8 (by decide) (hts (.fieldLink RX3 54 "PairedCellsModel" "current" "I") (by decide +kernel)) (fun _ h9 => h9) rfl dX3_flush_33 ?_
    refine xc_Vi (ci := 3) (rest := [.int (nI (16 * b))]) (As := [.int (nI (b))]) ⟨hx, hb, hml, hown, hts⟩ (c_X3_used l D r th fp fa χ (opn O) (O 0) (pl O (O 0)) b fi ne ct on b hb6 hχ hpx) (cwV 1 hts gX3_flush_X3_used rfl rfl rfl (by decide +kernel) ⟨Nat.le_of_ble_eq_true rfl, Nat.le_of_ble_eq_true rfl⟩) hN hK (hP) rfl 0 rfl rfl hl.1 rfl (Nat.le_of_ble_eq_true rfl) dX3_flush_36 ⟨Nat.le_of_ble_eq_true rfl, Nat.le_of_ble_eq_true rfl⟩ (fun r_36 hw_36 => ?_)
    subst hw_36
    refine xr_add hx hb dX3_flush_39 ?_
    refine lv_istore_n (lv' := [(1, .int (nI (16 * b + (plc χ b)))), (0, .ref (r 0))]) hx hb dX3_flush_40 rfl hl (by decide) rfl (fun ls hl => ?_)
    refine lv_iload_n hx hb dX3_flush_41 rfl (lv_at hl 0 rfl) ?_
    refine lv_bipush (v := nI 16) hx hb dX3_flush_42 (by decide) ?_
    refine xr_rem hx hb (by omega) (by decide) (by decide) dX3_flush_44 ?_
    refine xr_nat (x' := plc χ b) (by omega) ?_
    refine lv_bipush (v := nI 8) hx hb dX3_flush_45 (by decide) ?_
    refine xi_ne (tgt := 59) hx hb dX3_flush_47 (by decide) (nI_toInt (by omega)) (nI_toInt (by omega)) (fun c_47 => ?_) (fun c_47 => ?_)
    · refine lv_aload_n hx hb dX3_flush_59 rfl (lv_at hl 1 rfl) ?_
      have hF9 := x_hF (hD) hS hA
      refine xw_Vi (ci := 3) (rest := []) (As := []) ⟨hx, hb, hml, hown, hts⟩ (c_X3_isCut l D r th fp fa χ (opn O) (O 0) (pl O (O 0)) b fi ne ct on (by omega) H.size) (cwV 0 hts gX3_flush_X3_isCut rfl rfl rfl (by decide +kernel) ⟨Nat.le_of_ble_eq_true rfl, Nat.le_of_ble_eq_true rfl⟩) hN hK (hP) (hD) hS hA rfl 0 rfl rfl hl.1 rfl (Nat.le_of_ble_eq_true rfl) dX3_flush_60 ⟨Nat.le_of_ble_eq_true rfl, Nat.le_of_ble_eq_true rfl⟩ (fun r_60 u_60 H1 locs hw_60 hP1 hD1 hDA hk9 hS => ?_)
      rcases hw_60 with ⟨hc1, rfl, rfl⟩ | ⟨hc1, rfl, rfl⟩
      · have hP := hP1
        have hD := hDA
        generalize H1 = H at hP hS ⊢
        have hP : va_P D vwCl (wM cI r th fp fa χ (opn O) (O 0) (pl O (O 0)) b fi ne 0 0) H := hP
        have hD : va_D A (wM cI r th fp fa χ (opn O) (O 0) (pl O (O 0)) b fi ne 0 0) := hD
        refine xz_eq (tgt := 94) hx hb dX3_flush_63 (by decide) (nI_toInt (by omega)) (fun c_63 => ?_) (fun c_63 => ?_)
        · exfalso; omega
        · refine lv_aload_n hx hb dX3_flush_66 rfl (lv_at hl 1 rfl) ?_
          refine va_get (D := D) (ci := 3) (v := .ref (r 1)) (C := RX3) (T := TX3) (N := 16) hx hb hts hiX3 hown hK hP 0 rfl rfl 1 (by decide) (hts (.fieldLink RX3 7 "PairedCellsModel" "states" "[I") (by decide +kernel)) (fun _ h9 => h9) rfl dX3_flush_67 ?_
          refine lv_iload_n hx hb dX3_flush_70 rfl (lv_at hl 0 rfl) ?_
          refine lv_iconst (v := nI 2) hx hb dX3_flush_71 (by decide) ?_
          refine xr_iast hx hb hK hP hD hS 1 0 rfl rfl (by omega) (by decide) dX3_flush_72 (fun H locs hP hD hS => ?_)
          have hP : va_P D vwCl (mX cI r th fp fa (up (fun j => χ j) (16 * b + (plc χ b)) (2)) (fun j => χ (1000 + j)) (fun j => χ (100 + j)) (fun j => χ (200 + j)) (fun j => χ (110 + j)) (opn O) (O 0) (pl O (O 0)) b fi ne 0 0) H := hP
          have hD : va_D A (mX cI r th fp fa (up (fun j => χ j) (16 * b + (plc χ b)) (2)) (fun j => χ (1000 + j)) (fun j => χ (100 + j)) (fun j => χ (200 + j)) (fun j => χ (110 + j)) (opn O) (O 0) (pl O (O 0)) b fi ne 0 0) := hD
          refine lv_iload_n hx hb dX3_flush_73 rfl (lv_at hl 0 rfl) ?_
          refine lv_bipush (v := nI 16) hx hb dX3_flush_74 (by decide) ?_
          refine xr_rem hx hb (by omega) (by decide) (by decide) dX3_flush_76 ?_
          refine xr_nat (x' := plc χ b) (by omega) ?_
          refine lv_bipush (v := nI 7) hx hb dX3_flush_77 (by decide) ?_
          refine xi_le (tgt := 92) hx hb dX3_flush_79 (by decide) (nI_toInt (by omega)) (nI_toInt (by omega)) (fun c_79 => ?_) (fun c_79 => ?_)
          · refine lv_iconst (v := nI 0) hx hb dX3_flush_92 (by decide) ?_
            have e1 : fX χ b ct O = (cuw χ b (plc χ b)) := by unfold fX; rw [cif_f (show ¬ plc χ b = 8 by omega)]; (repeat' (first | rw [cif_t (by omega)] | rw [cif_f (by omega)]))
            have e2 : fO χ b ct O = O := by unfold fO; rw [cif_f (show ¬ plc χ b = 8 by omega)]; (repeat' (first | rw [cif_t (by omega)] | rw [cif_f (by omega)]))
            have e3 : fCt χ b ct = 0 := by unfold fCt; (rw [cif_f (show ¬ plc χ b = 8 by omega)]) <;> omega
            have e4 : fOn χ b ct on = 0 := by unfold fOn; rw [cif_f (show ¬ plc χ b = 8 by omega)]; (repeat' (first | rw [cif_t (by omega)] | rw [cif_f (by omega)]))
            have hq9 : (mX cI r th fp fa (up (fun j => χ j) (16 * b + (plc χ b)) (2)) (fun j => χ (1000 + j)) (fun j => χ (100 + j)) (fun j => χ (200 + j)) (fun j => χ (110 + j)) (opn O) (O 0) (pl O (O 0)) b fi ne 0 0 : va_W) = wM cI r th fp fa (fX χ b ct O) (opn (fO χ b ct O)) (fO χ b ct O 0) (pl (fO χ b ct O) (fO χ b ct O 0)) b fi ne (fCt χ b ct) (fOn χ b ct on) := (by rw [e1, e2, e3, e4]; exact wM_eq (fun j hj => (by simp only [cuw, up]; (repeat' split) <;> first | rfl | omega | (exfalso; omega) | (congr 1; omega))) (fun j hj => (by simp only [cuw, up]; (repeat' split) <;> first | rfl | omega | (exfalso; omega) | (congr 1; omega))) (fun j hj => (by simp only [cuw, up]; (repeat' split) <;> first | rfl | omega | (exfalso; omega) | (congr 1; omega))) (fun j hj => (by simp only [cuw, up]; (repeat' split) <;> first | rfl | omega | (exfalso; omega) | (congr 1; omega))) (fun j hj => (by simp only [cuw, up]; (repeat' split) <;> first | rfl | omega | (exfalso; omega) | (congr 1; omega))) (fun j hj => rfl))
            exact xf_z (post := fun (x : Int32) (u : (Nat → Nat) × (Nat → Nat) × Nat × Nat) => bo x (fOk χ b ct) ∧ u = (fO χ b ct O, fX χ b ct O, fCt χ b ct, fOn χ b ct on)) (w1 := fun (u : (Nat → Nat) × (Nat → Nat) × Nat × Nat) => wM cI r th fp fa u.2.1 (opn u.1) (u.1 0) (pl u.1 (u.1 0)) b fi ne u.2.2.1 u.2.2.2) (fO χ b ct O, fX χ b ct O, fCt χ b ct, fOn χ b ct on) hx hb hr hlocks rfl (⟨bo.zero (by unfold fOk; omega), rfl⟩) (va_P.eqw hq9 hP) hK (va_D.eqw hq9 hD) hS dX3_flush_93
          · refine lv_aload_n hx hb dX3_flush_82 rfl (lv_at hl 1 rfl) ?_
            refine va_get (D := D) (ci := 3) (v := .ref (r 1)) (C := RX3) (T := TX3) (N := 16) hx hb hts hiX3 hown hK hP 0 rfl rfl 1 (by decide) (hts (.fieldLink RX3 7 "PairedCellsModel" "states" "[I") (by decide +kernel)) (fun _ h9 => h9) rfl dX3_flush_83 ?_
            refine lv_iload_n hx hb dX3_flush_86 rfl (lv_at hl 0 rfl) ?_
            refine lv_bipush (v := nI 8) hx hb dX3_flush_87 (by decide) ?_
            refine xr_sub hx hb (by omega) dX3_flush_89 ?_
            refine lv_iconst (v := nI 2) hx hb dX3_flush_90 (by decide) ?_
            refine xr_iast hx hb hK hP hD hS 1 0 rfl rfl (by omega) (by decide) dX3_flush_91 (fun H locs hP hD hS => ?_)
            have hP : va_P D vwCl (mX cI r th fp fa (up (up (fun j => χ j) (16 * b + (plc χ b)) (2)) (16 * b + (plc χ b) - 8) (2)) (fun j => χ (1000 + j)) (fun j => χ (100 + j)) (fun j => χ (200 + j)) (fun j => χ (110 + j)) (opn O) (O 0) (pl O (O 0)) b fi ne 0 0) H := hP
            have hD : va_D A (mX cI r th fp fa (up (up (fun j => χ j) (16 * b + (plc χ b)) (2)) (16 * b + (plc χ b) - 8) (2)) (fun j => χ (1000 + j)) (fun j => χ (100 + j)) (fun j => χ (200 + j)) (fun j => χ (110 + j)) (opn O) (O 0) (pl O (O 0)) b fi ne 0 0) := hD
            refine lv_iconst (v := nI 0) hx hb dX3_flush_92 (by decide) ?_
            have e1 : fX χ b ct O = (cuw χ b (plc χ b)) := by unfold fX; rw [cif_f (show ¬ plc χ b = 8 by omega)]; (repeat' (first | rw [cif_t (by omega)] | rw [cif_f (by omega)]))
            have e2 : fO χ b ct O = O := by unfold fO; rw [cif_f (show ¬ plc χ b = 8 by omega)]; (repeat' (first | rw [cif_t (by omega)] | rw [cif_f (by omega)]))
            have e3 : fCt χ b ct = 0 := by unfold fCt; (rw [cif_f (show ¬ plc χ b = 8 by omega)]) <;> omega
            have e4 : fOn χ b ct on = 0 := by unfold fOn; rw [cif_f (show ¬ plc χ b = 8 by omega)]; (repeat' (first | rw [cif_t (by omega)] | rw [cif_f (by omega)]))
            have hq9 : (mX cI r th fp fa (up (up (fun j => χ j) (16 * b + (plc χ b)) (2)) (16 * b + (plc χ b) - 8) (2)) (fun j => χ (1000 + j)) (fun j => χ (100 + j)) (fun j => χ (200 + j)) (fun j => χ (110 + j)) (opn O) (O 0) (pl O (O 0)) b fi ne 0 0 : va_W) = wM cI r th fp fa (fX χ b ct O) (opn (fO χ b ct O)) (fO χ b ct O 0) (pl (fO χ b ct O) (fO χ b ct O 0)) b fi ne (fCt χ b ct) (fOn χ b ct on) := (by rw [e1, e2, e3, e4]; exact wM_eq (fun j hj => (by simp only [cuw, up]; (repeat' split) <;> first | rfl | omega | (exfalso; omega) | (congr 1; omega))) (fun j hj => (by simp only [cuw, up]; (repeat' split) <;> first | rfl | omega | (exfalso; omega) | (congr 1; omega))) (fun j hj => (by simp only [cuw, up]; (repeat' split) <;> first | rfl | omega | (exfalso; omega) | (congr 1; omega))) (fun j hj => (by simp only [cuw, up]; (repeat' split) <;> first | rfl | omega | (exfalso; omega) | (congr 1; omega))) (fun j hj => (by simp only [cuw, up]; (repeat' split) <;> first | rfl | omega | (exfalso; omega) | (congr 1; omega))) (fun j hj => rfl))
            exact xf_z (post := fun (x : Int32) (u : (Nat → Nat) × (Nat → Nat) × Nat × Nat) => bo x (fOk χ b ct) ∧ u = (fO χ b ct O, fX χ b ct O, fCt χ b ct, fOn χ b ct on)) (w1 := fun (u : (Nat → Nat) × (Nat → Nat) × Nat × Nat) => wM cI r th fp fa u.2.1 (opn u.1) (u.1 0) (pl u.1 (u.1 0)) b fi ne u.2.2.1 u.2.2.2) (fO χ b ct O, fX χ b ct O, fCt χ b ct, fOn χ b ct on) hx hb hr hlocks rfl (⟨bo.zero (by unfold fOk; omega), rfl⟩) (va_P.eqw hq9 hP) hK (va_D.eqw hq9 hD) hS dX3_flush_93
      · have hP := hP1
        have hD := hDA
        generalize H1 = H at hP hS ⊢
        have hP : va_P D vwCl (wM cI r th fp fa χ (opn O) (O 0) (pl O (O 0)) b fi ne (ct - 1) on) H := hP
        have hD : va_D A (wM cI r th fp fa χ (opn O) (O 0) (pl O (O 0)) b fi ne (ct - 1) on) := hD
        refine xz_eq (tgt := 94) hx hb dX3_flush_63 (by decide) (nI_toInt (by omega)) (fun c_63 => ?_) (fun c_63 => ?_)
        · refine lv_aload_n hx hb dX3_flush_94 rfl (lv_at hl 1 rfl) ?_
          refine va_get (D := D) (ci := 3) (v := .int (nI (ne))) (C := RX3) (T := TX3) (N := 16) hx hb hts hiX3 hown hK hP 0 rfl rfl 10 (by decide) (hts (.fieldLink RX3 73 "PairedCellsModel" "next" "I") (by decide +kernel)) (fun _ h9 => h9) rfl dX3_flush_95 ?_
          refine lv_aload_n hx hb dX3_flush_98 rfl (lv_at hl 1 rfl) ?_
          refine va_get (D := D) (ci := 3) (v := .int (nI ((O 0)))) (C := RX3) (T := TX3) (N := 16) hx hb hts hiX3 hown hK hP 0 rfl rfl 11 (by decide) (hts (.fieldLink RX3 67 "PairedCellsModel" "held" "I") (by decide +kernel)) (fun _ h9 => h9) rfl dX3_flush_99 ?_
          refine xr_sub hx hb (by omega) dX3_flush_102 ?_
          refine lv_istore_n (lv' := [(2, .int (nI (ne - (O 0)))), (1, .int (nI (16 * b + (plc χ b)))), (0, .ref (r 0))]) hx hb dX3_flush_103 rfl hl (by decide) rfl (fun ls hl => ?_)
          refine lv_aload_n hx hb dX3_flush_104 rfl (lv_at hl 2 rfl) ?_
          refine va_get (D := D) (ci := 3) (v := .ref (r 6)) (C := RX3) (T := TX3) (N := 16) hx hb hts hiX3 hown hK hP 0 rfl rfl 13 (by decide) (hts (.fieldLink RX3 33 "PairedCellsModel" "open" "[I") (by decide +kernel)) (fun _ h9 => h9) rfl dX3_flush_105 ?_
          refine lv_iconst (v := nI 0) hx hb dX3_flush_108 (by decide) ?_
          refine lv_aload_n hx hb dX3_flush_109 rfl (lv_at hl 2 rfl) ?_
          refine va_get (D := D) (ci := 3) (v := .int (nI ((O 0)))) (C := RX3) (T := TX3) (N := 16) hx hb hts hiX3 hown hK hP 0 rfl rfl 11 (by decide) (hts (.fieldLink RX3 67 "PairedCellsModel" "held" "I") (by decide +kernel)) (fun _ h9 => h9) rfl dX3_flush_110 ?_
          refine xr_iast hx hb hK hP hD hS 6 0 rfl rfl (by omega) (by decide) dX3_flush_113 (fun H locs hP hD hS => ?_)
          have hP : va_P D vwCl (wM cI r th fp fa χ (up (opn O) (0) ((O 0))) (O 0) (pl O (O 0)) b fi ne (ct - 1) on) H := hP
          have hD : va_D A (wM cI r th fp fa χ (up (opn O) (0) ((O 0))) (O 0) (pl O (O 0)) b fi ne (ct - 1) on) := hD
          refine lv_aload_n hx hb dX3_flush_114 rfl (lv_at hl 2 rfl) ?_
          refine va_get (D := D) (ci := 3) (v := .ref (r 6)) (C := RX3) (T := TX3) (N := 16) hx hb hts hiX3 hown hK hP 0 rfl rfl 13 (by decide) (hts (.fieldLink RX3 33 "PairedCellsModel" "open" "[I") (by decide +kernel)) (fun _ h9 => h9) rfl dX3_flush_115 ?_
          refine lv_iconst (v := nI 1) hx hb dX3_flush_118 (by decide) ?_
          refine lv_iload_n hx hb dX3_flush_119 rfl (lv_at hl 0 rfl) ?_
          refine lv_bipush (v := nI 8) hx hb dX3_flush_120 (by decide) ?_
          refine xr_shr hx hb (by omega) (by omega) dX3_flush_122 ?_
          refine lv_sipush (v := nI 255) hx hb dX3_flush_123 (by decide) ?_
          refine xr_and255 hx hb (by omega) dX3_flush_126 ?_
          refine xr_iast hx hb hK hP hD hS 6 0 rfl rfl (by omega) (by decide) dX3_flush_127 (fun H locs hP hD hS => ?_)
          have hP : va_P D vwCl (wM cI r th fp fa χ (up (up (opn O) (0) ((O 0))) (1) (((ne - (O 0)) / 2 ^ 8) % 256)) (O 0) (pl O (O 0)) b fi ne (ct - 1) on) H := hP
          have hD : va_D A (wM cI r th fp fa χ (up (up (opn O) (0) ((O 0))) (1) (((ne - (O 0)) / 2 ^ 8) % 256)) (O 0) (pl O (O 0)) b fi ne (ct - 1) on) := hD
          refine lv_aload_n hx hb dX3_flush_128 rfl (lv_at hl 2 rfl) ?_
          refine va_get (D := D) (ci := 3) (v := .ref (r 6)) (C := RX3) (T := TX3) (N := 16) hx hb hts hiX3 hown hK hP 0 rfl rfl 13 (by decide) (hts (.fieldLink RX3 33 "PairedCellsModel" "open" "[I") (by decide +kernel)) (fun _ h9 => h9) rfl dX3_flush_129 ?_
          refine lv_iconst (v := nI 2) hx hb dX3_flush_132 (by decide) ?_
          refine lv_iload_n hx hb dX3_flush_133 rfl (lv_at hl 0 rfl) ?_
          refine lv_sipush (v := nI 255) hx hb dX3_flush_134 (by decide) ?_
          refine xr_and255 hx hb (by omega) dX3_flush_137 ?_
          refine xr_iast hx hb hK hP hD hS 6 0 rfl rfl (by omega) (by decide) dX3_flush_138 (fun H locs hP hD hS => ?_)
          have hP : va_P D vwCl (wM cI r th fp fa χ (up (up (up (opn O) (0) ((O 0))) (1) (((ne - (O 0)) / 2 ^ 8) % 256)) (2) ((ne - (O 0)) % 256)) (O 0) (pl O (O 0)) b fi ne (ct - 1) on) H := hP
          have hD : va_D A (wM cI r th fp fa χ (up (up (up (opn O) (0) ((O 0))) (1) (((ne - (O 0)) / 2 ^ 8) % 256)) (2) ((ne - (O 0)) % 256)) (O 0) (pl O (O 0)) b fi ne (ct - 1) on) := hD
          have hq9 : (wM cI r th fp fa χ (up (up (up (opn O) (0) ((O 0))) (1) (((ne - (O 0)) / 2 ^ 8) % 256)) (2) ((ne - (O 0)) % 256)) (O 0) (pl O (O 0)) b fi ne (ct - 1) on : va_W) = wM cI r th fp fa χ O (O 0) (pl O (O 0)) b fi ne (ct - 1) on := mX_eq (fun j hj => rfl) (fun j hj => rfl) (fun j hj => rfl) (fun j hj => rfl) (fun j hj => rfl) (fun j hj => by simp only [up, opn]; (repeat' split) <;> first | rfl | omega | (exfalso; omega) | (subst_vars; omega))
          have hP := va_P.eqw hq9 hP
          have hD := va_D.eqw hq9 hD
          have hP : va_P D vwCl (wM cI r th fp fa χ O (O 0) (pl O (O 0)) b fi ne (ct - 1) on) H := hP
          have hD : va_D A (wM cI r th fp fa χ O (O 0) (pl O (O 0)) b fi ne (ct - 1) on) := hD
          refine lv_iconst (v := nI 0) hx hb dX3_flush_139 (by decide) ?_
          refine lv_istore_n (lv' := [(3, .int (nI (0))), (2, .int (nI (ne - (O 0)))), (1, .int (nI (16 * b + (plc χ b)))), (0, .ref (r 0))]) hx hb dX3_flush_140 rfl hl (by decide) rfl (fun ls hl => ?_)
          have hq9 : (wM cI r th fp fa χ O (O 0) (pl O (O 0)) b fi ne (ct - 1) on : va_W) = mX cI r th fp fa (fun j => χ j) (fun j => if 16 * (16 * b + plc χ b) ≤ j ∧ j < 16 * (16 * b + plc χ b) + 0 then O (j - 16 * (16 * b + plc χ b)) else χ (1000 + j)) (fun j => χ (100 + j)) (fun j => χ (200 + j)) (fun j => χ (110 + j)) O (O 0) (pl O (O 0)) b fi ne (ct - 1) on := (mX_eq (fun j hj => rfl) (fun j hj => (if_neg (by omega)).symm) (fun j hj => rfl) (fun j hj => rfl) (fun j hj => rfl) (fun j hj => rfl))
          refine lpW (α := Nat) (fun k H locs => (k ≤ 16) ∧ va_P D vwCl (mX cI r th fp fa (fun j => χ j) (fun j => if 16 * (16 * b + plc χ b) ≤ j ∧ j < 16 * (16 * b + plc χ b) + k then O (j - 16 * (16 * b + plc χ b)) else χ (1000 + j)) (fun j => χ (100 + j)) (fun j => χ (200 + j)) (fun j => χ (110 + j)) O (O 0) (pl O (O 0)) b fi ne (ct - 1) on) H ∧ va_D A (mX cI r th fp fa (fun j => χ j) (fun j => if 16 * (16 * b + plc χ b) ≤ j ∧ j < 16 * (16 * b + plc χ b) + k then O (j - 16 * (16 * b + plc χ b)) else χ (1000 + j)) (fun j => χ (100 + j)) (fun j => χ (200 + j)) (fun j => χ (110 + j)) O (O 0) (pl O (O 0)) b fi ne (ct - 1) on) ∧ va_S A s.heap H locs) (fun k => [(0, .ref (r 0)), (1, .int (nI (16 * b + (plc χ b)))), (2, .int (nI (ne - (O 0)))), (3, .int (nI (k)))]) 4 (fun k => 16 - k) 0 (⟨by omega, va_P.eqw hq9 hP, va_D.eqw hq9 hD, hS⟩) (lv_sub hl [3, 2, 1, 0] rfl) (fun s9 H locs ls hI9 hl9 ih_141 => ?_)
          obtain ⟨k, rfl⟩ : ∃ z, z = s9 := ⟨_, rfl⟩
          have hl : lv_has ls 4 [(0, .ref (r 0)), (1, .int (nI (16 * b + (plc χ b)))), (2, .int (nI (ne - (O 0)))), (3, .int (nI (k)))] := hl9
          obtain ⟨hk7, hP, hD, hS⟩ : (k ≤ 16) ∧ va_P D vwCl (mX cI r th fp fa (fun j => χ j) (fun j => if 16 * (16 * b + plc χ b) ≤ j ∧ j < 16 * (16 * b + plc χ b) + k then O (j - 16 * (16 * b + plc χ b)) else χ (1000 + j)) (fun j => χ (100 + j)) (fun j => χ (200 + j)) (fun j => χ (110 + j)) O (O 0) (pl O (O 0)) b fi ne (ct - 1) on) H ∧ va_D A (mX cI r th fp fa (fun j => χ j) (fun j => if 16 * (16 * b + plc χ b) ≤ j ∧ j < 16 * (16 * b + plc χ b) + k then O (j - 16 * (16 * b + plc χ b)) else χ (1000 + j)) (fun j => χ (100 + j)) (fun j => χ (200 + j)) (fun j => χ (110 + j)) O (O 0) (pl O (O 0)) b fi ne (ct - 1) on) ∧ va_S A s.heap H locs := hI9
          refine lv_iload_n hx hb dX3_flush_141 rfl (lv_at hl 3 rfl) ?_
          refine lv_bipush (v := nI 16) hx hb dX3_flush_142 (by decide) ?_
          refine xi_ge (tgt := 170) hx hb dX3_flush_144 (by decide) (nI_toInt (by omega)) (nI_toInt (by omega)) (fun c_144 => ?_) (fun c_144 => ?_)
          · refine lv_aload_n hx hb dX3_flush_170 rfl (lv_at hl 0 rfl) ?_
            refine va_get (D := D) (ci := 3) (v := .ref (r 1)) (C := RX3) (T := TX3) (N := 16) hx hb hts hiX3 hown hK hP 0 rfl rfl 1 (by decide) (hts (.fieldLink RX3 7 "PairedCellsModel" "states" "[I") (by decide +kernel)) (fun _ h9 => h9) rfl dX3_flush_171 ?_
            refine lv_iload_n hx hb dX3_flush_174 rfl (lv_at hl 1 rfl) ?_
            refine lv_iconst (v := nI 1) hx hb dX3_flush_175 (by decide) ?_
            refine xr_iast hx hb hK hP hD hS 1 0 rfl rfl (by omega) (by decide) dX3_flush_176 (fun H locs hP hD hS => ?_)
            have hP : va_P D vwCl (mX cI r th fp fa (up (fun j => χ j) (16 * b + (plc χ b)) (1)) (fun j => if 16 * (16 * b + plc χ b) ≤ j ∧ j < 16 * (16 * b + plc χ b) + k then O (j - 16 * (16 * b + plc χ b)) else χ (1000 + j)) (fun j => χ (100 + j)) (fun j => χ (200 + j)) (fun j => χ (110 + j)) O (O 0) (pl O (O 0)) b fi ne (ct - 1) on) H := hP
            have hD : va_D A (mX cI r th fp fa (up (fun j => χ j) (16 * b + (plc χ b)) (1)) (fun j => if 16 * (16 * b + plc χ b) ≤ j ∧ j < 16 * (16 * b + plc χ b) + k then O (j - 16 * (16 * b + plc χ b)) else χ (1000 + j)) (fun j => χ (100 + j)) (fun j => χ (200 + j)) (fun j => χ (110 + j)) O (O 0) (pl O (O 0)) b fi ne (ct - 1) on) := hD
            have hq9 : (mX cI r th fp fa (up (fun j => χ j) (16 * b + (plc χ b)) (1)) (fun j => if 16 * (16 * b + plc χ b) ≤ j ∧ j < 16 * (16 * b + plc χ b) + k then O (j - 16 * (16 * b + plc χ b)) else χ (1000 + j)) (fun j => χ (100 + j)) (fun j => χ (200 + j)) (fun j => χ (110 + j)) O (O 0) (pl O (O 0)) b fi ne (ct - 1) on : va_W) = wM cI r th fp fa (wrt χ b (plc χ b) O) O (O 0) (pl O (O 0)) b fi ne (ct - 1) on := wM_eq (fun j hj => (by simp only [wrt, up]; (repeat' split) <;> first | rfl | omega | (exfalso; omega) | (congr 1; omega))) (fun j hj => (by simp only [wrt, up]; (repeat' split) <;> first | rfl | omega | (exfalso; omega) | (congr 1; omega))) (fun j hj => (by simp only [wrt, up]; (repeat' split) <;> first | rfl | omega | (exfalso; omega) | (congr 1; omega))) (fun j hj => (by simp only [wrt, up]; (repeat' split) <;> first | rfl | omega | (exfalso; omega) | (congr 1; omega))) (fun j hj => (by simp only [wrt, up]; (repeat' split) <;> first | rfl | omega | (exfalso; omega) | (congr 1; omega))) (fun j hj => rfl)
            have hP := va_P.eqw hq9 hP
            have hD := va_D.eqw hq9 hD
            have hP : va_P D vwCl (wM cI r th fp fa (wrt χ b (plc χ b) O) O (O 0) (pl O (O 0)) b fi ne (ct - 1) on) H := hP
            have hD : va_D A (wM cI r th fp fa (wrt χ b (plc χ b) O) O (O 0) (pl O (O 0)) b fi ne (ct - 1) on) := hD
            refine lv_aload_n hx hb dX3_flush_177 rfl (lv_at hl 0 rfl) ?_
            have hF9 := x_hF (hD) hS hA
            refine xw_Vv (ci := 3) (rest := []) (As := []) ⟨hx, hb, hml, hown, hts⟩ (c_X3_empty l D r th fp fa (wrt χ b (plc χ b) O) O (O 0) (pl O (O 0)) b fi ne (ct - 1) on H.size) (cwV 0 hts gX3_flush_X3_empty rfl rfl rfl (by decide +kernel) ⟨Nat.le_of_ble_eq_true rfl, Nat.le_of_ble_eq_true rfl⟩) hN hK (hP) (hD) hS hA rfl 0 rfl rfl hl.1 rfl (Nat.le_of_ble_eq_true rfl) dX3_flush_178 ⟨Nat.le_of_ble_eq_true rfl, Nat.le_of_ble_eq_true rfl⟩ (fun u_178 H1 locs hw_178 hP1 hD1 hDA hk9 hS => ?_)
            have hP := hP1
            have hD := hDA
            generalize H1 = H at hP hS ⊢
            have hP : va_P D vwCl (wM cI r th fp fa (wrt χ b (plc χ b) O) (fun _ => 0) 0 3 b fi ne (ct - 1) on) H := hP
            have hD : va_D A (wM cI r th fp fa (wrt χ b (plc χ b) O) (fun _ => 0) 0 3 b fi ne (ct - 1) on) := hD
            refine lv_iconst (v := nI 1) hx hb dX3_flush_181 (by decide) ?_
            have e1 : fX χ b ct O = (wrt χ b (plc χ b) O) := by unfold fX; rw [cif_f (show ¬ plc χ b = 8 by omega)]; (repeat' (first | rw [cif_t (by omega)] | rw [cif_f (by omega)]))
            have e2 : fO χ b ct O = (fun _ => 0) := by unfold fO; rw [cif_f (show ¬ plc χ b = 8 by omega)]; (repeat' (first | rw [cif_t (by omega)] | rw [cif_f (by omega)]))
            have e3 : fCt χ b ct = (ct - 1) := by unfold fCt; (rw [cif_f (show ¬ plc χ b = 8 by omega)]) <;> omega
            have e4 : fOn χ b ct on = on := by unfold fOn; rw [cif_f (show ¬ plc χ b = 8 by omega)]; (repeat' (first | rw [cif_t (by omega)] | rw [cif_f (by omega)]))
            have hq9 : (wM cI r th fp fa (wrt χ b (plc χ b) O) (fun _ => 0) 0 3 b fi ne (ct - 1) on : va_W) = wM cI r th fp fa (fX χ b ct O) (opn (fO χ b ct O)) (fO χ b ct O 0) (pl (fO χ b ct O) (fO χ b ct O 0)) b fi ne (fCt χ b ct) (fOn χ b ct on) := (by rw [e1, e2, e3, e4]; exact mX_eq (fun j hj => rfl) (fun j hj => rfl) (fun j hj => rfl) (fun j hj => rfl) (fun j hj => rfl) (fun j hj => by unfold opn; split <;> rfl))
            exact xf_z (post := fun (x : Int32) (u : (Nat → Nat) × (Nat → Nat) × Nat × Nat) => bo x (fOk χ b ct) ∧ u = (fO χ b ct O, fX χ b ct O, fCt χ b ct, fOn χ b ct on)) (w1 := fun (u : (Nat → Nat) × (Nat → Nat) × Nat × Nat) => wM cI r th fp fa u.2.1 (opn u.1) (u.1 0) (pl u.1 (u.1 0)) b fi ne u.2.2.1 u.2.2.2) (fO χ b ct O, fX χ b ct O, fCt χ b ct, fOn χ b ct on) hx hb hr hlocks rfl (⟨bo.one (by unfold fOk; omega), rfl⟩) (va_P.eqw hq9 hP) hK (va_D.eqw hq9 hD) hS dX3_flush_182
          · refine lv_aload_n hx hb dX3_flush_147 rfl (lv_at hl 0 rfl) ?_
            refine va_get (D := D) (ci := 3) (v := .ref (r 2)) (C := RX3) (T := TX3) (N := 16) hx hb hts hiX3 hown hK hP 0 rfl rfl 2 (by decide) (hts (.fieldLink RX3 13 "PairedCellsModel" "bytes" "[I") (by decide +kernel)) (fun _ h9 => h9) rfl dX3_flush_148 ?_
            refine lv_bipush (v := nI 16) hx hb dX3_flush_151 (by decide) ?_
            refine lv_iload_n hx hb dX3_flush_153 rfl (lv_at hl 1 rfl) ?_
            refine xr_mul hx hb dX3_flush_154 ?_
            refine lv_iload_n hx hb dX3_flush_155 rfl (lv_at hl 3 rfl) ?_
            refine xr_add hx hb dX3_flush_156 ?_
            refine lv_aload_n hx hb dX3_flush_157 rfl (lv_at hl 0 rfl) ?_
            refine va_get (D := D) (ci := 3) (v := .ref (r 6)) (C := RX3) (T := TX3) (N := 16) hx hb hts hiX3 hown hK hP 0 rfl rfl 13 (by decide) (hts (.fieldLink RX3 33 "PairedCellsModel" "open" "[I") (by decide +kernel)) (fun _ h9 => h9) rfl dX3_flush_158 ?_
            refine lv_iload_n hx hb dX3_flush_161 rfl (lv_at hl 3 rfl) ?_
            refine xr_iald hx hb hK hP 6 0 rfl rfl (by omega) (by decide) dX3_flush_162 ?_
            refine xr_iast hx hb hK hP hD hS 2 0 rfl rfl (by omega) (by decide) dX3_flush_163 (fun H locs hP hD hS => ?_)
            have hP : va_P D vwCl (mX cI r th fp fa (fun j => χ j) (up (fun j => if 16 * (16 * b + plc χ b) ≤ j ∧ j < 16 * (16 * b + plc χ b) + k then O (j - 16 * (16 * b + plc χ b)) else χ (1000 + j)) (16 * (16 * b + (plc χ b)) + k) (O (k))) (fun j => χ (100 + j)) (fun j => χ (200 + j)) (fun j => χ (110 + j)) O (O 0) (pl O (O 0)) b fi ne (ct - 1) on) H := hP
            have hD : va_D A (mX cI r th fp fa (fun j => χ j) (up (fun j => if 16 * (16 * b + plc χ b) ≤ j ∧ j < 16 * (16 * b + plc χ b) + k then O (j - 16 * (16 * b + plc χ b)) else χ (1000 + j)) (16 * (16 * b + (plc χ b)) + k) (O (k))) (fun j => χ (100 + j)) (fun j => χ (200 + j)) (fun j => χ (110 + j)) O (O 0) (pl O (O 0)) b fi ne (ct - 1) on) := hD
            refine lv_iinc (v := nI (k + 1)) (lv' := [(3, .int (nI (k + 1))), (0, .ref (r 0)), (1, .int (nI (16 * b + (plc χ b)))), (2, .int (nI (ne - (O 0))))]) hx hb dX3_flush_164 hl (k := 3) rfl (nI_add _ _) (by decide) rfl (fun ls hl => ?_)
            refine lv_goto (tgt := 141) hx hb dX3_flush_167 (by decide) ?_
            have hq9 : (mX cI r th fp fa (fun j => χ j) (up (fun j => if 16 * (16 * b + plc χ b) ≤ j ∧ j < 16 * (16 * b + plc χ b) + k then O (j - 16 * (16 * b + plc χ b)) else χ (1000 + j)) (16 * (16 * b + (plc χ b)) + k) (O (k))) (fun j => χ (100 + j)) (fun j => χ (200 + j)) (fun j => χ (110 + j)) O (O 0) (pl O (O 0)) b fi ne (ct - 1) on : va_W) = mX cI r th fp fa (fun j => χ j) (fun j => if 16 * (16 * b + plc χ b) ≤ j ∧ j < 16 * (16 * b + plc χ b) + (k + 1) then O (j - 16 * (16 * b + plc χ b)) else χ (1000 + j)) (fun j => χ (100 + j)) (fun j => χ (200 + j)) (fun j => χ (110 + j)) O (O 0) (pl O (O 0)) b fi ne (ct - 1) on := (mX_eq (fun j hj => rfl) (fun j hj => by simp only [up]; (repeat' split) <;> first | rfl | omega | (exfalso; omega) | (congr 1; omega)) (fun j hj => rfl) (fun j hj => rfl) (fun j hj => rfl) (fun j hj => rfl))
            exact ih_141 (k + 1) _ _ _ (⟨by omega, va_P.eqw hq9 hP, va_D.eqw hq9 hD, hS⟩) (by first | omega | (dsimp only; omega)) (lv_sub hl [1, 2, 3, 0] rfl)
        · exfalso; omega
    · refine lv_aload_n hx hb dX3_flush_50 rfl (lv_at hl 1 rfl) ?_
      have hF9 := x_hF (hD) hS hA
      refine xw_Vi (ci := 3) (rest := []) (As := []) ⟨hx, hb, hml, hown, hts⟩ (c_X3_writeGuard l D r th fp fa χ (opn O) (O 0) (pl O (O 0)) b fi ne ct on hb6 hχ hct H.size) (cwV 0 hts gX3_flush_X3_writeGuard rfl rfl rfl (by decide +kernel) ⟨Nat.le_of_ble_eq_true rfl, Nat.le_of_ble_eq_true rfl⟩) hN hK (hP) (hD) hS hA rfl 0 rfl rfl hl.1 rfl (Nat.le_of_ble_eq_true rfl) dX3_flush_51 ⟨Nat.le_of_ble_eq_true rfl, Nat.le_of_ble_eq_true rfl⟩ (fun r_51 u_51 H1 locs hw_51 hP1 hD1 hDA hk9 hS => ?_)
      rcases hw_51 with ⟨hg1, rfl, rfl⟩ | ⟨hg1, rfl, rfl⟩
      · have hP := hP1
        have hD := hDA
        generalize H1 = H at hP hS ⊢
        have hP : va_P D vwCl (wM cI r th fp fa (up χ (100 + b) 2) (opn O) (O 0) (pl O (O 0)) b fi ne 0 0) H := hP
        have hD : va_D A (wM cI r th fp fa (up χ (100 + b) 2) (opn O) (O 0) (pl O (O 0)) b fi ne 0 0) := hD
        refine xz_ne (tgt := 59) hx hb dX3_flush_54 (by decide) (nI_toInt (by omega)) (fun c_54 => ?_) (fun c_54 => ?_)
        · exfalso; omega
        · refine lv_iconst (v := nI 0) hx hb dX3_flush_57 (by decide) ?_
          have e1 : fX χ b ct O = (up χ (100 + b) 2) := by unfold fX; rw [cif_t (show plc χ b = 8 by omega)]; (repeat' (first | rw [cif_t (by omega)] | rw [cif_f (by omega)]))
          have e2 : fO χ b ct O = O := by unfold fO; rw [cif_t (show plc χ b = 8 by omega)]; (repeat' (first | rw [cif_t (by omega)] | rw [cif_f (by omega)]))
          have e3 : fCt χ b ct = 0 := by unfold fCt; (rw [cif_t (show plc χ b = 8 by omega)]) <;> omega
          have e4 : fOn χ b ct on = 0 := by unfold fOn; rw [cif_t (show plc χ b = 8 by omega)]; (repeat' (first | rw [cif_t (by omega)] | rw [cif_f (by omega)]))
          have hq9 : (wM cI r th fp fa (up χ (100 + b) 2) (opn O) (O 0) (pl O (O 0)) b fi ne 0 0 : va_W) = wM cI r th fp fa (fX χ b ct O) (opn (fO χ b ct O)) (fO χ b ct O 0) (pl (fO χ b ct O) (fO χ b ct O 0)) b fi ne (fCt χ b ct) (fOn χ b ct on) := (by rw [e1, e2, e3, e4])
          exact xf_z (post := fun (x : Int32) (u : (Nat → Nat) × (Nat → Nat) × Nat × Nat) => bo x (fOk χ b ct) ∧ u = (fO χ b ct O, fX χ b ct O, fCt χ b ct, fOn χ b ct on)) (w1 := fun (u : (Nat → Nat) × (Nat → Nat) × Nat × Nat) => wM cI r th fp fa u.2.1 (opn u.1) (u.1 0) (pl u.1 (u.1 0)) b fi ne u.2.2.1 u.2.2.2) (fO χ b ct O, fX χ b ct O, fCt χ b ct, fOn χ b ct on) hx hb hr hlocks rfl (⟨bo.zero (by unfold fOk; omega), rfl⟩) (va_P.eqw hq9 hP) hK (va_D.eqw hq9 hD) hS dX3_flush_58
      · have hP := hP1
        have hD := hDA
        generalize H1 = H at hP hS ⊢
        have hP : va_P D vwCl (wM cI r th fp fa (wgd χ b) (opn O) (O 0) (pl O (O 0)) b fi ne (ct - 1) on) H := hP
        have hD : va_D A (wM cI r th fp fa (wgd χ b) (opn O) (O 0) (pl O (O 0)) b fi ne (ct - 1) on) := hD
        refine xz_ne (tgt := 59) hx hb dX3_flush_54 (by decide) (nI_toInt (by omega)) (fun c_54 => ?_) (fun c_54 => ?_)
        · refine lv_aload_n hx hb dX3_flush_59 rfl (lv_at hl 1 rfl) ?_
          have hF9 := x_hF (hD) hS hA
          refine xw_Vi (ci := 3) (rest := []) (As := []) ⟨hx, hb, hml, hown, hts⟩ (c_X3_isCut l D r th fp fa (wgd χ b) (opn O) (O 0) (pl O (O 0)) b fi ne (ct - 1) on (by omega) H.size) (cwV 0 hts gX3_flush_X3_isCut rfl rfl rfl (by decide +kernel) ⟨Nat.le_of_ble_eq_true rfl, Nat.le_of_ble_eq_true rfl⟩) hN hK (hP) (hD) hS hA rfl 0 rfl rfl hl.1 rfl (Nat.le_of_ble_eq_true rfl) dX3_flush_60 ⟨Nat.le_of_ble_eq_true rfl, Nat.le_of_ble_eq_true rfl⟩ (fun r_60 u_60 H1 locs hw_60 hP1 hD1 hDA hk9 hS => ?_)
          rcases hw_60 with ⟨hc1, rfl, rfl⟩ | ⟨hc1, rfl, rfl⟩
          · have hP := hP1
            have hD := hDA
            generalize H1 = H at hP hS ⊢
            have hP : va_P D vwCl (wM cI r th fp fa (wgd χ b) (opn O) (O 0) (pl O (O 0)) b fi ne 0 0) H := hP
            have hD : va_D A (wM cI r th fp fa (wgd χ b) (opn O) (O 0) (pl O (O 0)) b fi ne 0 0) := hD
            refine xz_eq (tgt := 94) hx hb dX3_flush_63 (by decide) (nI_toInt (by omega)) (fun c_63 => ?_) (fun c_63 => ?_)
            · exfalso; omega
            · refine lv_aload_n hx hb dX3_flush_66 rfl (lv_at hl 1 rfl) ?_
              refine va_get (D := D) (ci := 3) (v := .ref (r 1)) (C := RX3) (T := TX3) (N := 16) hx hb hts hiX3 hown hK hP 0 rfl rfl 1 (by decide) (hts (.fieldLink RX3 7 "PairedCellsModel" "states" "[I") (by decide +kernel)) (fun _ h9 => h9) rfl dX3_flush_67 ?_
              refine lv_iload_n hx hb dX3_flush_70 rfl (lv_at hl 0 rfl) ?_
              refine lv_iconst (v := nI 2) hx hb dX3_flush_71 (by decide) ?_
              refine xr_iast hx hb hK hP hD hS 1 0 rfl rfl (by omega) (by decide) dX3_flush_72 (fun H locs hP hD hS => ?_)
              have hP : va_P D vwCl (mX cI r th fp fa (up (fun j => (wgd χ b) j) (16 * b + (plc χ b)) (2)) (fun j => (wgd χ b) (1000 + j)) (fun j => (wgd χ b) (100 + j)) (fun j => (wgd χ b) (200 + j)) (fun j => (wgd χ b) (110 + j)) (opn O) (O 0) (pl O (O 0)) b fi ne 0 0) H := hP
              have hD : va_D A (mX cI r th fp fa (up (fun j => (wgd χ b) j) (16 * b + (plc χ b)) (2)) (fun j => (wgd χ b) (1000 + j)) (fun j => (wgd χ b) (100 + j)) (fun j => (wgd χ b) (200 + j)) (fun j => (wgd χ b) (110 + j)) (opn O) (O 0) (pl O (O 0)) b fi ne 0 0) := hD
              refine lv_iload_n hx hb dX3_flush_73 rfl (lv_at hl 0 rfl) ?_
              refine lv_bipush (v := nI 16) hx hb dX3_flush_74 (by decide) ?_
              refine xr_rem hx hb (by omega) (by decide) (by decide) dX3_flush_76 ?_
              refine xr_nat (x' := plc χ b) (by omega) ?_
              refine lv_bipush (v := nI 7) hx hb dX3_flush_77 (by decide) ?_
              refine xi_le (tgt := 92) hx hb dX3_flush_79 (by decide) (nI_toInt (by omega)) (nI_toInt (by omega)) (fun c_79 => ?_) (fun c_79 => ?_)
              · exfalso; omega
              · refine lv_aload_n hx hb dX3_flush_82 rfl (lv_at hl 1 rfl) ?_
                refine va_get (D := D) (ci := 3) (v := .ref (r 1)) (C := RX3) (T := TX3) (N := 16) hx hb hts hiX3 hown hK hP 0 rfl rfl 1 (by decide) (hts (.fieldLink RX3 7 "PairedCellsModel" "states" "[I") (by decide +kernel)) (fun _ h9 => h9) rfl dX3_flush_83 ?_
                refine lv_iload_n hx hb dX3_flush_86 rfl (lv_at hl 0 rfl) ?_
                refine lv_bipush (v := nI 8) hx hb dX3_flush_87 (by decide) ?_
                refine xr_sub hx hb (by omega) dX3_flush_89 ?_
                refine lv_iconst (v := nI 2) hx hb dX3_flush_90 (by decide) ?_
                refine xr_iast hx hb hK hP hD hS 1 0 rfl rfl (by omega) (by decide) dX3_flush_91 (fun H locs hP hD hS => ?_)
                have hP : va_P D vwCl (mX cI r th fp fa (up (up (fun j => (wgd χ b) j) (16 * b + (plc χ b)) (2)) (16 * b + (plc χ b) - 8) (2)) (fun j => (wgd χ b) (1000 + j)) (fun j => (wgd χ b) (100 + j)) (fun j => (wgd χ b) (200 + j)) (fun j => (wgd χ b) (110 + j)) (opn O) (O 0) (pl O (O 0)) b fi ne 0 0) H := hP
                have hD : va_D A (mX cI r th fp fa (up (up (fun j => (wgd χ b) j) (16 * b + (plc χ b)) (2)) (16 * b + (plc χ b) - 8) (2)) (fun j => (wgd χ b) (1000 + j)) (fun j => (wgd χ b) (100 + j)) (fun j => (wgd χ b) (200 + j)) (fun j => (wgd χ b) (110 + j)) (opn O) (O 0) (pl O (O 0)) b fi ne 0 0) := hD
                refine lv_iconst (v := nI 0) hx hb dX3_flush_92 (by decide) ?_
                have e1 : fX χ b ct O = (cuw (wgd χ b) b 8) := by unfold fX; rw [cif_t (show plc χ b = 8 by omega)]; (repeat' (first | rw [cif_t (by omega)] | rw [cif_f (by omega)]))
                have e2 : fO χ b ct O = O := by unfold fO; rw [cif_t (show plc χ b = 8 by omega)]; (repeat' (first | rw [cif_t (by omega)] | rw [cif_f (by omega)]))
                have e3 : fCt χ b ct = 0 := by unfold fCt; (rw [cif_t (show plc χ b = 8 by omega)]) <;> omega
                have e4 : fOn χ b ct on = 0 := by unfold fOn; rw [cif_t (show plc χ b = 8 by omega)]; (repeat' (first | rw [cif_t (by omega)] | rw [cif_f (by omega)]))
                have hq9 : (mX cI r th fp fa (up (up (fun j => (wgd χ b) j) (16 * b + (plc χ b)) (2)) (16 * b + (plc χ b) - 8) (2)) (fun j => (wgd χ b) (1000 + j)) (fun j => (wgd χ b) (100 + j)) (fun j => (wgd χ b) (200 + j)) (fun j => (wgd χ b) (110 + j)) (opn O) (O 0) (pl O (O 0)) b fi ne 0 0 : va_W) = wM cI r th fp fa (fX χ b ct O) (opn (fO χ b ct O)) (fO χ b ct O 0) (pl (fO χ b ct O) (fO χ b ct O 0)) b fi ne (fCt χ b ct) (fOn χ b ct on) := (by rw [e1, e2, e3, e4]; exact wM_eq (fun j hj => (by simp only [cuw, up]; (repeat' split) <;> first | rfl | omega | (exfalso; omega) | (congr 1; omega))) (fun j hj => (by simp only [cuw, up]; (repeat' split) <;> first | rfl | omega | (exfalso; omega) | (congr 1; omega))) (fun j hj => (by simp only [cuw, up]; (repeat' split) <;> first | rfl | omega | (exfalso; omega) | (congr 1; omega))) (fun j hj => (by simp only [cuw, up]; (repeat' split) <;> first | rfl | omega | (exfalso; omega) | (congr 1; omega))) (fun j hj => (by simp only [cuw, up]; (repeat' split) <;> first | rfl | omega | (exfalso; omega) | (congr 1; omega))) (fun j hj => rfl))
                exact xf_z (post := fun (x : Int32) (u : (Nat → Nat) × (Nat → Nat) × Nat × Nat) => bo x (fOk χ b ct) ∧ u = (fO χ b ct O, fX χ b ct O, fCt χ b ct, fOn χ b ct on)) (w1 := fun (u : (Nat → Nat) × (Nat → Nat) × Nat × Nat) => wM cI r th fp fa u.2.1 (opn u.1) (u.1 0) (pl u.1 (u.1 0)) b fi ne u.2.2.1 u.2.2.2) (fO χ b ct O, fX χ b ct O, fCt χ b ct, fOn χ b ct on) hx hb hr hlocks rfl (⟨bo.zero (by unfold fOk; omega), rfl⟩) (va_P.eqw hq9 hP) hK (va_D.eqw hq9 hD) hS dX3_flush_93
          · have hP := hP1
            have hD := hDA
            generalize H1 = H at hP hS ⊢
            have hP : va_P D vwCl (wM cI r th fp fa (wgd χ b) (opn O) (O 0) (pl O (O 0)) b fi ne ((ct - 1) - 1) on) H := hP
            have hD : va_D A (wM cI r th fp fa (wgd χ b) (opn O) (O 0) (pl O (O 0)) b fi ne ((ct - 1) - 1) on) := hD
            refine xz_eq (tgt := 94) hx hb dX3_flush_63 (by decide) (nI_toInt (by omega)) (fun c_63 => ?_) (fun c_63 => ?_)
            · refine lv_aload_n hx hb dX3_flush_94 rfl (lv_at hl 1 rfl) ?_
              refine va_get (D := D) (ci := 3) (v := .int (nI (ne))) (C := RX3) (T := TX3) (N := 16) hx hb hts hiX3 hown hK hP 0 rfl rfl 10 (by decide) (hts (.fieldLink RX3 73 "PairedCellsModel" "next" "I") (by decide +kernel)) (fun _ h9 => h9) rfl dX3_flush_95 ?_
              refine lv_aload_n hx hb dX3_flush_98 rfl (lv_at hl 1 rfl) ?_
              refine va_get (D := D) (ci := 3) (v := .int (nI ((O 0)))) (C := RX3) (T := TX3) (N := 16) hx hb hts hiX3 hown hK hP 0 rfl rfl 11 (by decide) (hts (.fieldLink RX3 67 "PairedCellsModel" "held" "I") (by decide +kernel)) (fun _ h9 => h9) rfl dX3_flush_99 ?_
              refine xr_sub hx hb (by omega) dX3_flush_102 ?_
              refine lv_istore_n (lv' := [(2, .int (nI (ne - (O 0)))), (1, .int (nI (16 * b + (plc χ b)))), (0, .ref (r 0))]) hx hb dX3_flush_103 rfl hl (by decide) rfl (fun ls hl => ?_)
              refine lv_aload_n hx hb dX3_flush_104 rfl (lv_at hl 2 rfl) ?_
              refine va_get (D := D) (ci := 3) (v := .ref (r 6)) (C := RX3) (T := TX3) (N := 16) hx hb hts hiX3 hown hK hP 0 rfl rfl 13 (by decide) (hts (.fieldLink RX3 33 "PairedCellsModel" "open" "[I") (by decide +kernel)) (fun _ h9 => h9) rfl dX3_flush_105 ?_
              refine lv_iconst (v := nI 0) hx hb dX3_flush_108 (by decide) ?_
              refine lv_aload_n hx hb dX3_flush_109 rfl (lv_at hl 2 rfl) ?_
              refine va_get (D := D) (ci := 3) (v := .int (nI ((O 0)))) (C := RX3) (T := TX3) (N := 16) hx hb hts hiX3 hown hK hP 0 rfl rfl 11 (by decide) (hts (.fieldLink RX3 67 "PairedCellsModel" "held" "I") (by decide +kernel)) (fun _ h9 => h9) rfl dX3_flush_110 ?_
              refine xr_iast hx hb hK hP hD hS 6 0 rfl rfl (by omega) (by decide) dX3_flush_113 (fun H locs hP hD hS => ?_)
              have hP : va_P D vwCl (wM cI r th fp fa (wgd χ b) (up (opn O) (0) ((O 0))) (O 0) (pl O (O 0)) b fi ne ((ct - 1) - 1) on) H := hP
              have hD : va_D A (wM cI r th fp fa (wgd χ b) (up (opn O) (0) ((O 0))) (O 0) (pl O (O 0)) b fi ne ((ct - 1) - 1) on) := hD
              refine lv_aload_n hx hb dX3_flush_114 rfl (lv_at hl 2 rfl) ?_
              refine va_get (D := D) (ci := 3) (v := .ref (r 6)) (C := RX3) (T := TX3) (N := 16) hx hb hts hiX3 hown hK hP 0 rfl rfl 13 (by decide) (hts (.fieldLink RX3 33 "PairedCellsModel" "open" "[I") (by decide +kernel)) (fun _ h9 => h9) rfl dX3_flush_115 ?_
              refine lv_iconst (v := nI 1) hx hb dX3_flush_118 (by decide) ?_
              refine lv_iload_n hx hb dX3_flush_119 rfl (lv_at hl 0 rfl) ?_
              refine lv_bipush (v := nI 8) hx hb dX3_flush_120 (by decide) ?_
              refine xr_shr hx hb (by omega) (by omega) dX3_flush_122 ?_
              refine lv_sipush (v := nI 255) hx hb dX3_flush_123 (by decide) ?_
              refine xr_and255 hx hb (by omega) dX3_flush_126 ?_
              refine xr_iast hx hb hK hP hD hS 6 0 rfl rfl (by omega) (by decide) dX3_flush_127 (fun H locs hP hD hS => ?_)
              have hP : va_P D vwCl (wM cI r th fp fa (wgd χ b) (up (up (opn O) (0) ((O 0))) (1) (((ne - (O 0)) / 2 ^ 8) % 256)) (O 0) (pl O (O 0)) b fi ne ((ct - 1) - 1) on) H := hP
              have hD : va_D A (wM cI r th fp fa (wgd χ b) (up (up (opn O) (0) ((O 0))) (1) (((ne - (O 0)) / 2 ^ 8) % 256)) (O 0) (pl O (O 0)) b fi ne ((ct - 1) - 1) on) := hD
              refine lv_aload_n hx hb dX3_flush_128 rfl (lv_at hl 2 rfl) ?_
              refine va_get (D := D) (ci := 3) (v := .ref (r 6)) (C := RX3) (T := TX3) (N := 16) hx hb hts hiX3 hown hK hP 0 rfl rfl 13 (by decide) (hts (.fieldLink RX3 33 "PairedCellsModel" "open" "[I") (by decide +kernel)) (fun _ h9 => h9) rfl dX3_flush_129 ?_
              refine lv_iconst (v := nI 2) hx hb dX3_flush_132 (by decide) ?_
              refine lv_iload_n hx hb dX3_flush_133 rfl (lv_at hl 0 rfl) ?_
              refine lv_sipush (v := nI 255) hx hb dX3_flush_134 (by decide) ?_
              refine xr_and255 hx hb (by omega) dX3_flush_137 ?_
              refine xr_iast hx hb hK hP hD hS 6 0 rfl rfl (by omega) (by decide) dX3_flush_138 (fun H locs hP hD hS => ?_)
              have hP : va_P D vwCl (wM cI r th fp fa (wgd χ b) (up (up (up (opn O) (0) ((O 0))) (1) (((ne - (O 0)) / 2 ^ 8) % 256)) (2) ((ne - (O 0)) % 256)) (O 0) (pl O (O 0)) b fi ne ((ct - 1) - 1) on) H := hP
              have hD : va_D A (wM cI r th fp fa (wgd χ b) (up (up (up (opn O) (0) ((O 0))) (1) (((ne - (O 0)) / 2 ^ 8) % 256)) (2) ((ne - (O 0)) % 256)) (O 0) (pl O (O 0)) b fi ne ((ct - 1) - 1) on) := hD
              have hq9 : (wM cI r th fp fa (wgd χ b) (up (up (up (opn O) (0) ((O 0))) (1) (((ne - (O 0)) / 2 ^ 8) % 256)) (2) ((ne - (O 0)) % 256)) (O 0) (pl O (O 0)) b fi ne ((ct - 1) - 1) on : va_W) = wM cI r th fp fa (wgd χ b) O (O 0) (pl O (O 0)) b fi ne ((ct - 1) - 1) on := mX_eq (fun j hj => rfl) (fun j hj => rfl) (fun j hj => rfl) (fun j hj => rfl) (fun j hj => rfl) (fun j hj => by simp only [up, opn]; (repeat' split) <;> first | rfl | omega | (exfalso; omega) | (subst_vars; omega))
              have hP := va_P.eqw hq9 hP
              have hD := va_D.eqw hq9 hD
              have hP : va_P D vwCl (wM cI r th fp fa (wgd χ b) O (O 0) (pl O (O 0)) b fi ne ((ct - 1) - 1) on) H := hP
              have hD : va_D A (wM cI r th fp fa (wgd χ b) O (O 0) (pl O (O 0)) b fi ne ((ct - 1) - 1) on) := hD
              refine lv_iconst (v := nI 0) hx hb dX3_flush_139 (by decide) ?_
              refine lv_istore_n (lv' := [(3, .int (nI (0))), (2, .int (nI (ne - (O 0)))), (1, .int (nI (16 * b + (plc χ b)))), (0, .ref (r 0))]) hx hb dX3_flush_140 rfl hl (by decide) rfl (fun ls hl => ?_)
              have hq9 : (wM cI r th fp fa (wgd χ b) O (O 0) (pl O (O 0)) b fi ne ((ct - 1) - 1) on : va_W) = mX cI r th fp fa (fun j => (wgd χ b) j) (fun j => if 16 * (16 * b + plc χ b) ≤ j ∧ j < 16 * (16 * b + plc χ b) + 0 then O (j - 16 * (16 * b + plc χ b)) else (wgd χ b) (1000 + j)) (fun j => (wgd χ b) (100 + j)) (fun j => (wgd χ b) (200 + j)) (fun j => (wgd χ b) (110 + j)) O (O 0) (pl O (O 0)) b fi ne ((ct - 1) - 1) on := (mX_eq (fun j hj => rfl) (fun j hj => (if_neg (by omega)).symm) (fun j hj => rfl) (fun j hj => rfl) (fun j hj => rfl) (fun j hj => rfl))
              refine lpW (α := Nat) (fun k H locs => (k ≤ 16) ∧ va_P D vwCl (mX cI r th fp fa (fun j => (wgd χ b) j) (fun j => if 16 * (16 * b + plc χ b) ≤ j ∧ j < 16 * (16 * b + plc χ b) + k then O (j - 16 * (16 * b + plc χ b)) else (wgd χ b) (1000 + j)) (fun j => (wgd χ b) (100 + j)) (fun j => (wgd χ b) (200 + j)) (fun j => (wgd χ b) (110 + j)) O (O 0) (pl O (O 0)) b fi ne ((ct - 1) - 1) on) H ∧ va_D A (mX cI r th fp fa (fun j => (wgd χ b) j) (fun j => if 16 * (16 * b + plc χ b) ≤ j ∧ j < 16 * (16 * b + plc χ b) + k then O (j - 16 * (16 * b + plc χ b)) else (wgd χ b) (1000 + j)) (fun j => (wgd χ b) (100 + j)) (fun j => (wgd χ b) (200 + j)) (fun j => (wgd χ b) (110 + j)) O (O 0) (pl O (O 0)) b fi ne ((ct - 1) - 1) on) ∧ va_S A s.heap H locs) (fun k => [(0, .ref (r 0)), (1, .int (nI (16 * b + (plc χ b)))), (2, .int (nI (ne - (O 0)))), (3, .int (nI (k)))]) 4 (fun k => 16 - k) 0 (⟨by omega, va_P.eqw hq9 hP, va_D.eqw hq9 hD, hS⟩) (lv_sub hl [3, 2, 1, 0] rfl) (fun s9 H locs ls hI9 hl9 ih_141 => ?_)
              obtain ⟨k, rfl⟩ : ∃ z, z = s9 := ⟨_, rfl⟩
              have hl : lv_has ls 4 [(0, .ref (r 0)), (1, .int (nI (16 * b + (plc χ b)))), (2, .int (nI (ne - (O 0)))), (3, .int (nI (k)))] := hl9
              obtain ⟨hk7, hP, hD, hS⟩ : (k ≤ 16) ∧ va_P D vwCl (mX cI r th fp fa (fun j => (wgd χ b) j) (fun j => if 16 * (16 * b + plc χ b) ≤ j ∧ j < 16 * (16 * b + plc χ b) + k then O (j - 16 * (16 * b + plc χ b)) else (wgd χ b) (1000 + j)) (fun j => (wgd χ b) (100 + j)) (fun j => (wgd χ b) (200 + j)) (fun j => (wgd χ b) (110 + j)) O (O 0) (pl O (O 0)) b fi ne ((ct - 1) - 1) on) H ∧ va_D A (mX cI r th fp fa (fun j => (wgd χ b) j) (fun j => if 16 * (16 * b + plc χ b) ≤ j ∧ j < 16 * (16 * b + plc χ b) + k then O (j - 16 * (16 * b + plc χ b)) else (wgd χ b) (1000 + j)) (fun j => (wgd χ b) (100 + j)) (fun j => (wgd χ b) (200 + j)) (fun j => (wgd χ b) (110 + j)) O (O 0) (pl O (O 0)) b fi ne ((ct - 1) - 1) on) ∧ va_S A s.heap H locs := hI9
              refine lv_iload_n hx hb dX3_flush_141 rfl (lv_at hl 3 rfl) ?_
              refine lv_bipush (v := nI 16) hx hb dX3_flush_142 (by decide) ?_
              refine xi_ge (tgt := 170) hx hb dX3_flush_144 (by decide) (nI_toInt (by omega)) (nI_toInt (by omega)) (fun c_144 => ?_) (fun c_144 => ?_)
              · refine lv_aload_n hx hb dX3_flush_170 rfl (lv_at hl 0 rfl) ?_
                refine va_get (D := D) (ci := 3) (v := .ref (r 1)) (C := RX3) (T := TX3) (N := 16) hx hb hts hiX3 hown hK hP 0 rfl rfl 1 (by decide) (hts (.fieldLink RX3 7 "PairedCellsModel" "states" "[I") (by decide +kernel)) (fun _ h9 => h9) rfl dX3_flush_171 ?_
                refine lv_iload_n hx hb dX3_flush_174 rfl (lv_at hl 1 rfl) ?_
                refine lv_iconst (v := nI 1) hx hb dX3_flush_175 (by decide) ?_
                refine xr_iast hx hb hK hP hD hS 1 0 rfl rfl (by omega) (by decide) dX3_flush_176 (fun H locs hP hD hS => ?_)
                have hP : va_P D vwCl (mX cI r th fp fa (up (fun j => (wgd χ b) j) (16 * b + (plc χ b)) (1)) (fun j => if 16 * (16 * b + plc χ b) ≤ j ∧ j < 16 * (16 * b + plc χ b) + k then O (j - 16 * (16 * b + plc χ b)) else (wgd χ b) (1000 + j)) (fun j => (wgd χ b) (100 + j)) (fun j => (wgd χ b) (200 + j)) (fun j => (wgd χ b) (110 + j)) O (O 0) (pl O (O 0)) b fi ne ((ct - 1) - 1) on) H := hP
                have hD : va_D A (mX cI r th fp fa (up (fun j => (wgd χ b) j) (16 * b + (plc χ b)) (1)) (fun j => if 16 * (16 * b + plc χ b) ≤ j ∧ j < 16 * (16 * b + plc χ b) + k then O (j - 16 * (16 * b + plc χ b)) else (wgd χ b) (1000 + j)) (fun j => (wgd χ b) (100 + j)) (fun j => (wgd χ b) (200 + j)) (fun j => (wgd χ b) (110 + j)) O (O 0) (pl O (O 0)) b fi ne ((ct - 1) - 1) on) := hD
                have hq9 : (mX cI r th fp fa (up (fun j => (wgd χ b) j) (16 * b + (plc χ b)) (1)) (fun j => if 16 * (16 * b + plc χ b) ≤ j ∧ j < 16 * (16 * b + plc χ b) + k then O (j - 16 * (16 * b + plc χ b)) else (wgd χ b) (1000 + j)) (fun j => (wgd χ b) (100 + j)) (fun j => (wgd χ b) (200 + j)) (fun j => (wgd χ b) (110 + j)) O (O 0) (pl O (O 0)) b fi ne ((ct - 1) - 1) on : va_W) = wM cI r th fp fa (wrt (wgd χ b) b 8 O) O (O 0) (pl O (O 0)) b fi ne ((ct - 1) - 1) on := wM_eq (fun j hj => (by simp only [wrt, up]; (repeat' split) <;> first | rfl | omega | (exfalso; omega) | (congr 1; omega))) (fun j hj => (by simp only [wrt, up]; (repeat' split) <;> first | rfl | omega | (exfalso; omega) | (congr 1; omega))) (fun j hj => (by simp only [wrt, up]; (repeat' split) <;> first | rfl | omega | (exfalso; omega) | (congr 1; omega))) (fun j hj => (by simp only [wrt, up]; (repeat' split) <;> first | rfl | omega | (exfalso; omega) | (congr 1; omega))) (fun j hj => (by simp only [wrt, up]; (repeat' split) <;> first | rfl | omega | (exfalso; omega) | (congr 1; omega))) (fun j hj => rfl)
                have hP := va_P.eqw hq9 hP
                have hD := va_D.eqw hq9 hD
                have hP : va_P D vwCl (wM cI r th fp fa (wrt (wgd χ b) b 8 O) O (O 0) (pl O (O 0)) b fi ne ((ct - 1) - 1) on) H := hP
                have hD : va_D A (wM cI r th fp fa (wrt (wgd χ b) b 8 O) O (O 0) (pl O (O 0)) b fi ne ((ct - 1) - 1) on) := hD
                refine lv_aload_n hx hb dX3_flush_177 rfl (lv_at hl 0 rfl) ?_
                have hF9 := x_hF (hD) hS hA
                refine xw_Vv (ci := 3) (rest := []) (As := []) ⟨hx, hb, hml, hown, hts⟩ (c_X3_empty l D r th fp fa (wrt (wgd χ b) b 8 O) O (O 0) (pl O (O 0)) b fi ne ((ct - 1) - 1) on H.size) (cwV 0 hts gX3_flush_X3_empty rfl rfl rfl (by decide +kernel) ⟨Nat.le_of_ble_eq_true rfl, Nat.le_of_ble_eq_true rfl⟩) hN hK (hP) (hD) hS hA rfl 0 rfl rfl hl.1 rfl (Nat.le_of_ble_eq_true rfl) dX3_flush_178 ⟨Nat.le_of_ble_eq_true rfl, Nat.le_of_ble_eq_true rfl⟩ (fun u_178 H1 locs hw_178 hP1 hD1 hDA hk9 hS => ?_)
                have hP := hP1
                have hD := hDA
                generalize H1 = H at hP hS ⊢
                have hP : va_P D vwCl (wM cI r th fp fa (wrt (wgd χ b) b 8 O) (fun _ => 0) 0 3 b fi ne ((ct - 1) - 1) on) H := hP
                have hD : va_D A (wM cI r th fp fa (wrt (wgd χ b) b 8 O) (fun _ => 0) 0 3 b fi ne ((ct - 1) - 1) on) := hD
                refine lv_iconst (v := nI 1) hx hb dX3_flush_181 (by decide) ?_
                have e1 : fX χ b ct O = (wrt (wgd χ b) b 8 O) := by unfold fX; rw [cif_t (show plc χ b = 8 by omega)]; (repeat' (first | rw [cif_t (by omega)] | rw [cif_f (by omega)]))
                have e2 : fO χ b ct O = (fun _ => 0) := by unfold fO; rw [cif_t (show plc χ b = 8 by omega)]; (repeat' (first | rw [cif_t (by omega)] | rw [cif_f (by omega)]))
                have e3 : fCt χ b ct = ((ct - 1) - 1) := by unfold fCt; (rw [cif_t (show plc χ b = 8 by omega)]) <;> omega
                have e4 : fOn χ b ct on = on := by unfold fOn; rw [cif_t (show plc χ b = 8 by omega)]; (repeat' (first | rw [cif_t (by omega)] | rw [cif_f (by omega)]))
                have hq9 : (wM cI r th fp fa (wrt (wgd χ b) b 8 O) (fun _ => 0) 0 3 b fi ne ((ct - 1) - 1) on : va_W) = wM cI r th fp fa (fX χ b ct O) (opn (fO χ b ct O)) (fO χ b ct O 0) (pl (fO χ b ct O) (fO χ b ct O 0)) b fi ne (fCt χ b ct) (fOn χ b ct on) := (by rw [e1, e2, e3, e4]; exact mX_eq (fun j hj => rfl) (fun j hj => rfl) (fun j hj => rfl) (fun j hj => rfl) (fun j hj => rfl) (fun j hj => by unfold opn; split <;> rfl))
                exact xf_z (post := fun (x : Int32) (u : (Nat → Nat) × (Nat → Nat) × Nat × Nat) => bo x (fOk χ b ct) ∧ u = (fO χ b ct O, fX χ b ct O, fCt χ b ct, fOn χ b ct on)) (w1 := fun (u : (Nat → Nat) × (Nat → Nat) × Nat × Nat) => wM cI r th fp fa u.2.1 (opn u.1) (u.1 0) (pl u.1 (u.1 0)) b fi ne u.2.2.1 u.2.2.2) (fO χ b ct O, fX χ b ct O, fCt χ b ct, fOn χ b ct on) hx hb hr hlocks rfl (⟨bo.one (by unfold fOk; omega), rfl⟩) (va_P.eqw hq9 hP) hK (va_D.eqw hq9 hD) hS dX3_flush_182
              · refine lv_aload_n hx hb dX3_flush_147 rfl (lv_at hl 0 rfl) ?_
                refine va_get (D := D) (ci := 3) (v := .ref (r 2)) (C := RX3) (T := TX3) (N := 16) hx hb hts hiX3 hown hK hP 0 rfl rfl 2 (by decide) (hts (.fieldLink RX3 13 "PairedCellsModel" "bytes" "[I") (by decide +kernel)) (fun _ h9 => h9) rfl dX3_flush_148 ?_
                refine lv_bipush (v := nI 16) hx hb dX3_flush_151 (by decide) ?_
                refine lv_iload_n hx hb dX3_flush_153 rfl (lv_at hl 1 rfl) ?_
                refine xr_mul hx hb dX3_flush_154 ?_
                refine lv_iload_n hx hb dX3_flush_155 rfl (lv_at hl 3 rfl) ?_
                refine xr_add hx hb dX3_flush_156 ?_
                refine lv_aload_n hx hb dX3_flush_157 rfl (lv_at hl 0 rfl) ?_
                refine va_get (D := D) (ci := 3) (v := .ref (r 6)) (C := RX3) (T := TX3) (N := 16) hx hb hts hiX3 hown hK hP 0 rfl rfl 13 (by decide) (hts (.fieldLink RX3 33 "PairedCellsModel" "open" "[I") (by decide +kernel)) (fun _ h9 => h9) rfl dX3_flush_158 ?_
                refine lv_iload_n hx hb dX3_flush_161 rfl (lv_at hl 3 rfl) ?_
                refine xr_iald hx hb hK hP 6 0 rfl rfl (by omega) (by decide) dX3_flush_162 ?_
                refine xr_iast hx hb hK hP hD hS 2 0 rfl rfl (by omega) (by decide) dX3_flush_163 (fun H locs hP hD hS => ?_)
                have hP : va_P D vwCl (mX cI r th fp fa (fun j => (wgd χ b) j) (up (fun j => if 16 * (16 * b + plc χ b) ≤ j ∧ j < 16 * (16 * b + plc χ b) + k then O (j - 16 * (16 * b + plc χ b)) else (wgd χ b) (1000 + j)) (16 * (16 * b + (plc χ b)) + k) (O (k))) (fun j => (wgd χ b) (100 + j)) (fun j => (wgd χ b) (200 + j)) (fun j => (wgd χ b) (110 + j)) O (O 0) (pl O (O 0)) b fi ne ((ct - 1) - 1) on) H := hP
                have hD : va_D A (mX cI r th fp fa (fun j => (wgd χ b) j) (up (fun j => if 16 * (16 * b + plc χ b) ≤ j ∧ j < 16 * (16 * b + plc χ b) + k then O (j - 16 * (16 * b + plc χ b)) else (wgd χ b) (1000 + j)) (16 * (16 * b + (plc χ b)) + k) (O (k))) (fun j => (wgd χ b) (100 + j)) (fun j => (wgd χ b) (200 + j)) (fun j => (wgd χ b) (110 + j)) O (O 0) (pl O (O 0)) b fi ne ((ct - 1) - 1) on) := hD
                refine lv_iinc (v := nI (k + 1)) (lv' := [(3, .int (nI (k + 1))), (0, .ref (r 0)), (1, .int (nI (16 * b + (plc χ b)))), (2, .int (nI (ne - (O 0))))]) hx hb dX3_flush_164 hl (k := 3) rfl (nI_add _ _) (by decide) rfl (fun ls hl => ?_)
                refine lv_goto (tgt := 141) hx hb dX3_flush_167 (by decide) ?_
                have hq9 : (mX cI r th fp fa (fun j => (wgd χ b) j) (up (fun j => if 16 * (16 * b + plc χ b) ≤ j ∧ j < 16 * (16 * b + plc χ b) + k then O (j - 16 * (16 * b + plc χ b)) else (wgd χ b) (1000 + j)) (16 * (16 * b + (plc χ b)) + k) (O (k))) (fun j => (wgd χ b) (100 + j)) (fun j => (wgd χ b) (200 + j)) (fun j => (wgd χ b) (110 + j)) O (O 0) (pl O (O 0)) b fi ne ((ct - 1) - 1) on : va_W) = mX cI r th fp fa (fun j => (wgd χ b) j) (fun j => if 16 * (16 * b + plc χ b) ≤ j ∧ j < 16 * (16 * b + plc χ b) + (k + 1) then O (j - 16 * (16 * b + plc χ b)) else (wgd χ b) (1000 + j)) (fun j => (wgd χ b) (100 + j)) (fun j => (wgd χ b) (200 + j)) (fun j => (wgd χ b) (110 + j)) O (O 0) (pl O (O 0)) b fi ne ((ct - 1) - 1) on := (mX_eq (fun j hj => rfl) (fun j hj => by simp only [up]; (repeat' split) <;> first | rfl | omega | (exfalso; omega) | (congr 1; omega)) (fun j hj => rfl) (fun j hj => rfl) (fun j hj => rfl) (fun j hj => rfl))
                exact ih_141 (k + 1) _ _ _ (⟨by omega, va_P.eqw hq9 hP, va_D.eqw hq9 hD, hS⟩) (by first | omega | (dsimp only; omega)) (lv_sub hl [1, 2, 3, 0] rfl)
            · exfalso; omega
        · exfalso; omega
  · have h_8 := bo.f hw_5 c_8
    refine lv_aload_n hx hb dX3_flush_11 rfl (lv_at hl 0 rfl) ?_
    refine lv_aload_n hx hb dX3_flush_12 rfl (lv_at hl 0 rfl) ?_
    refine va_get (D := D) (ci := 3) (v := .int (nI (cu))) (C := RX3) (T := TX3) (N := 16) hx hb hts hiX3 hown hK hP 0 rfl rfl 8 (by decide) (hts (.fieldLink RX3 54 "PairedCellsModel" "current" "I") (by decide +kernel)) (fun _ h9 => h9) rfl dX3_flush_13 ?_
    refine lv_iconst (v := nI 1) hx hb dX3_flush_16 (by decide) ?_
    refine xr_add hx hb dX3_flush_17 ?_
    refine lv_bipush (v := nI 6) hx hb dX3_flush_18 (by decide) ?_
    refine xr_rem hx hb (by omega) (by decide) (by decide) dX3_flush_20 ?_
    refine va_put (D := D) (ci := 3) (v := .int (nI ((cu + 1) % 6))) (ty := .int) (C := RX3) (T := TX3) (N := 16) hx hb hts hiX3 tyX3 tyX3_ok nmX3 hown hK hP hD hS 0 rfl rfl 8 (by decide) (hts (.fieldLink RX3 54 "PairedCellsModel" "current" "I") (by decide +kernel)) (fun _ h9 => h9) rfl (by decide +kernel) rfl rfl (Nat.le_of_ble_eq_true rfl) dX3_flush_21 (fun H locs hP hD hS => ?_)
    have hP : va_P D vwCl (wM cI r th fp fa χ (opn O) (O 0) (pl O (O 0)) ((cu + 1) % 6) fi ne ct on) H := hP
    have hD : va_D A (wM cI r th fp fa χ (opn O) (O 0) (pl O (O 0)) ((cu + 1) % 6) fi ne ct on) := hD
    have hcb : (cu + 1) % 6 = b := (nxb_out h_8).symm.trans hbe.symm
    rw [hcb] at hP hD
    refine lv_bipush (v := nI 16) hx hb dX3_flush_24 (by decide) ?_
    refine lv_aload_n hx hb dX3_flush_26 rfl (lv_at hl 0 rfl) ?_
    refine va_get (D := D) (ci := 3) (v := .int (nI (b))) (C := RX3) (T := TX3) (N := 16) hx hb hts hiX3 hown hK hP 0 rfl rfl 8 (by decide) (hts (.fieldLink RX3 54 "PairedCellsModel" "current" "I") (by decide +kernel)) (fun _ h9 => h9) rfl dX3_flush_27 ?_
    refine xr_mul hx hb dX3_flush_30 ?_
    refine lv_aload_n hx hb dX3_flush_31 rfl (lv_at hl 0 rfl) ?_
    refine lv_aload_n hx hb dX3_flush_32 rfl (lv_at hl 0 rfl) ?_
    refine va_get (D := D) (ci := 3) (v := .int (nI (b))) (C := RX3) (T := TX3) (N := 16) hx hb hts hiX3 hown hK hP 0 rfl rfl 8 (by decide) (hts (.fieldLink RX3 54 "PairedCellsModel" "current" "I") (by decide +kernel)) (fun _ h9 => h9) rfl dX3_flush_33 ?_
    refine xc_Vi (ci := 3) (rest := [.int (nI (16 * b))]) (As := [.int (nI (b))]) ⟨hx, hb, hml, hown, hts⟩ (c_X3_used l D r th fp fa χ (opn O) (O 0) (pl O (O 0)) b fi ne ct on b hb6 hχ hpx) (cwV 1 hts gX3_flush_X3_used rfl rfl rfl (by decide +kernel) ⟨Nat.le_of_ble_eq_true rfl, Nat.le_of_ble_eq_true rfl⟩) hN hK (hP) rfl 0 rfl rfl hl.1 rfl (Nat.le_of_ble_eq_true rfl) dX3_flush_36 ⟨Nat.le_of_ble_eq_true rfl, Nat.le_of_ble_eq_true rfl⟩ (fun r_36 hw_36 => ?_)
    subst hw_36
    refine xr_add hx hb dX3_flush_39 ?_
    refine lv_istore_n (lv' := [(1, .int (nI (16 * b + (plc χ b)))), (0, .ref (r 0))]) hx hb dX3_flush_40 rfl hl (by decide) rfl (fun ls hl => ?_)
    refine lv_iload_n hx hb dX3_flush_41 rfl (lv_at hl 0 rfl) ?_
    refine lv_bipush (v := nI 16) hx hb dX3_flush_42 (by decide) ?_
    refine xr_rem hx hb (by omega) (by decide) (by decide) dX3_flush_44 ?_
    refine xr_nat (x' := plc χ b) (by omega) ?_
    refine lv_bipush (v := nI 8) hx hb dX3_flush_45 (by decide) ?_
    refine xi_ne (tgt := 59) hx hb dX3_flush_47 (by decide) (nI_toInt (by omega)) (nI_toInt (by omega)) (fun c_47 => ?_) (fun c_47 => ?_)
    · refine lv_aload_n hx hb dX3_flush_59 rfl (lv_at hl 1 rfl) ?_
      have hF9 := x_hF (hD) hS hA
      refine xw_Vi (ci := 3) (rest := []) (As := []) ⟨hx, hb, hml, hown, hts⟩ (c_X3_isCut l D r th fp fa χ (opn O) (O 0) (pl O (O 0)) b fi ne ct on (by omega) H.size) (cwV 0 hts gX3_flush_X3_isCut rfl rfl rfl (by decide +kernel) ⟨Nat.le_of_ble_eq_true rfl, Nat.le_of_ble_eq_true rfl⟩) hN hK (hP) (hD) hS hA rfl 0 rfl rfl hl.1 rfl (Nat.le_of_ble_eq_true rfl) dX3_flush_60 ⟨Nat.le_of_ble_eq_true rfl, Nat.le_of_ble_eq_true rfl⟩ (fun r_60 u_60 H1 locs hw_60 hP1 hD1 hDA hk9 hS => ?_)
      rcases hw_60 with ⟨hc1, rfl, rfl⟩ | ⟨hc1, rfl, rfl⟩
      · have hP := hP1
        have hD := hDA
        generalize H1 = H at hP hS ⊢
        have hP : va_P D vwCl (wM cI r th fp fa χ (opn O) (O 0) (pl O (O 0)) b fi ne 0 0) H := hP
        have hD : va_D A (wM cI r th fp fa χ (opn O) (O 0) (pl O (O 0)) b fi ne 0 0) := hD
        refine xz_eq (tgt := 94) hx hb dX3_flush_63 (by decide) (nI_toInt (by omega)) (fun c_63 => ?_) (fun c_63 => ?_)
        · exfalso; omega
        · refine lv_aload_n hx hb dX3_flush_66 rfl (lv_at hl 1 rfl) ?_
          refine va_get (D := D) (ci := 3) (v := .ref (r 1)) (C := RX3) (T := TX3) (N := 16) hx hb hts hiX3 hown hK hP 0 rfl rfl 1 (by decide) (hts (.fieldLink RX3 7 "PairedCellsModel" "states" "[I") (by decide +kernel)) (fun _ h9 => h9) rfl dX3_flush_67 ?_
          refine lv_iload_n hx hb dX3_flush_70 rfl (lv_at hl 0 rfl) ?_
          refine lv_iconst (v := nI 2) hx hb dX3_flush_71 (by decide) ?_
          refine xr_iast hx hb hK hP hD hS 1 0 rfl rfl (by omega) (by decide) dX3_flush_72 (fun H locs hP hD hS => ?_)
          have hP : va_P D vwCl (mX cI r th fp fa (up (fun j => χ j) (16 * b + (plc χ b)) (2)) (fun j => χ (1000 + j)) (fun j => χ (100 + j)) (fun j => χ (200 + j)) (fun j => χ (110 + j)) (opn O) (O 0) (pl O (O 0)) b fi ne 0 0) H := hP
          have hD : va_D A (mX cI r th fp fa (up (fun j => χ j) (16 * b + (plc χ b)) (2)) (fun j => χ (1000 + j)) (fun j => χ (100 + j)) (fun j => χ (200 + j)) (fun j => χ (110 + j)) (opn O) (O 0) (pl O (O 0)) b fi ne 0 0) := hD
          refine lv_iload_n hx hb dX3_flush_73 rfl (lv_at hl 0 rfl) ?_
          refine lv_bipush (v := nI 16) hx hb dX3_flush_74 (by decide) ?_
          refine xr_rem hx hb (by omega) (by decide) (by decide) dX3_flush_76 ?_
          refine xr_nat (x' := plc χ b) (by omega) ?_
          refine lv_bipush (v := nI 7) hx hb dX3_flush_77 (by decide) ?_
          refine xi_le (tgt := 92) hx hb dX3_flush_79 (by decide) (nI_toInt (by omega)) (nI_toInt (by omega)) (fun c_79 => ?_) (fun c_79 => ?_)
          · refine lv_iconst (v := nI 0) hx hb dX3_flush_92 (by decide) ?_
            have e1 : fX χ b ct O = (cuw χ b (plc χ b)) := by unfold fX; rw [cif_f (show ¬ plc χ b = 8 by omega)]; (repeat' (first | rw [cif_t (by omega)] | rw [cif_f (by omega)]))
            have e2 : fO χ b ct O = O := by unfold fO; rw [cif_f (show ¬ plc χ b = 8 by omega)]; (repeat' (first | rw [cif_t (by omega)] | rw [cif_f (by omega)]))
            have e3 : fCt χ b ct = 0 := by unfold fCt; (rw [cif_f (show ¬ plc χ b = 8 by omega)]) <;> omega
            have e4 : fOn χ b ct on = 0 := by unfold fOn; rw [cif_f (show ¬ plc χ b = 8 by omega)]; (repeat' (first | rw [cif_t (by omega)] | rw [cif_f (by omega)]))
            have hq9 : (mX cI r th fp fa (up (fun j => χ j) (16 * b + (plc χ b)) (2)) (fun j => χ (1000 + j)) (fun j => χ (100 + j)) (fun j => χ (200 + j)) (fun j => χ (110 + j)) (opn O) (O 0) (pl O (O 0)) b fi ne 0 0 : va_W) = wM cI r th fp fa (fX χ b ct O) (opn (fO χ b ct O)) (fO χ b ct O 0) (pl (fO χ b ct O) (fO χ b ct O 0)) b fi ne (fCt χ b ct) (fOn χ b ct on) := (by rw [e1, e2, e3, e4]; exact wM_eq (fun j hj => (by simp only [cuw, up]; (repeat' split) <;> first | rfl | omega | (exfalso; omega) | (congr 1; omega))) (fun j hj => (by simp only [cuw, up]; (repeat' split) <;> first | rfl | omega | (exfalso; omega) | (congr 1; omega))) (fun j hj => (by simp only [cuw, up]; (repeat' split) <;> first | rfl | omega | (exfalso; omega) | (congr 1; omega))) (fun j hj => (by simp only [cuw, up]; (repeat' split) <;> first | rfl | omega | (exfalso; omega) | (congr 1; omega))) (fun j hj => (by simp only [cuw, up]; (repeat' split) <;> first | rfl | omega | (exfalso; omega) | (congr 1; omega))) (fun j hj => rfl))
            exact xf_z (post := fun (x : Int32) (u : (Nat → Nat) × (Nat → Nat) × Nat × Nat) => bo x (fOk χ b ct) ∧ u = (fO χ b ct O, fX χ b ct O, fCt χ b ct, fOn χ b ct on)) (w1 := fun (u : (Nat → Nat) × (Nat → Nat) × Nat × Nat) => wM cI r th fp fa u.2.1 (opn u.1) (u.1 0) (pl u.1 (u.1 0)) b fi ne u.2.2.1 u.2.2.2) (fO χ b ct O, fX χ b ct O, fCt χ b ct, fOn χ b ct on) hx hb hr hlocks rfl (⟨bo.zero (by unfold fOk; omega), rfl⟩) (va_P.eqw hq9 hP) hK (va_D.eqw hq9 hD) hS dX3_flush_93
          · refine lv_aload_n hx hb dX3_flush_82 rfl (lv_at hl 1 rfl) ?_
            refine va_get (D := D) (ci := 3) (v := .ref (r 1)) (C := RX3) (T := TX3) (N := 16) hx hb hts hiX3 hown hK hP 0 rfl rfl 1 (by decide) (hts (.fieldLink RX3 7 "PairedCellsModel" "states" "[I") (by decide +kernel)) (fun _ h9 => h9) rfl dX3_flush_83 ?_
            refine lv_iload_n hx hb dX3_flush_86 rfl (lv_at hl 0 rfl) ?_
            refine lv_bipush (v := nI 8) hx hb dX3_flush_87 (by decide) ?_
            refine xr_sub hx hb (by omega) dX3_flush_89 ?_
            refine lv_iconst (v := nI 2) hx hb dX3_flush_90 (by decide) ?_
            refine xr_iast hx hb hK hP hD hS 1 0 rfl rfl (by omega) (by decide) dX3_flush_91 (fun H locs hP hD hS => ?_)
            have hP : va_P D vwCl (mX cI r th fp fa (up (up (fun j => χ j) (16 * b + (plc χ b)) (2)) (16 * b + (plc χ b) - 8) (2)) (fun j => χ (1000 + j)) (fun j => χ (100 + j)) (fun j => χ (200 + j)) (fun j => χ (110 + j)) (opn O) (O 0) (pl O (O 0)) b fi ne 0 0) H := hP
            have hD : va_D A (mX cI r th fp fa (up (up (fun j => χ j) (16 * b + (plc χ b)) (2)) (16 * b + (plc χ b) - 8) (2)) (fun j => χ (1000 + j)) (fun j => χ (100 + j)) (fun j => χ (200 + j)) (fun j => χ (110 + j)) (opn O) (O 0) (pl O (O 0)) b fi ne 0 0) := hD
            refine lv_iconst (v := nI 0) hx hb dX3_flush_92 (by decide) ?_
            have e1 : fX χ b ct O = (cuw χ b (plc χ b)) := by unfold fX; rw [cif_f (show ¬ plc χ b = 8 by omega)]; (repeat' (first | rw [cif_t (by omega)] | rw [cif_f (by omega)]))
            have e2 : fO χ b ct O = O := by unfold fO; rw [cif_f (show ¬ plc χ b = 8 by omega)]; (repeat' (first | rw [cif_t (by omega)] | rw [cif_f (by omega)]))
            have e3 : fCt χ b ct = 0 := by unfold fCt; (rw [cif_f (show ¬ plc χ b = 8 by omega)]) <;> omega
            have e4 : fOn χ b ct on = 0 := by unfold fOn; rw [cif_f (show ¬ plc χ b = 8 by omega)]; (repeat' (first | rw [cif_t (by omega)] | rw [cif_f (by omega)]))
            have hq9 : (mX cI r th fp fa (up (up (fun j => χ j) (16 * b + (plc χ b)) (2)) (16 * b + (plc χ b) - 8) (2)) (fun j => χ (1000 + j)) (fun j => χ (100 + j)) (fun j => χ (200 + j)) (fun j => χ (110 + j)) (opn O) (O 0) (pl O (O 0)) b fi ne 0 0 : va_W) = wM cI r th fp fa (fX χ b ct O) (opn (fO χ b ct O)) (fO χ b ct O 0) (pl (fO χ b ct O) (fO χ b ct O 0)) b fi ne (fCt χ b ct) (fOn χ b ct on) := (by rw [e1, e2, e3, e4]; exact wM_eq (fun j hj => (by simp only [cuw, up]; (repeat' split) <;> first | rfl | omega | (exfalso; omega) | (congr 1; omega))) (fun j hj => (by simp only [cuw, up]; (repeat' split) <;> first | rfl | omega | (exfalso; omega) | (congr 1; omega))) (fun j hj => (by simp only [cuw, up]; (repeat' split) <;> first | rfl | omega | (exfalso; omega) | (congr 1; omega))) (fun j hj => (by simp only [cuw, up]; (repeat' split) <;> first | rfl | omega | (exfalso; omega) | (congr 1; omega))) (fun j hj => (by simp only [cuw, up]; (repeat' split) <;> first | rfl | omega | (exfalso; omega) | (congr 1; omega))) (fun j hj => rfl))
            exact xf_z (post := fun (x : Int32) (u : (Nat → Nat) × (Nat → Nat) × Nat × Nat) => bo x (fOk χ b ct) ∧ u = (fO χ b ct O, fX χ b ct O, fCt χ b ct, fOn χ b ct on)) (w1 := fun (u : (Nat → Nat) × (Nat → Nat) × Nat × Nat) => wM cI r th fp fa u.2.1 (opn u.1) (u.1 0) (pl u.1 (u.1 0)) b fi ne u.2.2.1 u.2.2.2) (fO χ b ct O, fX χ b ct O, fCt χ b ct, fOn χ b ct on) hx hb hr hlocks rfl (⟨bo.zero (by unfold fOk; omega), rfl⟩) (va_P.eqw hq9 hP) hK (va_D.eqw hq9 hD) hS dX3_flush_93
      · have hP := hP1
        have hD := hDA
        generalize H1 = H at hP hS ⊢
        have hP : va_P D vwCl (wM cI r th fp fa χ (opn O) (O 0) (pl O (O 0)) b fi ne (ct - 1) on) H := hP
        have hD : va_D A (wM cI r th fp fa χ (opn O) (O 0) (pl O (O 0)) b fi ne (ct - 1) on) := hD
        refine xz_eq (tgt := 94) hx hb dX3_flush_63 (by decide) (nI_toInt (by omega)) (fun c_63 => ?_) (fun c_63 => ?_)
        · refine lv_aload_n hx hb dX3_flush_94 rfl (lv_at hl 1 rfl) ?_
          refine va_get (D := D) (ci := 3) (v := .int (nI (ne))) (C := RX3) (T := TX3) (N := 16) hx hb hts hiX3 hown hK hP 0 rfl rfl 10 (by decide) (hts (.fieldLink RX3 73 "PairedCellsModel" "next" "I") (by decide +kernel)) (fun _ h9 => h9) rfl dX3_flush_95 ?_
          refine lv_aload_n hx hb dX3_flush_98 rfl (lv_at hl 1 rfl) ?_
          refine va_get (D := D) (ci := 3) (v := .int (nI ((O 0)))) (C := RX3) (T := TX3) (N := 16) hx hb hts hiX3 hown hK hP 0 rfl rfl 11 (by decide) (hts (.fieldLink RX3 67 "PairedCellsModel" "held" "I") (by decide +kernel)) (fun _ h9 => h9) rfl dX3_flush_99 ?_
          refine xr_sub hx hb (by omega) dX3_flush_102 ?_
          refine lv_istore_n (lv' := [(2, .int (nI (ne - (O 0)))), (1, .int (nI (16 * b + (plc χ b)))), (0, .ref (r 0))]) hx hb dX3_flush_103 rfl hl (by decide) rfl (fun ls hl => ?_)
          refine lv_aload_n hx hb dX3_flush_104 rfl (lv_at hl 2 rfl) ?_
          refine va_get (D := D) (ci := 3) (v := .ref (r 6)) (C := RX3) (T := TX3) (N := 16) hx hb hts hiX3 hown hK hP 0 rfl rfl 13 (by decide) (hts (.fieldLink RX3 33 "PairedCellsModel" "open" "[I") (by decide +kernel)) (fun _ h9 => h9) rfl dX3_flush_105 ?_
          refine lv_iconst (v := nI 0) hx hb dX3_flush_108 (by decide) ?_
          refine lv_aload_n hx hb dX3_flush_109 rfl (lv_at hl 2 rfl) ?_
          refine va_get (D := D) (ci := 3) (v := .int (nI ((O 0)))) (C := RX3) (T := TX3) (N := 16) hx hb hts hiX3 hown hK hP 0 rfl rfl 11 (by decide) (hts (.fieldLink RX3 67 "PairedCellsModel" "held" "I") (by decide +kernel)) (fun _ h9 => h9) rfl dX3_flush_110 ?_
          refine xr_iast hx hb hK hP hD hS 6 0 rfl rfl (by omega) (by decide) dX3_flush_113 (fun H locs hP hD hS => ?_)
          have hP : va_P D vwCl (wM cI r th fp fa χ (up (opn O) (0) ((O 0))) (O 0) (pl O (O 0)) b fi ne (ct - 1) on) H := hP
          have hD : va_D A (wM cI r th fp fa χ (up (opn O) (0) ((O 0))) (O 0) (pl O (O 0)) b fi ne (ct - 1) on) := hD
          refine lv_aload_n hx hb dX3_flush_114 rfl (lv_at hl 2 rfl) ?_
          refine va_get (D := D) (ci := 3) (v := .ref (r 6)) (C := RX3) (T := TX3) (N := 16) hx hb hts hiX3 hown hK hP 0 rfl rfl 13 (by decide) (hts (.fieldLink RX3 33 "PairedCellsModel" "open" "[I") (by decide +kernel)) (fun _ h9 => h9) rfl dX3_flush_115 ?_
          refine lv_iconst (v := nI 1) hx hb dX3_flush_118 (by decide) ?_
          refine lv_iload_n hx hb dX3_flush_119 rfl (lv_at hl 0 rfl) ?_
          refine lv_bipush (v := nI 8) hx hb dX3_flush_120 (by decide) ?_
          refine xr_shr hx hb (by omega) (by omega) dX3_flush_122 ?_
          refine lv_sipush (v := nI 255) hx hb dX3_flush_123 (by decide) ?_
          refine xr_and255 hx hb (by omega) dX3_flush_126 ?_
          refine xr_iast hx hb hK hP hD hS 6 0 rfl rfl (by omega) (by decide) dX3_flush_127 (fun H locs hP hD hS => ?_)
          have hP : va_P D vwCl (wM cI r th fp fa χ (up (up (opn O) (0) ((O 0))) (1) (((ne - (O 0)) / 2 ^ 8) % 256)) (O 0) (pl O (O 0)) b fi ne (ct - 1) on) H := hP
          have hD : va_D A (wM cI r th fp fa χ (up (up (opn O) (0) ((O 0))) (1) (((ne - (O 0)) / 2 ^ 8) % 256)) (O 0) (pl O (O 0)) b fi ne (ct - 1) on) := hD
          refine lv_aload_n hx hb dX3_flush_128 rfl (lv_at hl 2 rfl) ?_
          refine va_get (D := D) (ci := 3) (v := .ref (r 6)) (C := RX3) (T := TX3) (N := 16) hx hb hts hiX3 hown hK hP 0 rfl rfl 13 (by decide) (hts (.fieldLink RX3 33 "PairedCellsModel" "open" "[I") (by decide +kernel)) (fun _ h9 => h9) rfl dX3_flush_129 ?_
          refine lv_iconst (v := nI 2) hx hb dX3_flush_132 (by decide) ?_
          refine lv_iload_n hx hb dX3_flush_133 rfl (lv_at hl 0 rfl) ?_
          refine lv_sipush (v := nI 255) hx hb dX3_flush_134 (by decide) ?_
          refine xr_and255 hx hb (by omega) dX3_flush_137 ?_
          refine xr_iast hx hb hK hP hD hS 6 0 rfl rfl (by omega) (by decide) dX3_flush_138 (fun H locs hP hD hS => ?_)
          have hP : va_P D vwCl (wM cI r th fp fa χ (up (up (up (opn O) (0) ((O 0))) (1) (((ne - (O 0)) / 2 ^ 8) % 256)) (2) ((ne - (O 0)) % 256)) (O 0) (pl O (O 0)) b fi ne (ct - 1) on) H := hP
          have hD : va_D A (wM cI r th fp fa χ (up (up (up (opn O) (0) ((O 0))) (1) (((ne - (O 0)) / 2 ^ 8) % 256)) (2) ((ne - (O 0)) % 256)) (O 0) (pl O (O 0)) b fi ne (ct - 1) on) := hD
          have hq9 : (wM cI r th fp fa χ (up (up (up (opn O) (0) ((O 0))) (1) (((ne - (O 0)) / 2 ^ 8) % 256)) (2) ((ne - (O 0)) % 256)) (O 0) (pl O (O 0)) b fi ne (ct - 1) on : va_W) = wM cI r th fp fa χ O (O 0) (pl O (O 0)) b fi ne (ct - 1) on := mX_eq (fun j hj => rfl) (fun j hj => rfl) (fun j hj => rfl) (fun j hj => rfl) (fun j hj => rfl) (fun j hj => by simp only [up, opn]; (repeat' split) <;> first | rfl | omega | (exfalso; omega) | (subst_vars; omega))
          have hP := va_P.eqw hq9 hP
          have hD := va_D.eqw hq9 hD
          have hP : va_P D vwCl (wM cI r th fp fa χ O (O 0) (pl O (O 0)) b fi ne (ct - 1) on) H := hP
          have hD : va_D A (wM cI r th fp fa χ O (O 0) (pl O (O 0)) b fi ne (ct - 1) on) := hD
          refine lv_iconst (v := nI 0) hx hb dX3_flush_139 (by decide) ?_
          refine lv_istore_n (lv' := [(3, .int (nI (0))), (2, .int (nI (ne - (O 0)))), (1, .int (nI (16 * b + (plc χ b)))), (0, .ref (r 0))]) hx hb dX3_flush_140 rfl hl (by decide) rfl (fun ls hl => ?_)
          have hq9 : (wM cI r th fp fa χ O (O 0) (pl O (O 0)) b fi ne (ct - 1) on : va_W) = mX cI r th fp fa (fun j => χ j) (fun j => if 16 * (16 * b + plc χ b) ≤ j ∧ j < 16 * (16 * b + plc χ b) + 0 then O (j - 16 * (16 * b + plc χ b)) else χ (1000 + j)) (fun j => χ (100 + j)) (fun j => χ (200 + j)) (fun j => χ (110 + j)) O (O 0) (pl O (O 0)) b fi ne (ct - 1) on := (mX_eq (fun j hj => rfl) (fun j hj => (if_neg (by omega)).symm) (fun j hj => rfl) (fun j hj => rfl) (fun j hj => rfl) (fun j hj => rfl))
          refine lpW (α := Nat) (fun k H locs => (k ≤ 16) ∧ va_P D vwCl (mX cI r th fp fa (fun j => χ j) (fun j => if 16 * (16 * b + plc χ b) ≤ j ∧ j < 16 * (16 * b + plc χ b) + k then O (j - 16 * (16 * b + plc χ b)) else χ (1000 + j)) (fun j => χ (100 + j)) (fun j => χ (200 + j)) (fun j => χ (110 + j)) O (O 0) (pl O (O 0)) b fi ne (ct - 1) on) H ∧ va_D A (mX cI r th fp fa (fun j => χ j) (fun j => if 16 * (16 * b + plc χ b) ≤ j ∧ j < 16 * (16 * b + plc χ b) + k then O (j - 16 * (16 * b + plc χ b)) else χ (1000 + j)) (fun j => χ (100 + j)) (fun j => χ (200 + j)) (fun j => χ (110 + j)) O (O 0) (pl O (O 0)) b fi ne (ct - 1) on) ∧ va_S A s.heap H locs) (fun k => [(0, .ref (r 0)), (1, .int (nI (16 * b + (plc χ b)))), (2, .int (nI (ne - (O 0)))), (3, .int (nI (k)))]) 4 (fun k => 16 - k) 0 (⟨by omega, va_P.eqw hq9 hP, va_D.eqw hq9 hD, hS⟩) (lv_sub hl [3, 2, 1, 0] rfl) (fun s9 H locs ls hI9 hl9 ih_141 => ?_)
          obtain ⟨k, rfl⟩ : ∃ z, z = s9 := ⟨_, rfl⟩
          have hl : lv_has ls 4 [(0, .ref (r 0)), (1, .int (nI (16 * b + (plc χ b)))), (2, .int (nI (ne - (O 0)))), (3, .int (nI (k)))] := hl9
          obtain ⟨hk7, hP, hD, hS⟩ : (k ≤ 16) ∧ va_P D vwCl (mX cI r th fp fa (fun j => χ j) (fun j => if 16 * (16 * b + plc χ b) ≤ j ∧ j < 16 * (16 * b + plc χ b) + k then O (j - 16 * (16 * b + plc χ b)) else χ (1000 + j)) (fun j => χ (100 + j)) (fun j => χ (200 + j)) (fun j => χ (110 + j)) O (O 0) (pl O (O 0)) b fi ne (ct - 1) on) H ∧ va_D A (mX cI r th fp fa (fun j => χ j) (fun j => if 16 * (16 * b + plc χ b) ≤ j ∧ j < 16 * (16 * b + plc χ b) + k then O (j - 16 * (16 * b + plc χ b)) else χ (1000 + j)) (fun j => χ (100 + j)) (fun j => χ (200 + j)) (fun j => χ (110 + j)) O (O 0) (pl O (O 0)) b fi ne (ct - 1) on) ∧ va_S A s.heap H locs := hI9
          refine lv_iload_n hx hb dX3_flush_141 rfl (lv_at hl 3 rfl) ?_
          refine lv_bipush (v := nI 16) hx hb dX3_flush_142 (by decide) ?_
          refine xi_ge (tgt := 170) hx hb dX3_flush_144 (by decide) (nI_toInt (by omega)) (nI_toInt (by omega)) (fun c_144 => ?_) (fun c_144 => ?_)
          · refine lv_aload_n hx hb dX3_flush_170 rfl (lv_at hl 0 rfl) ?_
            refine va_get (D := D) (ci := 3) (v := .ref (r 1)) (C := RX3) (T := TX3) (N := 16) hx hb hts hiX3 hown hK hP 0 rfl rfl 1 (by decide) (hts (.fieldLink RX3 7 "PairedCellsModel" "states" "[I") (by decide +kernel)) (fun _ h9 => h9) rfl dX3_flush_171 ?_
            refine lv_iload_n hx hb dX3_flush_174 rfl (lv_at hl 1 rfl) ?_
            refine lv_iconst (v := nI 1) hx hb dX3_flush_175 (by decide) ?_
            refine xr_iast hx hb hK hP hD hS 1 0 rfl rfl (by omega) (by decide) dX3_flush_176 (fun H locs hP hD hS => ?_)
            have hP : va_P D vwCl (mX cI r th fp fa (up (fun j => χ j) (16 * b + (plc χ b)) (1)) (fun j => if 16 * (16 * b + plc χ b) ≤ j ∧ j < 16 * (16 * b + plc χ b) + k then O (j - 16 * (16 * b + plc χ b)) else χ (1000 + j)) (fun j => χ (100 + j)) (fun j => χ (200 + j)) (fun j => χ (110 + j)) O (O 0) (pl O (O 0)) b fi ne (ct - 1) on) H := hP
            have hD : va_D A (mX cI r th fp fa (up (fun j => χ j) (16 * b + (plc χ b)) (1)) (fun j => if 16 * (16 * b + plc χ b) ≤ j ∧ j < 16 * (16 * b + plc χ b) + k then O (j - 16 * (16 * b + plc χ b)) else χ (1000 + j)) (fun j => χ (100 + j)) (fun j => χ (200 + j)) (fun j => χ (110 + j)) O (O 0) (pl O (O 0)) b fi ne (ct - 1) on) := hD
            have hq9 : (mX cI r th fp fa (up (fun j => χ j) (16 * b + (plc χ b)) (1)) (fun j => if 16 * (16 * b + plc χ b) ≤ j ∧ j < 16 * (16 * b + plc χ b) + k then O (j - 16 * (16 * b + plc χ b)) else χ (1000 + j)) (fun j => χ (100 + j)) (fun j => χ (200 + j)) (fun j => χ (110 + j)) O (O 0) (pl O (O 0)) b fi ne (ct - 1) on : va_W) = wM cI r th fp fa (wrt χ b (plc χ b) O) O (O 0) (pl O (O 0)) b fi ne (ct - 1) on := wM_eq (fun j hj => (by simp only [wrt, up]; (repeat' split) <;> first | rfl | omega | (exfalso; omega) | (congr 1; omega))) (fun j hj => (by simp only [wrt, up]; (repeat' split) <;> first | rfl | omega | (exfalso; omega) | (congr 1; omega))) (fun j hj => (by simp only [wrt, up]; (repeat' split) <;> first | rfl | omega | (exfalso; omega) | (congr 1; omega))) (fun j hj => (by simp only [wrt, up]; (repeat' split) <;> first | rfl | omega | (exfalso; omega) | (congr 1; omega))) (fun j hj => (by simp only [wrt, up]; (repeat' split) <;> first | rfl | omega | (exfalso; omega) | (congr 1; omega))) (fun j hj => rfl)
            have hP := va_P.eqw hq9 hP
            have hD := va_D.eqw hq9 hD
            have hP : va_P D vwCl (wM cI r th fp fa (wrt χ b (plc χ b) O) O (O 0) (pl O (O 0)) b fi ne (ct - 1) on) H := hP
            have hD : va_D A (wM cI r th fp fa (wrt χ b (plc χ b) O) O (O 0) (pl O (O 0)) b fi ne (ct - 1) on) := hD
            refine lv_aload_n hx hb dX3_flush_177 rfl (lv_at hl 0 rfl) ?_
            have hF9 := x_hF (hD) hS hA
            refine xw_Vv (ci := 3) (rest := []) (As := []) ⟨hx, hb, hml, hown, hts⟩ (c_X3_empty l D r th fp fa (wrt χ b (plc χ b) O) O (O 0) (pl O (O 0)) b fi ne (ct - 1) on H.size) (cwV 0 hts gX3_flush_X3_empty rfl rfl rfl (by decide +kernel) ⟨Nat.le_of_ble_eq_true rfl, Nat.le_of_ble_eq_true rfl⟩) hN hK (hP) (hD) hS hA rfl 0 rfl rfl hl.1 rfl (Nat.le_of_ble_eq_true rfl) dX3_flush_178 ⟨Nat.le_of_ble_eq_true rfl, Nat.le_of_ble_eq_true rfl⟩ (fun u_178 H1 locs hw_178 hP1 hD1 hDA hk9 hS => ?_)
            have hP := hP1
            have hD := hDA
            generalize H1 = H at hP hS ⊢
            have hP : va_P D vwCl (wM cI r th fp fa (wrt χ b (plc χ b) O) (fun _ => 0) 0 3 b fi ne (ct - 1) on) H := hP
            have hD : va_D A (wM cI r th fp fa (wrt χ b (plc χ b) O) (fun _ => 0) 0 3 b fi ne (ct - 1) on) := hD
            refine lv_iconst (v := nI 1) hx hb dX3_flush_181 (by decide) ?_
            have e1 : fX χ b ct O = (wrt χ b (plc χ b) O) := by unfold fX; rw [cif_f (show ¬ plc χ b = 8 by omega)]; (repeat' (first | rw [cif_t (by omega)] | rw [cif_f (by omega)]))
            have e2 : fO χ b ct O = (fun _ => 0) := by unfold fO; rw [cif_f (show ¬ plc χ b = 8 by omega)]; (repeat' (first | rw [cif_t (by omega)] | rw [cif_f (by omega)]))
            have e3 : fCt χ b ct = (ct - 1) := by unfold fCt; (rw [cif_f (show ¬ plc χ b = 8 by omega)]) <;> omega
            have e4 : fOn χ b ct on = on := by unfold fOn; rw [cif_f (show ¬ plc χ b = 8 by omega)]; (repeat' (first | rw [cif_t (by omega)] | rw [cif_f (by omega)]))
            have hq9 : (wM cI r th fp fa (wrt χ b (plc χ b) O) (fun _ => 0) 0 3 b fi ne (ct - 1) on : va_W) = wM cI r th fp fa (fX χ b ct O) (opn (fO χ b ct O)) (fO χ b ct O 0) (pl (fO χ b ct O) (fO χ b ct O 0)) b fi ne (fCt χ b ct) (fOn χ b ct on) := (by rw [e1, e2, e3, e4]; exact mX_eq (fun j hj => rfl) (fun j hj => rfl) (fun j hj => rfl) (fun j hj => rfl) (fun j hj => rfl) (fun j hj => by unfold opn; split <;> rfl))
            exact xf_z (post := fun (x : Int32) (u : (Nat → Nat) × (Nat → Nat) × Nat × Nat) => bo x (fOk χ b ct) ∧ u = (fO χ b ct O, fX χ b ct O, fCt χ b ct, fOn χ b ct on)) (w1 := fun (u : (Nat → Nat) × (Nat → Nat) × Nat × Nat) => wM cI r th fp fa u.2.1 (opn u.1) (u.1 0) (pl u.1 (u.1 0)) b fi ne u.2.2.1 u.2.2.2) (fO χ b ct O, fX χ b ct O, fCt χ b ct, fOn χ b ct on) hx hb hr hlocks rfl (⟨bo.one (by unfold fOk; omega), rfl⟩) (va_P.eqw hq9 hP) hK (va_D.eqw hq9 hD) hS dX3_flush_182
          · refine lv_aload_n hx hb dX3_flush_147 rfl (lv_at hl 0 rfl) ?_
            refine va_get (D := D) (ci := 3) (v := .ref (r 2)) (C := RX3) (T := TX3) (N := 16) hx hb hts hiX3 hown hK hP 0 rfl rfl 2 (by decide) (hts (.fieldLink RX3 13 "PairedCellsModel" "bytes" "[I") (by decide +kernel)) (fun _ h9 => h9) rfl dX3_flush_148 ?_
            refine lv_bipush (v := nI 16) hx hb dX3_flush_151 (by decide) ?_
            refine lv_iload_n hx hb dX3_flush_153 rfl (lv_at hl 1 rfl) ?_
            refine xr_mul hx hb dX3_flush_154 ?_
            refine lv_iload_n hx hb dX3_flush_155 rfl (lv_at hl 3 rfl) ?_
            refine xr_add hx hb dX3_flush_156 ?_
            refine lv_aload_n hx hb dX3_flush_157 rfl (lv_at hl 0 rfl) ?_
            refine va_get (D := D) (ci := 3) (v := .ref (r 6)) (C := RX3) (T := TX3) (N := 16) hx hb hts hiX3 hown hK hP 0 rfl rfl 13 (by decide) (hts (.fieldLink RX3 33 "PairedCellsModel" "open" "[I") (by decide +kernel)) (fun _ h9 => h9) rfl dX3_flush_158 ?_
            refine lv_iload_n hx hb dX3_flush_161 rfl (lv_at hl 3 rfl) ?_
            refine xr_iald hx hb hK hP 6 0 rfl rfl (by omega) (by decide) dX3_flush_162 ?_
            refine xr_iast hx hb hK hP hD hS 2 0 rfl rfl (by omega) (by decide) dX3_flush_163 (fun H locs hP hD hS => ?_)
            have hP : va_P D vwCl (mX cI r th fp fa (fun j => χ j) (up (fun j => if 16 * (16 * b + plc χ b) ≤ j ∧ j < 16 * (16 * b + plc χ b) + k then O (j - 16 * (16 * b + plc χ b)) else χ (1000 + j)) (16 * (16 * b + (plc χ b)) + k) (O (k))) (fun j => χ (100 + j)) (fun j => χ (200 + j)) (fun j => χ (110 + j)) O (O 0) (pl O (O 0)) b fi ne (ct - 1) on) H := hP
            have hD : va_D A (mX cI r th fp fa (fun j => χ j) (up (fun j => if 16 * (16 * b + plc χ b) ≤ j ∧ j < 16 * (16 * b + plc χ b) + k then O (j - 16 * (16 * b + plc χ b)) else χ (1000 + j)) (16 * (16 * b + (plc χ b)) + k) (O (k))) (fun j => χ (100 + j)) (fun j => χ (200 + j)) (fun j => χ (110 + j)) O (O 0) (pl O (O 0)) b fi ne (ct - 1) on) := hD
            refine lv_iinc (v := nI (k + 1)) (lv' := [(3, .int (nI (k + 1))), (0, .ref (r 0)), (1, .int (nI (16 * b + (plc χ b)))), (2, .int (nI (ne - (O 0))))]) hx hb dX3_flush_164 hl (k := 3) rfl (nI_add _ _) (by decide) rfl (fun ls hl => ?_)
            refine lv_goto (tgt := 141) hx hb dX3_flush_167 (by decide) ?_
            have hq9 : (mX cI r th fp fa (fun j => χ j) (up (fun j => if 16 * (16 * b + plc χ b) ≤ j ∧ j < 16 * (16 * b + plc χ b) + k then O (j - 16 * (16 * b + plc χ b)) else χ (1000 + j)) (16 * (16 * b + (plc χ b)) + k) (O (k))) (fun j => χ (100 + j)) (fun j => χ (200 + j)) (fun j => χ (110 + j)) O (O 0) (pl O (O 0)) b fi ne (ct - 1) on : va_W) = mX cI r th fp fa (fun j => χ j) (fun j => if 16 * (16 * b + plc χ b) ≤ j ∧ j < 16 * (16 * b + plc χ b) + (k + 1) then O (j - 16 * (16 * b + plc χ b)) else χ (1000 + j)) (fun j => χ (100 + j)) (fun j => χ (200 + j)) (fun j => χ (110 + j)) O (O 0) (pl O (O 0)) b fi ne (ct - 1) on := (mX_eq (fun j hj => rfl) (fun j hj => by simp only [up]; (repeat' split) <;> first | rfl | omega | (exfalso; omega) | (congr 1; omega)) (fun j hj => rfl) (fun j hj => rfl) (fun j hj => rfl) (fun j hj => rfl))
            exact ih_141 (k + 1) _ _ _ (⟨by omega, va_P.eqw hq9 hP, va_D.eqw hq9 hD, hS⟩) (by first | omega | (dsimp only; omega)) (lv_sub hl [1, 2, 3, 0] rfl)
        · exfalso; omega
    · refine lv_aload_n hx hb dX3_flush_50 rfl (lv_at hl 1 rfl) ?_
      have hF9 := x_hF (hD) hS hA
      refine xw_Vi (ci := 3) (rest := []) (As := []) ⟨hx, hb, hml, hown, hts⟩ (c_X3_writeGuard l D r th fp fa χ (opn O) (O 0) (pl O (O 0)) b fi ne ct on hb6 hχ hct H.size) (cwV 0 hts gX3_flush_X3_writeGuard rfl rfl rfl (by decide +kernel) ⟨Nat.le_of_ble_eq_true rfl, Nat.le_of_ble_eq_true rfl⟩) hN hK (hP) (hD) hS hA rfl 0 rfl rfl hl.1 rfl (Nat.le_of_ble_eq_true rfl) dX3_flush_51 ⟨Nat.le_of_ble_eq_true rfl, Nat.le_of_ble_eq_true rfl⟩ (fun r_51 u_51 H1 locs hw_51 hP1 hD1 hDA hk9 hS => ?_)
      rcases hw_51 with ⟨hg1, rfl, rfl⟩ | ⟨hg1, rfl, rfl⟩
      · have hP := hP1
        have hD := hDA
        generalize H1 = H at hP hS ⊢
        have hP : va_P D vwCl (wM cI r th fp fa (up χ (100 + b) 2) (opn O) (O 0) (pl O (O 0)) b fi ne 0 0) H := hP
        have hD : va_D A (wM cI r th fp fa (up χ (100 + b) 2) (opn O) (O 0) (pl O (O 0)) b fi ne 0 0) := hD
        refine xz_ne (tgt := 59) hx hb dX3_flush_54 (by decide) (nI_toInt (by omega)) (fun c_54 => ?_) (fun c_54 => ?_)
        · exfalso; omega
        · refine lv_iconst (v := nI 0) hx hb dX3_flush_57 (by decide) ?_
          have e1 : fX χ b ct O = (up χ (100 + b) 2) := by unfold fX; rw [cif_t (show plc χ b = 8 by omega)]; (repeat' (first | rw [cif_t (by omega)] | rw [cif_f (by omega)]))
          have e2 : fO χ b ct O = O := by unfold fO; rw [cif_t (show plc χ b = 8 by omega)]; (repeat' (first | rw [cif_t (by omega)] | rw [cif_f (by omega)]))
          have e3 : fCt χ b ct = 0 := by unfold fCt; (rw [cif_t (show plc χ b = 8 by omega)]) <;> omega
          have e4 : fOn χ b ct on = 0 := by unfold fOn; rw [cif_t (show plc χ b = 8 by omega)]; (repeat' (first | rw [cif_t (by omega)] | rw [cif_f (by omega)]))
          have hq9 : (wM cI r th fp fa (up χ (100 + b) 2) (opn O) (O 0) (pl O (O 0)) b fi ne 0 0 : va_W) = wM cI r th fp fa (fX χ b ct O) (opn (fO χ b ct O)) (fO χ b ct O 0) (pl (fO χ b ct O) (fO χ b ct O 0)) b fi ne (fCt χ b ct) (fOn χ b ct on) := (by rw [e1, e2, e3, e4])
          exact xf_z (post := fun (x : Int32) (u : (Nat → Nat) × (Nat → Nat) × Nat × Nat) => bo x (fOk χ b ct) ∧ u = (fO χ b ct O, fX χ b ct O, fCt χ b ct, fOn χ b ct on)) (w1 := fun (u : (Nat → Nat) × (Nat → Nat) × Nat × Nat) => wM cI r th fp fa u.2.1 (opn u.1) (u.1 0) (pl u.1 (u.1 0)) b fi ne u.2.2.1 u.2.2.2) (fO χ b ct O, fX χ b ct O, fCt χ b ct, fOn χ b ct on) hx hb hr hlocks rfl (⟨bo.zero (by unfold fOk; omega), rfl⟩) (va_P.eqw hq9 hP) hK (va_D.eqw hq9 hD) hS dX3_flush_58
      · have hP := hP1
        have hD := hDA
        generalize H1 = H at hP hS ⊢
        have hP : va_P D vwCl (wM cI r th fp fa (wgd χ b) (opn O) (O 0) (pl O (O 0)) b fi ne (ct - 1) on) H := hP
        have hD : va_D A (wM cI r th fp fa (wgd χ b) (opn O) (O 0) (pl O (O 0)) b fi ne (ct - 1) on) := hD
        refine xz_ne (tgt := 59) hx hb dX3_flush_54 (by decide) (nI_toInt (by omega)) (fun c_54 => ?_) (fun c_54 => ?_)
        · refine lv_aload_n hx hb dX3_flush_59 rfl (lv_at hl 1 rfl) ?_
          have hF9 := x_hF (hD) hS hA
          refine xw_Vi (ci := 3) (rest := []) (As := []) ⟨hx, hb, hml, hown, hts⟩ (c_X3_isCut l D r th fp fa (wgd χ b) (opn O) (O 0) (pl O (O 0)) b fi ne (ct - 1) on (by omega) H.size) (cwV 0 hts gX3_flush_X3_isCut rfl rfl rfl (by decide +kernel) ⟨Nat.le_of_ble_eq_true rfl, Nat.le_of_ble_eq_true rfl⟩) hN hK (hP) (hD) hS hA rfl 0 rfl rfl hl.1 rfl (Nat.le_of_ble_eq_true rfl) dX3_flush_60 ⟨Nat.le_of_ble_eq_true rfl, Nat.le_of_ble_eq_true rfl⟩ (fun r_60 u_60 H1 locs hw_60 hP1 hD1 hDA hk9 hS => ?_)
          rcases hw_60 with ⟨hc1, rfl, rfl⟩ | ⟨hc1, rfl, rfl⟩
          · have hP := hP1
            have hD := hDA
            generalize H1 = H at hP hS ⊢
            have hP : va_P D vwCl (wM cI r th fp fa (wgd χ b) (opn O) (O 0) (pl O (O 0)) b fi ne 0 0) H := hP
            have hD : va_D A (wM cI r th fp fa (wgd χ b) (opn O) (O 0) (pl O (O 0)) b fi ne 0 0) := hD
            refine xz_eq (tgt := 94) hx hb dX3_flush_63 (by decide) (nI_toInt (by omega)) (fun c_63 => ?_) (fun c_63 => ?_)
            · exfalso; omega
            · refine lv_aload_n hx hb dX3_flush_66 rfl (lv_at hl 1 rfl) ?_
              refine va_get (D := D) (ci := 3) (v := .ref (r 1)) (C := RX3) (T := TX3) (N := 16) hx hb hts hiX3 hown hK hP 0 rfl rfl 1 (by decide) (hts (.fieldLink RX3 7 "PairedCellsModel" "states" "[I") (by decide +kernel)) (fun _ h9 => h9) rfl dX3_flush_67 ?_
              refine lv_iload_n hx hb dX3_flush_70 rfl (lv_at hl 0 rfl) ?_
              refine lv_iconst (v := nI 2) hx hb dX3_flush_71 (by decide) ?_
              refine xr_iast hx hb hK hP hD hS 1 0 rfl rfl (by omega) (by decide) dX3_flush_72 (fun H locs hP hD hS => ?_)
              have hP : va_P D vwCl (mX cI r th fp fa (up (fun j => (wgd χ b) j) (16 * b + (plc χ b)) (2)) (fun j => (wgd χ b) (1000 + j)) (fun j => (wgd χ b) (100 + j)) (fun j => (wgd χ b) (200 + j)) (fun j => (wgd χ b) (110 + j)) (opn O) (O 0) (pl O (O 0)) b fi ne 0 0) H := hP
              have hD : va_D A (mX cI r th fp fa (up (fun j => (wgd χ b) j) (16 * b + (plc χ b)) (2)) (fun j => (wgd χ b) (1000 + j)) (fun j => (wgd χ b) (100 + j)) (fun j => (wgd χ b) (200 + j)) (fun j => (wgd χ b) (110 + j)) (opn O) (O 0) (pl O (O 0)) b fi ne 0 0) := hD
              refine lv_iload_n hx hb dX3_flush_73 rfl (lv_at hl 0 rfl) ?_
              refine lv_bipush (v := nI 16) hx hb dX3_flush_74 (by decide) ?_
              refine xr_rem hx hb (by omega) (by decide) (by decide) dX3_flush_76 ?_
              refine xr_nat (x' := plc χ b) (by omega) ?_
              refine lv_bipush (v := nI 7) hx hb dX3_flush_77 (by decide) ?_
              refine xi_le (tgt := 92) hx hb dX3_flush_79 (by decide) (nI_toInt (by omega)) (nI_toInt (by omega)) (fun c_79 => ?_) (fun c_79 => ?_)
              · exfalso; omega
              · refine lv_aload_n hx hb dX3_flush_82 rfl (lv_at hl 1 rfl) ?_
                refine va_get (D := D) (ci := 3) (v := .ref (r 1)) (C := RX3) (T := TX3) (N := 16) hx hb hts hiX3 hown hK hP 0 rfl rfl 1 (by decide) (hts (.fieldLink RX3 7 "PairedCellsModel" "states" "[I") (by decide +kernel)) (fun _ h9 => h9) rfl dX3_flush_83 ?_
                refine lv_iload_n hx hb dX3_flush_86 rfl (lv_at hl 0 rfl) ?_
                refine lv_bipush (v := nI 8) hx hb dX3_flush_87 (by decide) ?_
                refine xr_sub hx hb (by omega) dX3_flush_89 ?_
                refine lv_iconst (v := nI 2) hx hb dX3_flush_90 (by decide) ?_
                refine xr_iast hx hb hK hP hD hS 1 0 rfl rfl (by omega) (by decide) dX3_flush_91 (fun H locs hP hD hS => ?_)
                have hP : va_P D vwCl (mX cI r th fp fa (up (up (fun j => (wgd χ b) j) (16 * b + (plc χ b)) (2)) (16 * b + (plc χ b) - 8) (2)) (fun j => (wgd χ b) (1000 + j)) (fun j => (wgd χ b) (100 + j)) (fun j => (wgd χ b) (200 + j)) (fun j => (wgd χ b) (110 + j)) (opn O) (O 0) (pl O (O 0)) b fi ne 0 0) H := hP
                have hD : va_D A (mX cI r th fp fa (up (up (fun j => (wgd χ b) j) (16 * b + (plc χ b)) (2)) (16 * b + (plc χ b) - 8) (2)) (fun j => (wgd χ b) (1000 + j)) (fun j => (wgd χ b) (100 + j)) (fun j => (wgd χ b) (200 + j)) (fun j => (wgd χ b) (110 + j)) (opn O) (O 0) (pl O (O 0)) b fi ne 0 0) := hD
                refine lv_iconst (v := nI 0) hx hb dX3_flush_92 (by decide) ?_
                have e1 : fX χ b ct O = (cuw (wgd χ b) b 8) := by unfold fX; rw [cif_t (show plc χ b = 8 by omega)]; (repeat' (first | rw [cif_t (by omega)] | rw [cif_f (by omega)]))
                have e2 : fO χ b ct O = O := by unfold fO; rw [cif_t (show plc χ b = 8 by omega)]; (repeat' (first | rw [cif_t (by omega)] | rw [cif_f (by omega)]))
                have e3 : fCt χ b ct = 0 := by unfold fCt; (rw [cif_t (show plc χ b = 8 by omega)]) <;> omega
                have e4 : fOn χ b ct on = 0 := by unfold fOn; rw [cif_t (show plc χ b = 8 by omega)]; (repeat' (first | rw [cif_t (by omega)] | rw [cif_f (by omega)]))
                have hq9 : (mX cI r th fp fa (up (up (fun j => (wgd χ b) j) (16 * b + (plc χ b)) (2)) (16 * b + (plc χ b) - 8) (2)) (fun j => (wgd χ b) (1000 + j)) (fun j => (wgd χ b) (100 + j)) (fun j => (wgd χ b) (200 + j)) (fun j => (wgd χ b) (110 + j)) (opn O) (O 0) (pl O (O 0)) b fi ne 0 0 : va_W) = wM cI r th fp fa (fX χ b ct O) (opn (fO χ b ct O)) (fO χ b ct O 0) (pl (fO χ b ct O) (fO χ b ct O 0)) b fi ne (fCt χ b ct) (fOn χ b ct on) := (by rw [e1, e2, e3, e4]; exact wM_eq (fun j hj => (by simp only [cuw, up]; (repeat' split) <;> first | rfl | omega | (exfalso; omega) | (congr 1; omega))) (fun j hj => (by simp only [cuw, up]; (repeat' split) <;> first | rfl | omega | (exfalso; omega) | (congr 1; omega))) (fun j hj => (by simp only [cuw, up]; (repeat' split) <;> first | rfl | omega | (exfalso; omega) | (congr 1; omega))) (fun j hj => (by simp only [cuw, up]; (repeat' split) <;> first | rfl | omega | (exfalso; omega) | (congr 1; omega))) (fun j hj => (by simp only [cuw, up]; (repeat' split) <;> first | rfl | omega | (exfalso; omega) | (congr 1; omega))) (fun j hj => rfl))
                exact xf_z (post := fun (x : Int32) (u : (Nat → Nat) × (Nat → Nat) × Nat × Nat) => bo x (fOk χ b ct) ∧ u = (fO χ b ct O, fX χ b ct O, fCt χ b ct, fOn χ b ct on)) (w1 := fun (u : (Nat → Nat) × (Nat → Nat) × Nat × Nat) => wM cI r th fp fa u.2.1 (opn u.1) (u.1 0) (pl u.1 (u.1 0)) b fi ne u.2.2.1 u.2.2.2) (fO χ b ct O, fX χ b ct O, fCt χ b ct, fOn χ b ct on) hx hb hr hlocks rfl (⟨bo.zero (by unfold fOk; omega), rfl⟩) (va_P.eqw hq9 hP) hK (va_D.eqw hq9 hD) hS dX3_flush_93
          · have hP := hP1
            have hD := hDA
            generalize H1 = H at hP hS ⊢
            have hP : va_P D vwCl (wM cI r th fp fa (wgd χ b) (opn O) (O 0) (pl O (O 0)) b fi ne ((ct - 1) - 1) on) H := hP
            have hD : va_D A (wM cI r th fp fa (wgd χ b) (opn O) (O 0) (pl O (O 0)) b fi ne ((ct - 1) - 1) on) := hD
            refine xz_eq (tgt := 94) hx hb dX3_flush_63 (by decide) (nI_toInt (by omega)) (fun c_63 => ?_) (fun c_63 => ?_)
            · refine lv_aload_n hx hb dX3_flush_94 rfl (lv_at hl 1 rfl) ?_
              refine va_get (D := D) (ci := 3) (v := .int (nI (ne))) (C := RX3) (T := TX3) (N := 16) hx hb hts hiX3 hown hK hP 0 rfl rfl 10 (by decide) (hts (.fieldLink RX3 73 "PairedCellsModel" "next" "I") (by decide +kernel)) (fun _ h9 => h9) rfl dX3_flush_95 ?_
              refine lv_aload_n hx hb dX3_flush_98 rfl (lv_at hl 1 rfl) ?_
              refine va_get (D := D) (ci := 3) (v := .int (nI ((O 0)))) (C := RX3) (T := TX3) (N := 16) hx hb hts hiX3 hown hK hP 0 rfl rfl 11 (by decide) (hts (.fieldLink RX3 67 "PairedCellsModel" "held" "I") (by decide +kernel)) (fun _ h9 => h9) rfl dX3_flush_99 ?_
              refine xr_sub hx hb (by omega) dX3_flush_102 ?_
              refine lv_istore_n (lv' := [(2, .int (nI (ne - (O 0)))), (1, .int (nI (16 * b + (plc χ b)))), (0, .ref (r 0))]) hx hb dX3_flush_103 rfl hl (by decide) rfl (fun ls hl => ?_)
              refine lv_aload_n hx hb dX3_flush_104 rfl (lv_at hl 2 rfl) ?_
              refine va_get (D := D) (ci := 3) (v := .ref (r 6)) (C := RX3) (T := TX3) (N := 16) hx hb hts hiX3 hown hK hP 0 rfl rfl 13 (by decide) (hts (.fieldLink RX3 33 "PairedCellsModel" "open" "[I") (by decide +kernel)) (fun _ h9 => h9) rfl dX3_flush_105 ?_
              refine lv_iconst (v := nI 0) hx hb dX3_flush_108 (by decide) ?_
              refine lv_aload_n hx hb dX3_flush_109 rfl (lv_at hl 2 rfl) ?_
              refine va_get (D := D) (ci := 3) (v := .int (nI ((O 0)))) (C := RX3) (T := TX3) (N := 16) hx hb hts hiX3 hown hK hP 0 rfl rfl 11 (by decide) (hts (.fieldLink RX3 67 "PairedCellsModel" "held" "I") (by decide +kernel)) (fun _ h9 => h9) rfl dX3_flush_110 ?_
              refine xr_iast hx hb hK hP hD hS 6 0 rfl rfl (by omega) (by decide) dX3_flush_113 (fun H locs hP hD hS => ?_)
              have hP : va_P D vwCl (wM cI r th fp fa (wgd χ b) (up (opn O) (0) ((O 0))) (O 0) (pl O (O 0)) b fi ne ((ct - 1) - 1) on) H := hP
              have hD : va_D A (wM cI r th fp fa (wgd χ b) (up (opn O) (0) ((O 0))) (O 0) (pl O (O 0)) b fi ne ((ct - 1) - 1) on) := hD
              refine lv_aload_n hx hb dX3_flush_114 rfl (lv_at hl 2 rfl) ?_
              refine va_get (D := D) (ci := 3) (v := .ref (r 6)) (C := RX3) (T := TX3) (N := 16) hx hb hts hiX3 hown hK hP 0 rfl rfl 13 (by decide) (hts (.fieldLink RX3 33 "PairedCellsModel" "open" "[I") (by decide +kernel)) (fun _ h9 => h9) rfl dX3_flush_115 ?_
              refine lv_iconst (v := nI 1) hx hb dX3_flush_118 (by decide) ?_
              refine lv_iload_n hx hb dX3_flush_119 rfl (lv_at hl 0 rfl) ?_
              refine lv_bipush (v := nI 8) hx hb dX3_flush_120 (by decide) ?_
              refine xr_shr hx hb (by omega) (by omega) dX3_flush_122 ?_
              refine lv_sipush (v := nI 255) hx hb dX3_flush_123 (by decide) ?_
              refine xr_and255 hx hb (by omega) dX3_flush_126 ?_
              refine xr_iast hx hb hK hP hD hS 6 0 rfl rfl (by omega) (by decide) dX3_flush_127 (fun H locs hP hD hS => ?_)
              have hP : va_P D vwCl (wM cI r th fp fa (wgd χ b) (up (up (opn O) (0) ((O 0))) (1) (((ne - (O 0)) / 2 ^ 8) % 256)) (O 0) (pl O (O 0)) b fi ne ((ct - 1) - 1) on) H := hP
              have hD : va_D A (wM cI r th fp fa (wgd χ b) (up (up (opn O) (0) ((O 0))) (1) (((ne - (O 0)) / 2 ^ 8) % 256)) (O 0) (pl O (O 0)) b fi ne ((ct - 1) - 1) on) := hD
              refine lv_aload_n hx hb dX3_flush_128 rfl (lv_at hl 2 rfl) ?_
              refine va_get (D := D) (ci := 3) (v := .ref (r 6)) (C := RX3) (T := TX3) (N := 16) hx hb hts hiX3 hown hK hP 0 rfl rfl 13 (by decide) (hts (.fieldLink RX3 33 "PairedCellsModel" "open" "[I") (by decide +kernel)) (fun _ h9 => h9) rfl dX3_flush_129 ?_
              refine lv_iconst (v := nI 2) hx hb dX3_flush_132 (by decide) ?_
              refine lv_iload_n hx hb dX3_flush_133 rfl (lv_at hl 0 rfl) ?_
              refine lv_sipush (v := nI 255) hx hb dX3_flush_134 (by decide) ?_
              refine xr_and255 hx hb (by omega) dX3_flush_137 ?_
              refine xr_iast hx hb hK hP hD hS 6 0 rfl rfl (by omega) (by decide) dX3_flush_138 (fun H locs hP hD hS => ?_)
              have hP : va_P D vwCl (wM cI r th fp fa (wgd χ b) (up (up (up (opn O) (0) ((O 0))) (1) (((ne - (O 0)) / 2 ^ 8) % 256)) (2) ((ne - (O 0)) % 256)) (O 0) (pl O (O 0)) b fi ne ((ct - 1) - 1) on) H := hP
              have hD : va_D A (wM cI r th fp fa (wgd χ b) (up (up (up (opn O) (0) ((O 0))) (1) (((ne - (O 0)) / 2 ^ 8) % 256)) (2) ((ne - (O 0)) % 256)) (O 0) (pl O (O 0)) b fi ne ((ct - 1) - 1) on) := hD
              have hq9 : (wM cI r th fp fa (wgd χ b) (up (up (up (opn O) (0) ((O 0))) (1) (((ne - (O 0)) / 2 ^ 8) % 256)) (2) ((ne - (O 0)) % 256)) (O 0) (pl O (O 0)) b fi ne ((ct - 1) - 1) on : va_W) = wM cI r th fp fa (wgd χ b) O (O 0) (pl O (O 0)) b fi ne ((ct - 1) - 1) on := mX_eq (fun j hj => rfl) (fun j hj => rfl) (fun j hj => rfl) (fun j hj => rfl) (fun j hj => rfl) (fun j hj => by simp only [up, opn]; (repeat' split) <;> first | rfl | omega | (exfalso; omega) | (subst_vars; omega))
              have hP := va_P.eqw hq9 hP
              have hD := va_D.eqw hq9 hD
              have hP : va_P D vwCl (wM cI r th fp fa (wgd χ b) O (O 0) (pl O (O 0)) b fi ne ((ct - 1) - 1) on) H := hP
              have hD : va_D A (wM cI r th fp fa (wgd χ b) O (O 0) (pl O (O 0)) b fi ne ((ct - 1) - 1) on) := hD
              refine lv_iconst (v := nI 0) hx hb dX3_flush_139 (by decide) ?_
              refine lv_istore_n (lv' := [(3, .int (nI (0))), (2, .int (nI (ne - (O 0)))), (1, .int (nI (16 * b + (plc χ b)))), (0, .ref (r 0))]) hx hb dX3_flush_140 rfl hl (by decide) rfl (fun ls hl => ?_)
              have hq9 : (wM cI r th fp fa (wgd χ b) O (O 0) (pl O (O 0)) b fi ne ((ct - 1) - 1) on : va_W) = mX cI r th fp fa (fun j => (wgd χ b) j) (fun j => if 16 * (16 * b + plc χ b) ≤ j ∧ j < 16 * (16 * b + plc χ b) + 0 then O (j - 16 * (16 * b + plc χ b)) else (wgd χ b) (1000 + j)) (fun j => (wgd χ b) (100 + j)) (fun j => (wgd χ b) (200 + j)) (fun j => (wgd χ b) (110 + j)) O (O 0) (pl O (O 0)) b fi ne ((ct - 1) - 1) on := (mX_eq (fun j hj => rfl) (fun j hj => (if_neg (by omega)).symm) (fun j hj => rfl) (fun j hj => rfl) (fun j hj => rfl) (fun j hj => rfl))
              refine lpW (α := Nat) (fun k H locs => (k ≤ 16) ∧ va_P D vwCl (mX cI r th fp fa (fun j => (wgd χ b) j) (fun j => if 16 * (16 * b + plc χ b) ≤ j ∧ j < 16 * (16 * b + plc χ b) + k then O (j - 16 * (16 * b + plc χ b)) else (wgd χ b) (1000 + j)) (fun j => (wgd χ b) (100 + j)) (fun j => (wgd χ b) (200 + j)) (fun j => (wgd χ b) (110 + j)) O (O 0) (pl O (O 0)) b fi ne ((ct - 1) - 1) on) H ∧ va_D A (mX cI r th fp fa (fun j => (wgd χ b) j) (fun j => if 16 * (16 * b + plc χ b) ≤ j ∧ j < 16 * (16 * b + plc χ b) + k then O (j - 16 * (16 * b + plc χ b)) else (wgd χ b) (1000 + j)) (fun j => (wgd χ b) (100 + j)) (fun j => (wgd χ b) (200 + j)) (fun j => (wgd χ b) (110 + j)) O (O 0) (pl O (O 0)) b fi ne ((ct - 1) - 1) on) ∧ va_S A s.heap H locs) (fun k => [(0, .ref (r 0)), (1, .int (nI (16 * b + (plc χ b)))), (2, .int (nI (ne - (O 0)))), (3, .int (nI (k)))]) 4 (fun k => 16 - k) 0 (⟨by omega, va_P.eqw hq9 hP, va_D.eqw hq9 hD, hS⟩) (lv_sub hl [3, 2, 1, 0] rfl) (fun s9 H locs ls hI9 hl9 ih_141 => ?_)
              obtain ⟨k, rfl⟩ : ∃ z, z = s9 := ⟨_, rfl⟩
              have hl : lv_has ls 4 [(0, .ref (r 0)), (1, .int (nI (16 * b + (plc χ b)))), (2, .int (nI (ne - (O 0)))), (3, .int (nI (k)))] := hl9
              obtain ⟨hk7, hP, hD, hS⟩ : (k ≤ 16) ∧ va_P D vwCl (mX cI r th fp fa (fun j => (wgd χ b) j) (fun j => if 16 * (16 * b + plc χ b) ≤ j ∧ j < 16 * (16 * b + plc χ b) + k then O (j - 16 * (16 * b + plc χ b)) else (wgd χ b) (1000 + j)) (fun j => (wgd χ b) (100 + j)) (fun j => (wgd χ b) (200 + j)) (fun j => (wgd χ b) (110 + j)) O (O 0) (pl O (O 0)) b fi ne ((ct - 1) - 1) on) H ∧ va_D A (mX cI r th fp fa (fun j => (wgd χ b) j) (fun j => if 16 * (16 * b + plc χ b) ≤ j ∧ j < 16 * (16 * b + plc χ b) + k then O (j - 16 * (16 * b + plc χ b)) else (wgd χ b) (1000 + j)) (fun j => (wgd χ b) (100 + j)) (fun j => (wgd χ b) (200 + j)) (fun j => (wgd χ b) (110 + j)) O (O 0) (pl O (O 0)) b fi ne ((ct - 1) - 1) on) ∧ va_S A s.heap H locs := hI9
              refine lv_iload_n hx hb dX3_flush_141 rfl (lv_at hl 3 rfl) ?_
              refine lv_bipush (v := nI 16) hx hb dX3_flush_142 (by decide) ?_
              refine xi_ge (tgt := 170) hx hb dX3_flush_144 (by decide) (nI_toInt (by omega)) (nI_toInt (by omega)) (fun c_144 => ?_) (fun c_144 => ?_)
              · refine lv_aload_n hx hb dX3_flush_170 rfl (lv_at hl 0 rfl) ?_
                refine va_get (D := D) (ci := 3) (v := .ref (r 1)) (C := RX3) (T := TX3) (N := 16) hx hb hts hiX3 hown hK hP 0 rfl rfl 1 (by decide) (hts (.fieldLink RX3 7 "PairedCellsModel" "states" "[I") (by decide +kernel)) (fun _ h9 => h9) rfl dX3_flush_171 ?_
                refine lv_iload_n hx hb dX3_flush_174 rfl (lv_at hl 1 rfl) ?_
                refine lv_iconst (v := nI 1) hx hb dX3_flush_175 (by decide) ?_
                refine xr_iast hx hb hK hP hD hS 1 0 rfl rfl (by omega) (by decide) dX3_flush_176 (fun H locs hP hD hS => ?_)
                have hP : va_P D vwCl (mX cI r th fp fa (up (fun j => (wgd χ b) j) (16 * b + (plc χ b)) (1)) (fun j => if 16 * (16 * b + plc χ b) ≤ j ∧ j < 16 * (16 * b + plc χ b) + k then O (j - 16 * (16 * b + plc χ b)) else (wgd χ b) (1000 + j)) (fun j => (wgd χ b) (100 + j)) (fun j => (wgd χ b) (200 + j)) (fun j => (wgd χ b) (110 + j)) O (O 0) (pl O (O 0)) b fi ne ((ct - 1) - 1) on) H := hP
                have hD : va_D A (mX cI r th fp fa (up (fun j => (wgd χ b) j) (16 * b + (plc χ b)) (1)) (fun j => if 16 * (16 * b + plc χ b) ≤ j ∧ j < 16 * (16 * b + plc χ b) + k then O (j - 16 * (16 * b + plc χ b)) else (wgd χ b) (1000 + j)) (fun j => (wgd χ b) (100 + j)) (fun j => (wgd χ b) (200 + j)) (fun j => (wgd χ b) (110 + j)) O (O 0) (pl O (O 0)) b fi ne ((ct - 1) - 1) on) := hD
                have hq9 : (mX cI r th fp fa (up (fun j => (wgd χ b) j) (16 * b + (plc χ b)) (1)) (fun j => if 16 * (16 * b + plc χ b) ≤ j ∧ j < 16 * (16 * b + plc χ b) + k then O (j - 16 * (16 * b + plc χ b)) else (wgd χ b) (1000 + j)) (fun j => (wgd χ b) (100 + j)) (fun j => (wgd χ b) (200 + j)) (fun j => (wgd χ b) (110 + j)) O (O 0) (pl O (O 0)) b fi ne ((ct - 1) - 1) on : va_W) = wM cI r th fp fa (wrt (wgd χ b) b 8 O) O (O 0) (pl O (O 0)) b fi ne ((ct - 1) - 1) on := wM_eq (fun j hj => (by simp only [wrt, up]; (repeat' split) <;> first | rfl | omega | (exfalso; omega) | (congr 1; omega))) (fun j hj => (by simp only [wrt, up]; (repeat' split) <;> first | rfl | omega | (exfalso; omega) | (congr 1; omega))) (fun j hj => (by simp only [wrt, up]; (repeat' split) <;> first | rfl | omega | (exfalso; omega) | (congr 1; omega))) (fun j hj => (by simp only [wrt, up]; (repeat' split) <;> first | rfl | omega | (exfalso; omega) | (congr 1; omega))) (fun j hj => (by simp only [wrt, up]; (repeat' split) <;> first | rfl | omega | (exfalso; omega) | (congr 1; omega))) (fun j hj => rfl)
                have hP := va_P.eqw hq9 hP
                have hD := va_D.eqw hq9 hD
                have hP : va_P D vwCl (wM cI r th fp fa (wrt (wgd χ b) b 8 O) O (O 0) (pl O (O 0)) b fi ne ((ct - 1) - 1) on) H := hP
                have hD : va_D A (wM cI r th fp fa (wrt (wgd χ b) b 8 O) O (O 0) (pl O (O 0)) b fi ne ((ct - 1) - 1) on) := hD
                refine lv_aload_n hx hb dX3_flush_177 rfl (lv_at hl 0 rfl) ?_
                have hF9 := x_hF (hD) hS hA
                refine xw_Vv (ci := 3) (rest := []) (As := []) ⟨hx, hb, hml, hown, hts⟩ (c_X3_empty l D r th fp fa (wrt (wgd χ b) b 8 O) O (O 0) (pl O (O 0)) b fi ne ((ct - 1) - 1) on H.size) (cwV 0 hts gX3_flush_X3_empty rfl rfl rfl (by decide +kernel) ⟨Nat.le_of_ble_eq_true rfl, Nat.le_of_ble_eq_true rfl⟩) hN hK (hP) (hD) hS hA rfl 0 rfl rfl hl.1 rfl (Nat.le_of_ble_eq_true rfl) dX3_flush_178 ⟨Nat.le_of_ble_eq_true rfl, Nat.le_of_ble_eq_true rfl⟩ (fun u_178 H1 locs hw_178 hP1 hD1 hDA hk9 hS => ?_)
                have hP := hP1
                have hD := hDA
                generalize H1 = H at hP hS ⊢
                have hP : va_P D vwCl (wM cI r th fp fa (wrt (wgd χ b) b 8 O) (fun _ => 0) 0 3 b fi ne ((ct - 1) - 1) on) H := hP
                have hD : va_D A (wM cI r th fp fa (wrt (wgd χ b) b 8 O) (fun _ => 0) 0 3 b fi ne ((ct - 1) - 1) on) := hD
                refine lv_iconst (v := nI 1) hx hb dX3_flush_181 (by decide) ?_
                have e1 : fX χ b ct O = (wrt (wgd χ b) b 8 O) := by unfold fX; rw [cif_t (show plc χ b = 8 by omega)]; (repeat' (first | rw [cif_t (by omega)] | rw [cif_f (by omega)]))
                have e2 : fO χ b ct O = (fun _ => 0) := by unfold fO; rw [cif_t (show plc χ b = 8 by omega)]; (repeat' (first | rw [cif_t (by omega)] | rw [cif_f (by omega)]))
                have e3 : fCt χ b ct = ((ct - 1) - 1) := by unfold fCt; (rw [cif_t (show plc χ b = 8 by omega)]) <;> omega
                have e4 : fOn χ b ct on = on := by unfold fOn; rw [cif_t (show plc χ b = 8 by omega)]; (repeat' (first | rw [cif_t (by omega)] | rw [cif_f (by omega)]))
                have hq9 : (wM cI r th fp fa (wrt (wgd χ b) b 8 O) (fun _ => 0) 0 3 b fi ne ((ct - 1) - 1) on : va_W) = wM cI r th fp fa (fX χ b ct O) (opn (fO χ b ct O)) (fO χ b ct O 0) (pl (fO χ b ct O) (fO χ b ct O 0)) b fi ne (fCt χ b ct) (fOn χ b ct on) := (by rw [e1, e2, e3, e4]; exact mX_eq (fun j hj => rfl) (fun j hj => rfl) (fun j hj => rfl) (fun j hj => rfl) (fun j hj => rfl) (fun j hj => by unfold opn; split <;> rfl))
                exact xf_z (post := fun (x : Int32) (u : (Nat → Nat) × (Nat → Nat) × Nat × Nat) => bo x (fOk χ b ct) ∧ u = (fO χ b ct O, fX χ b ct O, fCt χ b ct, fOn χ b ct on)) (w1 := fun (u : (Nat → Nat) × (Nat → Nat) × Nat × Nat) => wM cI r th fp fa u.2.1 (opn u.1) (u.1 0) (pl u.1 (u.1 0)) b fi ne u.2.2.1 u.2.2.2) (fO χ b ct O, fX χ b ct O, fCt χ b ct, fOn χ b ct on) hx hb hr hlocks rfl (⟨bo.one (by unfold fOk; omega), rfl⟩) (va_P.eqw hq9 hP) hK (va_D.eqw hq9 hD) hS dX3_flush_182
              · refine lv_aload_n hx hb dX3_flush_147 rfl (lv_at hl 0 rfl) ?_
                refine va_get (D := D) (ci := 3) (v := .ref (r 2)) (C := RX3) (T := TX3) (N := 16) hx hb hts hiX3 hown hK hP 0 rfl rfl 2 (by decide) (hts (.fieldLink RX3 13 "PairedCellsModel" "bytes" "[I") (by decide +kernel)) (fun _ h9 => h9) rfl dX3_flush_148 ?_
                refine lv_bipush (v := nI 16) hx hb dX3_flush_151 (by decide) ?_
                refine lv_iload_n hx hb dX3_flush_153 rfl (lv_at hl 1 rfl) ?_
                refine xr_mul hx hb dX3_flush_154 ?_
                refine lv_iload_n hx hb dX3_flush_155 rfl (lv_at hl 3 rfl) ?_
                refine xr_add hx hb dX3_flush_156 ?_
                refine lv_aload_n hx hb dX3_flush_157 rfl (lv_at hl 0 rfl) ?_
                refine va_get (D := D) (ci := 3) (v := .ref (r 6)) (C := RX3) (T := TX3) (N := 16) hx hb hts hiX3 hown hK hP 0 rfl rfl 13 (by decide) (hts (.fieldLink RX3 33 "PairedCellsModel" "open" "[I") (by decide +kernel)) (fun _ h9 => h9) rfl dX3_flush_158 ?_
                refine lv_iload_n hx hb dX3_flush_161 rfl (lv_at hl 3 rfl) ?_
                refine xr_iald hx hb hK hP 6 0 rfl rfl (by omega) (by decide) dX3_flush_162 ?_
                refine xr_iast hx hb hK hP hD hS 2 0 rfl rfl (by omega) (by decide) dX3_flush_163 (fun H locs hP hD hS => ?_)
                have hP : va_P D vwCl (mX cI r th fp fa (fun j => (wgd χ b) j) (up (fun j => if 16 * (16 * b + plc χ b) ≤ j ∧ j < 16 * (16 * b + plc χ b) + k then O (j - 16 * (16 * b + plc χ b)) else (wgd χ b) (1000 + j)) (16 * (16 * b + (plc χ b)) + k) (O (k))) (fun j => (wgd χ b) (100 + j)) (fun j => (wgd χ b) (200 + j)) (fun j => (wgd χ b) (110 + j)) O (O 0) (pl O (O 0)) b fi ne ((ct - 1) - 1) on) H := hP
                have hD : va_D A (mX cI r th fp fa (fun j => (wgd χ b) j) (up (fun j => if 16 * (16 * b + plc χ b) ≤ j ∧ j < 16 * (16 * b + plc χ b) + k then O (j - 16 * (16 * b + plc χ b)) else (wgd χ b) (1000 + j)) (16 * (16 * b + (plc χ b)) + k) (O (k))) (fun j => (wgd χ b) (100 + j)) (fun j => (wgd χ b) (200 + j)) (fun j => (wgd χ b) (110 + j)) O (O 0) (pl O (O 0)) b fi ne ((ct - 1) - 1) on) := hD
                refine lv_iinc (v := nI (k + 1)) (lv' := [(3, .int (nI (k + 1))), (0, .ref (r 0)), (1, .int (nI (16 * b + (plc χ b)))), (2, .int (nI (ne - (O 0))))]) hx hb dX3_flush_164 hl (k := 3) rfl (nI_add _ _) (by decide) rfl (fun ls hl => ?_)
                refine lv_goto (tgt := 141) hx hb dX3_flush_167 (by decide) ?_
                have hq9 : (mX cI r th fp fa (fun j => (wgd χ b) j) (up (fun j => if 16 * (16 * b + plc χ b) ≤ j ∧ j < 16 * (16 * b + plc χ b) + k then O (j - 16 * (16 * b + plc χ b)) else (wgd χ b) (1000 + j)) (16 * (16 * b + (plc χ b)) + k) (O (k))) (fun j => (wgd χ b) (100 + j)) (fun j => (wgd χ b) (200 + j)) (fun j => (wgd χ b) (110 + j)) O (O 0) (pl O (O 0)) b fi ne ((ct - 1) - 1) on : va_W) = mX cI r th fp fa (fun j => (wgd χ b) j) (fun j => if 16 * (16 * b + plc χ b) ≤ j ∧ j < 16 * (16 * b + plc χ b) + (k + 1) then O (j - 16 * (16 * b + plc χ b)) else (wgd χ b) (1000 + j)) (fun j => (wgd χ b) (100 + j)) (fun j => (wgd χ b) (200 + j)) (fun j => (wgd χ b) (110 + j)) O (O 0) (pl O (O 0)) b fi ne ((ct - 1) - 1) on := (mX_eq (fun j hj => rfl) (fun j hj => by simp only [up]; (repeat' split) <;> first | rfl | omega | (exfalso; omega) | (congr 1; omega)) (fun j hj => rfl) (fun j hj => rfl) (fun j hj => rfl) (fun j hj => rfl))
                exact ih_141 (k + 1) _ _ _ (⟨by omega, va_P.eqw hq9 hP, va_D.eqw hq9 hD, hS⟩) (by first | omega | (dsimp only; omega)) (lv_sub hl [1, 2, 3, 0] rfl)
            · exfalso; omega
        · exfalso; omega
