set_option maxHeartbeats 4000000 in
set_option maxRecDepth 100000 in
theorem c_X3_told_2 (l : Launch) (D : va_G) {cI : ClassId} (r : Nat → Nat) (th fp fa : Int32) (χ O : Nat → Nat) (cu fi ne ct on : Nat) (hχ : ∀ i, χ i < 65536) (hpx : pfx χ) (hon : on < 2) (sz : Nat) : Met l yX3_told wsX3_told ({ frames := 1, cells := 0, slots := 0, locals := 23 }) (va_Pc [.ref (r 0), .int (nI (2))] (x_U D (tyM cI) (wM cI r th fp fa χ (opn O) (O 0) (pl O (O 0)) cu fi ne ct on) sz)) (va_Qi (fun (x9 : Int32) (u : Unit) => x9 = nI (ern χ 6)) (fun u t => x_E D (tyM cI) (va_A (wM cI r th fp fa χ (opn O) (O 0) (pl O (O 0)) cu fi ne ct on) sz) (wM cI r (nI (0)) fp fa χ (opn O) (O 0) (pl O (O 0)) cu fi ne ct on) t) (va_A (wM cI r th fp fa χ (opn O) (O 0) (pl O (O 0)) cu fi ne ct on) sz)) 0 0 (va_A (wM cI r th fp fa χ (opn O) (O 0) (pl O (O 0)) cu fi ne ct on) sz) := by
  refine Met.ofW (cc := cX3_told) (maxL := 4) (ret := (some .int)) (by decide) rfl ?_
  intro p e s m args below meth c s₁ B hml hv
  obtain ⟨rfl, hsz, hN, hP, hK, hD0⟩ := hv
  have hx := B.exec
  have hb := B.bytes
  have hr := B.returns
  have hts := atoms_spec (ws := wsX3_told) B.pre
  have hown : s.vm.findClass RX3 = some m.cls := findClass_of_methodNamed B.named
  have hlocks := B.notSynchronized
  subst hsz
  have hD := hD0.self (sz := s.heap.size)
  generalize hAe : va_A (wM cI r th fp fa χ (opn O) (O 0) (pl O (O 0)) cu fi ne ct on) s.heap.size = A at hD ⊢
  have hA : ∀ q : Nat, s.heap.size ≤ q → A q := fun q h => by rw [← hAe]; exact Or.inr h
  obtain ⟨H, hH⟩ : ∃ H : Heap, s.heap = H := ⟨_, rfl⟩
  obtain ⟨locs, hlo⟩ : ∃ L : List Loc, ([] : List Loc) = L := ⟨_, rfl⟩
  have hS : va_S A s.heap H locs := by rw [← hH, ← hlo]; exact va_S.rf
  have hP : va_P D vwCl (wM cI r th fp fa χ (opn O) (O 0) (pl O (O 0)) cu fi ne ct on) H := hH ▸ hP
  rw [hH, hlo]
  have hiX3 : ∀ w ∈ u_ws RX3 TX3 16, w ∈ wsX3_told := by decide +kernel
  have hl := lv_entry ([.ref (r 0), .int (nI (2))]) (n := 4) (Nat.le_of_ble_eq_true rfl)
  rw [lg_entry_eq]
  generalize (lg_sl ([.ref (r 0), .int (nI (2))]) ++ List.replicate (4 - (lg_sl ([.ref (r 0), .int (nI (2))])).length) Slot.unset).toArray = ls at hl ⊢
  have hl : lv_has ls 4 [(0, .ref (r 0)), (1, .int (nI (2)))] := hl
  refine lv_aload_n hx hb dX3_told_0 rfl (lv_at hl 0 rfl) ?_
  refine lv_iconst (v := nI 0) hx hb dX3_told_1 (by decide) ?_
  refine va_put (D := D) (ci := 3) (v := .int (nI (0))) (ty := .int) (C := RX3) (T := TX3) (N := 16) hx hb hts hiX3 tyX3 tyX3_ok nmX3 hown hK hP hD hS 0 rfl rfl 0 (by decide) (hts (.fieldLink RX3 36 "PairedCellsModel" "thrown" "I") (by decide +kernel)) (fun _ h9 => h9) rfl (by decide +kernel) rfl rfl (Nat.le_of_ble_eq_true rfl) dX3_told_2 (fun H locs hP hD hS => ?_)
  have hP : va_P D vwCl (wM cI r (nI (0)) fp fa χ (opn O) (O 0) (pl O (O 0)) cu fi ne ct on) H := hP
  have hD : va_D A (wM cI r (nI (0)) fp fa χ (opn O) (O 0) (pl O (O 0)) cu fi ne ct on) := hD
  refine lv_iconst (v := nI 0) hx hb dX3_told_5 (by decide) ?_
  refine lv_istore_n (lv' := [(2, .int (nI (0))), (0, .ref (r 0)), (1, .int (nI (2)))]) hx hb dX3_told_6 rfl hl (by decide) rfl (fun ls hl => ?_)
  refine lv_iconst (v := nI 0) hx hb dX3_told_7 (by decide) ?_
  refine lv_istore_n (lv' := [(3, .int (nI (0))), (2, .int (nI (0))), (0, .ref (r 0)), (1, .int (nI (2)))]) hx hb dX3_told_8 rfl hl (by decide) rfl (fun ls hl => ?_)
  refine lpW (α := Nat) (fun q H locs => (q ≤ 6) ∧ va_P D vwCl (wM cI r (nI (0)) fp fa χ (opn O) (O 0) (pl O (O 0)) cu fi ne ct on) H ∧ va_D A (wM cI r (nI (0)) fp fa χ (opn O) (O 0) (pl O (O 0)) cu fi ne ct on) ∧ va_S A s.heap H locs) (fun q => [(0, .ref (r 0)), (1, .int (nI (2))), (2, .int (nI (ern χ q))), (3, .int (nI (q)))]) 4 (fun q => 6 - q) 0 (⟨by omega, hP, hD, hS⟩) (lv_sub hl [2, 3, 1, 0] rfl) (fun s9 H locs ls hI9 hl9 ih_9 => ?_)
  obtain ⟨q, rfl⟩ : ∃ z, z = s9 := ⟨_, rfl⟩
  have hl : lv_has ls 4 [(0, .ref (r 0)), (1, .int (nI (2))), (2, .int (nI (ern χ q))), (3, .int (nI (q)))] := hl9
  obtain ⟨hq, hP, hD, hS⟩ : (q ≤ 6) ∧ va_P D vwCl (wM cI r (nI (0)) fp fa χ (opn O) (O 0) (pl O (O 0)) cu fi ne ct on) H ∧ va_D A (wM cI r (nI (0)) fp fa χ (opn O) (O 0) (pl O (O 0)) cu fi ne ct on) ∧ va_S A s.heap H locs := hI9
  refine lv_iload_n hx hb dX3_told_9 rfl (lv_at hl 3 rfl) ?_
  refine lv_bipush (v := nI 6) hx hb dX3_told_10 (by decide) ?_
  refine xi_ge (tgt := 37) hx hb dX3_told_12 (by decide) (nI_toInt (by omega)) (nI_toInt (by omega)) (fun c_12 => ?_) (fun c_12 => ?_)
  · refine lv_iload_n hx hb dX3_told_37 rfl (lv_at hl 1 rfl) ?_
    refine lv_bipush (v := nI 10) hx hb dX3_told_38 (by decide) ?_
    refine xi_lt (tgt := 59) hx hb dX3_told_40 (by decide) (nI_toInt (by omega)) (nI_toInt (by omega)) (fun c_40 => ?_) (fun c_40 => ?_)
    · refine lv_iload_n hx hb dX3_told_59 rfl (lv_at hl 1 rfl) ?_
      refine xz_ne (tgt := 70) hx hb dX3_told_60 (by decide) (nI_toInt (by omega)) (fun c_60 => ?_) (fun c_60 => ?_)
      · refine lv_iload_n hx hb dX3_told_70 rfl (lv_at hl 1 rfl) ?_
        refine lv_iconst (v := nI 1) hx hb dX3_told_71 (by decide) ?_
        refine xi_ne (tgt := 90) hx hb dX3_told_72 (by decide) (nI_toInt (by omega)) (nI_toInt (by omega)) (fun c_72 => ?_) (fun c_72 => ?_)
        · refine lv_iload_n hx hb dX3_told_90 rfl (lv_at hl 1 rfl) ?_
          refine lv_iconst (v := nI 2) hx hb dX3_told_91 (by decide) ?_
          refine xi_ne (tgt := 99) hx hb dX3_told_92 (by decide) (nI_toInt (by omega)) (nI_toInt (by omega)) (fun c_92 => ?_) (fun c_92 => ?_)
          · exfalso; omega
          · refine lv_iload_n hx hb dX3_told_95 rfl (lv_at hl 2 rfl) ?_
            refine lv_goto (tgt := 112) hx hb dX3_told_96 (by decide) ?_
            exact xf_i (post := fun (x9 : Int32) (u : Unit) => x9 = nI (ern χ 6)) (w1 := fun (u : Unit) => wM cI r (nI (0)) fp fa χ (opn O) (O 0) (pl O (O 0)) cu fi ne ct on) () hx hb hr hlocks (by rw [show q = 6 by omega]) hP hK hD hS dX3_told_112
        · exfalso; omega
      · exfalso; omega
    · exfalso; omega
  · refine lv_iload_n hx hb dX3_told_15 rfl (lv_at hl 2 rfl) ?_
    refine lv_aload_n hx hb dX3_told_16 rfl (lv_at hl 0 rfl) ?_
    refine lv_iload_n hx hb dX3_told_17 rfl (lv_at hl 3 rfl) ?_
    refine xc_Vi (ci := 3) (rest := [.int (nI (ern χ q))]) (As := [.int (nI (q))]) ⟨hx, hb, hml, hown, hts⟩ (c_X3_isErased l D r (nI 0) fp fa χ (opn O) (O 0) (pl O (O 0)) cu fi ne ct on q (by omega) hχ hpx) (cwV 1 hts gX3_told_X3_isErased rfl rfl rfl (by decide +kernel) ⟨Nat.le_of_ble_eq_true rfl, Nat.le_of_ble_eq_true rfl⟩) hN hK (hP) rfl 0 rfl rfl hl.1 rfl (Nat.le_of_ble_eq_true rfl) dX3_told_18 ⟨Nat.le_of_ble_eq_true rfl, Nat.le_of_ble_eq_true rfl⟩ (fun r_18 hw_18 => ?_)
    refine xz_eq (tgt := 28) hx hb dX3_told_21 (by decide) rfl (fun c_21 => ?_) (fun c_21 => ?_)
    · have h_21 := bo.f hw_18 c_21
      refine lv_iconst (v := nI 0) hx hb dX3_told_28 (by decide) ?_
      refine xr_add hx hb dX3_told_29 ?_
      refine lv_istore_n (lv' := [(2, .int (nI (ern χ q + 0))), (0, .ref (r 0)), (1, .int (nI (2))), (3, .int (nI (q)))]) hx hb dX3_told_30 rfl hl (by decide) rfl (fun ls hl => ?_)
      refine lv_iinc (v := nI (q + 1)) (lv' := [(3, .int (nI (q + 1))), (2, .int (nI (ern χ q + 0))), (0, .ref (r 0)), (1, .int (nI (2)))]) hx hb dX3_told_31 hl (k := 3) rfl (nI_add _ _) (by decide) rfl (fun ls hl => ?_)
      refine lv_goto (tgt := 9) hx hb dX3_told_34 (by decide) ?_
      have e9 : ern χ q + 0 = ern χ (q + 1) := by first | exact (if_pos h_21).symm | exact (if_neg h_21).symm
      rw [e9] at hl
      exact ih_9 (q + 1) _ _ _ (⟨by omega, hP, hD, hS⟩) (by first | omega | (dsimp only; omega)) (lv_sub hl [2, 3, 1, 0] rfl)
    · have h_21 := bo.t hw_18 c_21
      refine lv_iconst (v := nI 1) hx hb dX3_told_24 (by decide) ?_
      refine lv_goto (tgt := 29) hx hb dX3_told_25 (by decide) ?_
      refine xr_add hx hb dX3_told_29 ?_
      refine lv_istore_n (lv' := [(2, .int (nI (ern χ q + 1))), (0, .ref (r 0)), (1, .int (nI (2))), (3, .int (nI (q)))]) hx hb dX3_told_30 rfl hl (by decide) rfl (fun ls hl => ?_)
      refine lv_iinc (v := nI (q + 1)) (lv' := [(3, .int (nI (q + 1))), (2, .int (nI (ern χ q + 1))), (0, .ref (r 0)), (1, .int (nI (2)))]) hx hb dX3_told_31 hl (k := 3) rfl (nI_add _ _) (by decide) rfl (fun ls hl => ?_)
      refine lv_goto (tgt := 9) hx hb dX3_told_34 (by decide) ?_
      have e9 : ern χ q + 1 = ern χ (q + 1) := by first | exact (if_pos h_21).symm | exact (if_neg h_21).symm
      rw [e9] at hl
      exact ih_9 (q + 1) _ _ _ (⟨by omega, hP, hD, hS⟩) (by first | omega | (dsimp only; omega)) (lv_sub hl [2, 3, 1, 0] rfl)
