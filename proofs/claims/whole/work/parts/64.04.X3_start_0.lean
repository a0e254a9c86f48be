theorem opn0 : opn (fun _ => 0) = fun _ => 0 := funext (fun j => by unfold opn; split <;> rfl)
theorem st_len {χ : Nat → Nat} {b : Nat} (hb : b < 6) : lst (eu χ (b + 1)) b 16 = lst (eu χ 6) b 16 := eu_lst hb
/-- what is read of a block once it was looked at -/
theorem st_rdb {χ : Nat → Nat} {b j : Nat} (hb : b < 6) (hj : j < 16) : rdb (eu χ (b + 1)) b j ↔ rdb (eu χ 6) b j := (rdb_congr (fun i hi => eu_keep hb hi 6 hb (Nat.le_refl 6)) hj).symm
theorem st_byt {χ : Nat → Nat} {b j i : Nat} (hb : b < 6) (hj : j < 16) (hi : i < 16) : byt (eu χ (b + 1)) b j i = byt (eu χ 6) b j i := (byt_congr (fun i hi => eu_keep hb hi 6 hb (Nat.le_refl 6)) hj hi).symm

set_option maxHeartbeats 4000000 in
set_option maxRecDepth 100000 in
theorem c_X3_start_0 (l : Launch) (D : va_G) {cI : ClassId} (r : Nat → Nat) (th fp fa : Int32) (χ O : Nat → Nat) (cu fi ne ct on : Nat) (hon : on = 0) (hχ : ∀ i, χ i < 65000) (hpx : pfx χ) (hwf : wfs χ) (sz : Nat) : Met l yX3_start wsX3_start ({ frames := 5, cells := 0, slots := 0, locals := 112 }) (va_Pc [.ref (r 0)] (x_U D (tyM cI) (wM cI r th fp fa χ (opn O) (O 0) (pl O (O 0)) cu fi ne ct on) sz)) (va_Qi (fun (x : Int32) (u : Unit) => x = nI (grA (eu χ 6) 6)) (fun u t => x_E D (tyM cI) (va_A (wM cI r th fp fa χ (opn O) (O 0) (pl O (O 0)) cu fi ne ct on) sz) (wM cI r (nI 0) fp fa (eu χ 6) (opn (fun _ => 0)) 0 3 (cuA (eu χ 6) 6) (lsA (eu χ 6) 6 - 1) (grA (eu χ 6) 6) ct 1) t) (va_A (wM cI r th fp fa χ (opn O) (O 0) (pl O (O 0)) cu fi ne ct on) sz)) 0 0 (va_A (wM cI r th fp fa χ (opn O) (O 0) (pl O (O 0)) cu fi ne ct on) sz) := by
  refine Met.ofW (cc := cX3_start) (maxL := 6) (ret := (some .int)) (by decide) rfl ?_
  intro p e s m args below meth c s₁ B hml hv
  obtain ⟨rfl, hsz, hN, hP, hK, hD0⟩ := hv
  have hx := B.exec
  have hb := B.bytes
  have hr := B.returns
  have hts := atoms_spec (ws := wsX3_start) B.pre
  have hown : s.vm.findClass RX3 = some m.cls := findClass_of_methodNamed B.named
  have hlocks := B.notSynchronized
  subst hsz
  have hD := hD0.self (sz := s.heap.size)
  generalize hAe : va_A (wM cI r th fp fa χ (opn O) (O 0) (pl O (O 0)) cu fi ne ct on) s.heap.size = A at hD ⊢
  have hA : ∀ q : Nat, s.heap.size ≤ q → A q := fun q h => by rw [← hAe]; exact Or.inr h
  obtain ⟨H, hH⟩ : ∃ H : Heap, s.heap = H := ⟨_, rfl⟩
  obtain ⟨locs, hlo⟩ : ∃ L : List Loc, ([] : List Loc) = L := ⟨_, rfl⟩
  have hS : va_S A s.heap H locs := by rw [← hH, ← hlo]; exact va_S.rf
  have hP : va_P D vwCl (wM cI r th fp fa χ (opn O) (O 0) (pl O (O 0)) cu fi ne ct on) H := hH ▸ hP
  rw [hH, hlo]
  have hiX3 : ∀ w ∈ u_ws RX3 TX3 16, w ∈ wsX3_start := by decide +kernel
  have hl := lv_entry ([.ref (r 0)]) (n := 6) (Nat.le_of_ble_eq_true rfl)
  rw [lg_entry_eq]
  generalize (lg_sl ([.ref (r 0)]) ++ List.replicate (6 - (lg_sl ([.ref (r 0)])).length) Slot.unset).toArray = ls at hl ⊢
  have hl : lv_has ls 6 [(0, .ref (r 0))] := hl
  refine lv_aload_n hx hb dX3_start_0 rfl (lv_at hl 0 rfl) ?_
  refine lv_aload_n hx hb dX3_start_1 rfl (lv_at hl 0 rfl) ?_
  refine va_get (D := D) (ci := 3) (v := .int (nI (on))) (C := RX3) (T := TX3) (N := 16) hx hb hts hiX3 hown hK hP 0 rfl rfl 6 (by decide) (hts (.fieldLink RX3 25 "PairedCellsModel" "on" "Z") (by decide +kernel)) (fun _ h9 => h9) rfl dX3_start_2 ?_
  refine xz_eq (tgt := 12) hx hb dX3_start_5 (by decide) (nI_toInt (by omega)) (fun c_5 => ?_) (fun c_5 => ?_)
  · refine lv_iconst (v := nI 0) hx hb dX3_start_12 (by decide) ?_
    refine va_put (D := D) (ci := 3) (v := .int (nI (0))) (ty := .int) (C := RX3) (T := TX3) (N := 16) hx hb hts hiX3 tyX3 tyX3_ok nmX3 hown hK hP hD hS 0 rfl rfl 0 (by decide) (hts (.fieldLink RX3 36 "PairedCellsModel" "thrown" "I") (by decide +kernel)) (fun _ h9 => h9) rfl (by decide +kernel) rfl rfl (Nat.le_of_ble_eq_true rfl) dX3_start_13 (fun H locs hP hD hS => ?_)
    have hP : va_P D vwCl (wM cI r (nI (0)) fp fa χ (opn O) (O 0) (pl O (O 0)) cu fi ne ct on) H := hP
    have hD : va_D A (wM cI r (nI (0)) fp fa χ (opn O) (O 0) (pl O (O 0)) cu fi ne ct on) := hD
    refine lv_aload_n hx hb dX3_start_16 rfl (lv_at hl 0 rfl) ?_
    refine va_get (D := D) (ci := 3) (v := .int (nI (0))) (C := RX3) (T := TX3) (N := 16) hx hb hts hiX3 hown hK hP 0 rfl rfl 0 (by decide) (hts (.fieldLink RX3 36 "PairedCellsModel" "thrown" "I") (by decide +kernel)) (fun _ h9 => h9) rfl dX3_start_17 ?_
    refine xz_eq (tgt := 25) hx hb dX3_start_20 (by decide) (nI_toInt (by omega)) (fun c_20 => ?_) (fun c_20 => ?_)
    · refine lv_aload_n hx hb dX3_start_25 rfl (lv_at hl 0 rfl) ?_
      refine lv_iconst (v := nI 1) hx hb dX3_start_26 (by decide) ?_
      refine va_put (D := D) (ci := 3) (v := .int (nI (1))) (ty := .boolean) (C := RX3) (T := TX3) (N := 16) hx hb hts hiX3 tyX3 tyX3_ok nmX3 hown hK hP hD hS 0 rfl rfl 6 (by decide) (hts (.fieldLink RX3 25 "PairedCellsModel" "on" "Z") (by decide +kernel)) (fun _ h9 => h9) rfl (by decide +kernel) rfl rfl (Nat.le_of_ble_eq_true rfl) dX3_start_27 (fun H locs hP hD hS => ?_)
      have hP : va_P D vwCl (wM cI r (nI (0)) fp fa χ (opn O) (O 0) (pl O (O 0)) cu fi ne ct 1) H := hP
      have hD : va_D A (wM cI r (nI (0)) fp fa χ (opn O) (O 0) (pl O (O 0)) cu fi ne ct 1) := hD
      refine lv_aload_n hx hb dX3_start_30 rfl (lv_at hl 0 rfl) ?_
      have hF9 := x_hF (hD) hS hA
      refine xw_Vv (ci := 3) (rest := []) (As := []) ⟨hx, hb, hml, hown, hts⟩ (c_X3_empty l D r (nI 0) fp fa χ (opn O) (O 0) (pl O (O 0)) cu fi ne ct 1 H.size) (cwV 0 hts gX3_start_X3_empty rfl rfl rfl (by decide +kernel) ⟨Nat.le_of_ble_eq_true rfl, Nat.le_of_ble_eq_true rfl⟩) hN hK (hP) (hD) hS hA rfl 0 rfl rfl hl.1 rfl (Nat.le_of_ble_eq_true rfl) dX3_start_31 ⟨Nat.le_of_ble_eq_true rfl, Nat.le_of_ble_eq_true rfl⟩ (fun u_31 H1 locs hw_31 hP1 hD1 hDA hk9 hS => ?_)
      have hP := hP1
      have hD := hDA
      generalize H1 = H at hP hS ⊢
      have hP : va_P D vwCl (wM cI r (nI (0)) fp fa χ (fun _ => 0) 0 3 cu fi ne ct 1) H := hP
      have hD : va_D A (wM cI r (nI (0)) fp fa χ (fun _ => 0) 0 3 cu fi ne ct 1) := hD
      refine lv_iconst (v := mI 0) hx hb dX3_start_34 (by decide) ?_
      refine lv_istore_n (lv' := [(1, .int (mI (0))), (0, .ref (r 0))]) hx hb dX3_start_35 rfl hl (by decide) rfl (fun ls hl => ?_)
      refine lv_iconst (v := mI 0) hx hb dX3_start_36 (by decide) ?_
      refine lv_istore_n (lv' := [(2, .int (mI (0))), (1, .int (mI (0))), (0, .ref (r 0))]) hx hb dX3_start_37 rfl hl (by decide) rfl (fun ls hl => ?_)
      refine lv_aload_n hx hb dX3_start_38 rfl (lv_at hl 2 rfl) ?_
      refine lv_iconst (v := nI 0) hx hb dX3_start_39 (by decide) ?_
      refine va_put (D := D) (ci := 3) (v := .int (nI (0))) (ty := .int) (C := RX3) (T := TX3) (N := 16) hx hb hts hiX3 tyX3 tyX3_ok nmX3 hown hK hP hD hS 0 rfl rfl 8 (by decide) (hts (.fieldLink RX3 54 "PairedCellsModel" "current" "I") (by decide +kernel)) (fun _ h9 => h9) rfl (by decide +kernel) rfl rfl (Nat.le_of_ble_eq_true rfl) dX3_start_40 (fun H locs hP hD hS => ?_)
      have hP : va_P D vwCl (wM cI r (nI (0)) fp fa χ (fun _ => 0) 0 3 0 fi ne ct 1) H := hP
      have hD : va_D A (wM cI r (nI (0)) fp fa χ (fun _ => 0) 0 3 0 fi ne ct 1) := hD
      refine lv_iconst (v := nI 0) hx hb dX3_start_43 (by decide) ?_
      refine lv_istore_n (lv' := [(3, .int (nI (0))), (2, .int (mI (0))), (1, .int (mI (0))), (0, .ref (r 0))]) hx hb dX3_start_44 rfl hl (by decide) rfl (fun ls hl => ?_)
      refine lpW (α := Nat) (fun b H locs => (b ≤ 6) ∧ va_P D vwCl (wM cI r (nI (0)) fp fa (eu χ b) (fun _ => 0) 0 3 (cuA (eu χ 6) b) fi ne ct 1) H ∧ va_D A (wM cI r (nI (0)) fp fa (eu χ b) (fun _ => 0) 0 3 (cuA (eu χ 6) b) fi ne ct 1) ∧ va_S A s.heap H locs) (fun b => [(0, .ref (r 0)), (1, .int (mI (grA (eu χ 6) b))), (2, .int (mI (lsA (eu χ 6) b))), (3, .int (nI (b)))]) 6 (fun b => 6 - b) 0 (⟨by omega, hP, hD, hS⟩) (lv_sub hl [3, 2, 1, 0] rfl) (fun s9 H locs ls hI9 hl9 ih_45 => ?_)
      obtain ⟨b, rfl⟩ : ∃ z, z = s9 := ⟨_, rfl⟩
      have hl : lv_has ls 6 [(0, .ref (r 0)), (1, .int (mI (grA (eu χ 6) b))), (2, .int (mI (lsA (eu χ 6) b))), (3, .int (nI (b)))] := hl9
      obtain ⟨hb7, hP, hD, hS⟩ : (b ≤ 6) ∧ va_P D vwCl (wM cI r (nI (0)) fp fa (eu χ b) (fun _ => 0) 0 3 (cuA (eu χ 6) b) fi ne ct 1) H ∧ va_D A (wM cI r (nI (0)) fp fa (eu χ b) (fun _ => 0) 0 3 (cuA (eu χ 6) b) fi ne ct 1) ∧ va_S A s.heap H locs := hI9
      refine lv_iload_n hx hb dX3_start_45 rfl (lv_at hl 3 rfl) ?_
      refine lv_bipush (v := nI 6) hx hb dX3_start_46 (by decide) ?_
      refine xi_ge (tgt := 171) hx hb dX3_start_48 (by decide) (nI_toInt (by omega)) (nI_toInt (by omega)) (fun c_48 => ?_) (fun c_48 => ?_)
      · have e9 : b = 6 := by omega
        rw [e9] at hl hP hD
        have hl9 := lsA_lt (wfs_eu hwf 6 (Nat.le_refl 6)) 6 (by omega)
        have hg9 := grA_lt (wfs_eu hwf 6 (Nat.le_refl 6)) 6 (by omega)
        have hP : va_P D vwCl (wM cI r (nI (0)) fp fa (eu χ 6) (fun _ => 0) 0 3 (cuA (eu χ 6) 6) fi ne ct 1) H := hP
        have hD : va_D A (wM cI r (nI (0)) fp fa (eu χ 6) (fun _ => 0) 0 3 (cuA (eu χ 6) 6) fi ne ct 1) := hD
        refine lv_aload_n hx hb dX3_start_171 rfl (lv_at hl 0 rfl) ?_
        refine lv_iload_n hx hb dX3_start_172 rfl (lv_at hl 2 rfl) ?_
        refine xz_ge (tgt := 180) hx hb dX3_start_173 (by decide) (mI_toInt (by omega)) (fun c_173 => ?_) (fun c_173 => ?_)
        · refine lv_iload_n hx hb dX3_start_180 rfl (lv_at hl 2 rfl) ?_
          refine xr_same (mI_nI (show 0 < lsA (eu χ 6) 6 by omega)) ?_
          refine va_put (D := D) (ci := 3) (v := .int (nI (lsA (eu χ 6) 6 - 1))) (ty := .int) (C := RX3) (T := TX3) (N := 16) hx hb hts hiX3 tyX3 tyX3_ok nmX3 hown hK hP hD hS 0 rfl rfl 9 (by decide) (hts (.fieldLink RX3 107 "PairedCellsModel" "least" "I") (by decide +kernel)) (fun _ h9 => h9) rfl (by decide +kernel) rfl rfl (Nat.le_of_ble_eq_true rfl) dX3_start_181 (fun H locs hP hD hS => ?_)
          have hP : va_P D vwCl (wM cI r (nI (0)) fp fa (eu χ 6) (fun _ => 0) 0 3 (cuA (eu χ 6) 6) (lsA (eu χ 6) 6 - 1) ne ct 1) H := hP
          have hD : va_D A (wM cI r (nI (0)) fp fa (eu χ 6) (fun _ => 0) 0 3 (cuA (eu χ 6) 6) (lsA (eu χ 6) 6 - 1) ne ct 1) := hD
          refine lv_aload_n hx hb dX3_start_184 rfl (lv_at hl 0 rfl) ?_
          refine lv_iload_n hx hb dX3_start_185 rfl (lv_at hl 1 rfl) ?_
          refine lv_iconst (v := nI 1) hx hb dX3_start_186 (by decide) ?_
          refine xr_addm hx hb dX3_start_187 ?_
          refine va_put (D := D) (ci := 3) (v := .int (nI (grA (eu χ 6) 6))) (ty := .int) (C := RX3) (T := TX3) (N := 16) hx hb hts hiX3 tyX3 tyX3_ok nmX3 hown hK hP hD hS 0 rfl rfl 10 (by decide) (hts (.fieldLink RX3 73 "PairedCellsModel" "next" "I") (by decide +kernel)) (fun _ h9 => h9) rfl (by decide +kernel) rfl rfl (Nat.le_of_ble_eq_true rfl) dX3_start_188 (fun H locs hP hD hS => ?_)
          have hP : va_P D vwCl (wM cI r (nI (0)) fp fa (eu χ 6) (fun _ => 0) 0 3 (cuA (eu χ 6) 6) (lsA (eu χ 6) 6 - 1) (grA (eu χ 6) 6) ct 1) H := hP
          have hD : va_D A (wM cI r (nI (0)) fp fa (eu χ 6) (fun _ => 0) 0 3 (cuA (eu χ 6) 6) (lsA (eu χ 6) 6 - 1) (grA (eu χ 6) 6) ct 1) := hD
          refine lv_aload_n hx hb dX3_start_191 rfl (lv_at hl 0 rfl) ?_
          refine va_get (D := D) (ci := 3) (v := .int (nI (grA (eu χ 6) 6))) (C := RX3) (T := TX3) (N := 16) hx hb hts hiX3 hown hK hP 0 rfl rfl 10 (by decide) (hts (.fieldLink RX3 73 "PairedCellsModel" "next" "I") (by decide +kernel)) (fun _ h9 => h9) rfl dX3_start_192 ?_
          have hq9 : (wM cI r (nI (0)) fp fa (eu χ 6) (fun _ => 0) 0 3 (cuA (eu χ 6) 6) (lsA (eu χ 6) 6 - 1) (grA (eu χ 6) 6) ct 1 : va_W) = wM cI r (nI 0) fp fa (eu χ 6) (opn (fun _ => 0)) 0 3 (cuA (eu χ 6) 6) (lsA (eu χ 6) 6 - 1) (grA (eu χ 6) 6) ct 1 := (by rw [opn0]; try (rw [show lsA (eu χ 6) 6 - 1 = 0 by omega]))
          exact xf_i (post := fun (x : Int32) (u : Unit) => x = nI (grA (eu χ 6) 6)) (w1 := fun (u : Unit) => wM cI r (nI 0) fp fa (eu χ 6) (opn (fun _ => 0)) 0 3 (cuA (eu χ 6) 6) (lsA (eu χ 6) 6 - 1) (grA (eu χ 6) 6) ct 1) () hx hb hr hlocks (rfl) (va_P.eqw hq9 hP) hK (va_D.eqw hq9 hD) hS dX3_start_195
        · refine lv_iconst (v := nI 0) hx hb dX3_start_176 (by decide) ?_
          refine lv_goto (tgt := 181) hx hb dX3_start_177 (by decide) ?_
          refine va_put (D := D) (ci := 3) (v := .int (nI (0))) (ty := .int) (C := RX3) (T := TX3) (N := 16) hx hb hts hiX3 tyX3 tyX3_ok nmX3 hown hK hP hD hS 0 rfl rfl 9 (by decide) (hts (.fieldLink RX3 107 "PairedCellsModel" "least" "I") (by decide +kernel)) (fun _ h9 => h9) rfl (by decide +kernel) rfl rfl (Nat.le_of_ble_eq_true rfl) dX3_start_181 (fun H locs hP hD hS => ?_)
          have hP : va_P D vwCl (wM cI r (nI (0)) fp fa (eu χ 6) (fun _ => 0) 0 3 (cuA (eu χ 6) 6) 0 ne ct 1) H := hP
          have hD : va_D A (wM cI r (nI (0)) fp fa (eu χ 6) (fun _ => 0) 0 3 (cuA (eu χ 6) 6) 0 ne ct 1) := hD
          refine lv_aload_n hx hb dX3_start_184 rfl (lv_at hl 0 rfl) ?_
          refine lv_iload_n hx hb dX3_start_185 rfl (lv_at hl 1 rfl) ?_
          refine lv_iconst (v := nI 1) hx hb dX3_start_186 (by decide) ?_
          refine xr_addm hx hb dX3_start_187 ?_
          refine va_put (D := D) (ci := 3) (v := .int (nI (grA (eu χ 6) 6))) (ty := .int) (C := RX3) (T := TX3) (N := 16) hx hb hts hiX3 tyX3 tyX3_ok nmX3 hown hK hP hD hS 0 rfl rfl 10 (by decide) (hts (.fieldLink RX3 73 "PairedCellsModel" "next" "I") (by decide +kernel)) (fun _ h9 => h9) rfl (by decide +kernel) rfl rfl (Nat.le_of_ble_eq_true rfl) dX3_start_188 (fun H locs hP hD hS => ?_)
          have hP : va_P D vwCl (wM cI r (nI (0)) fp fa (eu χ 6) (fun _ => 0) 0 3 (cuA (eu χ 6) 6) 0 (grA (eu χ 6) 6) ct 1) H := hP
          have hD : va_D A (wM cI r (nI (0)) fp fa (eu χ 6) (fun _ => 0) 0 3 (cuA (eu χ 6) 6) 0 (grA (eu χ 6) 6) ct 1) := hD
          refine lv_aload_n hx hb dX3_start_191 rfl (lv_at hl 0 rfl) ?_
          refine va_get (D := D) (ci := 3) (v := .int (nI (grA (eu χ 6) 6))) (C := RX3) (T := TX3) (N := 16) hx hb hts hiX3 hown hK hP 0 rfl rfl 10 (by decide) (hts (.fieldLink RX3 73 "PairedCellsModel" "next" "I") (by decide +kernel)) (fun _ h9 => h9) rfl dX3_start_192 ?_
          have hq9 : (wM cI r (nI (0)) fp fa (eu χ 6) (fun _ => 0) 0 3 (cuA (eu χ 6) 6) 0 (grA (eu χ 6) 6) ct 1 : va_W) = wM cI r (nI 0) fp fa (eu χ 6) (opn (fun _ => 0)) 0 3 (cuA (eu χ 6) 6) (lsA (eu χ 6) 6 - 1) (grA (eu χ 6) 6) ct 1 := (by rw [opn0]; try (rw [show lsA (eu χ 6) 6 - 1 = 0 by omega]))
          exact xf_i (post := fun (x : Int32) (u : Unit) => x = nI (grA (eu χ 6) 6)) (w1 := fun (u : Unit) => wM cI r (nI 0) fp fa (eu χ 6) (opn (fun _ => 0)) 0 3 (cuA (eu χ 6) 6) (lsA (eu χ 6) 6 - 1) (grA (eu χ 6) 6) ct 1) () hx hb hr hlocks (rfl) (va_P.eqw hq9 hP) hK (va_D.eqw hq9 hD) hS dX3_start_195
      · refine lv_aload_n hx hb dX3_start_51 rfl (lv_at hl 0 rfl) ?_
        refine lv_iload_n hx hb dX3_start_52 rfl (lv_at hl 3 rfl) ?_
        refine xc_Vi (ci := 3) (rest := []) (As := [.int (nI (b))]) ⟨hx, hb, hml, hown, hts⟩ (c_X3_greatestIn l D r (nI 0) fp fa (eu χ b) (fun _ => 0) 0 3 (cuA (eu χ 6) b) fi ne ct 1 b (by omega) (fun i => by have h7 := (eu_le (χ := χ) b (by omega) i).1; have h8 := hχ i; omega) (wfs_eu hwf b (by omega))) (cwV 1 hts gX3_start_X3_greatestIn rfl rfl rfl (by decide +kernel) ⟨Nat.le_of_ble_eq_true rfl, Nat.le_of_ble_eq_true rfl⟩) hN hK (hP) rfl 0 rfl rfl hl.1 rfl (Nat.le_of_ble_eq_true rfl) dX3_start_53 ⟨Nat.le_of_ble_eq_true rfl, Nat.le_of_ble_eq_true rfl⟩ (fun r_53 hw_53 => ?_)
        subst hw_53
        have hg8 := grt_lt (wfs_eu hwf b (by omega)) (show b < 6 by omega) 16 (Nat.le_refl _)
        have hge := eu_grt (χ := χ) (show b < 6 by omega)
        have hl9 := lsA_lt (wfs_eu hwf 6 (Nat.le_refl 6)) b (by omega)
        have hg9 := grA_lt (wfs_eu hwf 6 (Nat.le_refl 6)) b (by omega)
        have hl8 := lst_lt (wfs_eu hwf 6 (Nat.le_refl 6)) (show b < 6 by omega) 16 (Nat.le_refl _)
        refine lv_istore (lv' := [(4, .int (mI (grt (eu χ b) b 16))), (0, .ref (r 0)), (1, .int (mI (grA (eu χ 6) b))), (2, .int (mI (lsA (eu χ 6) b))), (3, .int (nI (b)))]) hx hb dX3_start_56 hl (by decide) rfl (fun ls hl => ?_)
        refine lv_iload hx hb dX3_start_58 (lv_at hl 0 rfl) ?_
        refine xz_ge (tgt := 76) hx hb dX3_start_60 (by decide) (mI_toInt (by omega)) (fun c_60 => ?_) (fun c_60 => ?_)
        · have hee : eu χ (b + 1) = (eu χ b) := eu_out (fun h7 => by first | exact h7.1 h_68 | (have h8 := h7.2; omega))
          rw [← hee] at hP hD
          have hP : va_P D vwCl (wM cI r (nI (0)) fp fa (eu χ (b + 1)) (fun _ => 0) 0 3 (cuA (eu χ 6) b) fi ne ct 1) H := hP
          have hD : va_D A (wM cI r (nI (0)) fp fa (eu χ (b + 1)) (fun _ => 0) 0 3 (cuA (eu χ 6) b) fi ne ct 1) := hD
          refine lv_aload_n hx hb dX3_start_76 rfl (lv_at hl 1 rfl) ?_
          refine lv_iload hx hb dX3_start_77 (lv_at hl 0 rfl) ?_
          refine lv_iload_n hx hb dX3_start_79 rfl (lv_at hl 2 rfl) ?_
          refine xi_le (tgt := 87) hx hb dX3_start_80 (by decide) (mI_toInt (by omega)) (mI_toInt (by omega)) (fun c_80 => ?_) (fun c_80 => ?_)
          · refine lv_aload_n hx hb dX3_start_87 rfl (lv_at hl 1 rfl) ?_
            refine va_get (D := D) (ci := 3) (v := .int (nI ((cuA (eu χ 6) b)))) (C := RX3) (T := TX3) (N := 16) hx hb hts hiX3 hown hK hP 0 rfl rfl 8 (by decide) (hts (.fieldLink RX3 54 "PairedCellsModel" "current" "I") (by decide +kernel)) (fun _ h9 => h9) rfl dX3_start_88 ?_
            refine va_put (D := D) (ci := 3) (v := .int (nI ((cuA (eu χ 6) b)))) (ty := .int) (C := RX3) (T := TX3) (N := 16) hx hb hts hiX3 tyX3 tyX3_ok nmX3 hown hK hP hD hS 0 rfl rfl 8 (by decide) (hts (.fieldLink RX3 54 "PairedCellsModel" "current" "I") (by decide +kernel)) (fun _ h9 => h9) rfl (by decide +kernel) rfl rfl (Nat.le_of_ble_eq_true rfl) dX3_start_91 (fun H locs hP hD hS => ?_)
            have hP : va_P D vwCl (wM cI r (nI (0)) fp fa (eu χ (b + 1)) (fun _ => 0) 0 3 (cuA (eu χ 6) b) fi ne ct 1) H := hP
            have hD : va_D A (wM cI r (nI (0)) fp fa (eu χ (b + 1)) (fun _ => 0) 0 3 (cuA (eu χ 6) b) fi ne ct 1) := hD
            refine lv_iload hx hb dX3_start_94 (lv_at hl 0 rfl) ?_
            refine lv_iload_n hx hb dX3_start_96 rfl (lv_at hl 2 rfl) ?_
            refine xi_le (tgt := 105) hx hb dX3_start_97 (by decide) (mI_toInt (by omega)) (mI_toInt (by omega)) (fun c_97 => ?_) (fun c_97 => ?_)
            · refine lv_iload_n hx hb dX3_start_105 rfl (lv_at hl 2 rfl) ?_
              refine lv_istore_n (lv' := [(1, .int (mI (grA (eu χ 6) b))), (4, .int (mI (grt (eu χ b) b 16))), (0, .ref (r 0)), (2, .int (mI (lsA (eu χ 6) b))), (3, .int (nI (b)))]) hx hb dX3_start_106 rfl hl (by decide) rfl (fun ls hl => ?_)
              have e8 : (cuA (eu χ 6) b) = cuA (eu χ 6) (b + 1) := (cif_f (by omega)).symm
              have e9 : grA (eu χ 6) b = grA (eu χ 6) (b + 1) := by show _ = max (grA (eu χ 6) b) (grt (eu χ 6) b 16); omega
              have hq9 : (wM cI r (nI (0)) fp fa (eu χ (b + 1)) (fun _ => 0) 0 3 (cuA (eu χ 6) b) fi ne ct 1 : va_W) = wM cI r (nI (0)) fp fa (eu χ (b + 1)) (fun _ => 0) 0 3 (cuA (eu χ 6) (b + 1)) fi ne ct 1 := by rw [e8]
              have hP := va_P.eqw hq9 hP
              have hD := va_D.eqw hq9 hD
              have hP : va_P D vwCl (wM cI r (nI (0)) fp fa (eu χ (b + 1)) (fun _ => 0) 0 3 (cuA (eu χ 6) (b + 1)) fi ne ct 1) H := hP
              have hD : va_D A (wM cI r (nI (0)) fp fa (eu χ (b + 1)) (fun _ => 0) 0 3 (cuA (eu χ 6) (b + 1)) fi ne ct 1) := hD
              rw [e9] at hl
              refine lv_bipush (v := nI 16) hx hb dX3_start_107 (by decide) ?_
              refine lv_iload_n hx hb dX3_start_109 rfl (lv_at hl 4 rfl) ?_
              refine xr_mul hx hb dX3_start_110 ?_
              refine lv_istore (lv' := [(5, .int (nI (16 * b))), (1, .int (mI (grA (eu χ 6) (b + 1)))), (4, .int (mI (grt (eu χ b) b 16))), (0, .ref (r 0)), (2, .int (mI (lsA (eu χ 6) b))), (3, .int (nI (b)))]) hx hb dX3_start_111 hl (by decide) rfl (fun ls hl => ?_)
              refine lpW (α := Nat) (fun j H locs => (j ≤ 16) ∧ va_P D vwCl (wM cI r (nI (0)) fp fa (eu χ (b + 1)) (fun _ => 0) 0 3 (cuA (eu χ 6) (b + 1)) fi ne ct 1) H ∧ va_D A (wM cI r (nI (0)) fp fa (eu χ (b + 1)) (fun _ => 0) 0 3 (cuA (eu χ 6) (b + 1)) fi ne ct 1) ∧ va_S A s.heap H locs) (fun j => [(0, .ref (r 0)), (1, .int (mI (grA (eu χ 6) (b + 1)))), (2, .int (mI (mn (lsA (eu χ 6) b) (lst (eu χ (b + 1)) b j)))), (3, .int (nI (b))), (5, .int (nI (16 * b + j)))]) 6 (fun j => 16 - j) 0 (⟨by omega, hP, hD, hS⟩) (lv_sub hl [3, 1, 4, 5, 0] rfl) (fun s9 H locs ls hI9 hl9 ih_113 => ?_)
              obtain ⟨j, rfl⟩ : ∃ z, z = s9 := ⟨_, rfl⟩
              have hl : lv_has ls 6 [(0, .ref (r 0)), (1, .int (mI (grA (eu χ 6) (b + 1)))), (2, .int (mI (mn (lsA (eu χ 6) b) (lst (eu χ (b + 1)) b j)))), (3, .int (nI (b))), (5, .int (nI (16 * b + j)))] := hl9
              obtain ⟨hj, hP, hD, hS⟩ : (j ≤ 16) ∧ va_P D vwCl (wM cI r (nI (0)) fp fa (eu χ (b + 1)) (fun _ => 0) 0 3 (cuA (eu χ 6) (b + 1)) fi ne ct 1) H ∧ va_D A (wM cI r (nI (0)) fp fa (eu χ (b + 1)) (fun _ => 0) 0 3 (cuA (eu χ 6) (b + 1)) fi ne ct 1) ∧ va_S A s.heap H locs := hI9
              have hk9 := lst_lt (wfs_eu hwf (b + 1) (by omega)) (show b < 6 by omega) j (by omega)
              have hm9 : mn (lsA (eu χ 6) b) (lst (eu χ (b + 1)) b j) < 65600 := by unfold mn; (repeat' split) <;> omega
              refine lv_iload hx hb dX3_start_113 (lv_at hl 4 rfl) ?_
              refine lv_bipush (v := nI 16) hx hb dX3_start_115 (by decide) ?_
              refine lv_iload_n hx hb dX3_start_117 rfl (lv_at hl 3 rfl) ?_
              refine xr_mul hx hb dX3_start_118 ?_
              refine lv_bipush (v := nI 16) hx hb dX3_start_119 (by decide) ?_
              refine xr_add hx hb dX3_start_121 ?_
              refine xi_ge (tgt := 165) hx hb dX3_start_122 (by decide) (nI_toInt (by omega)) (nI_toInt (by omega)) (fun c_122 => ?_) (fun c_122 => ?_)
              · refine lv_iinc (v := nI (b + 1)) (lv' := [(3, .int (nI (b + 1))), (0, .ref (r 0)), (1, .int (mI (grA (eu χ 6) (b + 1)))), (2, .int (mI (mn (lsA (eu χ 6) b) (lst (eu χ (b + 1)) b j)))), (5, .int (nI (16 * b + j)))]) hx hb dX3_start_165 hl (k := 3) rfl (nI_add _ _) (by decide) rfl (fun ls hl => ?_)
                refine lv_goto (tgt := 45) hx hb dX3_start_168 (by decide) ?_
                have e9 : mn (lsA (eu χ 6) b) (lst (eu χ (b + 1)) b j) = lsA (eu χ 6) (b + 1) := by rw [show j = 16 by omega, eu_lst (show b < 6 by omega)]; rfl
                rw [e9] at hl
                exact ih_45 (b + 1) _ _ _ (⟨by omega, hP, hD, hS⟩) (by first | omega | (dsimp only; omega)) (lv_sub hl [1, 2, 3, 0] rfl)
              · refine lv_aload_n hx hb dX3_start_125 rfl (lv_at hl 0 rfl) ?_
                refine lv_iload hx hb dX3_start_126 (lv_at hl 4 rfl) ?_
                refine xc_Vi (ci := 3) (rest := []) (As := [.int (nI (16 * b + j))]) ⟨hx, hb, hml, hown, hts⟩ (c_X3_isReadable l D r (nI 0) fp fa (eu χ (b + 1)) (fun _ => 0) 0 3 (cuA (eu χ 6) (b + 1)) fi ne ct 1 b (by omega) j (by omega) (fun i => by have h7 := (eu_le (χ := χ) (b + 1) (by omega) i).1; have h8 := hχ i; omega)) (cwV 1 hts gX3_start_X3_isReadable rfl rfl rfl (by decide +kernel) ⟨Nat.le_of_ble_eq_true rfl, Nat.le_of_ble_eq_true rfl⟩) hN hK (hP) rfl 0 rfl rfl hl.1 rfl (Nat.le_of_ble_eq_true rfl) dX3_start_128 ⟨Nat.le_of_ble_eq_true rfl, Nat.le_of_ble_eq_true rfl⟩ (fun r_128 hw_128 => ?_)
                refine xz_eq (tgt := 159) hx hb dX3_start_131 (by decide) rfl (fun c_131 => ?_) (fun c_131 => ?_)
                · have h_131 := bo.f hw_128 c_131
                  refine lv_iinc (v := nI (16 * b + j + 1)) (lv' := [(5, .int (nI (16 * b + j + 1))), (0, .ref (r 0)), (1, .int (mI (grA (eu χ 6) (b + 1)))), (2, .int (mI (mn (lsA (eu χ 6) b) (lst (eu χ (b + 1)) b j)))), (3, .int (nI (b)))]) hx hb dX3_start_159 hl (k := 4) rfl (nI_add _ _) (by decide) rfl (fun ls hl => ?_)
                  refine lv_goto (tgt := 113) hx hb dX3_start_162 (by decide) ?_
                  have e9 : mn (lsA (eu χ 6) b) (lst (eu χ (b + 1)) b j) = mn (lsA (eu χ 6) b) (lst (eu χ (b + 1)) b (j + 1)) := by first | rw [lst_out h_131] | (rw [lst_in h_131, ← mn_assoc]; generalize mn (lsA (eu χ 6) b) (lst (eu χ (b + 1)) b j) = z9 at *; unfold mn; (repeat' split) <;> omega)
                  rw [e9] at hl
                  exact ih_113 (j + 1) _ _ _ (⟨by omega, hP, hD, hS⟩) (by first | omega | (dsimp only; omega)) (lv_sub hl [1, 2, 3, 4, 0] rfl)
                · have h_131 := bo.t hw_128 c_131
                  refine lv_iload_n hx hb dX3_start_134 rfl (lv_at hl 2 rfl) ?_
                  refine xz_lt (tgt := 148) hx hb dX3_start_135 (by decide) (mI_toInt (by omega)) (fun c_135 => ?_) (fun c_135 => ?_)
                  · refine lv_aload_n hx hb dX3_start_148 rfl (lv_at hl 0 rfl) ?_
                    refine lv_iload hx hb dX3_start_149 (lv_at hl 4 rfl) ?_
                    refine xc_Vi (ci := 3) (rest := []) (As := [.int (nI (16 * b + j))]) ⟨hx, hb, hml, hown, hts⟩ (c_X3_firstOf l D r (nI 0) fp fa (eu χ (b + 1)) (fun _ => 0) 0 3 (cuA (eu χ 6) (b + 1)) fi ne ct 1 b (by omega) j (by omega) (fun i => by have h7 := (eu_le (χ := χ) (b + 1) (by omega) i).1; have h8 := hχ i; omega) (wfs_eu hwf (b + 1) (by omega)) h_131) (cwV 1 hts gX3_start_X3_firstOf rfl rfl rfl (by decide +kernel) ⟨Nat.le_of_ble_eq_true rfl, Nat.le_of_ble_eq_true rfl⟩) hN hK (hP) rfl 0 rfl rfl hl.1 rfl (Nat.le_of_ble_eq_true rfl) dX3_start_151 ⟨Nat.le_of_ble_eq_true rfl, Nat.le_of_ble_eq_true rfl⟩ (fun r_151 hw_151 => ?_)
                    subst hw_151
                    obtain ⟨hw0, hw1, hw2, -⟩ := wfs_eu hwf (b + 1) (by omega) b j (by omega) (by omega) h_131
                    refine lv_goto (tgt := 158) hx hb dX3_start_154 (by decide) ?_
                    refine xr_same (nI_mI (256 * byt (eu χ (b + 1)) b j 1 + byt (eu χ (b + 1)) b j 2)) ?_
                    refine lv_istore_n (lv' := [(2, .int (mI (256 * byt (eu χ (b + 1)) b j 1 + byt (eu χ (b + 1)) b j 2 + 1))), (0, .ref (r 0)), (1, .int (mI (grA (eu χ 6) (b + 1)))), (3, .int (nI (b))), (5, .int (nI (16 * b + j)))]) hx hb dX3_start_158 rfl hl (by decide) rfl (fun ls hl => ?_)
                    refine lv_iinc (v := nI (16 * b + j + 1)) (lv' := [(5, .int (nI (16 * b + j + 1))), (2, .int (mI (256 * byt (eu χ (b + 1)) b j 1 + byt (eu χ (b + 1)) b j 2 + 1))), (0, .ref (r 0)), (1, .int (mI (grA (eu χ 6) (b + 1)))), (3, .int (nI (b)))]) hx hb dX3_start_159 hl (k := 4) rfl (nI_add _ _) (by decide) rfl (fun ls hl => ?_)
                    refine lv_goto (tgt := 113) hx hb dX3_start_162 (by decide) ?_
                    have e9 : 256 * byt (eu χ (b + 1)) b j 1 + byt (eu χ (b + 1)) b j 2 + 1 = mn (lsA (eu χ 6) b) (lst (eu χ (b + 1)) b (j + 1)) := by first | rw [lst_out h_131] | (rw [lst_in h_131, ← mn_assoc]; generalize mn (lsA (eu χ 6) b) (lst (eu χ (b + 1)) b j) = z9 at *; unfold mn; (repeat' split) <;> omega)
                    rw [e9] at hl
                    exact ih_113 (j + 1) _ _ _ (⟨by omega, hP, hD, hS⟩) (by first | omega | (dsimp only; omega)) (lv_sub hl [2, 3, 1, 4, 0] rfl)
                  · refine lv_aload_n hx hb dX3_start_138 rfl (lv_at hl 0 rfl) ?_
                    refine lv_iload hx hb dX3_start_139 (lv_at hl 4 rfl) ?_
                    refine xc_Vi (ci := 3) (rest := []) (As := [.int (nI (16 * b + j))]) ⟨hx, hb, hml, hown, hts⟩ (c_X3_firstOf l D r (nI 0) fp fa (eu χ (b + 1)) (fun _ => 0) 0 3 (cuA (eu χ 6) (b + 1)) fi ne ct 1 b (by omega) j (by omega) (fun i => by have h7 := (eu_le (χ := χ) (b + 1) (by omega) i).1; have h8 := hχ i; omega) (wfs_eu hwf (b + 1) (by omega)) h_131) (cwV 1 hts gX3_start_X3_firstOf rfl rfl rfl (by decide +kernel) ⟨Nat.le_of_ble_eq_true rfl, Nat.le_of_ble_eq_true rfl⟩) hN hK (hP) rfl 0 rfl rfl hl.1 rfl (Nat.le_of_ble_eq_true rfl) dX3_start_141 ⟨Nat.le_of_ble_eq_true rfl, Nat.le_of_ble_eq_true rfl⟩ (fun r_141 hw_141 => ?_)
                    subst hw_141
                    obtain ⟨hw0, hw1, hw2, -⟩ := wfs_eu hwf (b + 1) (by omega) b j (by omega) (by omega) h_131
                    refine lv_iload_n hx hb dX3_start_144 rfl (lv_at hl 2 rfl) ?_
                    refine xi_ge (tgt := 157) hx hb dX3_start_145 (by decide) (nI_toInt (by omega)) (mI_toInt (by omega)) (fun c_145 => ?_) (fun c_145 => ?_)
                    · refine lv_iload_n hx hb dX3_start_157 rfl (lv_at hl 2 rfl) ?_
                      refine lv_istore_n (lv' := [(2, .int (mI (mn (lsA (eu χ 6) b) (lst (eu χ (b + 1)) b j)))), (0, .ref (r 0)), (1, .int (mI (grA (eu χ 6) (b + 1)))), (3, .int (nI (b))), (5, .int (nI (16 * b + j)))]) hx hb dX3_start_158 rfl hl (by decide) rfl (fun ls hl => ?_)
                      refine lv_iinc (v := nI (16 * b + j + 1)) (lv' := [(5, .int (nI (16 * b + j + 1))), (2, .int (mI (mn (lsA (eu χ 6) b) (lst (eu χ (b + 1)) b j)))), (0, .ref (r 0)), (1, .int (mI (grA (eu χ 6) (b + 1)))), (3, .int (nI (b)))]) hx hb dX3_start_159 hl (k := 4) rfl (nI_add _ _) (by decide) rfl (fun ls hl => ?_)
                      refine lv_goto (tgt := 113) hx hb dX3_start_162 (by decide) ?_
                      have e9 : mn (lsA (eu χ 6) b) (lst (eu χ (b + 1)) b j) = mn (lsA (eu χ 6) b) (lst (eu χ (b + 1)) b (j + 1)) := by first | rw [lst_out h_131] | (rw [lst_in h_131, ← mn_assoc]; generalize mn (lsA (eu χ 6) b) (lst (eu χ (b + 1)) b j) = z9 at *; unfold mn; (repeat' split) <;> omega)
                      rw [e9] at hl
                      exact ih_113 (j + 1) _ _ _ (⟨by omega, hP, hD, hS⟩) (by first | omega | (dsimp only; omega)) (lv_sub hl [2, 3, 1, 4, 0] rfl)
                    · refine lv_aload_n hx hb dX3_start_148 rfl (lv_at hl 0 rfl) ?_
                      refine lv_iload hx hb dX3_start_149 (lv_at hl 4 rfl) ?_
                      refine xc_Vi (ci := 3) (rest := []) (As := [.int (nI (16 * b + j))]) ⟨hx, hb, hml, hown, hts⟩ (c_X3_firstOf l D r (nI 0) fp fa (eu χ (b + 1)) (fun _ => 0) 0 3 (cuA (eu χ 6) (b + 1)) fi ne ct 1 b (by omega) j (by omega) (fun i => by have h7 := (eu_le (χ := χ) (b + 1) (by omega) i).1; have h8 := hχ i; omega) (wfs_eu hwf (b + 1) (by omega)) h_131) (cwV 1 hts gX3_start_X3_firstOf rfl rfl rfl (by decide +kernel) ⟨Nat.le_of_ble_eq_true rfl, Nat.le_of_ble_eq_true rfl⟩) hN hK (hP) rfl 0 rfl rfl hl.1 rfl (Nat.le_of_ble_eq_true rfl) dX3_start_151 ⟨Nat.le_of_ble_eq_true rfl, Nat.le_of_ble_eq_true rfl⟩ (fun r_151 hw_151 => ?_)
                      subst hw_151
                      obtain ⟨hw0, hw1, hw2, -⟩ := wfs_eu hwf (b + 1) (by omega) b j (by omega) (by omega) h_131
                      refine lv_goto (tgt := 158) hx hb dX3_start_154 (by decide) ?_
                      refine xr_same (nI_mI (256 * byt (eu χ (b + 1)) b j 1 + byt (eu χ (b + 1)) b j 2)) ?_
                      refine lv_istore_n (lv' := [(2, .int (mI (256 * byt (eu χ (b + 1)) b j 1 + byt (eu χ (b + 1)) b j 2 + 1))), (0, .ref (r 0)), (1, .int (mI (grA (eu χ 6) (b + 1)))), (3, .int (nI (b))), (5, .int (nI (16 * b + j)))]) hx hb dX3_start_158 rfl hl (by decide) rfl (fun ls hl => ?_)
                      refine lv_iinc (v := nI (16 * b + j + 1)) (lv' := [(5, .int (nI (16 * b + j + 1))), (2, .int (mI (256 * byt (eu χ (b + 1)) b j 1 + byt (eu χ (b + 1)) b j 2 + 1))), (0, .ref (r 0)), (1, .int (mI (grA (eu χ 6) (b + 1)))), (3, .int (nI (b)))]) hx hb dX3_start_159 hl (k := 4) rfl (nI_add _ _) (by decide) rfl (fun ls hl => ?_)
                      refine lv_goto (tgt := 113) hx hb dX3_start_162 (by decide) ?_
                      have e9 : 256 * byt (eu χ (b + 1)) b j 1 + byt (eu χ (b + 1)) b j 2 + 1 = mn (lsA (eu χ 6) b) (lst (eu χ (b + 1)) b (j + 1)) := by first | rw [lst_out h_131] | (rw [lst_in h_131, ← mn_assoc]; generalize mn (lsA (eu χ 6) b) (lst (eu χ (b + 1)) b j) = z9 at *; unfold mn; (repeat' split) <;> omega)
                      rw [e9] at hl
                      exact ih_113 (j + 1) _ _ _ (⟨by omega, hP, hD, hS⟩) (by first | omega | (dsimp only; omega)) (lv_sub hl [2, 3, 1, 4, 0] rfl)
            · refine lv_iload hx hb dX3_start_100 (lv_at hl 0 rfl) ?_
              refine lv_goto (tgt := 106) hx hb dX3_start_102 (by decide) ?_
              refine lv_istore_n (lv' := [(1, .int (mI (grt (eu χ b) b 16))), (4, .int (mI (grt (eu χ b) b 16))), (0, .ref (r 0)), (2, .int (mI (lsA (eu χ 6) b))), (3, .int (nI (b)))]) hx hb dX3_start_106 rfl hl (by decide) rfl (fun ls hl => ?_)
              have e8 : (cuA (eu χ 6) b) = cuA (eu χ 6) (b + 1) := (cif_f (by omega)).symm
              have e9 : grt (eu χ b) b 16 = grA (eu χ 6) (b + 1) := by show _ = max (grA (eu χ 6) b) (grt (eu χ 6) b 16); omega
              have hq9 : (wM cI r (nI (0)) fp fa (eu χ (b + 1)) (fun _ => 0) 0 3 (cuA (eu χ 6) b) fi ne ct 1 : va_W) = wM cI r (nI (0)) fp fa (eu χ (b + 1)) (fun _ => 0) 0 3 (cuA (eu χ 6) (b + 1)) fi ne ct 1 := by rw [e8]
              have hP := va_P.eqw hq9 hP
              have hD := va_D.eqw hq9 hD
              have hP : va_P D vwCl (wM cI r (nI (0)) fp fa (eu χ (b + 1)) (fun _ => 0) 0 3 (cuA (eu χ 6) (b + 1)) fi ne ct 1) H := hP
              have hD : va_D A (wM cI r (nI (0)) fp fa (eu χ (b + 1)) (fun _ => 0) 0 3 (cuA (eu χ 6) (b + 1)) fi ne ct 1) := hD
              rw [e9] at hl
              refine lv_bipush (v := nI 16) hx hb dX3_start_107 (by decide) ?_
              refine lv_iload_n hx hb dX3_start_109 rfl (lv_at hl 4 rfl) ?_
              refine xr_mul hx hb dX3_start_110 ?_
              refine lv_istore (lv' := [(5, .int (nI (16 * b))), (1, .int (mI (grA (eu χ 6) (b + 1)))), (4, .int (mI (grA (eu χ 6) (b + 1)))), (0, .ref (r 0)), (2, .int (mI (lsA (eu χ 6) b))), (3, .int (nI (b)))]) hx hb dX3_start_111 hl (by decide) rfl (fun ls hl => ?_)
              refine lpW (α := Nat) (fun j H locs => (j ≤ 16) ∧ va_P D vwCl (wM cI r (nI (0)) fp fa (eu χ (b + 1)) (fun _ => 0) 0 3 (cuA (eu χ 6) (b + 1)) fi ne ct 1) H ∧ va_D A (wM cI r (nI (0)) fp fa (eu χ (b + 1)) (fun _ => 0) 0 3 (cuA (eu χ 6) (b + 1)) fi ne ct 1) ∧ va_S A s.heap H locs) (fun j => [(0, .ref (r 0)), (1, .int (mI (grA (eu χ 6) (b + 1)))), (2, .int (mI (mn (lsA (eu χ 6) b) (lst (eu χ (b + 1)) b j)))), (3, .int (nI (b))), (5, .int (nI (16 * b + j)))]) 6 (fun j => 16 - j) 0 (⟨by omega, hP, hD, hS⟩) (lv_sub hl [3, 1, 4, 5, 0] rfl) (fun s9 H locs ls hI9 hl9 ih_113 => ?_)
              obtain ⟨j, rfl⟩ : ∃ z, z = s9 := ⟨_, rfl⟩
              have hl : lv_has ls 6 [(0, .ref (r 0)), (1, .int (mI (grA (eu χ 6) (b + 1)))), (2, .int (mI (mn (lsA (eu χ 6) b) (lst (eu χ (b + 1)) b j)))), (3, .int (nI (b))), (5, .int (nI (16 * b + j)))] := hl9
              obtain ⟨hj, hP, hD, hS⟩ : (j ≤ 16) ∧ va_P D vwCl (wM cI r (nI (0)) fp fa (eu χ (b + 1)) (fun _ => 0) 0 3 (cuA (eu χ 6) (b + 1)) fi ne ct 1) H ∧ va_D A (wM cI r (nI (0)) fp fa (eu χ (b + 1)) (fun _ => 0) 0 3 (cuA (eu χ 6) (b + 1)) fi ne ct 1) ∧ va_S A s.heap H locs := hI9
              have hk9 := lst_lt (wfs_eu hwf (b + 1) (by omega)) (show b < 6 by omega) j (by omega)
              have hm9 : mn (lsA (eu χ 6) b) (lst (eu χ (b + 1)) b j) < 65600 := by unfold mn; (repeat' split) <;> omega
              refine lv_iload hx hb dX3_start_113 (lv_at hl 4 rfl) ?_
              refine lv_bipush (v := nI 16) hx hb dX3_start_115 (by decide) ?_
              refine lv_iload_n hx hb dX3_start_117 rfl (lv_at hl 3 rfl) ?_
              refine xr_mul hx hb dX3_start_118 ?_
              refine lv_bipush (v := nI 16) hx hb dX3_start_119 (by decide) ?_
              refine xr_add hx hb dX3_start_121 ?_
              refine xi_ge (tgt := 165) hx hb dX3_start_122 (by decide) (nI_toInt (by omega)) (nI_toInt (by omega)) (fun c_122 => ?_) (fun c_122 => ?_)
              · refine lv_iinc (v := nI (b + 1)) (lv' := [(3, .int (nI (b + 1))), (0, .ref (r 0)), (1, .int (mI (grA (eu χ 6) (b + 1)))), (2, .int (mI (mn (lsA (eu χ 6) b) (lst (eu χ (b + 1)) b j)))), (5, .int (nI (16 * b + j)))]) hx hb dX3_start_165 hl (k := 3) rfl (nI_add _ _) (by decide) rfl (fun ls hl => ?_)
                refine lv_goto (tgt := 45) hx hb dX3_start_168 (by decide) ?_
                have e9 : mn (lsA (eu χ 6) b) (lst (eu χ (b + 1)) b j) = lsA (eu χ 6) (b + 1) := by rw [show j = 16 by omega, eu_lst (show b < 6 by omega)]; rfl
                rw [e9] at hl
                exact ih_45 (b + 1) _ _ _ (⟨by omega, hP, hD, hS⟩) (by first | omega | (dsimp only; omega)) (lv_sub hl [1, 2, 3, 0] rfl)
              · refine lv_aload_n hx hb dX3_start_125 rfl (lv_at hl 0 rfl) ?_
                refine lv_iload hx hb dX3_start_126 (lv_at hl 4 rfl) ?_
                refine xc_Vi (ci := 3) (rest := []) (As := [.int (nI (16 * b + j))]) ⟨hx, hb, hml, hown, hts⟩ (c_X3_isReadable l D r (nI 0) fp fa (eu χ (b + 1)) (fun _ => 0) 0 3 (cuA (eu χ 6) (b + 1)) fi ne ct 1 b (by omega) j (by omega) (fun i => by have h7 := (eu_le (χ := χ) (b + 1) (by omega) i).1; have h8 := hχ i; omega)) (cwV 1 hts gX3_start_X3_isReadable rfl rfl rfl (by decide +kernel) ⟨Nat.le_of_ble_eq_true rfl, Nat.le_of_ble_eq_true rfl⟩) hN hK (hP) rfl 0 rfl rfl hl.1 rfl (Nat.le_of_ble_eq_true rfl) dX3_start_128 ⟨Nat.le_of_ble_eq_true rfl, Nat.le_of_ble_eq_true rfl⟩ (fun r_128 hw_128 => ?_)
                refine xz_eq (tgt := 159) hx hb dX3_start_131 (by decide) rfl (fun c_131 => ?_) (fun c_131 => ?_)
                · have h_131 := bo.f hw_128 c_131
                  refine lv_iinc (v := nI (16 * b + j + 1)) (lv' := [(5, .int (nI (16 * b + j + 1))), (0, .ref (r 0)), (1, .int (mI (grA (eu χ 6) (b + 1)))), (2, .int (mI (mn (lsA (eu χ 6) b) (lst (eu χ (b + 1)) b j)))), (3, .int (nI (b)))]) hx hb dX3_start_159 hl (k := 4) rfl (nI_add _ _) (by decide) rfl (fun ls hl => ?_)
                  refine lv_goto (tgt := 113) hx hb dX3_start_162 (by decide) ?_
                  have e9 : mn (lsA (eu χ 6) b) (lst (eu χ (b + 1)) b j) = mn (lsA (eu χ 6) b) (lst (eu χ (b + 1)) b (j + 1)) := by first | rw [lst_out h_131] | (rw [lst_in h_131, ← mn_assoc]; generalize mn (lsA (eu χ 6) b) (lst (eu χ (b + 1)) b j) = z9 at *; unfold mn; (repeat' split) <;> omega)
                  rw [e9] at hl
                  exact ih_113 (j + 1) _ _ _ (⟨by omega, hP, hD, hS⟩) (by first | omega | (dsimp only; omega)) (lv_sub hl [1, 2, 3, 4, 0] rfl)
                · have h_131 := bo.t hw_128 c_131
                  refine lv_iload_n hx hb dX3_start_134 rfl (lv_at hl 2 rfl) ?_
                  refine xz_lt (tgt := 148) hx hb dX3_start_135 (by decide) (mI_toInt (by omega)) (fun c_135 => ?_) (fun c_135 => ?_)
                  · refine lv_aload_n hx hb dX3_start_148 rfl (lv_at hl 0 rfl) ?_
                    refine lv_iload hx hb dX3_start_149 (lv_at hl 4 rfl) ?_
                    refine xc_Vi (ci := 3) (rest := []) (As := [.int (nI (16 * b + j))]) ⟨hx, hb, hml, hown, hts⟩ (c_X3_firstOf l D r (nI 0) fp fa (eu χ (b + 1)) (fun _ => 0) 0 3 (cuA (eu χ 6) (b + 1)) fi ne ct 1 b (by omega) j (by omega) (fun i => by have h7 := (eu_le (χ := χ) (b + 1) (by omega) i).1; have h8 := hχ i; omega) (wfs_eu hwf (b + 1) (by omega)) h_131) (cwV 1 hts gX3_start_X3_firstOf rfl rfl rfl (by decide +kernel) ⟨Nat.le_of_ble_eq_true rfl, Nat.le_of_ble_eq_true rfl⟩) hN hK (hP) rfl 0 rfl rfl hl.1 rfl (Nat.le_of_ble_eq_true rfl) dX3_start_151 ⟨Nat.le_of_ble_eq_true rfl, Nat.le_of_ble_eq_true rfl⟩ (fun r_151 hw_151 => ?_)
                    subst hw_151
                    obtain ⟨hw0, hw1, hw2, -⟩ := wfs_eu hwf (b + 1) (by omega) b j (by omega) (by omega) h_131
                    refine lv_goto (tgt := 158) hx hb dX3_start_154 (by decide) ?_
                    refine xr_same (nI_mI (256 * byt (eu χ (b + 1)) b j 1 + byt (eu χ (b + 1)) b j 2)) ?_
                    refine lv_istore_n (lv' := [(2, .int (mI (256 * byt (eu χ (b + 1)) b j 1 + byt (eu χ (b + 1)) b j 2 + 1))), (0, .ref (r 0)), (1, .int (mI (grA (eu χ 6) (b + 1)))), (3, .int (nI (b))), (5, .int (nI (16 * b + j)))]) hx hb dX3_start_158 rfl hl (by decide) rfl (fun ls hl => ?_)
                    refine lv_iinc (v := nI (16 * b + j + 1)) (lv' := [(5, .int (nI (16 * b + j + 1))), (2, .int (mI (256 * byt (eu χ (b + 1)) b j 1 + byt (eu χ (b + 1)) b j 2 + 1))), (0, .ref (r 0)), (1, .int (mI (grA (eu χ 6) (b + 1)))), (3, .int (nI (b)))]) hx hb dX3_start_159 hl (k := 4) rfl (nI_add _ _) (by decide) rfl (fun ls hl => ?_)
                    refine lv_goto (tgt := 113) hx hb dX3_start_162 (by decide) ?_
                    have e9 : 256 * byt (eu χ (b + 1)) b j 1 + byt (eu χ (b + 1)) b j 2 + 1 = mn (lsA (eu χ 6) b) (lst (eu χ (b + 1)) b (j + 1)) := by first | rw [lst_out h_131] | (rw [lst_in h_131, ← mn_assoc]; generalize mn (lsA (eu χ 6) b) (lst (eu χ (b + 1)) b j) = z9 at *; unfold mn; (repeat' split) <;> omega)
                    rw [e9] at hl
                    exact ih_113 (j + 1) _ _ _ (⟨by omega, hP, hD, hS⟩) (by first | omega | (dsimp only; omega)) (lv_sub hl [2, 3, 1, 4, 0] rfl)
                  · refine lv_aload_n hx hb dX3_start_138 rfl (lv_at hl 0 rfl) ?_
                    refine lv_iload hx hb dX3_start_139 (lv_at hl 4 rfl) ?_
                    refine xc_Vi (ci := 3) (rest := []) (As := [.int (nI (16 * b + j))]) ⟨hx, hb, hml, hown, hts⟩ (c_X3_firstOf l D r (nI 0) fp fa (eu χ (b + 1)) (fun _ => 0) 0 3 (cuA (eu χ 6) (b + 1)) fi ne ct 1 b (by omega) j (by omega) (fun i => by have h7 := (eu_le (χ := χ) (b + 1) (by omega) i).1; have h8 := hχ i; omega) (wfs_eu hwf (b + 1) (by omega)) h_131) (cwV 1 hts gX3_start_X3_firstOf rfl rfl rfl (by decide +kernel) ⟨Nat.le_of_ble_eq_true rfl, Nat.le_of_ble_eq_true rfl⟩) hN hK (hP) rfl 0 rfl rfl hl.1 rfl (Nat.le_of_ble_eq_true rfl) dX3_start_141 ⟨Nat.le_of_ble_eq_true rfl, Nat.le_of_ble_eq_true rfl⟩ (fun r_141 hw_141 => ?_)
                    subst hw_141
                    obtain ⟨hw0, hw1, hw2, -⟩ := wfs_eu hwf (b + 1) (by omega) b j (by omega) (by omega) h_131
                    refine lv_iload_n hx hb dX3_start_144 rfl (lv_at hl 2 rfl) ?_
                    refine xi_ge (tgt := 157) hx hb dX3_start_145 (by decide) (nI_toInt (by omega)) (mI_toInt (by omega)) (fun c_145 => ?_) (fun c_145 => ?_)
                    · refine lv_iload_n hx hb dX3_start_157 rfl (lv_at hl 2 rfl) ?_
                      refine lv_istore_n (lv' := [(2, .int (mI (mn (lsA (eu χ 6) b) (lst (eu χ (b + 1)) b j)))), (0, .ref (r 0)), (1, .int (mI (grA (eu χ 6) (b + 1)))), (3, .int (nI (b))), (5, .int (nI (16 * b + j)))]) hx hb dX3_start_158 rfl hl (by decide) rfl (fun ls hl => ?_)
                      refine lv_iinc (v := nI (16 * b + j + 1)) (lv' := [(5, .int (nI (16 * b + j + 1))), (2, .int (mI (mn (lsA (eu χ 6) b) (lst (eu χ (b + 1)) b j)))), (0, .ref (r 0)), (1, .int (mI (grA (eu χ 6) (b + 1)))), (3, .int (nI (b)))]) hx hb dX3_start_159 hl (k := 4) rfl (nI_add _ _) (by decide) rfl (fun ls hl => ?_)
                      refine lv_goto (tgt := 113) hx hb dX3_start_162 (by decide) ?_
                      have e9 : mn (lsA (eu χ 6) b) (lst (eu χ (b + 1)) b j) = mn (lsA (eu χ 6) b) (lst (eu χ (b + 1)) b (j + 1)) := by first | rw [lst_out h_131] | (rw [lst_in h_131, ← mn_assoc]; generalize mn (lsA (eu χ 6) b) (lst (eu χ (b + 1)) b j) = z9 at *; unfold mn; (repeat' split) <;> omega)
                      rw [e9] at hl
                      exact ih_113 (j + 1) _ _ _ (⟨by omega, hP, hD, hS⟩) (by first | omega | (dsimp only; omega)) (lv_sub hl [2, 3, 1, 4, 0] rfl)
                    · refine lv_aload_n hx hb dX3_start_148 rfl (lv_at hl 0 rfl) ?_
                      refine lv_iload hx hb dX3_start_149 (lv_at hl 4 rfl) ?_
                      refine xc_Vi (ci := 3) (rest := []) (As := [.int (nI (16 * b + j))]) ⟨hx, hb, hml, hown, hts⟩ (c_X3_firstOf l D r (nI 0) fp fa (eu χ (b + 1)) (fun _ => 0) 0 3 (cuA (eu χ 6) (b + 1)) fi ne ct 1 b (by omega) j (by omega) (fun i => by have h7 := (eu_le (χ := χ) (b + 1) (by omega) i).1; have h8 := hχ i; omega) (wfs_eu hwf (b + 1) (by omega)) h_131) (cwV 1 hts gX3_start_X3_firstOf rfl rfl rfl (by decide +kernel) ⟨Nat.le_of_ble_eq_true rfl, Nat.le_of_ble_eq_true rfl⟩) hN hK (hP) rfl 0 rfl rfl hl.1 rfl (Nat.le_of_ble_eq_true rfl) dX3_start_151 ⟨Nat.le_of_ble_eq_true rfl, Nat.le_of_ble_eq_true rfl⟩ (fun r_151 hw_151 => ?_)
                      subst hw_151
                      obtain ⟨hw0, hw1, hw2, -⟩ := wfs_eu hwf (b + 1) (by omega) b j (by omega) (by omega) h_131
                      refine lv_goto (tgt := 158) hx hb dX3_start_154 (by decide) ?_
                      refine xr_same (nI_mI (256 * byt (eu χ (b + 1)) b j 1 + byt (eu χ (b + 1)) b j 2)) ?_
                      refine lv_istore_n (lv' := [(2, .int (mI (256 * byt (eu χ (b + 1)) b j 1 + byt (eu χ (b + 1)) b j 2 + 1))), (0, .ref (r 0)), (1, .int (mI (grA (eu χ 6) (b + 1)))), (3, .int (nI (b))), (5, .int (nI (16 * b + j)))]) hx hb dX3_start_158 rfl hl (by decide) rfl (fun ls hl => ?_)
                      refine lv_iinc (v := nI (16 * b + j + 1)) (lv' := [(5, .int (nI (16 * b + j + 1))), (2, .int (mI (256 * byt (eu χ (b + 1)) b j 1 + byt (eu χ (b + 1)) b j 2 + 1))), (0, .ref (r 0)), (1, .int (mI (grA (eu χ 6) (b + 1)))), (3, .int (nI (b)))]) hx hb dX3_start_159 hl (k := 4) rfl (nI_add _ _) (by decide) rfl (fun ls hl => ?_)
                      refine lv_goto (tgt := 113) hx hb dX3_start_162 (by decide) ?_
                      have e9 : 256 * byt (eu χ (b + 1)) b j 1 + byt (eu χ (b + 1)) b j 2 + 1 = mn (lsA (eu χ 6) b) (lst (eu χ (b + 1)) b (j + 1)) := by first | rw [lst_out h_131] | (rw [lst_in h_131, ← mn_assoc]; generalize mn (lsA (eu χ 6) b) (lst (eu χ (b + 1)) b j) = z9 at *; unfold mn; (repeat' split) <;> omega)
                      rw [e9] at hl
                      exact ih_113 (j + 1) _ _ _ (⟨by omega, hP, hD, hS⟩) (by first | omega | (dsimp only; omega)) (lv_sub hl [2, 3, 1, 4, 0] rfl)
          · refine lv_iload_n hx hb dX3_start_83 rfl (lv_at hl 4 rfl) ?_
            refine lv_goto (tgt := 91) hx hb dX3_start_84 (by decide) ?_
            refine va_put (D := D) (ci := 3) (v := .int (nI (b))) (ty := .int) (C := RX3) (T := TX3) (N := 16) hx hb hts hiX3 tyX3 tyX3_ok nmX3 hown hK hP hD hS 0 rfl rfl 8 (by decide) (hts (.fieldLink RX3 54 "PairedCellsModel" "current" "I") (by decide +kernel)) (fun _ h9 => h9) rfl (by decide +kernel) rfl rfl (Nat.le_of_ble_eq_true rfl) dX3_start_91 (fun H locs hP hD hS => ?_)
            have hP : va_P D vwCl (wM cI r (nI (0)) fp fa (eu χ (b + 1)) (fun _ => 0) 0 3 b fi ne ct 1) H := hP
            have hD : va_D A (wM cI r (nI (0)) fp fa (eu χ (b + 1)) (fun _ => 0) 0 3 b fi ne ct 1) := hD
            refine lv_iload hx hb dX3_start_94 (lv_at hl 0 rfl) ?_
            refine lv_iload_n hx hb dX3_start_96 rfl (lv_at hl 2 rfl) ?_
            refine xi_le (tgt := 105) hx hb dX3_start_97 (by decide) (mI_toInt (by omega)) (mI_toInt (by omega)) (fun c_97 => ?_) (fun c_97 => ?_)
            · refine lv_iload_n hx hb dX3_start_105 rfl (lv_at hl 2 rfl) ?_
              refine lv_istore_n (lv' := [(1, .int (mI (grA (eu χ 6) b))), (4, .int (mI (grt (eu χ b) b 16))), (0, .ref (r 0)), (2, .int (mI (lsA (eu χ 6) b))), (3, .int (nI (b)))]) hx hb dX3_start_106 rfl hl (by decide) rfl (fun ls hl => ?_)
              have e8 : b = cuA (eu χ 6) (b + 1) := (cif_t (by omega)).symm
              have e9 : grA (eu χ 6) b = grA (eu χ 6) (b + 1) := by show _ = max (grA (eu χ 6) b) (grt (eu χ 6) b 16); omega
              have hq9 : (wM cI r (nI (0)) fp fa (eu χ (b + 1)) (fun _ => 0) 0 3 b fi ne ct 1 : va_W) = wM cI r (nI (0)) fp fa (eu χ (b + 1)) (fun _ => 0) 0 3 (cuA (eu χ 6) (b + 1)) fi ne ct 1 := by rw [← e8]
              have hP := va_P.eqw hq9 hP
              have hD := va_D.eqw hq9 hD
              have hP : va_P D vwCl (wM cI r (nI (0)) fp fa (eu χ (b + 1)) (fun _ => 0) 0 3 (cuA (eu χ 6) (b + 1)) fi ne ct 1) H := hP
              have hD : va_D A (wM cI r (nI (0)) fp fa (eu χ (b + 1)) (fun _ => 0) 0 3 (cuA (eu χ 6) (b + 1)) fi ne ct 1) := hD
              rw [e9] at hl
              refine lv_bipush (v := nI 16) hx hb dX3_start_107 (by decide) ?_
              refine lv_iload_n hx hb dX3_start_109 rfl (lv_at hl 4 rfl) ?_
              refine xr_mul hx hb dX3_start_110 ?_
              refine lv_istore (lv' := [(5, .int (nI (16 * b))), (1, .int (mI (grA (eu χ 6) (b + 1)))), (4, .int (mI (grt (eu χ b) b 16))), (0, .ref (r 0)), (2, .int (mI (lsA (eu χ 6) b))), (3, .int (nI (b)))]) hx hb dX3_start_111 hl (by decide) rfl (fun ls hl => ?_)
              refine lpW (α := Nat) (fun j H locs => (j ≤ 16) ∧ va_P D vwCl (wM cI r (nI (0)) fp fa (eu χ (b + 1)) (fun _ => 0) 0 3 (cuA (eu χ 6) (b + 1)) fi ne ct 1) H ∧ va_D A (wM cI r (nI (0)) fp fa (eu χ (b + 1)) (fun _ => 0) 0 3 (cuA (eu χ 6) (b + 1)) fi ne ct 1) ∧ va_S A s.heap H locs) (fun j => [(0, .ref (r 0)), (1, .int (mI (grA (eu χ 6) (b + 1)))), (2, .int (mI (mn (lsA (eu χ 6) b) (lst (eu χ (b + 1)) b j)))), (3, .int (nI (b))), (5, .int (nI (16 * b + j)))]) 6 (fun j => 16 - j) 0 (⟨by omega, hP, hD, hS⟩) (lv_sub hl [3, 1, 4, 5, 0] rfl) (fun s9 H locs ls hI9 hl9 ih_113 => ?_)
              obtain ⟨j, rfl⟩ : ∃ z, z = s9 := ⟨_, rfl⟩
              have hl : lv_has ls 6 [(0, .ref (r 0)), (1, .int (mI (grA (eu χ 6) (b + 1)))), (2, .int (mI (mn (lsA (eu χ 6) b) (lst (eu χ (b + 1)) b j)))), (3, .int (nI (b))), (5, .int (nI (16 * b + j)))] := hl9
              obtain ⟨hj, hP, hD, hS⟩ : (j ≤ 16) ∧ va_P D vwCl (wM cI r (nI (0)) fp fa (eu χ (b + 1)) (fun _ => 0) 0 3 (cuA (eu χ 6) (b + 1)) fi ne ct 1) H ∧ va_D A (wM cI r (nI (0)) fp fa (eu χ (b + 1)) (fun _ => 0) 0 3 (cuA (eu χ 6) (b + 1)) fi ne ct 1) ∧ va_S A s.heap H locs := hI9
              have hk9 := lst_lt (wfs_eu hwf (b + 1) (by omega)) (show b < 6 by omega) j (by omega)
              have hm9 : mn (lsA (eu χ 6) b) (lst (eu χ (b + 1)) b j) < 65600 := by unfold mn; (repeat' split) <;> omega
              refine lv_iload hx hb dX3_start_113 (lv_at hl 4 rfl) ?_
              refine lv_bipush (v := nI 16) hx hb dX3_start_115 (by decide) ?_
              refine lv_iload_n hx hb dX3_start_117 rfl (lv_at hl 3 rfl) ?_
              refine xr_mul hx hb dX3_start_118 ?_
              refine lv_bipush (v := nI 16) hx hb dX3_start_119 (by decide) ?_
              refine xr_add hx hb dX3_start_121 ?_
              refine xi_ge (tgt := 165) hx hb dX3_start_122 (by decide) (nI_toInt (by omega)) (nI_toInt (by omega)) (fun c_122 => ?_) (fun c_122 => ?_)
              · refine lv_iinc (v := nI (b + 1)) (lv' := [(3, .int (nI (b + 1))), (0, .ref (r 0)), (1, .int (mI (grA (eu χ 6) (b + 1)))), (2, .int (mI (mn (lsA (eu χ 6) b) (lst (eu χ (b + 1)) b j)))), (5, .int (nI (16 * b + j)))]) hx hb dX3_start_165 hl (k := 3) rfl (nI_add _ _) (by decide) rfl (fun ls hl => ?_)
                refine lv_goto (tgt := 45) hx hb dX3_start_168 (by decide) ?_
                have e9 : mn (lsA (eu χ 6) b) (lst (eu χ (b + 1)) b j) = lsA (eu χ 6) (b + 1) := by rw [show j = 16 by omega, eu_lst (show b < 6 by omega)]; rfl
                rw [e9] at hl
                exact ih_45 (b + 1) _ _ _ (⟨by omega, hP, hD, hS⟩) (by first | omega | (dsimp only; omega)) (lv_sub hl [1, 2, 3, 0] rfl)
              · refine lv_aload_n hx hb dX3_start_125 rfl (lv_at hl 0 rfl) ?_
                refine lv_iload hx hb dX3_start_126 (lv_at hl 4 rfl) ?_
                refine xc_Vi (ci := 3) (rest := []) (As := [.int (nI (16 * b + j))]) ⟨hx, hb, hml, hown, hts⟩ (c_X3_isReadable l D r (nI 0) fp fa (eu χ (b + 1)) (fun _ => 0) 0 3 (cuA (eu χ 6) (b + 1)) fi ne ct 1 b (by omega) j (by omega) (fun i => by have h7 := (eu_le (χ := χ) (b + 1) (by omega) i).1; have h8 := hχ i; omega)) (cwV 1 hts gX3_start_X3_isReadable rfl rfl rfl (by decide +kernel) ⟨Nat.le_of_ble_eq_true rfl, Nat.le_of_ble_eq_true rfl⟩) hN hK (hP) rfl 0 rfl rfl hl.1 rfl (Nat.le_of_ble_eq_true rfl) dX3_start_128 ⟨Nat.le_of_ble_eq_true rfl, Nat.le_of_ble_eq_true rfl⟩ (fun r_128 hw_128 => ?_)
                refine xz_eq (tgt := 159) hx hb dX3_start_131 (by decide) rfl (fun c_131 => ?_) (fun c_131 => ?_)
                · have h_131 := bo.f hw_128 c_131
                  refine lv_iinc (v := nI (16 * b + j + 1)) (lv' := [(5, .int (nI (16 * b + j + 1))), (0, .ref (r 0)), (1, .int (mI (grA (eu χ 6) (b + 1)))), (2, .int (mI (mn (lsA (eu χ 6) b) (lst (eu χ (b + 1)) b j)))), (3, .int (nI (b)))]) hx hb dX3_start_159 hl (k := 4) rfl (nI_add _ _) (by decide) rfl (fun ls hl => ?_)
                  refine lv_goto (tgt := 113) hx hb dX3_start_162 (by decide) ?_
                  have e9 : mn (lsA (eu χ 6) b) (lst (eu χ (b + 1)) b j) = mn (lsA (eu χ 6) b) (lst (eu χ (b + 1)) b (j + 1)) := by first | rw [lst_out h_131] | (rw [lst_in h_131, ← mn_assoc]; generalize mn (lsA (eu χ 6) b) (lst (eu χ (b + 1)) b j) = z9 at *; unfold mn; (repeat' split) <;> omega)
                  rw [e9] at hl
                  exact ih_113 (j + 1) _ _ _ (⟨by omega, hP, hD, hS⟩) (by first | omega | (dsimp only; omega)) (lv_sub hl [1, 2, 3, 4, 0] rfl)
                · have h_131 := bo.t hw_128 c_131
                  refine lv_iload_n hx hb dX3_start_134 rfl (lv_at hl 2 rfl) ?_
                  refine xz_lt (tgt := 148) hx hb dX3_start_135 (by decide) (mI_toInt (by omega)) (fun c_135 => ?_) (fun c_135 => ?_)
                  · refine lv_aload_n hx hb dX3_start_148 rfl (lv_at hl 0 rfl) ?_
                    refine lv_iload hx hb dX3_start_149 (lv_at hl 4 rfl) ?_
                    refine xc_Vi (ci := 3) (rest := []) (As := [.int (nI (16 * b + j))]) ⟨hx, hb, hml, hown, hts⟩ (c_X3_firstOf l D r (nI 0) fp fa (eu χ (b + 1)) (fun _ => 0) 0 3 (cuA (eu χ 6) (b + 1)) fi ne ct 1 b (by omega) j (by omega) (fun i => by have h7 := (eu_le (χ := χ) (b + 1) (by omega) i).1; have h8 := hχ i; omega) (wfs_eu hwf (b + 1) (by omega)) h_131) (cwV 1 hts gX3_start_X3_firstOf rfl rfl rfl (by decide +kernel) ⟨Nat.le_of_ble_eq_true rfl, Nat.le_of_ble_eq_true rfl⟩) hN hK (hP) rfl 0 rfl rfl hl.1 rfl (Nat.le_of_ble_eq_true rfl) dX3_start_151 ⟨Nat.le_of_ble_eq_true rfl, Nat.le_of_ble_eq_true rfl⟩ (fun r_151 hw_151 => ?_)
                    subst hw_151
                    obtain ⟨hw0, hw1, hw2, -⟩ := wfs_eu hwf (b + 1) (by omega) b j (by omega) (by omega) h_131
                    refine lv_goto (tgt := 158) hx hb dX3_start_154 (by decide) ?_
                    refine xr_same (nI_mI (256 * byt (eu χ (b + 1)) b j 1 + byt (eu χ (b + 1)) b j 2)) ?_
                    refine lv_istore_n (lv' := [(2, .int (mI (256 * byt (eu χ (b + 1)) b j 1 + byt (eu χ (b + 1)) b j 2 + 1))), (0, .ref (r 0)), (1, .int (mI (grA (eu χ 6) (b + 1)))), (3, .int (nI (b))), (5, .int (nI (16 * b + j)))]) hx hb dX3_start_158 rfl hl (by decide) rfl (fun ls hl => ?_)
                    refine lv_iinc (v := nI (16 * b + j + 1)) (lv' := [(5, .int (nI (16 * b + j + 1))), (2, .int (mI (256 * byt (eu χ (b + 1)) b j 1 + byt (eu χ (b + 1)) b j 2 + 1))), (0, .ref (r 0)), (1, .int (mI (grA (eu χ 6) (b + 1)))), (3, .int (nI (b)))]) hx hb dX3_start_159 hl (k := 4) rfl (nI_add _ _) (by decide) rfl (fun ls hl => ?_)
                    refine lv_goto (tgt := 113) hx hb dX3_start_162 (by decide) ?_
                    have e9 : 256 * byt (eu χ (b + 1)) b j 1 + byt (eu χ (b + 1)) b j 2 + 1 = mn (lsA (eu χ 6) b) (lst (eu χ (b + 1)) b (j + 1)) := by first | rw [lst_out h_131] | (rw [lst_in h_131, ← mn_assoc]; generalize mn (lsA (eu χ 6) b) (lst (eu χ (b + 1)) b j) = z9 at *; unfold mn; (repeat' split) <;> omega)
                    rw [e9] at hl
                    exact ih_113 (j + 1) _ _ _ (⟨by omega, hP, hD, hS⟩) (by first | omega | (dsimp only; omega)) (lv_sub hl [2, 3, 1, 4, 0] rfl)
                  · refine lv_aload_n hx hb dX3_start_138 rfl (lv_at hl 0 rfl) ?_
                    refine lv_iload hx hb dX3_start_139 (lv_at hl 4 rfl) ?_
                    refine xc_Vi (ci := 3) (rest := []) (As := [.int (nI (16 * b + j))]) ⟨hx, hb, hml, hown, hts⟩ (c_X3_firstOf l D r (nI 0) fp fa (eu χ (b + 1)) (fun _ => 0) 0 3 (cuA (eu χ 6) (b + 1)) fi ne ct 1 b (by omega) j (by omega) (fun i => by have h7 := (eu_le (χ := χ) (b + 1) (by omega) i).1; have h8 := hχ i; omega) (wfs_eu hwf (b + 1) (by omega)) h_131) (cwV 1 hts gX3_start_X3_firstOf rfl rfl rfl (by decide +kernel) ⟨Nat.le_of_ble_eq_true rfl, Nat.le_of_ble_eq_true rfl⟩) hN hK (hP) rfl 0 rfl rfl hl.1 rfl (Nat.le_of_ble_eq_true rfl) dX3_start_141 ⟨Nat.le_of_ble_eq_true rfl, Nat.le_of_ble_eq_true rfl⟩ (fun r_141 hw_141 => ?_)
                    subst hw_141
                    obtain ⟨hw0, hw1, hw2, -⟩ := wfs_eu hwf (b + 1) (by omega) b j (by omega) (by omega) h_131
                    refine lv_iload_n hx hb dX3_start_144 rfl (lv_at hl 2 rfl) ?_
                    refine xi_ge (tgt := 157) hx hb dX3_start_145 (by decide) (nI_toInt (by omega)) (mI_toInt (by omega)) (fun c_145 => ?_) (fun c_145 => ?_)
                    · refine lv_iload_n hx hb dX3_start_157 rfl (lv_at hl 2 rfl) ?_
                      refine lv_istore_n (lv' := [(2, .int (mI (mn (lsA (eu χ 6) b) (lst (eu χ (b + 1)) b j)))), (0, .ref (r 0)), (1, .int (mI (grA (eu χ 6) (b + 1)))), (3, .int (nI (b))), (5, .int (nI (16 * b + j)))]) hx hb dX3_start_158 rfl hl (by decide) rfl (fun ls hl => ?_)
                      refine lv_iinc (v := nI (16 * b + j + 1)) (lv' := [(5, .int (nI (16 * b + j + 1))), (2, .int (mI (mn (lsA (eu χ 6) b) (lst (eu χ (b + 1)) b j)))), (0, .ref (r 0)), (1, .int (mI (grA (eu χ 6) (b + 1)))), (3, .int (nI (b)))]) hx hb dX3_start_159 hl (k := 4) rfl (nI_add _ _) (by decide) rfl (fun ls hl => ?_)
                      refine lv_goto (tgt := 113) hx hb dX3_start_162 (by decide) ?_
                      have e9 : mn (lsA (eu χ 6) b) (lst (eu χ (b + 1)) b j) = mn (lsA (eu χ 6) b) (lst (eu χ (b + 1)) b (j + 1)) := by first | rw [lst_out h_131] | (rw [lst_in h_131, ← mn_assoc]; generalize mn (lsA (eu χ 6) b) (lst (eu χ (b + 1)) b j) = z9 at *; unfold mn; (repeat' split) <;> omega)
                      rw [e9] at hl
                      exact ih_113 (j + 1) _ _ _ (⟨by omega, hP, hD, hS⟩) (by first | omega | (dsimp only; omega)) (lv_sub hl [2, 3, 1, 4, 0] rfl)
                    · refine lv_aload_n hx hb dX3_start_148 rfl (lv_at hl 0 rfl) ?_
                      refine lv_iload hx hb dX3_start_149 (lv_at hl 4 rfl) ?_
                      refine xc_Vi (ci := 3) (rest := []) (As := [.int (nI (16 * b + j))]) ⟨hx, hb, hml, hown, hts⟩ (c_X3_firstOf l D r (nI 0) fp fa (eu χ (b + 1)) (fun _ => 0) 0 3 (cuA (eu χ 6) (b + 1)) fi ne ct 1 b (by omega) j (by omega) (fun i => by have h7 := (eu_le (χ := χ) (b + 1) (by omega) i).1; have h8 := hχ i; omega) (wfs_eu hwf (b + 1) (by omega)) h_131) (cwV 1 hts gX3_start_X3_firstOf rfl rfl rfl (by decide +kernel) ⟨Nat.le_of_ble_eq_true rfl, Nat.le_of_ble_eq_true rfl⟩) hN hK (hP) rfl 0 rfl rfl hl.1 rfl (Nat.le_of_ble_eq_true rfl) dX3_start_151 ⟨Nat.le_of_ble_eq_true rfl, Nat.le_of_ble_eq_true rfl⟩ (fun r_151 hw_151 => ?_)
                      subst hw_151
                      obtain ⟨hw0, hw1, hw2, -⟩ := wfs_eu hwf (b + 1) (by omega) b j (by omega) (by omega) h_131
                      refine lv_goto (tgt := 158) hx hb dX3_start_154 (by decide) ?_
                      refine xr_same (nI_mI (256 * byt (eu χ (b + 1)) b j 1 + byt (eu χ (b + 1)) b j 2)) ?_
                      refine lv_istore_n (lv' := [(2, .int (mI (256 * byt (eu χ (b + 1)) b j 1 + byt (eu χ (b + 1)) b j 2 + 1))), (0, .ref (r 0)), (1, .int (mI (grA (eu χ 6) (b + 1)))), (3, .int (nI (b))), (5, .int (nI (16 * b + j)))]) hx hb dX3_start_158 rfl hl (by decide) rfl (fun ls hl => ?_)
                      refine lv_iinc (v := nI (16 * b + j + 1)) (lv' := [(5, .int (nI (16 * b + j + 1))), (2, .int (mI (256 * byt (eu χ (b + 1)) b j 1 + byt (eu χ (b + 1)) b j 2 + 1))), (0, .ref (r 0)), (1, .int (mI (grA (eu χ 6) (b + 1)))), (3, .int (nI (b)))]) hx hb dX3_start_159 hl (k := 4) rfl (nI_add _ _) (by decide) rfl (fun ls hl => ?_)
                      refine lv_goto (tgt := 113) hx hb dX3_start_162 (by decide) ?_
                      have e9 : 256 * byt (eu χ (b + 1)) b j 1 + byt (eu χ (b + 1)) b j 2 + 1 = mn (lsA (eu χ 6) b) (lst (eu χ (b + 1)) b (j + 1)) := by first | rw [lst_out h_131] | (rw [lst_in h_131, ← mn_assoc]; generalize mn (lsA (eu χ 6) b) (lst (eu χ (b + 1)) b j) = z9 at *; unfold mn; (repeat' split) <;> omega)
                      rw [e9] at hl
                      exact ih_113 (j + 1) _ _ _ (⟨by omega, hP, hD, hS⟩) (by first | omega | (dsimp only; omega)) (lv_sub hl [2, 3, 1, 4, 0] rfl)
            · refine lv_iload hx hb dX3_start_100 (lv_at hl 0 rfl) ?_
              refine lv_goto (tgt := 106) hx hb dX3_start_102 (by decide) ?_
              refine lv_istore_n (lv' := [(1, .int (mI (grt (eu χ b) b 16))), (4, .int (mI (grt (eu χ b) b 16))), (0, .ref (r 0)), (2, .int (mI (lsA (eu χ 6) b))), (3, .int (nI (b)))]) hx hb dX3_start_106 rfl hl (by decide) rfl (fun ls hl => ?_)
              have e8 : b = cuA (eu χ 6) (b + 1) := (cif_t (by omega)).symm
              have e9 : grt (eu χ b) b 16 = grA (eu χ 6) (b + 1) := by show _ = max (grA (eu χ 6) b) (grt (eu χ 6) b 16); omega
              have hq9 : (wM cI r (nI (0)) fp fa (eu χ (b + 1)) (fun _ => 0) 0 3 b fi ne ct 1 : va_W) = wM cI r (nI (0)) fp fa (eu χ (b + 1)) (fun _ => 0) 0 3 (cuA (eu χ 6) (b + 1)) fi ne ct 1 := by rw [← e8]
              have hP := va_P.eqw hq9 hP
              have hD := va_D.eqw hq9 hD
              have hP : va_P D vwCl (wM cI r (nI (0)) fp fa (eu χ (b + 1)) (fun _ => 0) 0 3 (cuA (eu χ 6) (b + 1)) fi ne ct 1) H := hP
              have hD : va_D A (wM cI r (nI (0)) fp fa (eu χ (b + 1)) (fun _ => 0) 0 3 (cuA (eu χ 6) (b + 1)) fi ne ct 1) := hD
              rw [e9] at hl
              refine lv_bipush (v := nI 16) hx hb dX3_start_107 (by decide) ?_
              refine lv_iload_n hx hb dX3_start_109 rfl (lv_at hl 4 rfl) ?_
              refine xr_mul hx hb dX3_start_110 ?_
              refine lv_istore (lv' := [(5, .int (nI (16 * b))), (1, .int (mI (grA (eu χ 6) (b + 1)))), (4, .int (mI (grA (eu χ 6) (b + 1)))), (0, .ref (r 0)), (2, .int (mI (lsA (eu χ 6) b))), (3, .int (nI (b)))]) hx hb dX3_start_111 hl (by decide) rfl (fun ls hl => ?_)
              refine lpW (α := Nat) (fun j H locs => (j ≤ 16) ∧ va_P D vwCl (wM cI r (nI (0)) fp fa (eu χ (b + 1)) (fun _ => 0) 0 3 (cuA (eu χ 6) (b + 1)) fi ne ct 1) H ∧ va_D A (wM cI r (nI (0)) fp fa (eu χ (b + 1)) (fun _ => 0) 0 3 (cuA (eu χ 6) (b + 1)) fi ne ct 1) ∧ va_S A s.heap H locs) (fun j => [(0, .ref (r 0)), (1, .int (mI (grA (eu χ 6) (b + 1)))), (2, .int (mI (mn (lsA (eu χ 6) b) (lst (eu χ (b + 1)) b j)))), (3, .int (nI (b))), (5, .int (nI (16 * b + j)))]) 6 (fun j => 16 - j) 0 (⟨by omega, hP, hD, hS⟩) (lv_sub hl [3, 1, 4, 5, 0] rfl) (fun s9 H locs ls hI9 hl9 ih_113 => ?_)
              obtain ⟨j, rfl⟩ : ∃ z, z = s9 := ⟨_, rfl⟩
              have hl : lv_has ls 6 [(0, .ref (r 0)), (1, .int (mI (grA (eu χ 6) (b + 1)))), (2, .int (mI (mn (lsA (eu χ 6) b) (lst (eu χ (b + 1)) b j)))), (3, .int (nI (b))), (5, .int (nI (16 * b + j)))] := hl9
              obtain ⟨hj, hP, hD, hS⟩ : (j ≤ 16) ∧ va_P D vwCl (wM cI r (nI (0)) fp fa (eu χ (b + 1)) (fun _ => 0) 0 3 (cuA (eu χ 6) (b + 1)) fi ne ct 1) H ∧ va_D A (wM cI r (nI (0)) fp fa (eu χ (b + 1)) (fun _ => 0) 0 3 (cuA (eu χ 6) (b + 1)) fi ne ct 1) ∧ va_S A s.heap H locs := hI9
              have hk9 := lst_lt (wfs_eu hwf (b + 1) (by omega)) (show b < 6 by omega) j (by omega)
              have hm9 : mn (lsA (eu χ 6) b) (lst (eu χ (b + 1)) b j) < 65600 := by unfold mn; (repeat' split) <;> omega
              refine lv_iload hx hb dX3_start_113 (lv_at hl 4 rfl) ?_
              refine lv_bipush (v := nI 16) hx hb dX3_start_115 (by decide) ?_
              refine lv_iload_n hx hb dX3_start_117 rfl (lv_at hl 3 rfl) ?_
              refine xr_mul hx hb dX3_start_118 ?_
              refine lv_bipush (v := nI 16) hx hb dX3_start_119 (by decide) ?_
              refine xr_add hx hb dX3_start_121 ?_
              refine xi_ge (tgt := 165) hx hb dX3_start_122 (by decide) (nI_toInt (by omega)) (nI_toInt (by omega)) (fun c_122 => ?_) (fun c_122 => ?_)
              · refine lv_iinc (v := nI (b + 1)) (lv' := [(3, .int (nI (b + 1))), (0, .ref (r 0)), (1, .int (mI (grA (eu χ 6) (b + 1)))), (2, .int (mI (mn (lsA (eu χ 6) b) (lst (eu χ (b + 1)) b j)))), (5, .int (nI (16 * b + j)))]) hx hb dX3_start_165 hl (k := 3) rfl (nI_add _ _) (by decide) rfl (fun ls hl => ?_)
                refine lv_goto (tgt := 45) hx hb dX3_start_168 (by decide) ?_
                have e9 : mn (lsA (eu χ 6) b) (lst (eu χ (b + 1)) b j) = lsA (eu χ 6) (b + 1) := by rw [show j = 16 by omega, eu_lst (show b < 6 by omega)]; rfl
                rw [e9] at hl
                exact ih_45 (b + 1) _ _ _ (⟨by omega, hP, hD, hS⟩) (by first | omega | (dsimp only; omega)) (lv_sub hl [1, 2, 3, 0] rfl)
              · refine lv_aload_n hx hb dX3_start_125 rfl (lv_at hl 0 rfl) ?_
                refine lv_iload hx hb dX3_start_126 (lv_at hl 4 rfl) ?_
                refine xc_Vi (ci := 3) (rest := []) (As := [.int (nI (16 * b + j))]) ⟨hx, hb, hml, hown, hts⟩ (c_X3_isReadable l D r (nI 0) fp fa (eu χ (b + 1)) (fun _ => 0) 0 3 (cuA (eu χ 6) (b + 1)) fi ne ct 1 b (by omega) j (by omega) (fun i => by have h7 := (eu_le (χ := χ) (b + 1) (by omega) i).1; have h8 := hχ i; omega)) (cwV 1 hts gX3_start_X3_isReadable rfl rfl rfl (by decide +kernel) ⟨Nat.le_of_ble_eq_true rfl, Nat.le_of_ble_eq_true rfl⟩) hN hK (hP) rfl 0 rfl rfl hl.1 rfl (Nat.le_of_ble_eq_true rfl) dX3_start_128 ⟨Nat.le_of_ble_eq_true rfl, Nat.le_of_ble_eq_true rfl⟩ (fun r_128 hw_128 => ?_)
                refine xz_eq (tgt := 159) hx hb dX3_start_131 (by decide) rfl (fun c_131 => ?_) (fun c_131 => ?_)
                · have h_131 := bo.f hw_128 c_131
                  refine lv_iinc (v := nI (16 * b + j + 1)) (lv' := [(5, .int (nI (16 * b + j + 1))), (0, .ref (r 0)), (1, .int (mI (grA (eu χ 6) (b + 1)))), (2, .int (mI (mn (lsA (eu χ 6) b) (lst (eu χ (b + 1)) b j)))), (3, .int (nI (b)))]) hx hb dX3_start_159 hl (k := 4) rfl (nI_add _ _) (by decide) rfl (fun ls hl => ?_)
                  refine lv_goto (tgt := 113) hx hb dX3_start_162 (by decide) ?_
                  have e9 : mn (lsA (eu χ 6) b) (lst (eu χ (b + 1)) b j) = mn (lsA (eu χ 6) b) (lst (eu χ (b + 1)) b (j + 1)) := by first | rw [lst_out h_131] | (rw [lst_in h_131, ← mn_assoc]; generalize mn (lsA (eu χ 6) b) (lst (eu χ (b + 1)) b j) = z9 at *; unfold mn; (repeat' split) <;> omega)
                  rw [e9] at hl
                  exact ih_113 (j + 1) _ _ _ (⟨by omega, hP, hD, hS⟩) (by first | omega | (dsimp only; omega)) (lv_sub hl [1, 2, 3, 4, 0] rfl)
                · have h_131 := bo.t hw_128 c_131
                  refine lv_iload_n hx hb dX3_start_134 rfl (lv_at hl 2 rfl) ?_
                  refine xz_lt (tgt := 148) hx hb dX3_start_135 (by decide) (mI_toInt (by omega)) (fun c_135 => ?_) (fun c_135 => ?_)
                  · refine lv_aload_n hx hb dX3_start_148 rfl (lv_at hl 0 rfl) ?_
                    refine lv_iload hx hb dX3_start_149 (lv_at hl 4 rfl) ?_
                    refine xc_Vi (ci := 3) (rest := []) (As := [.int (nI (16 * b + j))]) ⟨hx, hb, hml, hown, hts⟩ (c_X3_firstOf l D r (nI 0) fp fa (eu χ (b + 1)) (fun _ => 0) 0 3 (cuA (eu χ 6) (b + 1)) fi ne ct 1 b (by omega) j (by omega) (fun i => by have h7 := (eu_le (χ := χ) (b + 1) (by omega) i).1; have h8 := hχ i; omega) (wfs_eu hwf (b + 1) (by omega)) h_131) (cwV 1 hts gX3_start_X3_firstOf rfl rfl rfl (by decide +kernel) ⟨Nat.le_of_ble_eq_true rfl, Nat.le_of_ble_eq_true rfl⟩) hN hK (hP) rfl 0 rfl rfl hl.1 rfl (Nat.le_of_ble_eq_true rfl) dX3_start_151 ⟨Nat.le_of_ble_eq_true rfl, Nat.le_of_ble_eq_true rfl⟩ (fun r_151 hw_151 => ?_)
                    subst hw_151
                    obtain ⟨hw0, hw1, hw2, -⟩ := wfs_eu hwf (b + 1) (by omega) b j (by omega) (by omega) h_131
                    refine lv_goto (tgt := 158) hx hb dX3_start_154 (by decide) ?_
                    refine xr_same (nI_mI (256 * byt (eu χ (b + 1)) b j 1 + byt (eu χ (b + 1)) b j 2)) ?_
                    refine lv_istore_n (lv' := [(2, .int (mI (256 * byt (eu χ (b + 1)) b j 1 + byt (eu χ (b + 1)) b j 2 + 1))), (0, .ref (r 0)), (1, .int (mI (grA (eu χ 6) (b + 1)))), (3, .int (nI (b))), (5, .int (nI (16 * b + j)))]) hx hb dX3_start_158 rfl hl (by decide) rfl (fun ls hl => ?_)
                    refine lv_iinc (v := nI (16 * b + j + 1)) (lv' := [(5, .int (nI (16 * b + j + 1))), (2, .int (mI (256 * byt (eu χ (b + 1)) b j 1 + byt (eu χ (b + 1)) b j 2 + 1))), (0, .ref (r 0)), (1, .int (mI (grA (eu χ 6) (b + 1)))), (3, .int (nI (b)))]) hx hb dX3_start_159 hl (k := 4) rfl (nI_add _ _) (by decide) rfl (fun ls hl => ?_)
                    refine lv_goto (tgt := 113) hx hb dX3_start_162 (by decide) ?_
                    have e9 : 256 * byt (eu χ (b + 1)) b j 1 + byt (eu χ (b + 1)) b j 2 + 1 = mn (lsA (eu χ 6) b) (lst (eu χ (b + 1)) b (j + 1)) := by first | rw [lst_out h_131] | (rw [lst_in h_131, ← mn_assoc]; generalize mn (lsA (eu χ 6) b) (lst (eu χ (b + 1)) b j) = z9 at *; unfold mn; (repeat' split) <;> omega)
                    rw [e9] at hl
                    exact ih_113 (j + 1) _ _ _ (⟨by omega, hP, hD, hS⟩) (by first | omega | (dsimp only; omega)) (lv_sub hl [2, 3, 1, 4, 0] rfl)
                  · refine lv_aload_n hx hb dX3_start_138 rfl (lv_at hl 0 rfl) ?_
                    refine lv_iload hx hb dX3_start_139 (lv_at hl 4 rfl) ?_
                    refine xc_Vi (ci := 3) (rest := []) (As := [.int (nI (16 * b + j))]) ⟨hx, hb, hml, hown, hts⟩ (c_X3_firstOf l D r (nI 0) fp fa (eu χ (b + 1)) (fun _ => 0) 0 3 (cuA (eu χ 6) (b + 1)) fi ne ct 1 b (by omega) j (by omega) (fun i => by have h7 := (eu_le (χ := χ) (b + 1) (by omega) i).1; have h8 := hχ i; omega) (wfs_eu hwf (b + 1) (by omega)) h_131) (cwV 1 hts gX3_start_X3_firstOf rfl rfl rfl (by decide +kernel) ⟨Nat.le_of_ble_eq_true rfl, Nat.le_of_ble_eq_true rfl⟩) hN hK (hP) rfl 0 rfl rfl hl.1 rfl (Nat.le_of_ble_eq_true rfl) dX3_start_141 ⟨Nat.le_of_ble_eq_true rfl, Nat.le_of_ble_eq_true rfl⟩ (fun r_141 hw_141 => ?_)
                    subst hw_141
                    obtain ⟨hw0, hw1, hw2, -⟩ := wfs_eu hwf (b + 1) (by omega) b j (by omega) (by omega) h_131
                    refine lv_iload_n hx hb dX3_start_144 rfl (lv_at hl 2 rfl) ?_
                    refine xi_ge (tgt := 157) hx hb dX3_start_145 (by decide) (nI_toInt (by omega)) (mI_toInt (by omega)) (fun c_145 => ?_) (fun c_145 => ?_)
                    · refine lv_iload_n hx hb dX3_start_157 rfl (lv_at hl 2 rfl) ?_
                      refine lv_istore_n (lv' := [(2, .int (mI (mn (lsA (eu χ 6) b) (lst (eu χ (b + 1)) b j)))), (0, .ref (r 0)), (1, .int (mI (grA (eu χ 6) (b + 1)))), (3, .int (nI (b))), (5, .int (nI (16 * b + j)))]) hx hb dX3_start_158 rfl hl (by decide) rfl (fun ls hl => ?_)
                      refine lv_iinc (v := nI (16 * b + j + 1)) (lv' := [(5, .int (nI (16 * b + j + 1))), (2, .int (mI (mn (lsA (eu χ 6) b) (lst (eu χ (b + 1)) b j)))), (0, .ref (r 0)), (1, .int (mI (grA (eu χ 6) (b + 1)))), (3, .int (nI (b)))]) hx hb dX3_start_159 hl (k := 4) rfl (nI_add _ _) (by decide) rfl (fun ls hl => ?_)
                      refine lv_goto (tgt := 113) hx hb dX3_start_162 (by decide) ?_
                      have e9 : mn (lsA (eu χ 6) b) (lst (eu χ (b + 1)) b j) = mn (lsA (eu χ 6) b) (lst (eu χ (b + 1)) b (j + 1)) := by first | rw [lst_out h_131] | (rw [lst_in h_131, ← mn_assoc]; generalize mn (lsA (eu χ 6) b) (lst (eu χ (b + 1)) b j) = z9 at *; unfold mn; (repeat' split) <;> omega)
                      rw [e9] at hl
                      exact ih_113 (j + 1) _ _ _ (⟨by omega, hP, hD, hS⟩) (by first | omega | (dsimp only; omega)) (lv_sub hl [2, 3, 1, 4, 0] rfl)
                    · refine lv_aload_n hx hb dX3_start_148 rfl (lv_at hl 0 rfl) ?_
                      refine lv_iload hx hb dX3_start_149 (lv_at hl 4 rfl) ?_
                      refine xc_Vi (ci := 3) (rest := []) (As := [.int (nI (16 * b + j))]) ⟨hx, hb, hml, hown, hts⟩ (c_X3_firstOf l D r (nI 0) fp fa (eu χ (b + 1)) (fun _ => 0) 0 3 (cuA (eu χ 6) (b + 1)) fi ne ct 1 b (by omega) j (by omega) (fun i => by have h7 := (eu_le (χ := χ) (b + 1) (by omega) i).1; have h8 := hχ i; omega) (wfs_eu hwf (b + 1) (by omega)) h_131) (cwV 1 hts gX3_start_X3_firstOf rfl rfl rfl (by decide +kernel) ⟨Nat.le_of_ble_eq_true rfl, Nat.le_of_ble_eq_true rfl⟩) hN hK (hP) rfl 0 rfl rfl hl.1 rfl (Nat.le_of_ble_eq_true rfl) dX3_start_151 ⟨Nat.le_of_ble_eq_true rfl, Nat.le_of_ble_eq_true rfl⟩ (fun r_151 hw_151 => ?_)
                      subst hw_151
                      obtain ⟨hw0, hw1, hw2, -⟩ := wfs_eu hwf (b + 1) (by omega) b j (by omega) (by omega) h_131
                      refine lv_goto (tgt := 158) hx hb dX3_start_154 (by decide) ?_
                      refine xr_same (nI_mI (256 * byt (eu χ (b + 1)) b j 1 + byt (eu χ (b + 1)) b j 2)) ?_
                      refine lv_istore_n (lv' := [(2, .int (mI (256 * byt (eu χ (b + 1)) b j 1 + byt (eu χ (b + 1)) b j 2 + 1))), (0, .ref (r 0)), (1, .int (mI (grA (eu χ 6) (b + 1)))), (3, .int (nI (b))), (5, .int (nI (16 * b + j)))]) hx hb dX3_start_158 rfl hl (by decide) rfl (fun ls hl => ?_)
                      refine lv_iinc (v := nI (16 * b + j + 1)) (lv' := [(5, .int (nI (16 * b + j + 1))), (2, .int (mI (256 * byt (eu χ (b + 1)) b j 1 + byt (eu χ (b + 1)) b j 2 + 1))), (0, .ref (r 0)), (1, .int (mI (grA (eu χ 6) (b + 1)))), (3, .int (nI (b)))]) hx hb dX3_start_159 hl (k := 4) rfl (nI_add _ _) (by decide) rfl (fun ls hl => ?_)
                      refine lv_goto (tgt := 113) hx hb dX3_start_162 (by decide) ?_
                      have e9 : 256 * byt (eu χ (b + 1)) b j 1 + byt (eu χ (b + 1)) b j 2 + 1 = mn (lsA (eu χ 6) b) (lst (eu χ (b + 1)) b (j + 1)) := by first | rw [lst_out h_131] | (rw [lst_in h_131, ← mn_assoc]; generalize mn (lsA (eu χ 6) b) (lst (eu χ (b + 1)) b j) = z9 at *; unfold mn; (repeat' split) <;> omega)
                      rw [e9] at hl
                      exact ih_113 (j + 1) _ _ _ (⟨by omega, hP, hD, hS⟩) (by first | omega | (dsimp only; omega)) (lv_sub hl [2, 3, 1, 4, 0] rfl)
        · refine lv_aload_n hx hb dX3_start_63 rfl (lv_at hl 1 rfl) ?_
          refine lv_iload_n hx hb dX3_start_64 rfl (lv_at hl 4 rfl) ?_
          refine xc_Vi (ci := 3) (rest := []) (As := [.int (nI (b))]) ⟨hx, hb, hml, hown, hts⟩ (c_X3_isErased l D r (nI 0) fp fa (eu χ b) (fun _ => 0) 0 3 (cuA (eu χ 6) b) fi ne ct 1 b (by omega) (fun i => by have h7 := (eu_le (χ := χ) b (by omega) i).1; have h8 := hχ i; omega) (pfx_eu hpx b (by omega))) (cwV 1 hts gX3_start_X3_isErased rfl rfl rfl (by decide +kernel) ⟨Nat.le_of_ble_eq_true rfl, Nat.le_of_ble_eq_true rfl⟩) hN hK (hP) rfl 0 rfl rfl hl.1 rfl (Nat.le_of_ble_eq_true rfl) dX3_start_65 ⟨Nat.le_of_ble_eq_true rfl, Nat.le_of_ble_eq_true rfl⟩ (fun r_65 hw_65 => ?_)
          refine xz_ne (tgt := 76) hx hb dX3_start_68 (by decide) rfl (fun c_68 => ?_) (fun c_68 => ?_)
          · have h_68 := bo.t hw_65 c_68
            have hee : eu χ (b + 1) = (eu χ b) := eu_out (fun h7 => by first | exact h7.1 h_68 | (have h8 := h7.2; omega))
            rw [← hee] at hP hD
            have hP : va_P D vwCl (wM cI r (nI (0)) fp fa (eu χ (b + 1)) (fun _ => 0) 0 3 (cuA (eu χ 6) b) fi ne ct 1) H := hP
            have hD : va_D A (wM cI r (nI (0)) fp fa (eu χ (b + 1)) (fun _ => 0) 0 3 (cuA (eu χ 6) b) fi ne ct 1) := hD
            refine lv_aload_n hx hb dX3_start_76 rfl (lv_at hl 1 rfl) ?_
            refine lv_iload hx hb dX3_start_77 (lv_at hl 0 rfl) ?_
            refine lv_iload_n hx hb dX3_start_79 rfl (lv_at hl 2 rfl) ?_
            refine xi_le (tgt := 87) hx hb dX3_start_80 (by decide) (mI_toInt (by omega)) (mI_toInt (by omega)) (fun c_80 => ?_) (fun c_80 => ?_)
            · refine lv_aload_n hx hb dX3_start_87 rfl (lv_at hl 1 rfl) ?_
              refine va_get (D := D) (ci := 3) (v := .int (nI ((cuA (eu χ 6) b)))) (C := RX3) (T := TX3) (N := 16) hx hb hts hiX3 hown hK hP 0 rfl rfl 8 (by decide) (hts (.fieldLink RX3 54 "PairedCellsModel" "current" "I") (by decide +kernel)) (fun _ h9 => h9) rfl dX3_start_88 ?_
              refine va_put (D := D) (ci := 3) (v := .int (nI ((cuA (eu χ 6) b)))) (ty := .int) (C := RX3) (T := TX3) (N := 16) hx hb hts hiX3 tyX3 tyX3_ok nmX3 hown hK hP hD hS 0 rfl rfl 8 (by decide) (hts (.fieldLink RX3 54 "PairedCellsModel" "current" "I") (by decide +kernel)) (fun _ h9 => h9) rfl (by decide +kernel) rfl rfl (Nat.le_of_ble_eq_true rfl) dX3_start_91 (fun H locs hP hD hS => ?_)
              have hP : va_P D vwCl (wM cI r (nI (0)) fp fa (eu χ (b + 1)) (fun _ => 0) 0 3 (cuA (eu χ 6) b) fi ne ct 1) H := hP
              have hD : va_D A (wM cI r (nI (0)) fp fa (eu χ (b + 1)) (fun _ => 0) 0 3 (cuA (eu χ 6) b) fi ne ct 1) := hD
              refine lv_iload hx hb dX3_start_94 (lv_at hl 0 rfl) ?_
              refine lv_iload_n hx hb dX3_start_96 rfl (lv_at hl 2 rfl) ?_
              refine xi_le (tgt := 105) hx hb dX3_start_97 (by decide) (mI_toInt (by omega)) (mI_toInt (by omega)) (fun c_97 => ?_) (fun c_97 => ?_)
              · refine lv_iload_n hx hb dX3_start_105 rfl (lv_at hl 2 rfl) ?_
                refine lv_istore_n (lv' := [(1, .int (mI (grA (eu χ 6) b))), (4, .int (mI (grt (eu χ b) b 16))), (0, .ref (r 0)), (2, .int (mI (lsA (eu χ 6) b))), (3, .int (nI (b)))]) hx hb dX3_start_106 rfl hl (by decide) rfl (fun ls hl => ?_)
                have e8 : (cuA (eu χ 6) b) = cuA (eu χ 6) (b + 1) := (cif_f (by omega)).symm
                have e9 : grA (eu χ 6) b = grA (eu χ 6) (b + 1) := by show _ = max (grA (eu χ 6) b) (grt (eu χ 6) b 16); omega
                have hq9 : (wM cI r (nI (0)) fp fa (eu χ (b + 1)) (fun _ => 0) 0 3 (cuA (eu χ 6) b) fi ne ct 1 : va_W) = wM cI r (nI (0)) fp fa (eu χ (b + 1)) (fun _ => 0) 0 3 (cuA (eu χ 6) (b + 1)) fi ne ct 1 := by rw [e8]
                have hP := va_P.eqw hq9 hP
                have hD := va_D.eqw hq9 hD
                have hP : va_P D vwCl (wM cI r (nI (0)) fp fa (eu χ (b + 1)) (fun _ => 0) 0 3 (cuA (eu χ 6) (b + 1)) fi ne ct 1) H := hP
                have hD : va_D A (wM cI r (nI (0)) fp fa (eu χ (b + 1)) (fun _ => 0) 0 3 (cuA (eu χ 6) (b + 1)) fi ne ct 1) := hD
                rw [e9] at hl
                refine lv_bipush (v := nI 16) hx hb dX3_start_107 (by decide) ?_
                refine lv_iload_n hx hb dX3_start_109 rfl (lv_at hl 4 rfl) ?_
                refine xr_mul hx hb dX3_start_110 ?_
                refine lv_istore (lv' := [(5, .int (nI (16 * b))), (1, .int (mI (grA (eu χ 6) (b + 1)))), (4, .int (mI (grt (eu χ b) b 16))), (0, .ref (r 0)), (2, .int (mI (lsA (eu χ 6) b))), (3, .int (nI (b)))]) hx hb dX3_start_111 hl (by decide) rfl (fun ls hl => ?_)
                refine lpW (α := Nat) (fun j H locs => (j ≤ 16) ∧ va_P D vwCl (wM cI r (nI (0)) fp fa (eu χ (b + 1)) (fun _ => 0) 0 3 (cuA (eu χ 6) (b + 1)) fi ne ct 1) H ∧ va_D A (wM cI r (nI (0)) fp fa (eu χ (b + 1)) (fun _ => 0) 0 3 (cuA (eu χ 6) (b + 1)) fi ne ct 1) ∧ va_S A s.heap H locs) (fun j => [(0, .ref (r 0)), (1, .int (mI (grA (eu χ 6) (b + 1)))), (2, .int (mI (mn (lsA (eu χ 6) b) (lst (eu χ (b + 1)) b j)))), (3, .int (nI (b))), (5, .int (nI (16 * b + j)))]) 6 (fun j => 16 - j) 0 (⟨by omega, hP, hD, hS⟩) (lv_sub hl [3, 1, 4, 5, 0] rfl) (fun s9 H locs ls hI9 hl9 ih_113 => ?_)
                obtain ⟨j, rfl⟩ : ∃ z, z = s9 := ⟨_, rfl⟩
                have hl : lv_has ls 6 [(0, .ref (r 0)), (1, .int (mI (grA (eu χ 6) (b + 1)))), (2, .int (mI (mn (lsA (eu χ 6) b) (lst (eu χ (b + 1)) b j)))), (3, .int (nI (b))), (5, .int (nI (16 * b + j)))] := hl9
                obtain ⟨hj, hP, hD, hS⟩ : (j ≤ 16) ∧ va_P D vwCl (wM cI r (nI (0)) fp fa (eu χ (b + 1)) (fun _ => 0) 0 3 (cuA (eu χ 6) (b + 1)) fi ne ct 1) H ∧ va_D A (wM cI r (nI (0)) fp fa (eu χ (b + 1)) (fun _ => 0) 0 3 (cuA (eu χ 6) (b + 1)) fi ne ct 1) ∧ va_S A s.heap H locs := hI9
                have hk9 := lst_lt (wfs_eu hwf (b + 1) (by omega)) (show b < 6 by omega) j (by omega)
                have hm9 : mn (lsA (eu χ 6) b) (lst (eu χ (b + 1)) b j) < 65600 := by unfold mn; (repeat' split) <;> omega
                refine lv_iload hx hb dX3_start_113 (lv_at hl 4 rfl) ?_
                refine lv_bipush (v := nI 16) hx hb dX3_start_115 (by decide) ?_
                refine lv_iload_n hx hb dX3_start_117 rfl (lv_at hl 3 rfl) ?_
                refine xr_mul hx hb dX3_start_118 ?_
                refine lv_bipush (v := nI 16) hx hb dX3_start_119 (by decide) ?_
                refine xr_add hx hb dX3_start_121 ?_
                refine xi_ge (tgt := 165) hx hb dX3_start_122 (by decide) (nI_toInt (by omega)) (nI_toInt (by omega)) (fun c_122 => ?_) (fun c_122 => ?_)
                · refine lv_iinc (v := nI (b + 1)) (lv' := [(3, .int (nI (b + 1))), (0, .ref (r 0)), (1, .int (mI (grA (eu χ 6) (b + 1)))), (2, .int (mI (mn (lsA (eu χ 6) b) (lst (eu χ (b + 1)) b j)))), (5, .int (nI (16 * b + j)))]) hx hb dX3_start_165 hl (k := 3) rfl (nI_add _ _) (by decide) rfl (fun ls hl => ?_)
                  refine lv_goto (tgt := 45) hx hb dX3_start_168 (by decide) ?_
                  have e9 : mn (lsA (eu χ 6) b) (lst (eu χ (b + 1)) b j) = lsA (eu χ 6) (b + 1) := by rw [show j = 16 by omega, eu_lst (show b < 6 by omega)]; rfl
                  rw [e9] at hl
                  exact ih_45 (b + 1) _ _ _ (⟨by omega, hP, hD, hS⟩) (by first | omega | (dsimp only; omega)) (lv_sub hl [1, 2, 3, 0] rfl)
                · refine lv_aload_n hx hb dX3_start_125 rfl (lv_at hl 0 rfl) ?_
                  refine lv_iload hx hb dX3_start_126 (lv_at hl 4 rfl) ?_
                  refine xc_Vi (ci := 3) (rest := []) (As := [.int (nI (16 * b + j))]) ⟨hx, hb, hml, hown, hts⟩ (c_X3_isReadable l D r (nI 0) fp fa (eu χ (b + 1)) (fun _ => 0) 0 3 (cuA (eu χ 6) (b + 1)) fi ne ct 1 b (by omega) j (by omega) (fun i => by have h7 := (eu_le (χ := χ) (b + 1) (by omega) i).1; have h8 := hχ i; omega)) (cwV 1 hts gX3_start_X3_isReadable rfl rfl rfl (by decide +kernel) ⟨Nat.le_of_ble_eq_true rfl, Nat.le_of_ble_eq_true rfl⟩) hN hK (hP) rfl 0 rfl rfl hl.1 rfl (Nat.le_of_ble_eq_true rfl) dX3_start_128 ⟨Nat.le_of_ble_eq_true rfl, Nat.le_of_ble_eq_true rfl⟩ (fun r_128 hw_128 => ?_)
                  refine xz_eq (tgt := 159) hx hb dX3_start_131 (by decide) rfl (fun c_131 => ?_) (fun c_131 => ?_)
                  · have h_131 := bo.f hw_128 c_131
                    refine lv_iinc (v := nI (16 * b + j + 1)) (lv' := [(5, .int (nI (16 * b + j + 1))), (0, .ref (r 0)), (1, .int (mI (grA (eu χ 6) (b + 1)))), (2, .int (mI (mn (lsA (eu χ 6) b) (lst (eu χ (b + 1)) b j)))), (3, .int (nI (b)))]) hx hb dX3_start_159 hl (k := 4) rfl (nI_add _ _) (by decide) rfl (fun ls hl => ?_)
                    refine lv_goto (tgt := 113) hx hb dX3_start_162 (by decide) ?_
                    have e9 : mn (lsA (eu χ 6) b) (lst (eu χ (b + 1)) b j) = mn (lsA (eu χ 6) b) (lst (eu χ (b + 1)) b (j + 1)) := by first | rw [lst_out h_131] | (rw [lst_in h_131, ← mn_assoc]; generalize mn (lsA (eu χ 6) b) (lst (eu χ (b + 1)) b j) = z9 at *; unfold mn; (repeat' split) <;> omega)
                    rw [e9] at hl
                    exact ih_113 (j + 1) _ _ _ (⟨by omega, hP, hD, hS⟩) (by first | omega | (dsimp only; omega)) (lv_sub hl [1, 2, 3, 4, 0] rfl)
                  · have h_131 := bo.t hw_128 c_131
                    refine lv_iload_n hx hb dX3_start_134 rfl (lv_at hl 2 rfl) ?_
                    refine xz_lt (tgt := 148) hx hb dX3_start_135 (by decide) (mI_toInt (by omega)) (fun c_135 => ?_) (fun c_135 => ?_)
                    · refine lv_aload_n hx hb dX3_start_148 rfl (lv_at hl 0 rfl) ?_
                      refine lv_iload hx hb dX3_start_149 (lv_at hl 4 rfl) ?_
                      refine xc_Vi (ci := 3) (rest := []) (As := [.int (nI (16 * b + j))]) ⟨hx, hb, hml, hown, hts⟩ (c_X3_firstOf l D r (nI 0) fp fa (eu χ (b + 1)) (fun _ => 0) 0 3 (cuA (eu χ 6) (b + 1)) fi ne ct 1 b (by omega) j (by omega) (fun i => by have h7 := (eu_le (χ := χ) (b + 1) (by omega) i).1; have h8 := hχ i; omega) (wfs_eu hwf (b + 1) (by omega)) h_131) (cwV 1 hts gX3_start_X3_firstOf rfl rfl rfl (by decide +kernel) ⟨Nat.le_of_ble_eq_true rfl, Nat.le_of_ble_eq_true rfl⟩) hN hK (hP) rfl 0 rfl rfl hl.1 rfl (Nat.le_of_ble_eq_true rfl) dX3_start_151 ⟨Nat.le_of_ble_eq_true rfl, Nat.le_of_ble_eq_true rfl⟩ (fun r_151 hw_151 => ?_)
                      subst hw_151
                      obtain ⟨hw0, hw1, hw2, -⟩ := wfs_eu hwf (b + 1) (by omega) b j (by omega) (by omega) h_131
                      refine lv_goto (tgt := 158) hx hb dX3_start_154 (by decide) ?_
                      refine xr_same (nI_mI (256 * byt (eu χ (b + 1)) b j 1 + byt (eu χ (b + 1)) b j 2)) ?_
                      refine lv_istore_n (lv' := [(2, .int (mI (256 * byt (eu χ (b + 1)) b j 1 + byt (eu χ (b + 1)) b j 2 + 1))), (0, .ref (r 0)), (1, .int (mI (grA (eu χ 6) (b + 1)))), (3, .int (nI (b))), (5, .int (nI (16 * b + j)))]) hx hb dX3_start_158 rfl hl (by decide) rfl (fun ls hl => ?_)
                      refine lv_iinc (v := nI (16 * b + j + 1)) (lv' := [(5, .int (nI (16 * b + j + 1))), (2, .int (mI (256 * byt (eu χ (b + 1)) b j 1 + byt (eu χ (b + 1)) b j 2 + 1))), (0, .ref (r 0)), (1, .int (mI (grA (eu χ 6) (b + 1)))), (3, .int (nI (b)))]) hx hb dX3_start_159 hl (k := 4) rfl (nI_add _ _) (by decide) rfl (fun ls hl => ?_)
                      refine lv_goto (tgt := 113) hx hb dX3_start_162 (by decide) ?_
                      have e9 : 256 * byt (eu χ (b + 1)) b j 1 + byt (eu χ (b + 1)) b j 2 + 1 = mn (lsA (eu χ 6) b) (lst (eu χ (b + 1)) b (j + 1)) := by first | rw [lst_out h_131] | (rw [lst_in h_131, ← mn_assoc]; generalize mn (lsA (eu χ 6) b) (lst (eu χ (b + 1)) b j) = z9 at *; unfold mn; (repeat' split) <;> omega)
                      rw [e9] at hl
                      exact ih_113 (j + 1) _ _ _ (⟨by omega, hP, hD, hS⟩) (by first | omega | (dsimp only; omega)) (lv_sub hl [2, 3, 1, 4, 0] rfl)
                    · refine lv_aload_n hx hb dX3_start_138 rfl (lv_at hl 0 rfl) ?_
                      refine lv_iload hx hb dX3_start_139 (lv_at hl 4 rfl) ?_
                      refine xc_Vi (ci := 3) (rest := []) (As := [.int (nI (16 * b + j))]) ⟨hx, hb, hml, hown, hts⟩ (c_X3_firstOf l D r (nI 0) fp fa (eu χ (b + 1)) (fun _ => 0) 0 3 (cuA (eu χ 6) (b + 1)) fi ne ct 1 b (by omega) j (by omega) (fun i => by have h7 := (eu_le (χ := χ) (b + 1) (by omega) i).1; have h8 := hχ i; omega) (wfs_eu hwf (b + 1) (by omega)) h_131) (cwV 1 hts gX3_start_X3_firstOf rfl rfl rfl (by decide +kernel) ⟨Nat.le_of_ble_eq_true rfl, Nat.le_of_ble_eq_true rfl⟩) hN hK (hP) rfl 0 rfl rfl hl.1 rfl (Nat.le_of_ble_eq_true rfl) dX3_start_141 ⟨Nat.le_of_ble_eq_true rfl, Nat.le_of_ble_eq_true rfl⟩ (fun r_141 hw_141 => ?_)
                      subst hw_141
                      obtain ⟨hw0, hw1, hw2, -⟩ := wfs_eu hwf (b + 1) (by omega) b j (by omega) (by omega) h_131
                      refine lv_iload_n hx hb dX3_start_144 rfl (lv_at hl 2 rfl) ?_
                      refine xi_ge (tgt := 157) hx hb dX3_start_145 (by decide) (nI_toInt (by omega)) (mI_toInt (by omega)) (fun c_145 => ?_) (fun c_145 => ?_)
                      · refine lv_iload_n hx hb dX3_start_157 rfl (lv_at hl 2 rfl) ?_
                        refine lv_istore_n (lv' := [(2, .int (mI (mn (lsA (eu χ 6) b) (lst (eu χ (b + 1)) b j)))), (0, .ref (r 0)), (1, .int (mI (grA (eu χ 6) (b + 1)))), (3, .int (nI (b))), (5, .int (nI (16 * b + j)))]) hx hb dX3_start_158 rfl hl (by decide) rfl (fun ls hl => ?_)
                        refine lv_iinc (v := nI (16 * b + j + 1)) (lv' := [(5, .int (nI (16 * b + j + 1))), (2, .int (mI (mn (lsA (eu χ 6) b) (lst (eu χ (b + 1)) b j)))), (0, .ref (r 0)), (1, .int (mI (grA (eu χ 6) (b + 1)))), (3, .int (nI (b)))]) hx hb dX3_start_159 hl (k := 4) rfl (nI_add _ _) (by decide) rfl (fun ls hl => ?_)
                        refine lv_goto (tgt := 113) hx hb dX3_start_162 (by decide) ?_
                        have e9 : mn (lsA (eu χ 6) b) (lst (eu χ (b + 1)) b j) = mn (lsA (eu χ 6) b) (lst (eu χ (b + 1)) b (j + 1)) := by first | rw [lst_out h_131] | (rw [lst_in h_131, ← mn_assoc]; generalize mn (lsA (eu χ 6) b) (lst (eu χ (b + 1)) b j) = z9 at *; unfold mn; (repeat' split) <;> omega)
                        rw [e9] at hl
                        exact ih_113 (j + 1) _ _ _ (⟨by omega, hP, hD, hS⟩) (by first | omega | (dsimp only; omega)) (lv_sub hl [2, 3, 1, 4, 0] rfl)
                      · refine lv_aload_n hx hb dX3_start_148 rfl (lv_at hl 0 rfl) ?_
                        refine lv_iload hx hb dX3_start_149 (lv_at hl 4 rfl) ?_
                        refine xc_Vi (ci := 3) (rest := []) (As := [.int (nI (16 * b + j))]) ⟨hx, hb, hml, hown, hts⟩ (c_X3_firstOf l D r (nI 0) fp fa (eu χ (b + 1)) (fun _ => 0) 0 3 (cuA (eu χ 6) (b + 1)) fi ne ct 1 b (by omega) j (by omega) (fun i => by have h7 := (eu_le (χ := χ) (b + 1) (by omega) i).1; have h8 := hχ i; omega) (wfs_eu hwf (b + 1) (by omega)) h_131) (cwV 1 hts gX3_start_X3_firstOf rfl rfl rfl (by decide +kernel) ⟨Nat.le_of_ble_eq_true rfl, Nat.le_of_ble_eq_true rfl⟩) hN hK (hP) rfl 0 rfl rfl hl.1 rfl (Nat.le_of_ble_eq_true rfl) dX3_start_151 ⟨Nat.le_of_ble_eq_true rfl, Nat.le_of_ble_eq_true rfl⟩ (fun r_151 hw_151 => ?_)
                        subst hw_151
                        obtain ⟨hw0, hw1, hw2, -⟩ := wfs_eu hwf (b + 1) (by omega) b j (by omega) (by omega) h_131
                        refine lv_goto (tgt := 158) hx hb dX3_start_154 (by decide) ?_
                        refine xr_same (nI_mI (256 * byt (eu χ (b + 1)) b j 1 + byt (eu χ (b + 1)) b j 2)) ?_
                        refine lv_istore_n (lv' := [(2, .int (mI (256 * byt (eu χ (b + 1)) b j 1 + byt (eu χ (b + 1)) b j 2 + 1))), (0, .ref (r 0)), (1, .int (mI (grA (eu χ 6) (b + 1)))), (3, .int (nI (b))), (5, .int (nI (16 * b + j)))]) hx hb dX3_start_158 rfl hl (by decide) rfl (fun ls hl => ?_)
                        refine lv_iinc (v := nI (16 * b + j + 1)) (lv' := [(5, .int (nI (16 * b + j + 1))), (2, .int (mI (256 * byt (eu χ (b + 1)) b j 1 + byt (eu χ (b + 1)) b j 2 + 1))), (0, .ref (r 0)), (1, .int (mI (grA (eu χ 6) (b + 1)))), (3, .int (nI (b)))]) hx hb dX3_start_159 hl (k := 4) rfl (nI_add _ _) (by decide) rfl (fun ls hl => ?_)
                        refine lv_goto (tgt := 113) hx hb dX3_start_162 (by decide) ?_
                        have e9 : 256 * byt (eu χ (b + 1)) b j 1 + byt (eu χ (b + 1)) b j 2 + 1 = mn (lsA (eu χ 6) b) (lst (eu χ (b + 1)) b (j + 1)) := by first | rw [lst_out h_131] | (rw [lst_in h_131, ← mn_assoc]; generalize mn (lsA (eu χ 6) b) (lst (eu χ (b + 1)) b j) = z9 at *; unfold mn; (repeat' split) <;> omega)
                        rw [e9] at hl
                        exact ih_113 (j + 1) _ _ _ (⟨by omega, hP, hD, hS⟩) (by first | omega | (dsimp only; omega)) (lv_sub hl [2, 3, 1, 4, 0] rfl)
              · refine lv_iload hx hb dX3_start_100 (lv_at hl 0 rfl) ?_
                refine lv_goto (tgt := 106) hx hb dX3_start_102 (by decide) ?_
                refine lv_istore_n (lv' := [(1, .int (mI (grt (eu χ b) b 16))), (4, .int (mI (grt (eu χ b) b 16))), (0, .ref (r 0)), (2, .int (mI (lsA (eu χ 6) b))), (3, .int (nI (b)))]) hx hb dX3_start_106 rfl hl (by decide) rfl (fun ls hl => ?_)
                have e8 : (cuA (eu χ 6) b) = cuA (eu χ 6) (b + 1) := (cif_f (by omega)).symm
                have e9 : grt (eu χ b) b 16 = grA (eu χ 6) (b + 1) := by show _ = max (grA (eu χ 6) b) (grt (eu χ 6) b 16); omega
                have hq9 : (wM cI r (nI (0)) fp fa (eu χ (b + 1)) (fun _ => 0) 0 3 (cuA (eu χ 6) b) fi ne ct 1 : va_W) = wM cI r (nI (0)) fp fa (eu χ (b + 1)) (fun _ => 0) 0 3 (cuA (eu χ 6) (b + 1)) fi ne ct 1 := by rw [e8]
                have hP := va_P.eqw hq9 hP
                have hD := va_D.eqw hq9 hD
                have hP : va_P D vwCl (wM cI r (nI (0)) fp fa (eu χ (b + 1)) (fun _ => 0) 0 3 (cuA (eu χ 6) (b + 1)) fi ne ct 1) H := hP
                have hD : va_D A (wM cI r (nI (0)) fp fa (eu χ (b + 1)) (fun _ => 0) 0 3 (cuA (eu χ 6) (b + 1)) fi ne ct 1) := hD
                rw [e9] at hl
                refine lv_bipush (v := nI 16) hx hb dX3_start_107 (by decide) ?_
                refine lv_iload_n hx hb dX3_start_109 rfl (lv_at hl 4 rfl) ?_
                refine xr_mul hx hb dX3_start_110 ?_
                refine lv_istore (lv' := [(5, .int (nI (16 * b))), (1, .int (mI (grA (eu χ 6) (b + 1)))), (4, .int (mI (grA (eu χ 6) (b + 1)))), (0, .ref (r 0)), (2, .int (mI (lsA (eu χ 6) b))), (3, .int (nI (b)))]) hx hb dX3_start_111 hl (by decide) rfl (fun ls hl => ?_)
                refine lpW (α := Nat) (fun j H locs => (j ≤ 16) ∧ va_P D vwCl (wM cI r (nI (0)) fp fa (eu χ (b + 1)) (fun _ => 0) 0 3 (cuA (eu χ 6) (b + 1)) fi ne ct 1) H ∧ va_D A (wM cI r (nI (0)) fp fa (eu χ (b + 1)) (fun _ => 0) 0 3 (cuA (eu χ 6) (b + 1)) fi ne ct 1) ∧ va_S A s.heap H locs) (fun j => [(0, .ref (r 0)), (1, .int (mI (grA (eu χ 6) (b + 1)))), (2, .int (mI (mn (lsA (eu χ 6) b) (lst (eu χ (b + 1)) b j)))), (3, .int (nI (b))), (5, .int (nI (16 * b + j)))]) 6 (fun j => 16 - j) 0 (⟨by omega, hP, hD, hS⟩) (lv_sub hl [3, 1, 4, 5, 0] rfl) (fun s9 H locs ls hI9 hl9 ih_113 => ?_)
                obtain ⟨j, rfl⟩ : ∃ z, z = s9 := ⟨_, rfl⟩
                have hl : lv_has ls 6 [(0, .ref (r 0)), (1, .int (mI (grA (eu χ 6) (b + 1)))), (2, .int (mI (mn (lsA (eu χ 6) b) (lst (eu χ (b + 1)) b j)))), (3, .int (nI (b))), (5, .int (nI (16 * b + j)))] := hl9
                obtain ⟨hj, hP, hD, hS⟩ : (j ≤ 16) ∧ va_P D vwCl (wM cI r (nI (0)) fp fa (eu χ (b + 1)) (fun _ => 0) 0 3 (cuA (eu χ 6) (b + 1)) fi ne ct 1) H ∧ va_D A (wM cI r (nI (0)) fp fa (eu χ (b + 1)) (fun _ => 0) 0 3 (cuA (eu χ 6) (b + 1)) fi ne ct 1) ∧ va_S A s.heap H locs := hI9
                have hk9 := lst_lt (wfs_eu hwf (b + 1) (by omega)) (show b < 6 by omega) j (by omega)
                have hm9 : mn (lsA (eu χ 6) b) (lst (eu χ (b + 1)) b j) < 65600 := by unfold mn; (repeat' split) <;> omega
                refine lv_iload hx hb dX3_start_113 (lv_at hl 4 rfl) ?_
                refine lv_bipush (v := nI 16) hx hb dX3_start_115 (by decide) ?_
                refine lv_iload_n hx hb dX3_start_117 rfl (lv_at hl 3 rfl) ?_
                refine xr_mul hx hb dX3_start_118 ?_
                refine lv_bipush (v := nI 16) hx hb dX3_start_119 (by decide) ?_
                refine xr_add hx hb dX3_start_121 ?_
                refine xi_ge (tgt := 165) hx hb dX3_start_122 (by decide) (nI_toInt (by omega)) (nI_toInt (by omega)) (fun c_122 => ?_) (fun c_122 => ?_)
                · refine lv_iinc (v := nI (b + 1)) (lv' := [(3, .int (nI (b + 1))), (0, .ref (r 0)), (1, .int (mI (grA (eu χ 6) (b + 1)))), (2, .int (mI (mn (lsA (eu χ 6) b) (lst (eu χ (b + 1)) b j)))), (5, .int (nI (16 * b + j)))]) hx hb dX3_start_165 hl (k := 3) rfl (nI_add _ _) (by decide) rfl (fun ls hl => ?_)
                  refine lv_goto (tgt := 45) hx hb dX3_start_168 (by decide) ?_
                  have e9 : mn (lsA (eu χ 6) b) (lst (eu χ (b + 1)) b j) = lsA (eu χ 6) (b + 1) := by rw [show j = 16 by omega, eu_lst (show b < 6 by omega)]; rfl
                  rw [e9] at hl
                  exact ih_45 (b + 1) _ _ _ (⟨by omega, hP, hD, hS⟩) (by first | omega | (dsimp only; omega)) (lv_sub hl [1, 2, 3, 0] rfl)
                · refine lv_aload_n hx hb dX3_start_125 rfl (lv_at hl 0 rfl) ?_
                  refine lv_iload hx hb dX3_start_126 (lv_at hl 4 rfl) ?_
                  refine xc_Vi (ci := 3) (rest := []) (As := [.int (nI (16 * b + j))]) ⟨hx, hb, hml, hown, hts⟩ (c_X3_isReadable l D r (nI 0) fp fa (eu χ (b + 1)) (fun _ => 0) 0 3 (cuA (eu χ 6) (b + 1)) fi ne ct 1 b (by omega) j (by omega) (fun i => by have h7 := (eu_le (χ := χ) (b + 1) (by omega) i).1; have h8 := hχ i; omega)) (cwV 1 hts gX3_start_X3_isReadable rfl rfl rfl (by decide +kernel) ⟨Nat.le_of_ble_eq_true rfl, Nat.le_of_ble_eq_true rfl⟩) hN hK (hP) rfl 0 rfl rfl hl.1 rfl (Nat.le_of_ble_eq_true rfl) dX3_start_128 ⟨Nat.le_of_ble_eq_true rfl, Nat.le_of_ble_eq_true rfl⟩ (fun r_128 hw_128 => ?_)
                  refine xz_eq (tgt := 159) hx hb dX3_start_131 (by decide) rfl (fun c_131 => ?_) (fun c_131 => ?_)
                  · have h_131 := bo.f hw_128 c_131
                    refine lv_iinc (v := nI (16 * b + j + 1)) (lv' := [(5, .int (nI (16 * b + j + 1))), (0, .ref (r 0)), (1, .int (mI (grA (eu χ 6) (b + 1)))), (2, .int (mI (mn (lsA (eu χ 6) b) (lst (eu χ (b + 1)) b j)))), (3, .int (nI (b)))]) hx hb dX3_start_159 hl (k := 4) rfl (nI_add _ _) (by decide) rfl (fun ls hl => ?_)
                    refine lv_goto (tgt := 113) hx hb dX3_start_162 (by decide) ?_
                    have e9 : mn (lsA (eu χ 6) b) (lst (eu χ (b + 1)) b j) = mn (lsA (eu χ 6) b) (lst (eu χ (b + 1)) b (j + 1)) := by first | rw [lst_out h_131] | (rw [lst_in h_131, ← mn_assoc]; generalize mn (lsA (eu χ 6) b) (lst (eu χ (b + 1)) b j) = z9 at *; unfold mn; (repeat' split) <;> omega)
                    rw [e9] at hl
                    exact ih_113 (j + 1) _ _ _ (⟨by omega, hP, hD, hS⟩) (by first | omega | (dsimp only; omega)) (lv_sub hl [1, 2, 3, 4, 0] rfl)
                  · have h_131 := bo.t hw_128 c_131
                    refine lv_iload_n hx hb dX3_start_134 rfl (lv_at hl 2 rfl) ?_
                    refine xz_lt (tgt := 148) hx hb dX3_start_135 (by decide) (mI_toInt (by omega)) (fun c_135 => ?_) (fun c_135 => ?_)
                    · refine lv_aload_n hx hb dX3_start_148 rfl (lv_at hl 0 rfl) ?_
                      refine lv_iload hx hb dX3_start_149 (lv_at hl 4 rfl) ?_
                      refine xc_Vi (ci := 3) (rest := []) (As := [.int (nI (16 * b + j))]) ⟨hx, hb, hml, hown, hts⟩ (c_X3_firstOf l D r (nI 0) fp fa (eu χ (b + 1)) (fun _ => 0) 0 3 (cuA (eu χ 6) (b + 1)) fi ne ct 1 b (by omega) j (by omega) (fun i => by have h7 := (eu_le (χ := χ) (b + 1) (by omega) i).1; have h8 := hχ i; omega) (wfs_eu hwf (b + 1) (by omega)) h_131) (cwV 1 hts gX3_start_X3_firstOf rfl rfl rfl (by decide +kernel) ⟨Nat.le_of_ble_eq_true rfl, Nat.le_of_ble_eq_true rfl⟩) hN hK (hP) rfl 0 rfl rfl hl.1 rfl (Nat.le_of_ble_eq_true rfl) dX3_start_151 ⟨Nat.le_of_ble_eq_true rfl, Nat.le_of_ble_eq_true rfl⟩ (fun r_151 hw_151 => ?_)
                      subst hw_151
                      obtain ⟨hw0, hw1, hw2, -⟩ := wfs_eu hwf (b + 1) (by omega) b j (by omega) (by omega) h_131
                      refine lv_goto (tgt := 158) hx hb dX3_start_154 (by decide) ?_
                      refine xr_same (nI_mI (256 * byt (eu χ (b + 1)) b j 1 + byt (eu χ (b + 1)) b j 2)) ?_
                      refine lv_istore_n (lv' := [(2, .int (mI (256 * byt (eu χ (b + 1)) b j 1 + byt (eu χ (b + 1)) b j 2 + 1))), (0, .ref (r 0)), (1, .int (mI (grA (eu χ 6) (b + 1)))), (3, .int (nI (b))), (5, .int (nI (16 * b + j)))]) hx hb dX3_start_158 rfl hl (by decide) rfl (fun ls hl => ?_)
                      refine lv_iinc (v := nI (16 * b + j + 1)) (lv' := [(5, .int (nI (16 * b + j + 1))), (2, .int (mI (256 * byt (eu χ (b + 1)) b j 1 + byt (eu χ (b + 1)) b j 2 + 1))), (0, .ref (r 0)), (1, .int (mI (grA (eu χ 6) (b + 1)))), (3, .int (nI (b)))]) hx hb dX3_start_159 hl (k := 4) rfl (nI_add _ _) (by decide) rfl (fun ls hl => ?_)
                      refine lv_goto (tgt := 113) hx hb dX3_start_162 (by decide) ?_
                      have e9 : 256 * byt (eu χ (b + 1)) b j 1 + byt (eu χ (b + 1)) b j 2 + 1 = mn (lsA (eu χ 6) b) (lst (eu χ (b + 1)) b (j + 1)) := by first | rw [lst_out h_131] | (rw [lst_in h_131, ← mn_assoc]; generalize mn (lsA (eu χ 6) b) (lst (eu χ (b + 1)) b j) = z9 at *; unfold mn; (repeat' split) <;> omega)
                      rw [e9] at hl
                      exact ih_113 (j + 1) _ _ _ (⟨by omega, hP, hD, hS⟩) (by first | omega | (dsimp only; omega)) (lv_sub hl [2, 3, 1, 4, 0] rfl)
                    · refine lv_aload_n hx hb dX3_start_138 rfl (lv_at hl 0 rfl) ?_
                      refine lv_iload hx hb dX3_start_139 (lv_at hl 4 rfl) ?_
                      refine xc_Vi (ci := 3) (rest := []) (As := [.int (nI (16 * b + j))]) ⟨hx, hb, hml, hown, hts⟩ (c_X3_firstOf l D r (nI 0) fp fa (eu χ (b + 1)) (fun _ => 0) 0 3 (cuA (eu χ 6) (b + 1)) fi ne ct 1 b (by omega) j (by omega) (fun i => by have h7 := (eu_le (χ := χ) (b + 1) (by omega) i).1; have h8 := hχ i; omega) (wfs_eu hwf (b + 1) (by omega)) h_131) (cwV 1 hts gX3_start_X3_firstOf rfl rfl rfl (by decide +kernel) ⟨Nat.le_of_ble_eq_true rfl, Nat.le_of_ble_eq_true rfl⟩) hN hK (hP) rfl 0 rfl rfl hl.1 rfl (Nat.le_of_ble_eq_true rfl) dX3_start_141 ⟨Nat.le_of_ble_eq_true rfl, Nat.le_of_ble_eq_true rfl⟩ (fun r_141 hw_141 => ?_)
                      subst hw_141
                      obtain ⟨hw0, hw1, hw2, -⟩ := wfs_eu hwf (b + 1) (by omega) b j (by omega) (by omega) h_131
                      refine lv_iload_n hx hb dX3_start_144 rfl (lv_at hl 2 rfl) ?_
                      refine xi_ge (tgt := 157) hx hb dX3_start_145 (by decide) (nI_toInt (by omega)) (mI_toInt (by omega)) (fun c_145 => ?_) (fun c_145 => ?_)
                      · refine lv_iload_n hx hb dX3_start_157 rfl (lv_at hl 2 rfl) ?_
                        refine lv_istore_n (lv' := [(2, .int (mI (mn (lsA (eu χ 6) b) (lst (eu χ (b + 1)) b j)))), (0, .ref (r 0)), (1, .int (mI (grA (eu χ 6) (b + 1)))), (3, .int (nI (b))), (5, .int (nI (16 * b + j)))]) hx hb dX3_start_158 rfl hl (by decide) rfl (fun ls hl => ?_)
                        refine lv_iinc (v := nI (16 * b + j + 1)) (lv' := [(5, .int (nI (16 * b + j + 1))), (2, .int (mI (mn (lsA (eu χ 6) b) (lst (eu χ (b + 1)) b j)))), (0, .ref (r 0)), (1, .int (mI (grA (eu χ 6) (b + 1)))), (3, .int (nI (b)))]) hx hb dX3_start_159 hl (k := 4) rfl (nI_add _ _) (by decide) rfl (fun ls hl => ?_)
                        refine lv_goto (tgt := 113) hx hb dX3_start_162 (by decide) ?_
                        have e9 : mn (lsA (eu χ 6) b) (lst (eu χ (b + 1)) b j) = mn (lsA (eu χ 6) b) (lst (eu χ (b + 1)) b (j + 1)) := by first | rw [lst_out h_131] | (rw [lst_in h_131, ← mn_assoc]; generalize mn (lsA (eu χ 6) b) (lst (eu χ (b + 1)) b j) = z9 at *; unfold mn; (repeat' split) <;> omega)
                        rw [e9] at hl
                        exact ih_113 (j + 1) _ _ _ (⟨by omega, hP, hD, hS⟩) (by first | omega | (dsimp only; omega)) (lv_sub hl [2, 3, 1, 4, 0] rfl)
                      · refine lv_aload_n hx hb dX3_start_148 rfl (lv_at hl 0 rfl) ?_
                        refine lv_iload hx hb dX3_start_149 (lv_at hl 4 rfl) ?_
                        refine xc_Vi (ci := 3) (rest := []) (As := [.int (nI (16 * b + j))]) ⟨hx, hb, hml, hown, hts⟩ (c_X3_firstOf l D r (nI 0) fp fa (eu χ (b + 1)) (fun _ => 0) 0 3 (cuA (eu χ 6) (b + 1)) fi ne ct 1 b (by omega) j (by omega) (fun i => by have h7 := (eu_le (χ := χ) (b + 1) (by omega) i).1; have h8 := hχ i; omega) (wfs_eu hwf (b + 1) (by omega)) h_131) (cwV 1 hts gX3_start_X3_firstOf rfl rfl rfl (by decide +kernel) ⟨Nat.le_of_ble_eq_true rfl, Nat.le_of_ble_eq_true rfl⟩) hN hK (hP) rfl 0 rfl rfl hl.1 rfl (Nat.le_of_ble_eq_true rfl) dX3_start_151 ⟨Nat.le_of_ble_eq_true rfl, Nat.le_of_ble_eq_true rfl⟩ (fun r_151 hw_151 => ?_)
                        subst hw_151
                        obtain ⟨hw0, hw1, hw2, -⟩ := wfs_eu hwf (b + 1) (by omega) b j (by omega) (by omega) h_131
                        refine lv_goto (tgt := 158) hx hb dX3_start_154 (by decide) ?_
                        refine xr_same (nI_mI (256 * byt (eu χ (b + 1)) b j 1 + byt (eu χ (b + 1)) b j 2)) ?_
                        refine lv_istore_n (lv' := [(2, .int (mI (256 * byt (eu χ (b + 1)) b j 1 + byt (eu χ (b + 1)) b j 2 + 1))), (0, .ref (r 0)), (1, .int (mI (grA (eu χ 6) (b + 1)))), (3, .int (nI (b))), (5, .int (nI (16 * b + j)))]) hx hb dX3_start_158 rfl hl (by decide) rfl (fun ls hl => ?_)
                        refine lv_iinc (v := nI (16 * b + j + 1)) (lv' := [(5, .int (nI (16 * b + j + 1))), (2, .int (mI (256 * byt (eu χ (b + 1)) b j 1 + byt (eu χ (b + 1)) b j 2 + 1))), (0, .ref (r 0)), (1, .int (mI (grA (eu χ 6) (b + 1)))), (3, .int (nI (b)))]) hx hb dX3_start_159 hl (k := 4) rfl (nI_add _ _) (by decide) rfl (fun ls hl => ?_)
                        refine lv_goto (tgt := 113) hx hb dX3_start_162 (by decide) ?_
                        have e9 : 256 * byt (eu χ (b + 1)) b j 1 + byt (eu χ (b + 1)) b j 2 + 1 = mn (lsA (eu χ 6) b) (lst (eu χ (b + 1)) b (j + 1)) := by first | rw [lst_out h_131] | (rw [lst_in h_131, ← mn_assoc]; generalize mn (lsA (eu χ 6) b) (lst (eu χ (b + 1)) b j) = z9 at *; unfold mn; (repeat' split) <;> omega)
                        rw [e9] at hl
                        exact ih_113 (j + 1) _ _ _ (⟨by omega, hP, hD, hS⟩) (by first | omega | (dsimp only; omega)) (lv_sub hl [2, 3, 1, 4, 0] rfl)
            · refine lv_iload_n hx hb dX3_start_83 rfl (lv_at hl 4 rfl) ?_
              refine lv_goto (tgt := 91) hx hb dX3_start_84 (by decide) ?_
              refine va_put (D := D) (ci := 3) (v := .int (nI (b))) (ty := .int) (C := RX3) (T := TX3) (N := 16) hx hb hts hiX3 tyX3 tyX3_ok nmX3 hown hK hP hD hS 0 rfl rfl 8 (by decide) (hts (.fieldLink RX3 54 "PairedCellsModel" "current" "I") (by decide +kernel)) (fun _ h9 => h9) rfl (by decide +kernel) rfl rfl (Nat.le_of_ble_eq_true rfl) dX3_start_91 (fun H locs hP hD hS => ?_)
              have hP : va_P D vwCl (wM cI r (nI (0)) fp fa (eu χ (b + 1)) (fun _ => 0) 0 3 b fi ne ct 1) H := hP
              have hD : va_D A (wM cI r (nI (0)) fp fa (eu χ (b + 1)) (fun _ => 0) 0 3 b fi ne ct 1) := hD
              refine lv_iload hx hb dX3_start_94 (lv_at hl 0 rfl) ?_
              refine lv_iload_n hx hb dX3_start_96 rfl (lv_at hl 2 rfl) ?_
              refine xi_le (tgt := 105) hx hb dX3_start_97 (by decide) (mI_toInt (by omega)) (mI_toInt (by omega)) (fun c_97 => ?_) (fun c_97 => ?_)
              · refine lv_iload_n hx hb dX3_start_105 rfl (lv_at hl 2 rfl) ?_
                refine lv_istore_n (lv' := [(1, .int (mI (grA (eu χ 6) b))), (4, .int (mI (grt (eu χ b) b 16))), (0, .ref (r 0)), (2, .int (mI (lsA (eu χ 6) b))), (3, .int (nI (b)))]) hx hb dX3_start_106 rfl hl (by decide) rfl (fun ls hl => ?_)
                have e8 : b = cuA (eu χ 6) (b + 1) := (cif_t (by omega)).symm
                have e9 : grA (eu χ 6) b = grA (eu χ 6) (b + 1) := by show _ = max (grA (eu χ 6) b) (grt (eu χ 6) b 16); omega
                have hq9 : (wM cI r (nI (0)) fp fa (eu χ (b + 1)) (fun _ => 0) 0 3 b fi ne ct 1 : va_W) = wM cI r (nI (0)) fp fa (eu χ (b + 1)) (fun _ => 0) 0 3 (cuA (eu χ 6) (b + 1)) fi ne ct 1 := by rw [← e8]
                have hP := va_P.eqw hq9 hP
                have hD := va_D.eqw hq9 hD
                have hP : va_P D vwCl (wM cI r (nI (0)) fp fa (eu χ (b + 1)) (fun _ => 0) 0 3 (cuA (eu χ 6) (b + 1)) fi ne ct 1) H := hP
                have hD : va_D A (wM cI r (nI (0)) fp fa (eu χ (b + 1)) (fun _ => 0) 0 3 (cuA (eu χ 6) (b + 1)) fi ne ct 1) := hD
                rw [e9] at hl
                refine lv_bipush (v := nI 16) hx hb dX3_start_107 (by decide) ?_
                refine lv_iload_n hx hb dX3_start_109 rfl (lv_at hl 4 rfl) ?_
                refine xr_mul hx hb dX3_start_110 ?_
                refine lv_istore (lv' := [(5, .int (nI (16 * b))), (1, .int (mI (grA (eu χ 6) (b + 1)))), (4, .int (mI (grt (eu χ b) b 16))), (0, .ref (r 0)), (2, .int (mI (lsA (eu χ 6) b))), (3, .int (nI (b)))]) hx hb dX3_start_111 hl (by decide) rfl (fun ls hl => ?_)
                refine lpW (α := Nat) (fun j H locs => (j ≤ 16) ∧ va_P D vwCl (wM cI r (nI (0)) fp fa (eu χ (b + 1)) (fun _ => 0) 0 3 (cuA (eu χ 6) (b + 1)) fi ne ct 1) H ∧ va_D A (wM cI r (nI (0)) fp fa (eu χ (b + 1)) (fun _ => 0) 0 3 (cuA (eu χ 6) (b + 1)) fi ne ct 1) ∧ va_S A s.heap H locs) (fun j => [(0, .ref (r 0)), (1, .int (mI (grA (eu χ 6) (b + 1)))), (2, .int (mI (mn (lsA (eu χ 6) b) (lst (eu χ (b + 1)) b j)))), (3, .int (nI (b))), (5, .int (nI (16 * b + j)))]) 6 (fun j => 16 - j) 0 (⟨by omega, hP, hD, hS⟩) (lv_sub hl [3, 1, 4, 5, 0] rfl) (fun s9 H locs ls hI9 hl9 ih_113 => ?_)
                obtain ⟨j, rfl⟩ : ∃ z, z = s9 := ⟨_, rfl⟩
                have hl : lv_has ls 6 [(0, .ref (r 0)), (1, .int (mI (grA (eu χ 6) (b + 1)))), (2, .int (mI (mn (lsA (eu χ 6) b) (lst (eu χ (b + 1)) b j)))), (3, .int (nI (b))), (5, .int (nI (16 * b + j)))] := hl9
                obtain ⟨hj, hP, hD, hS⟩ : (j ≤ 16) ∧ va_P D vwCl (wM cI r (nI (0)) fp fa (eu χ (b + 1)) (fun _ => 0) 0 3 (cuA (eu χ 6) (b + 1)) fi ne ct 1) H ∧ va_D A (wM cI r (nI (0)) fp fa (eu χ (b + 1)) (fun _ => 0) 0 3 (cuA (eu χ 6) (b + 1)) fi ne ct 1) ∧ va_S A s.heap H locs := hI9
                have hk9 := lst_lt (wfs_eu hwf (b + 1) (by omega)) (show b < 6 by omega) j (by omega)
                have hm9 : mn (lsA (eu χ 6) b) (lst (eu χ (b + 1)) b j) < 65600 := by unfold mn; (repeat' split) <;> omega
                refine lv_iload hx hb dX3_start_113 (lv_at hl 4 rfl) ?_
                refine lv_bipush (v := nI 16) hx hb dX3_start_115 (by decide) ?_
                refine lv_iload_n hx hb dX3_start_117 rfl (lv_at hl 3 rfl) ?_
                refine xr_mul hx hb dX3_start_118 ?_
                refine lv_bipush (v := nI 16) hx hb dX3_start_119 (by decide) ?_
                refine xr_add hx hb dX3_start_121 ?_
                refine xi_ge (tgt := 165) hx hb dX3_start_122 (by decide) (nI_toInt (by omega)) (nI_toInt (by omega)) (fun c_122 => ?_) (fun c_122 => ?_)
                · refine lv_iinc (v := nI (b + 1)) (lv' := [(3, .int (nI (b + 1))), (0, .ref (r 0)), (1, .int (mI (grA (eu χ 6) (b + 1)))), (2, .int (mI (mn (lsA (eu χ 6) b) (lst (eu χ (b + 1)) b j)))), (5, .int (nI (16 * b + j)))]) hx hb dX3_start_165 hl (k := 3) rfl (nI_add _ _) (by decide) rfl (fun ls hl => ?_)
                  refine lv_goto (tgt := 45) hx hb dX3_start_168 (by decide) ?_
                  have e9 : mn (lsA (eu χ 6) b) (lst (eu χ (b + 1)) b j) = lsA (eu χ 6) (b + 1) := by rw [show j = 16 by omega, eu_lst (show b < 6 by omega)]; rfl
                  rw [e9] at hl
                  exact ih_45 (b + 1) _ _ _ (⟨by omega, hP, hD, hS⟩) (by first | omega | (dsimp only; omega)) (lv_sub hl [1, 2, 3, 0] rfl)
                · refine lv_aload_n hx hb dX3_start_125 rfl (lv_at hl 0 rfl) ?_
                  refine lv_iload hx hb dX3_start_126 (lv_at hl 4 rfl) ?_
                  refine xc_Vi (ci := 3) (rest := []) (As := [.int (nI (16 * b + j))]) ⟨hx, hb, hml, hown, hts⟩ (c_X3_isReadable l D r (nI 0) fp fa (eu χ (b + 1)) (fun _ => 0) 0 3 (cuA (eu χ 6) (b + 1)) fi ne ct 1 b (by omega) j (by omega) (fun i => by have h7 := (eu_le (χ := χ) (b + 1) (by omega) i).1; have h8 := hχ i; omega)) (cwV 1 hts gX3_start_X3_isReadable rfl rfl rfl (by decide +kernel) ⟨Nat.le_of_ble_eq_true rfl, Nat.le_of_ble_eq_true rfl⟩) hN hK (hP) rfl 0 rfl rfl hl.1 rfl (Nat.le_of_ble_eq_true rfl) dX3_start_128 ⟨Nat.le_of_ble_eq_true rfl, Nat.le_of_ble_eq_true rfl⟩ (fun r_128 hw_128 => ?_)
                  refine xz_eq (tgt := 159) hx hb dX3_start_131 (by decide) rfl (fun c_131 => ?_) (fun c_131 => ?_)
                  · have h_131 := bo.f hw_128 c_131
                    refine lv_iinc (v := nI (16 * b + j + 1)) (lv' := [(5, .int (nI (16 * b + j + 1))), (0, .ref (r 0)), (1, .int (mI (grA (eu χ 6) (b + 1)))), (2, .int (mI (mn (lsA (eu χ 6) b) (lst (eu χ (b + 1)) b j)))), (3, .int (nI (b)))]) hx hb dX3_start_159 hl (k := 4) rfl (nI_add _ _) (by decide) rfl (fun ls hl => ?_)
                    refine lv_goto (tgt := 113) hx hb dX3_start_162 (by decide) ?_
                    have e9 : mn (lsA (eu χ 6) b) (lst (eu χ (b + 1)) b j) = mn (lsA (eu χ 6) b) (lst (eu χ (b + 1)) b (j + 1)) := by first | rw [lst_out h_131] | (rw [lst_in h_131, ← mn_assoc]; generalize mn (lsA (eu χ 6) b) (lst (eu χ (b + 1)) b j) = z9 at *; unfold mn; (repeat' split) <;> omega)
                    rw [e9] at hl
                    exact ih_113 (j + 1) _ _ _ (⟨by omega, hP, hD, hS⟩) (by first | omega | (dsimp only; omega)) (lv_sub hl [1, 2, 3, 4, 0] rfl)
                  · have h_131 := bo.t hw_128 c_131
                    refine lv_iload_n hx hb dX3_start_134 rfl (lv_at hl 2 rfl) ?_
                    refine xz_lt (tgt := 148) hx hb dX3_start_135 (by decide) (mI_toInt (by omega)) (fun c_135 => ?_) (fun c_135 => ?_)
                    · refine lv_aload_n hx hb dX3_start_148 rfl (lv_at hl 0 rfl) ?_
                      refine lv_iload hx hb dX3_start_149 (lv_at hl 4 rfl) ?_
                      refine xc_Vi (ci := 3) (rest := []) (As := [.int (nI (16 * b + j))]) ⟨hx, hb, hml, hown, hts⟩ (c_X3_firstOf l D r (nI 0) fp fa (eu χ (b + 1)) (fun _ => 0) 0 3 (cuA (eu χ 6) (b + 1)) fi ne ct 1 b (by omega) j (by omega) (fun i => by have h7 := (eu_le (χ := χ) (b + 1) (by omega) i).1; have h8 := hχ i; omega) (wfs_eu hwf (b + 1) (by omega)) h_131) (cwV 1 hts gX3_start_X3_firstOf rfl rfl rfl (by decide +kernel) ⟨Nat.le_of_ble_eq_true rfl, Nat.le_of_ble_eq_true rfl⟩) hN hK (hP) rfl 0 rfl rfl hl.1 rfl (Nat.le_of_ble_eq_true rfl) dX3_start_151 ⟨Nat.le_of_ble_eq_true rfl, Nat.le_of_ble_eq_true rfl⟩ (fun r_151 hw_151 => ?_)
                      subst hw_151
                      obtain ⟨hw0, hw1, hw2, -⟩ := wfs_eu hwf (b + 1) (by omega) b j (by omega) (by omega) h_131
                      refine lv_goto (tgt := 158) hx hb dX3_start_154 (by decide) ?_
                      refine xr_same (nI_mI (256 * byt (eu χ (b + 1)) b j 1 + byt (eu χ (b + 1)) b j 2)) ?_
                      refine lv_istore_n (lv' := [(2, .int (mI (256 * byt (eu χ (b + 1)) b j 1 + byt (eu χ (b + 1)) b j 2 + 1))), (0, .ref (r 0)), (1, .int (mI (grA (eu χ 6) (b + 1)))), (3, .int (nI (b))), (5, .int (nI (16 * b + j)))]) hx hb dX3_start_158 rfl hl (by decide) rfl (fun ls hl => ?_)
                      refine lv_iinc (v := nI (16 * b + j + 1)) (lv' := [(5, .int (nI (16 * b + j + 1))), (2, .int (mI (256 * byt (eu χ (b + 1)) b j 1 + byt (eu χ (b + 1)) b j 2 + 1))), (0, .ref (r 0)), (1, .int (mI (grA (eu χ 6) (b + 1)))), (3, .int (nI (b)))]) hx hb dX3_start_159 hl (k := 4) rfl (nI_add _ _) (by decide) rfl (fun ls hl => ?_)
                      refine lv_goto (tgt := 113) hx hb dX3_start_162 (by decide) ?_
                      have e9 : 256 * byt (eu χ (b + 1)) b j 1 + byt (eu χ (b + 1)) b j 2 + 1 = mn (lsA (eu χ 6) b) (lst (eu χ (b + 1)) b (j + 1)) := by first | rw [lst_out h_131] | (rw [lst_in h_131, ← mn_assoc]; generalize mn (lsA (eu χ 6) b) (lst (eu χ (b + 1)) b j) = z9 at *; unfold mn; (repeat' split) <;> omega)
                      rw [e9] at hl
                      exact ih_113 (j + 1) _ _ _ (⟨by omega, hP, hD, hS⟩) (by first | omega | (dsimp only; omega)) (lv_sub hl [2, 3, 1, 4, 0] rfl)
                    · refine lv_aload_n hx hb dX3_start_138 rfl (lv_at hl 0 rfl) ?_
                      refine lv_iload hx hb dX3_start_139 (lv_at hl 4 rfl) ?_
                      refine xc_Vi (ci := 3) (rest := []) (As := [.int (nI (16 * b + j))]) ⟨hx, hb, hml, hown, hts⟩ (c_X3_firstOf l D r (nI 0) fp fa (eu χ (b + 1)) (fun _ => 0) 0 3 (cuA (eu χ 6) (b + 1)) fi ne ct 1 b (by omega) j (by omega) (fun i => by have h7 := (eu_le (χ := χ) (b + 1) (by omega) i).1; have h8 := hχ i; omega) (wfs_eu hwf (b + 1) (by omega)) h_131) (cwV 1 hts gX3_start_X3_firstOf rfl rfl rfl (by decide +kernel) ⟨Nat.le_of_ble_eq_true rfl, Nat.le_of_ble_eq_true rfl⟩) hN hK (hP) rfl 0 rfl rfl hl.1 rfl (Nat.le_of_ble_eq_true rfl) dX3_start_141 ⟨Nat.le_of_ble_eq_true rfl, Nat.le_of_ble_eq_true rfl⟩ (fun r_141 hw_141 => ?_)
                      subst hw_141
                      obtain ⟨hw0, hw1, hw2, -⟩ := wfs_eu hwf (b + 1) (by omega) b j (by omega) (by omega) h_131
                      refine lv_iload_n hx hb dX3_start_144 rfl (lv_at hl 2 rfl) ?_
                      refine xi_ge (tgt := 157) hx hb dX3_start_145 (by decide) (nI_toInt (by omega)) (mI_toInt (by omega)) (fun c_145 => ?_) (fun c_145 => ?_)
                      · refine lv_iload_n hx hb dX3_start_157 rfl (lv_at hl 2 rfl) ?_
                        refine lv_istore_n (lv' := [(2, .int (mI (mn (lsA (eu χ 6) b) (lst (eu χ (b + 1)) b j)))), (0, .ref (r 0)), (1, .int (mI (grA (eu χ 6) (b + 1)))), (3, .int (nI (b))), (5, .int (nI (16 * b + j)))]) hx hb dX3_start_158 rfl hl (by decide) rfl (fun ls hl => ?_)
                        refine lv_iinc (v := nI (16 * b + j + 1)) (lv' := [(5, .int (nI (16 * b + j + 1))), (2, .int (mI (mn (lsA (eu χ 6) b) (lst (eu χ (b + 1)) b j)))), (0, .ref (r 0)), (1, .int (mI (grA (eu χ 6) (b + 1)))), (3, .int (nI (b)))]) hx hb dX3_start_159 hl (k := 4) rfl (nI_add _ _) (by decide) rfl (fun ls hl => ?_)
                        refine lv_goto (tgt := 113) hx hb dX3_start_162 (by decide) ?_
                        have e9 : mn (lsA (eu χ 6) b) (lst (eu χ (b + 1)) b j) = mn (lsA (eu χ 6) b) (lst (eu χ (b + 1)) b (j + 1)) := by first | rw [lst_out h_131] | (rw [lst_in h_131, ← mn_assoc]; generalize mn (lsA (eu χ 6) b) (lst (eu χ (b + 1)) b j) = z9 at *; unfold mn; (repeat' split) <;> omega)
                        rw [e9] at hl
                        exact ih_113 (j + 1) _ _ _ (⟨by omega, hP, hD, hS⟩) (by first | omega | (dsimp only; omega)) (lv_sub hl [2, 3, 1, 4, 0] rfl)
                      · refine lv_aload_n hx hb dX3_start_148 rfl (lv_at hl 0 rfl) ?_
                        refine lv_iload hx hb dX3_start_149 (lv_at hl 4 rfl) ?_
                        refine xc_Vi (ci := 3) (rest := []) (As := [.int (nI (16 * b + j))]) ⟨hx, hb, hml, hown, hts⟩ (c_X3_firstOf l D r (nI 0) fp fa (eu χ (b + 1)) (fun _ => 0) 0 3 (cuA (eu χ 6) (b + 1)) fi ne ct 1 b (by omega) j (by omega) (fun i => by have h7 := (eu_le (χ := χ) (b + 1) (by omega) i).1; have h8 := hχ i; omega) (wfs_eu hwf (b + 1) (by omega)) h_131) (cwV 1 hts gX3_start_X3_firstOf rfl rfl rfl (by decide +kernel) ⟨Nat.le_of_ble_eq_true rfl, Nat.le_of_ble_eq_true rfl⟩) hN hK (hP) rfl 0 rfl rfl hl.1 rfl (Nat.le_of_ble_eq_true rfl) dX3_start_151 ⟨Nat.le_of_ble_eq_true rfl, Nat.le_of_ble_eq_true rfl⟩ (fun r_151 hw_151 => ?_)
                        subst hw_151
                        obtain ⟨hw0, hw1, hw2, -⟩ := wfs_eu hwf (b + 1) (by omega) b j (by omega) (by omega) h_131
                        refine lv_goto (tgt := 158) hx hb dX3_start_154 (by decide) ?_
                        refine xr_same (nI_mI (256 * byt (eu χ (b + 1)) b j 1 + byt (eu χ (b + 1)) b j 2)) ?_
                        refine lv_istore_n (lv' := [(2, .int (mI (256 * byt (eu χ (b + 1)) b j 1 + byt (eu χ (b + 1)) b j 2 + 1))), (0, .ref (r 0)), (1, .int (mI (grA (eu χ 6) (b + 1)))), (3, .int (nI (b))), (5, .int (nI (16 * b + j)))]) hx hb dX3_start_158 rfl hl (by decide) rfl (fun ls hl => ?_)
                        refine lv_iinc (v := nI (16 * b + j + 1)) (lv' := [(5, .int (nI (16 * b + j + 1))), (2, .int (mI (256 * byt (eu χ (b + 1)) b j 1 + byt (eu χ (b + 1)) b j 2 + 1))), (0, .ref (r 0)), (1, .int (mI (grA (eu χ 6) (b + 1)))), (3, .int (nI (b)))]) hx hb dX3_start_159 hl (k := 4) rfl (nI_add _ _) (by decide) rfl (fun ls hl => ?_)
                        refine lv_goto (tgt := 113) hx hb dX3_start_162 (by decide) ?_
                        have e9 : 256 * byt (eu χ (b + 1)) b j 1 + byt (eu χ (b + 1)) b j 2 + 1 = mn (lsA (eu χ 6) b) (lst (eu χ (b + 1)) b (j + 1)) := by first | rw [lst_out h_131] | (rw [lst_in h_131, ← mn_assoc]; generalize mn (lsA (eu χ 6) b) (lst (eu χ (b + 1)) b j) = z9 at *; unfold mn; (repeat' split) <;> omega)
                        rw [e9] at hl
                        exact ih_113 (j + 1) _ _ _ (⟨by omega, hP, hD, hS⟩) (by first | omega | (dsimp only; omega)) (lv_sub hl [2, 3, 1, 4, 0] rfl)
              · refine lv_iload hx hb dX3_start_100 (lv_at hl 0 rfl) ?_
                refine lv_goto (tgt := 106) hx hb dX3_start_102 (by decide) ?_
                refine lv_istore_n (lv' := [(1, .int (mI (grt (eu χ b) b 16))), (4, .int (mI (grt (eu χ b) b 16))), (0, .ref (r 0)), (2, .int (mI (lsA (eu χ 6) b))), (3, .int (nI (b)))]) hx hb dX3_start_106 rfl hl (by decide) rfl (fun ls hl => ?_)
                have e8 : b = cuA (eu χ 6) (b + 1) := (cif_t (by omega)).symm
                have e9 : grt (eu χ b) b 16 = grA (eu χ 6) (b + 1) := by show _ = max (grA (eu χ 6) b) (grt (eu χ 6) b 16); omega
                have hq9 : (wM cI r (nI (0)) fp fa (eu χ (b + 1)) (fun _ => 0) 0 3 b fi ne ct 1 : va_W) = wM cI r (nI (0)) fp fa (eu χ (b + 1)) (fun _ => 0) 0 3 (cuA (eu χ 6) (b + 1)) fi ne ct 1 := by rw [← e8]
                have hP := va_P.eqw hq9 hP
                have hD := va_D.eqw hq9 hD
                have hP : va_P D vwCl (wM cI r (nI (0)) fp fa (eu χ (b + 1)) (fun _ => 0) 0 3 (cuA (eu χ 6) (b + 1)) fi ne ct 1) H := hP
                have hD : va_D A (wM cI r (nI (0)) fp fa (eu χ (b + 1)) (fun _ => 0) 0 3 (cuA (eu χ 6) (b + 1)) fi ne ct 1) := hD
                rw [e9] at hl
                refine lv_bipush (v := nI 16) hx hb dX3_start_107 (by decide) ?_
                refine lv_iload_n hx hb dX3_start_109 rfl (lv_at hl 4 rfl) ?_
                refine xr_mul hx hb dX3_start_110 ?_
                refine lv_istore (lv' := [(5, .int (nI (16 * b))), (1, .int (mI (grA (eu χ 6) (b + 1)))), (4, .int (mI (grA (eu χ 6) (b + 1)))), (0, .ref (r 0)), (2, .int (mI (lsA (eu χ 6) b))), (3, .int (nI (b)))]) hx hb dX3_start_111 hl (by decide) rfl (fun ls hl => ?_)
                refine lpW (α := Nat) (fun j H locs => (j ≤ 16) ∧ va_P D vwCl (wM cI r (nI (0)) fp fa (eu χ (b + 1)) (fun _ => 0) 0 3 (cuA (eu χ 6) (b + 1)) fi ne ct 1) H ∧ va_D A (wM cI r (nI (0)) fp fa (eu χ (b + 1)) (fun _ => 0) 0 3 (cuA (eu χ 6) (b + 1)) fi ne ct 1) ∧ va_S A s.heap H locs) (fun j => [(0, .ref (r 0)), (1, .int (mI (grA (eu χ 6) (b + 1)))), (2, .int (mI (mn (lsA (eu χ 6) b) (lst (eu χ (b + 1)) b j)))), (3, .int (nI (b))), (5, .int (nI (16 * b + j)))]) 6 (fun j => 16 - j) 0 (⟨by omega, hP, hD, hS⟩) (lv_sub hl [3, 1, 4, 5, 0] rfl) (fun s9 H locs ls hI9 hl9 ih_113 => ?_)
                obtain ⟨j, rfl⟩ : ∃ z, z = s9 := ⟨_, rfl⟩
                have hl : lv_has ls 6 [(0, .ref (r 0)), (1, .int (mI (grA (eu χ 6) (b + 1)))), (2, .int (mI (mn (lsA (eu χ 6) b) (lst (eu χ (b + 1)) b j)))), (3, .int (nI (b))), (5, .int (nI (16 * b + j)))] := hl9
                obtain ⟨hj, hP, hD, hS⟩ : (j ≤ 16) ∧ va_P D vwCl (wM cI r (nI (0)) fp fa (eu χ (b + 1)) (fun _ => 0) 0 3 (cuA (eu χ 6) (b + 1)) fi ne ct 1) H ∧ va_D A (wM cI r (nI (0)) fp fa (eu χ (b + 1)) (fun _ => 0) 0 3 (cuA (eu χ 6) (b + 1)) fi ne ct 1) ∧ va_S A s.heap H locs := hI9
                have hk9 := lst_lt (wfs_eu hwf (b + 1) (by omega)) (show b < 6 by omega) j (by omega)
                have hm9 : mn (lsA (eu χ 6) b) (lst (eu χ (b + 1)) b j) < 65600 := by unfold mn; (repeat' split) <;> omega
                refine lv_iload hx hb dX3_start_113 (lv_at hl 4 rfl) ?_
                refine lv_bipush (v := nI 16) hx hb dX3_start_115 (by decide) ?_
                refine lv_iload_n hx hb dX3_start_117 rfl (lv_at hl 3 rfl) ?_
                refine xr_mul hx hb dX3_start_118 ?_
                refine lv_bipush (v := nI 16) hx hb dX3_start_119 (by decide) ?_
                refine xr_add hx hb dX3_start_121 ?_
                refine xi_ge (tgt := 165) hx hb dX3_start_122 (by decide) (nI_toInt (by omega)) (nI_toInt (by omega)) (fun c_122 => ?_) (fun c_122 => ?_)
                · refine lv_iinc (v := nI (b + 1)) (lv' := [(3, .int (nI (b + 1))), (0, .ref (r 0)), (1, .int (mI (grA (eu χ 6) (b + 1)))), (2, .int (mI (mn (lsA (eu χ 6) b) (lst (eu χ (b + 1)) b j)))), (5, .int (nI (16 * b + j)))]) hx hb dX3_start_165 hl (k := 3) rfl (nI_add _ _) (by decide) rfl (fun ls hl => ?_)
                  refine lv_goto (tgt := 45) hx hb dX3_start_168 (by decide) ?_
                  have e9 : mn (lsA (eu χ 6) b) (lst (eu χ (b + 1)) b j) = lsA (eu χ 6) (b + 1) := by rw [show j = 16 by omega, eu_lst (show b < 6 by omega)]; rfl
                  rw [e9] at hl
                  exact ih_45 (b + 1) _ _ _ (⟨by omega, hP, hD, hS⟩) (by first | omega | (dsimp only; omega)) (lv_sub hl [1, 2, 3, 0] rfl)
                · refine lv_aload_n hx hb dX3_start_125 rfl (lv_at hl 0 rfl) ?_
                  refine lv_iload hx hb dX3_start_126 (lv_at hl 4 rfl) ?_
                  refine xc_Vi (ci := 3) (rest := []) (As := [.int (nI (16 * b + j))]) ⟨hx, hb, hml, hown, hts⟩ (c_X3_isReadable l D r (nI 0) fp fa (eu χ (b + 1)) (fun _ => 0) 0 3 (cuA (eu χ 6) (b + 1)) fi ne ct 1 b (by omega) j (by omega) (fun i => by have h7 := (eu_le (χ := χ) (b + 1) (by omega) i).1; have h8 := hχ i; omega)) (cwV 1 hts gX3_start_X3_isReadable rfl rfl rfl (by decide +kernel) ⟨Nat.le_of_ble_eq_true rfl, Nat.le_of_ble_eq_true rfl⟩) hN hK (hP) rfl 0 rfl rfl hl.1 rfl (Nat.le_of_ble_eq_true rfl) dX3_start_128 ⟨Nat.le_of_ble_eq_true rfl, Nat.le_of_ble_eq_true rfl⟩ (fun r_128 hw_128 => ?_)
                  refine xz_eq (tgt := 159) hx hb dX3_start_131 (by decide) rfl (fun c_131 => ?_) (fun c_131 => ?_)
                  · have h_131 := bo.f hw_128 c_131
                    refine lv_iinc (v := nI (16 * b + j + 1)) (lv' := [(5, .int (nI (16 * b + j + 1))), (0, .ref (r 0)), (1, .int (mI (grA (eu χ 6) (b + 1)))), (2, .int (mI (mn (lsA (eu χ 6) b) (lst (eu χ (b + 1)) b j)))), (3, .int (nI (b)))]) hx hb dX3_start_159 hl (k := 4) rfl (nI_add _ _) (by decide) rfl (fun ls hl => ?_)
                    refine lv_goto (tgt := 113) hx hb dX3_start_162 (by decide) ?_
                    have e9 : mn (lsA (eu χ 6) b) (lst (eu χ (b + 1)) b j) = mn (lsA (eu χ 6) b) (lst (eu χ (b + 1)) b (j + 1)) := by first | rw [lst_out h_131] | (rw [lst_in h_131, ← mn_assoc]; generalize mn (lsA (eu χ 6) b) (lst (eu χ (b + 1)) b j) = z9 at *; unfold mn; (repeat' split) <;> omega)
                    rw [e9] at hl
                    exact ih_113 (j + 1) _ _ _ (⟨by omega, hP, hD, hS⟩) (by first | omega | (dsimp only; omega)) (lv_sub hl [1, 2, 3, 4, 0] rfl)
                  · have h_131 := bo.t hw_128 c_131
                    refine lv_iload_n hx hb dX3_start_134 rfl (lv_at hl 2 rfl) ?_
                    refine xz_lt (tgt := 148) hx hb dX3_start_135 (by decide) (mI_toInt (by omega)) (fun c_135 => ?_) (fun c_135 => ?_)
                    · refine lv_aload_n hx hb dX3_start_148 rfl (lv_at hl 0 rfl) ?_
                      refine lv_iload hx hb dX3_start_149 (lv_at hl 4 rfl) ?_
                      refine xc_Vi (ci := 3) (rest := []) (As := [.int (nI (16 * b + j))]) ⟨hx, hb, hml, hown, hts⟩ (c_X3_firstOf l D r (nI 0) fp fa (eu χ (b + 1)) (fun _ => 0) 0 3 (cuA (eu χ 6) (b + 1)) fi ne ct 1 b (by omega) j (by omega) (fun i => by have h7 := (eu_le (χ := χ) (b + 1) (by omega) i).1; have h8 := hχ i; omega) (wfs_eu hwf (b + 1) (by omega)) h_131) (cwV 1 hts gX3_start_X3_firstOf rfl rfl rfl (by decide +kernel) ⟨Nat.le_of_ble_eq_true rfl, Nat.le_of_ble_eq_true rfl⟩) hN hK (hP) rfl 0 rfl rfl hl.1 rfl (Nat.le_of_ble_eq_true rfl) dX3_start_151 ⟨Nat.le_of_ble_eq_true rfl, Nat.le_of_ble_eq_true rfl⟩ (fun r_151 hw_151 => ?_)
                      subst hw_151
                      obtain ⟨hw0, hw1, hw2, -⟩ := wfs_eu hwf (b + 1) (by omega) b j (by omega) (by omega) h_131
                      refine lv_goto (tgt := 158) hx hb dX3_start_154 (by decide) ?_
                      refine xr_same (nI_mI (256 * byt (eu χ (b + 1)) b j 1 + byt (eu χ (b + 1)) b j 2)) ?_
                      refine lv_istore_n (lv' := [(2, .int (mI (256 * byt (eu χ (b + 1)) b j 1 + byt (eu χ (b + 1)) b j 2 + 1))), (0, .ref (r 0)), (1, .int (mI (grA (eu χ 6) (b + 1)))), (3, .int (nI (b))), (5, .int (nI (16 * b + j)))]) hx hb dX3_start_158 rfl hl (by decide) rfl (fun ls hl => ?_)
                      refine lv_iinc (v := nI (16 * b + j + 1)) (lv' := [(5, .int (nI (16 * b + j + 1))), (2, .int (mI (256 * byt (eu χ (b + 1)) b j 1 + byt (eu χ (b + 1)) b j 2 + 1))), (0, .ref (r 0)), (1, .int (mI (grA (eu χ 6) (b + 1)))), (3, .int (nI (b)))]) hx hb dX3_start_159 hl (k := 4) rfl (nI_add _ _) (by decide) rfl (fun ls hl => ?_)
                      refine lv_goto (tgt := 113) hx hb dX3_start_162 (by decide) ?_
                      have e9 : 256 * byt (eu χ (b + 1)) b j 1 + byt (eu χ (b + 1)) b j 2 + 1 = mn (lsA (eu χ 6) b) (lst (eu χ (b + 1)) b (j + 1)) := by first | rw [lst_out h_131] | (rw [lst_in h_131, ← mn_assoc]; generalize mn (lsA (eu χ 6) b) (lst (eu χ (b + 1)) b j) = z9 at *; unfold mn; (repeat' split) <;> omega)
                      rw [e9] at hl
                      exact ih_113 (j + 1) _ _ _ (⟨by omega, hP, hD, hS⟩) (by first | omega | (dsimp only; omega)) (lv_sub hl [2, 3, 1, 4, 0] rfl)
                    · refine lv_aload_n hx hb dX3_start_138 rfl (lv_at hl 0 rfl) ?_
                      refine lv_iload hx hb dX3_start_139 (lv_at hl 4 rfl) ?_
                      refine xc_Vi (ci := 3) (rest := []) (As := [.int (nI (16 * b + j))]) ⟨hx, hb, hml, hown, hts⟩ (c_X3_firstOf l D r (nI 0) fp fa (eu χ (b + 1)) (fun _ => 0) 0 3 (cuA (eu χ 6) (b + 1)) fi ne ct 1 b (by omega) j (by omega) (fun i => by have h7 := (eu_le (χ := χ) (b + 1) (by omega) i).1; have h8 := hχ i; omega) (wfs_eu hwf (b + 1) (by omega)) h_131) (cwV 1 hts gX3_start_X3_firstOf rfl rfl rfl (by decide +kernel) ⟨Nat.le_of_ble_eq_true rfl, Nat.le_of_ble_eq_true rfl⟩) hN hK (hP) rfl 0 rfl rfl hl.1 rfl (Nat.le_of_ble_eq_true rfl) dX3_start_141 ⟨Nat.le_of_ble_eq_true rfl, Nat.le_of_ble_eq_true rfl⟩ (fun r_141 hw_141 => ?_)
                      subst hw_141
                      obtain ⟨hw0, hw1, hw2, -⟩ := wfs_eu hwf (b + 1) (by omega) b j (by omega) (by omega) h_131
                      refine lv_iload_n hx hb dX3_start_144 rfl (lv_at hl 2 rfl) ?_
                      refine xi_ge (tgt := 157) hx hb dX3_start_145 (by decide) (nI_toInt (by omega)) (mI_toInt (by omega)) (fun c_145 => ?_) (fun c_145 => ?_)
                      · refine lv_iload_n hx hb dX3_start_157 rfl (lv_at hl 2 rfl) ?_
                        refine lv_istore_n (lv' := [(2, .int (mI (mn (lsA (eu χ 6) b) (lst (eu χ (b + 1)) b j)))), (0, .ref (r 0)), (1, .int (mI (grA (eu χ 6) (b + 1)))), (3, .int (nI (b))), (5, .int (nI (16 * b + j)))]) hx hb dX3_start_158 rfl hl (by decide) rfl (fun ls hl => ?_)
                        refine lv_iinc (v := nI (16 * b + j + 1)) (lv' := [(5, .int (nI (16 * b + j + 1))), (2, .int (mI (mn (lsA (eu χ 6) b) (lst (eu χ (b + 1)) b j)))), (0, .ref (r 0)), (1, .int (mI (grA (eu χ 6) (b + 1)))), (3, .int (nI (b)))]) hx hb dX3_start_159 hl (k := 4) rfl (nI_add _ _) (by decide) rfl (fun ls hl => ?_)
                        refine lv_goto (tgt := 113) hx hb dX3_start_162 (by decide) ?_
                        have e9 : mn (lsA (eu χ 6) b) (lst (eu χ (b + 1)) b j) = mn (lsA (eu χ 6) b) (lst (eu χ (b + 1)) b (j + 1)) := by first | rw [lst_out h_131] | (rw [lst_in h_131, ← mn_assoc]; generalize mn (lsA (eu χ 6) b) (lst (eu χ (b + 1)) b j) = z9 at *; unfold mn; (repeat' split) <;> omega)
                        rw [e9] at hl
                        exact ih_113 (j + 1) _ _ _ (⟨by omega, hP, hD, hS⟩) (by first | omega | (dsimp only; omega)) (lv_sub hl [2, 3, 1, 4, 0] rfl)
                      · refine lv_aload_n hx hb dX3_start_148 rfl (lv_at hl 0 rfl) ?_
                        refine lv_iload hx hb dX3_start_149 (lv_at hl 4 rfl) ?_
                        refine xc_Vi (ci := 3) (rest := []) (As := [.int (nI (16 * b + j))]) ⟨hx, hb, hml, hown, hts⟩ (c_X3_firstOf l D r (nI 0) fp fa (eu χ (b + 1)) (fun _ => 0) 0 3 (cuA (eu χ 6) (b + 1)) fi ne ct 1 b (by omega) j (by omega) (fun i => by have h7 := (eu_le (χ := χ) (b + 1) (by omega) i).1; have h8 := hχ i; omega) (wfs_eu hwf (b + 1) (by omega)) h_131) (cwV 1 hts gX3_start_X3_firstOf rfl rfl rfl (by decide +kernel) ⟨Nat.le_of_ble_eq_true rfl, Nat.le_of_ble_eq_true rfl⟩) hN hK (hP) rfl 0 rfl rfl hl.1 rfl (Nat.le_of_ble_eq_true rfl) dX3_start_151 ⟨Nat.le_of_ble_eq_true rfl, Nat.le_of_ble_eq_true rfl⟩ (fun r_151 hw_151 => ?_)
                        subst hw_151
                        obtain ⟨hw0, hw1, hw2, -⟩ := wfs_eu hwf (b + 1) (by omega) b j (by omega) (by omega) h_131
                        refine lv_goto (tgt := 158) hx hb dX3_start_154 (by decide) ?_
                        refine xr_same (nI_mI (256 * byt (eu χ (b + 1)) b j 1 + byt (eu χ (b + 1)) b j 2)) ?_
                        refine lv_istore_n (lv' := [(2, .int (mI (256 * byt (eu χ (b + 1)) b j 1 + byt (eu χ (b + 1)) b j 2 + 1))), (0, .ref (r 0)), (1, .int (mI (grA (eu χ 6) (b + 1)))), (3, .int (nI (b))), (5, .int (nI (16 * b + j)))]) hx hb dX3_start_158 rfl hl (by decide) rfl (fun ls hl => ?_)
                        refine lv_iinc (v := nI (16 * b + j + 1)) (lv' := [(5, .int (nI (16 * b + j + 1))), (2, .int (mI (256 * byt (eu χ (b + 1)) b j 1 + byt (eu χ (b + 1)) b j 2 + 1))), (0, .ref (r 0)), (1, .int (mI (grA (eu χ 6) (b + 1)))), (3, .int (nI (b)))]) hx hb dX3_start_159 hl (k := 4) rfl (nI_add _ _) (by decide) rfl (fun ls hl => ?_)
                        refine lv_goto (tgt := 113) hx hb dX3_start_162 (by decide) ?_
                        have e9 : 256 * byt (eu χ (b + 1)) b j 1 + byt (eu χ (b + 1)) b j 2 + 1 = mn (lsA (eu χ 6) b) (lst (eu χ (b + 1)) b (j + 1)) := by first | rw [lst_out h_131] | (rw [lst_in h_131, ← mn_assoc]; generalize mn (lsA (eu χ 6) b) (lst (eu χ (b + 1)) b j) = z9 at *; unfold mn; (repeat' split) <;> omega)
                        rw [e9] at hl
                        exact ih_113 (j + 1) _ _ _ (⟨by omega, hP, hD, hS⟩) (by first | omega | (dsimp only; omega)) (lv_sub hl [2, 3, 1, 4, 0] rfl)
          · have h_68 := bo.f hw_65 c_68
            refine lv_aload_n hx hb dX3_start_71 rfl (lv_at hl 1 rfl) ?_
            refine lv_iload_n hx hb dX3_start_72 rfl (lv_at hl 4 rfl) ?_
            have hF9 := x_hF (hD) hS hA
            refine xw_Vv (ci := 3) (rest := []) (As := [.int (nI (b))]) ⟨hx, hb, hml, hown, hts⟩ (c_X3_eraseBlock l D r (nI 0) fp fa (eu χ b) (fun _ => 0) 0 3 (cuA (eu χ 6) b) fi ne ct 1 b (by omega) (fun i => by have h7 := (eu_le (χ := χ) b (by omega) i).1; have h8 := hχ i; omega) H.size) (cwV 1 hts gX3_start_X3_eraseBlock rfl rfl rfl (by decide +kernel) ⟨Nat.le_of_ble_eq_true rfl, Nat.le_of_ble_eq_true rfl⟩) hN hK (hP) (hD) hS hA rfl 0 rfl rfl hl.1 rfl (Nat.le_of_ble_eq_true rfl) dX3_start_73 ⟨Nat.le_of_ble_eq_true rfl, Nat.le_of_ble_eq_true rfl⟩ (fun u_73 H1 locs hw_73 hP1 hD1 hDA hk9 hS => ?_)
            have hP := hP1
            have hD := hDA
            generalize H1 = H at hP hS ⊢
            have hP : va_P D vwCl (wM cI r (nI (0)) fp fa (ers (eu χ b) b) (fun _ => 0) 0 3 (cuA (eu χ 6) b) fi ne ct 1) H := hP
            have hD : va_D A (wM cI r (nI (0)) fp fa (ers (eu χ b) b) (fun _ => 0) 0 3 (cuA (eu χ 6) b) fi ne ct 1) := hD
            have hee : eu χ (b + 1) = (ers (eu χ b) b) := eu_in ⟨h_68, by omega⟩
            rw [← hee] at hP hD
            have hP : va_P D vwCl (wM cI r (nI (0)) fp fa (eu χ (b + 1)) (fun _ => 0) 0 3 (cuA (eu χ 6) b) fi ne ct 1) H := hP
            have hD : va_D A (wM cI r (nI (0)) fp fa (eu χ (b + 1)) (fun _ => 0) 0 3 (cuA (eu χ 6) b) fi ne ct 1) := hD
            refine lv_aload_n hx hb dX3_start_76 rfl (lv_at hl 1 rfl) ?_
            refine lv_iload hx hb dX3_start_77 (lv_at hl 0 rfl) ?_
            refine lv_iload_n hx hb dX3_start_79 rfl (lv_at hl 2 rfl) ?_
            refine xi_le (tgt := 87) hx hb dX3_start_80 (by decide) (mI_toInt (by omega)) (mI_toInt (by omega)) (fun c_80 => ?_) (fun c_80 => ?_)
            · refine lv_aload_n hx hb dX3_start_87 rfl (lv_at hl 1 rfl) ?_
              refine va_get (D := D) (ci := 3) (v := .int (nI ((cuA (eu χ 6) b)))) (C := RX3) (T := TX3) (N := 16) hx hb hts hiX3 hown hK hP 0 rfl rfl 8 (by decide) (hts (.fieldLink RX3 54 "PairedCellsModel" "current" "I") (by decide +kernel)) (fun _ h9 => h9) rfl dX3_start_88 ?_
              refine va_put (D := D) (ci := 3) (v := .int (nI ((cuA (eu χ 6) b)))) (ty := .int) (C := RX3) (T := TX3) (N := 16) hx hb hts hiX3 tyX3 tyX3_ok nmX3 hown hK hP hD hS 0 rfl rfl 8 (by decide) (hts (.fieldLink RX3 54 "PairedCellsModel" "current" "I") (by decide +kernel)) (fun _ h9 => h9) rfl (by decide +kernel) rfl rfl (Nat.le_of_ble_eq_true rfl) dX3_start_91 (fun H locs hP hD hS => ?_)
              have hP : va_P D vwCl (wM cI r (nI (0)) fp fa (eu χ (b + 1)) (fun _ => 0) 0 3 (cuA (eu χ 6) b) fi ne ct 1) H := hP
              have hD : va_D A (wM cI r (nI (0)) fp fa (eu χ (b + 1)) (fun _ => 0) 0 3 (cuA (eu χ 6) b) fi ne ct 1) := hD
              refine lv_iload hx hb dX3_start_94 (lv_at hl 0 rfl) ?_
              refine lv_iload_n hx hb dX3_start_96 rfl (lv_at hl 2 rfl) ?_
              refine xi_le (tgt := 105) hx hb dX3_start_97 (by decide) (mI_toInt (by omega)) (mI_toInt (by omega)) (fun c_97 => ?_) (fun c_97 => ?_)
              · refine lv_iload_n hx hb dX3_start_105 rfl (lv_at hl 2 rfl) ?_
                refine lv_istore_n (lv' := [(1, .int (mI (grA (eu χ 6) b))), (4, .int (mI (grt (eu χ b) b 16))), (0, .ref (r 0)), (2, .int (mI (lsA (eu χ 6) b))), (3, .int (nI (b)))]) hx hb dX3_start_106 rfl hl (by decide) rfl (fun ls hl => ?_)
                have e8 : (cuA (eu χ 6) b) = cuA (eu χ 6) (b + 1) := (cif_f (by omega)).symm
                have e9 : grA (eu χ 6) b = grA (eu χ 6) (b + 1) := by show _ = max (grA (eu χ 6) b) (grt (eu χ 6) b 16); omega
                have hq9 : (wM cI r (nI (0)) fp fa (eu χ (b + 1)) (fun _ => 0) 0 3 (cuA (eu χ 6) b) fi ne ct 1 : va_W) = wM cI r (nI (0)) fp fa (eu χ (b + 1)) (fun _ => 0) 0 3 (cuA (eu χ 6) (b + 1)) fi ne ct 1 := by rw [e8]
                have hP := va_P.eqw hq9 hP
                have hD := va_D.eqw hq9 hD
                have hP : va_P D vwCl (wM cI r (nI (0)) fp fa (eu χ (b + 1)) (fun _ => 0) 0 3 (cuA (eu χ 6) (b + 1)) fi ne ct 1) H := hP
                have hD : va_D A (wM cI r (nI (0)) fp fa (eu χ (b + 1)) (fun _ => 0) 0 3 (cuA (eu χ 6) (b + 1)) fi ne ct 1) := hD
                rw [e9] at hl
                refine lv_bipush (v := nI 16) hx hb dX3_start_107 (by decide) ?_
                refine lv_iload_n hx hb dX3_start_109 rfl (lv_at hl 4 rfl) ?_
                refine xr_mul hx hb dX3_start_110 ?_
                refine lv_istore (lv' := [(5, .int (nI (16 * b))), (1, .int (mI (grA (eu χ 6) (b + 1)))), (4, .int (mI (grt (eu χ b) b 16))), (0, .ref (r 0)), (2, .int (mI (lsA (eu χ 6) b))), (3, .int (nI (b)))]) hx hb dX3_start_111 hl (by decide) rfl (fun ls hl => ?_)
                refine lpW (α := Nat) (fun j H locs => (j ≤ 16) ∧ va_P D vwCl (wM cI r (nI (0)) fp fa (eu χ (b + 1)) (fun _ => 0) 0 3 (cuA (eu χ 6) (b + 1)) fi ne ct 1) H ∧ va_D A (wM cI r (nI (0)) fp fa (eu χ (b + 1)) (fun _ => 0) 0 3 (cuA (eu χ 6) (b + 1)) fi ne ct 1) ∧ va_S A s.heap H locs) (fun j => [(0, .ref (r 0)), (1, .int (mI (grA (eu χ 6) (b + 1)))), (2, .int (mI (mn (lsA (eu χ 6) b) (lst (eu χ (b + 1)) b j)))), (3, .int (nI (b))), (5, .int (nI (16 * b + j)))]) 6 (fun j => 16 - j) 0 (⟨by omega, hP, hD, hS⟩) (lv_sub hl [3, 1, 4, 5, 0] rfl) (fun s9 H locs ls hI9 hl9 ih_113 => ?_)
                obtain ⟨j, rfl⟩ : ∃ z, z = s9 := ⟨_, rfl⟩
                have hl : lv_has ls 6 [(0, .ref (r 0)), (1, .int (mI (grA (eu χ 6) (b + 1)))), (2, .int (mI (mn (lsA (eu χ 6) b) (lst (eu χ (b + 1)) b j)))), (3, .int (nI (b))), (5, .int (nI (16 * b + j)))] := hl9
                obtain ⟨hj, hP, hD, hS⟩ : (j ≤ 16) ∧ va_P D vwCl (wM cI r (nI (0)) fp fa (eu χ (b + 1)) (fun _ => 0) 0 3 (cuA (eu χ 6) (b + 1)) fi ne ct 1) H ∧ va_D A (wM cI r (nI (0)) fp fa (eu χ (b + 1)) (fun _ => 0) 0 3 (cuA (eu χ 6) (b + 1)) fi ne ct 1) ∧ va_S A s.heap H locs := hI9
                have hk9 := lst_lt (wfs_eu hwf (b + 1) (by omega)) (show b < 6 by omega) j (by omega)
                have hm9 : mn (lsA (eu χ 6) b) (lst (eu χ (b + 1)) b j) < 65600 := by unfold mn; (repeat' split) <;> omega
                refine lv_iload hx hb dX3_start_113 (lv_at hl 4 rfl) ?_
                refine lv_bipush (v := nI 16) hx hb dX3_start_115 (by decide) ?_
                refine lv_iload_n hx hb dX3_start_117 rfl (lv_at hl 3 rfl) ?_
                refine xr_mul hx hb dX3_start_118 ?_
                refine lv_bipush (v := nI 16) hx hb dX3_start_119 (by decide) ?_
                refine xr_add hx hb dX3_start_121 ?_
                refine xi_ge (tgt := 165) hx hb dX3_start_122 (by decide) (nI_toInt (by omega)) (nI_toInt (by omega)) (fun c_122 => ?_) (fun c_122 => ?_)
                · refine lv_iinc (v := nI (b + 1)) (lv' := [(3, .int (nI (b + 1))), (0, .ref (r 0)), (1, .int (mI (grA (eu χ 6) (b + 1)))), (2, .int (mI (mn (lsA (eu χ 6) b) (lst (eu χ (b + 1)) b j)))), (5, .int (nI (16 * b + j)))]) hx hb dX3_start_165 hl (k := 3) rfl (nI_add _ _) (by decide) rfl (fun ls hl => ?_)
                  refine lv_goto (tgt := 45) hx hb dX3_start_168 (by decide) ?_
                  have e9 : mn (lsA (eu χ 6) b) (lst (eu χ (b + 1)) b j) = lsA (eu χ 6) (b + 1) := by rw [show j = 16 by omega, eu_lst (show b < 6 by omega)]; rfl
                  rw [e9] at hl
                  exact ih_45 (b + 1) _ _ _ (⟨by omega, hP, hD, hS⟩) (by first | omega | (dsimp only; omega)) (lv_sub hl [1, 2, 3, 0] rfl)
                · refine lv_aload_n hx hb dX3_start_125 rfl (lv_at hl 0 rfl) ?_
                  refine lv_iload hx hb dX3_start_126 (lv_at hl 4 rfl) ?_
                  refine xc_Vi (ci := 3) (rest := []) (As := [.int (nI (16 * b + j))]) ⟨hx, hb, hml, hown, hts⟩ (c_X3_isReadable l D r (nI 0) fp fa (eu χ (b + 1)) (fun _ => 0) 0 3 (cuA (eu χ 6) (b + 1)) fi ne ct 1 b (by omega) j (by omega) (fun i => by have h7 := (eu_le (χ := χ) (b + 1) (by omega) i).1; have h8 := hχ i; omega)) (cwV 1 hts gX3_start_X3_isReadable rfl rfl rfl (by decide +kernel) ⟨Nat.le_of_ble_eq_true rfl, Nat.le_of_ble_eq_true rfl⟩) hN hK (hP) rfl 0 rfl rfl hl.1 rfl (Nat.le_of_ble_eq_true rfl) dX3_start_128 ⟨Nat.le_of_ble_eq_true rfl, Nat.le_of_ble_eq_true rfl⟩ (fun r_128 hw_128 => ?_)
                  refine xz_eq (tgt := 159) hx hb dX3_start_131 (by decide) rfl (fun c_131 => ?_) (fun c_131 => ?_)
                  · have h_131 := bo.f hw_128 c_131
                    refine lv_iinc (v := nI (16 * b + j + 1)) (lv' := [(5, .int (nI (16 * b + j + 1))), (0, .ref (r 0)), (1, .int (mI (grA (eu χ 6) (b + 1)))), (2, .int (mI (mn (lsA (eu χ 6) b) (lst (eu χ (b + 1)) b j)))), (3, .int (nI (b)))]) hx hb dX3_start_159 hl (k := 4) rfl (nI_add _ _) (by decide) rfl (fun ls hl => ?_)
                    refine lv_goto (tgt := 113) hx hb dX3_start_162 (by decide) ?_
                    have e9 : mn (lsA (eu χ 6) b) (lst (eu χ (b + 1)) b j) = mn (lsA (eu χ 6) b) (lst (eu χ (b + 1)) b (j + 1)) := by first | rw [lst_out h_131] | (rw [lst_in h_131, ← mn_assoc]; generalize mn (lsA (eu χ 6) b) (lst (eu χ (b + 1)) b j) = z9 at *; unfold mn; (repeat' split) <;> omega)
                    rw [e9] at hl
                    exact ih_113 (j + 1) _ _ _ (⟨by omega, hP, hD, hS⟩) (by first | omega | (dsimp only; omega)) (lv_sub hl [1, 2, 3, 4, 0] rfl)
                  · have h_131 := bo.t hw_128 c_131
                    refine lv_iload_n hx hb dX3_start_134 rfl (lv_at hl 2 rfl) ?_
                    refine xz_lt (tgt := 148) hx hb dX3_start_135 (by decide) (mI_toInt (by omega)) (fun c_135 => ?_) (fun c_135 => ?_)
                    · refine lv_aload_n hx hb dX3_start_148 rfl (lv_at hl 0 rfl) ?_
                      refine lv_iload hx hb dX3_start_149 (lv_at hl 4 rfl) ?_
                      refine xc_Vi (ci := 3) (rest := []) (As := [.int (nI (16 * b + j))]) ⟨hx, hb, hml, hown, hts⟩ (c_X3_firstOf l D r (nI 0) fp fa (eu χ (b + 1)) (fun _ => 0) 0 3 (cuA (eu χ 6) (b + 1)) fi ne ct 1 b (by omega) j (by omega) (fun i => by have h7 := (eu_le (χ := χ) (b + 1) (by omega) i).1; have h8 := hχ i; omega) (wfs_eu hwf (b + 1) (by omega)) h_131) (cwV 1 hts gX3_start_X3_firstOf rfl rfl rfl (by decide +kernel) ⟨Nat.le_of_ble_eq_true rfl, Nat.le_of_ble_eq_true rfl⟩) hN hK (hP) rfl 0 rfl rfl hl.1 rfl (Nat.le_of_ble_eq_true rfl) dX3_start_151 ⟨Nat.le_of_ble_eq_true rfl, Nat.le_of_ble_eq_true rfl⟩ (fun r_151 hw_151 => ?_)
                      subst hw_151
                      obtain ⟨hw0, hw1, hw2, -⟩ := wfs_eu hwf (b + 1) (by omega) b j (by omega) (by omega) h_131
                      refine lv_goto (tgt := 158) hx hb dX3_start_154 (by decide) ?_
                      refine xr_same (nI_mI (256 * byt (eu χ (b + 1)) b j 1 + byt (eu χ (b + 1)) b j 2)) ?_
                      refine lv_istore_n (lv' := [(2, .int (mI (256 * byt (eu χ (b + 1)) b j 1 + byt (eu χ (b + 1)) b j 2 + 1))), (0, .ref (r 0)), (1, .int (mI (grA (eu χ 6) (b + 1)))), (3, .int (nI (b))), (5, .int (nI (16 * b + j)))]) hx hb dX3_start_158 rfl hl (by decide) rfl (fun ls hl => ?_)
                      refine lv_iinc (v := nI (16 * b + j + 1)) (lv' := [(5, .int (nI (16 * b + j + 1))), (2, .int (mI (256 * byt (eu χ (b + 1)) b j 1 + byt (eu χ (b + 1)) b j 2 + 1))), (0, .ref (r 0)), (1, .int (mI (grA (eu χ 6) (b + 1)))), (3, .int (nI (b)))]) hx hb dX3_start_159 hl (k := 4) rfl (nI_add _ _) (by decide) rfl (fun ls hl => ?_)
                      refine lv_goto (tgt := 113) hx hb dX3_start_162 (by decide) ?_
                      have e9 : 256 * byt (eu χ (b + 1)) b j 1 + byt (eu χ (b + 1)) b j 2 + 1 = mn (lsA (eu χ 6) b) (lst (eu χ (b + 1)) b (j + 1)) := by first | rw [lst_out h_131] | (rw [lst_in h_131, ← mn_assoc]; generalize mn (lsA (eu χ 6) b) (lst (eu χ (b + 1)) b j) = z9 at *; unfold mn; (repeat' split) <;> omega)
                      rw [e9] at hl
                      exact ih_113 (j + 1) _ _ _ (⟨by omega, hP, hD, hS⟩) (by first | omega | (dsimp only; omega)) (lv_sub hl [2, 3, 1, 4, 0] rfl)
                    · refine lv_aload_n hx hb dX3_start_138 rfl (lv_at hl 0 rfl) ?_
                      refine lv_iload hx hb dX3_start_139 (lv_at hl 4 rfl) ?_
                      refine xc_Vi (ci := 3) (rest := []) (As := [.int (nI (16 * b + j))]) ⟨hx, hb, hml, hown, hts⟩ (c_X3_firstOf l D r (nI 0) fp fa (eu χ (b + 1)) (fun _ => 0) 0 3 (cuA (eu χ 6) (b + 1)) fi ne ct 1 b (by omega) j (by omega) (fun i => by have h7 := (eu_le (χ := χ) (b + 1) (by omega) i).1; have h8 := hχ i; omega) (wfs_eu hwf (b + 1) (by omega)) h_131) (cwV 1 hts gX3_start_X3_firstOf rfl rfl rfl (by decide +kernel) ⟨Nat.le_of_ble_eq_true rfl, Nat.le_of_ble_eq_true rfl⟩) hN hK (hP) rfl 0 rfl rfl hl.1 rfl (Nat.le_of_ble_eq_true rfl) dX3_start_141 ⟨Nat.le_of_ble_eq_true rfl, Nat.le_of_ble_eq_true rfl⟩ (fun r_141 hw_141 => ?_)
                      subst hw_141
                      obtain ⟨hw0, hw1, hw2, -⟩ := wfs_eu hwf (b + 1) (by omega) b j (by omega) (by omega) h_131
                      refine lv_iload_n hx hb dX3_start_144 rfl (lv_at hl 2 rfl) ?_
                      refine xi_ge (tgt := 157) hx hb dX3_start_145 (by decide) (nI_toInt (by omega)) (mI_toInt (by omega)) (fun c_145 => ?_) (fun c_145 => ?_)
                      · refine lv_iload_n hx hb dX3_start_157 rfl (lv_at hl 2 rfl) ?_
                        refine lv_istore_n (lv' := [(2, .int (mI (mn (lsA (eu χ 6) b) (lst (eu χ (b + 1)) b j)))), (0, .ref (r 0)), (1, .int (mI (grA (eu χ 6) (b + 1)))), (3, .int (nI (b))), (5, .int (nI (16 * b + j)))]) hx hb dX3_start_158 rfl hl (by decide) rfl (fun ls hl => ?_)
                        refine lv_iinc (v := nI (16 * b + j + 1)) (lv' := [(5, .int (nI (16 * b + j + 1))), (2, .int (mI (mn (lsA (eu χ 6) b) (lst (eu χ (b + 1)) b j)))), (0, .ref (r 0)), (1, .int (mI (grA (eu χ 6) (b + 1)))), (3, .int (nI (b)))]) hx hb dX3_start_159 hl (k := 4) rfl (nI_add _ _) (by decide) rfl (fun ls hl => ?_)
                        refine lv_goto (tgt := 113) hx hb dX3_start_162 (by decide) ?_
                        have e9 : mn (lsA (eu χ 6) b) (lst (eu χ (b + 1)) b j) = mn (lsA (eu χ 6) b) (lst (eu χ (b + 1)) b (j + 1)) := by first | rw [lst_out h_131] | (rw [lst_in h_131, ← mn_assoc]; generalize mn (lsA (eu χ 6) b) (lst (eu χ (b + 1)) b j) = z9 at *; unfold mn; (repeat' split) <;> omega)
                        rw [e9] at hl
                        exact ih_113 (j + 1) _ _ _ (⟨by omega, hP, hD, hS⟩) (by first | omega | (dsimp only; omega)) (lv_sub hl [2, 3, 1, 4, 0] rfl)
                      · refine lv_aload_n hx hb dX3_start_148 rfl (lv_at hl 0 rfl) ?_
                        refine lv_iload hx hb dX3_start_149 (lv_at hl 4 rfl) ?_
                        refine xc_Vi (ci := 3) (rest := []) (As := [.int (nI (16 * b + j))]) ⟨hx, hb, hml, hown, hts⟩ (c_X3_firstOf l D r (nI 0) fp fa (eu χ (b + 1)) (fun _ => 0) 0 3 (cuA (eu χ 6) (b + 1)) fi ne ct 1 b (by omega) j (by omega) (fun i => by have h7 := (eu_le (χ := χ) (b + 1) (by omega) i).1; have h8 := hχ i; omega) (wfs_eu hwf (b + 1) (by omega)) h_131) (cwV 1 hts gX3_start_X3_firstOf rfl rfl rfl (by decide +kernel) ⟨Nat.le_of_ble_eq_true rfl, Nat.le_of_ble_eq_true rfl⟩) hN hK (hP) rfl 0 rfl rfl hl.1 rfl (Nat.le_of_ble_eq_true rfl) dX3_start_151 ⟨Nat.le_of_ble_eq_true rfl, Nat.le_of_ble_eq_true rfl⟩ (fun r_151 hw_151 => ?_)
                        subst hw_151
                        obtain ⟨hw0, hw1, hw2, -⟩ := wfs_eu hwf (b + 1) (by omega) b j (by omega) (by omega) h_131
                        refine lv_goto (tgt := 158) hx hb dX3_start_154 (by decide) ?_
                        refine xr_same (nI_mI (256 * byt (eu χ (b + 1)) b j 1 + byt (eu χ (b + 1)) b j 2)) ?_
                        refine lv_istore_n (lv' := [(2, .int (mI (256 * byt (eu χ (b + 1)) b j 1 + byt (eu χ (b + 1)) b j 2 + 1))), (0, .ref (r 0)), (1, .int (mI (grA (eu χ 6) (b + 1)))), (3, .int (nI (b))), (5, .int (nI (16 * b + j)))]) hx hb dX3_start_158 rfl hl (by decide) rfl (fun ls hl => ?_)
                        refine lv_iinc (v := nI (16 * b + j + 1)) (lv' := [(5, .int (nI (16 * b + j + 1))), (2, .int (mI (256 * byt (eu χ (b + 1)) b j 1 + byt (eu χ (b + 1)) b j 2 + 1))), (0, .ref (r 0)), (1, .int (mI (grA (eu χ 6) (b + 1)))), (3, .int (nI (b)))]) hx hb dX3_start_159 hl (k := 4) rfl (nI_add _ _) (by decide) rfl (fun ls hl => ?_)
                        refine lv_goto (tgt := 113) hx hb dX3_start_162 (by decide) ?_
                        have e9 : 256 * byt (eu χ (b + 1)) b j 1 + byt (eu χ (b + 1)) b j 2 + 1 = mn (lsA (eu χ 6) b) (lst (eu χ (b + 1)) b (j + 1)) := by first | rw [lst_out h_131] | (rw [lst_in h_131, ← mn_assoc]; generalize mn (lsA (eu χ 6) b) (lst (eu χ (b + 1)) b j) = z9 at *; unfold mn; (repeat' split) <;> omega)
                        rw [e9] at hl
                        exact ih_113 (j + 1) _ _ _ (⟨by omega, hP, hD, hS⟩) (by first | omega | (dsimp only; omega)) (lv_sub hl [2, 3, 1, 4, 0] rfl)
              · refine lv_iload hx hb dX3_start_100 (lv_at hl 0 rfl) ?_
                refine lv_goto (tgt := 106) hx hb dX3_start_102 (by decide) ?_
                refine lv_istore_n (lv' := [(1, .int (mI (grt (eu χ b) b 16))), (4, .int (mI (grt (eu χ b) b 16))), (0, .ref (r 0)), (2, .int (mI (lsA (eu χ 6) b))), (3, .int (nI (b)))]) hx hb dX3_start_106 rfl hl (by decide) rfl (fun ls hl => ?_)
                have e8 : (cuA (eu χ 6) b) = cuA (eu χ 6) (b + 1) := (cif_f (by omega)).symm
                have e9 : grt (eu χ b) b 16 = grA (eu χ 6) (b + 1) := by show _ = max (grA (eu χ 6) b) (grt (eu χ 6) b 16); omega
                have hq9 : (wM cI r (nI (0)) fp fa (eu χ (b + 1)) (fun _ => 0) 0 3 (cuA (eu χ 6) b) fi ne ct 1 : va_W) = wM cI r (nI (0)) fp fa (eu χ (b + 1)) (fun _ => 0) 0 3 (cuA (eu χ 6) (b + 1)) fi ne ct 1 := by rw [e8]
                have hP := va_P.eqw hq9 hP
                have hD := va_D.eqw hq9 hD
                have hP : va_P D vwCl (wM cI r (nI (0)) fp fa (eu χ (b + 1)) (fun _ => 0) 0 3 (cuA (eu χ 6) (b + 1)) fi ne ct 1) H := hP
                have hD : va_D A (wM cI r (nI (0)) fp fa (eu χ (b + 1)) (fun _ => 0) 0 3 (cuA (eu χ 6) (b + 1)) fi ne ct 1) := hD
                rw [e9] at hl
                refine lv_bipush (v := nI 16) hx hb dX3_start_107 (by decide) ?_
                refine lv_iload_n hx hb dX3_start_109 rfl (lv_at hl 4 rfl) ?_
                refine xr_mul hx hb dX3_start_110 ?_
                refine lv_istore (lv' := [(5, .int (nI (16 * b))), (1, .int (mI (grA (eu χ 6) (b + 1)))), (4, .int (mI (grA (eu χ 6) (b + 1)))), (0, .ref (r 0)), (2, .int (mI (lsA (eu χ 6) b))), (3, .int (nI (b)))]) hx hb dX3_start_111 hl (by decide) rfl (fun ls hl => ?_)
                refine lpW (α := Nat) (fun j H locs => (j ≤ 16) ∧ va_P D vwCl (wM cI r (nI (0)) fp fa (eu χ (b + 1)) (fun _ => 0) 0 3 (cuA (eu χ 6) (b + 1)) fi ne ct 1) H ∧ va_D A (wM cI r (nI (0)) fp fa (eu χ (b + 1)) (fun _ => 0) 0 3 (cuA (eu χ 6) (b + 1)) fi ne ct 1) ∧ va_S A s.heap H locs) (fun j => [(0, .ref (r 0)), (1, .int (mI (grA (eu χ 6) (b + 1)))), (2, .int (mI (mn (lsA (eu χ 6) b) (lst (eu χ (b + 1)) b j)))), (3, .int (nI (b))), (5, .int (nI (16 * b + j)))]) 6 (fun j => 16 - j) 0 (⟨by omega, hP, hD, hS⟩) (lv_sub hl [3, 1, 4, 5, 0] rfl) (fun s9 H locs ls hI9 hl9 ih_113 => ?_)
                obtain ⟨j, rfl⟩ : ∃ z, z = s9 := ⟨_, rfl⟩
                have hl : lv_has ls 6 [(0, .ref (r 0)), (1, .int (mI (grA (eu χ 6) (b + 1)))), (2, .int (mI (mn (lsA (eu χ 6) b) (lst (eu χ (b + 1)) b j)))), (3, .int (nI (b))), (5, .int (nI (16 * b + j)))] := hl9
                obtain ⟨hj, hP, hD, hS⟩ : (j ≤ 16) ∧ va_P D vwCl (wM cI r (nI (0)) fp fa (eu χ (b + 1)) (fun _ => 0) 0 3 (cuA (eu χ 6) (b + 1)) fi ne ct 1) H ∧ va_D A (wM cI r (nI (0)) fp fa (eu χ (b + 1)) (fun _ => 0) 0 3 (cuA (eu χ 6) (b + 1)) fi ne ct 1) ∧ va_S A s.heap H locs := hI9
                have hk9 := lst_lt (wfs_eu hwf (b + 1) (by omega)) (show b < 6 by omega) j (by omega)
                have hm9 : mn (lsA (eu χ 6) b) (lst (eu χ (b + 1)) b j) < 65600 := by unfold mn; (repeat' split) <;> omega
                refine lv_iload hx hb dX3_start_113 (lv_at hl 4 rfl) ?_
                refine lv_bipush (v := nI 16) hx hb dX3_start_115 (by decide) ?_
                refine lv_iload_n hx hb dX3_start_117 rfl (lv_at hl 3 rfl) ?_
                refine xr_mul hx hb dX3_start_118 ?_
                refine lv_bipush (v := nI 16) hx hb dX3_start_119 (by decide) ?_
                refine xr_add hx hb dX3_start_121 ?_
                refine xi_ge (tgt := 165) hx hb dX3_start_122 (by decide) (nI_toInt (by omega)) (nI_toInt (by omega)) (fun c_122 => ?_) (fun c_122 => ?_)
                · refine lv_iinc (v := nI (b + 1)) (lv' := [(3, .int (nI (b + 1))), (0, .ref (r 0)), (1, .int (mI (grA (eu χ 6) (b + 1)))), (2, .int (mI (mn (lsA (eu χ 6) b) (lst (eu χ (b + 1)) b j)))), (5, .int (nI (16 * b + j)))]) hx hb dX3_start_165 hl (k := 3) rfl (nI_add _ _) (by decide) rfl (fun ls hl => ?_)
                  refine lv_goto (tgt := 45) hx hb dX3_start_168 (by decide) ?_
                  have e9 : mn (lsA (eu χ 6) b) (lst (eu χ (b + 1)) b j) = lsA (eu χ 6) (b + 1) := by rw [show j = 16 by omega, eu_lst (show b < 6 by omega)]; rfl
                  rw [e9] at hl
                  exact ih_45 (b + 1) _ _ _ (⟨by omega, hP, hD, hS⟩) (by first | omega | (dsimp only; omega)) (lv_sub hl [1, 2, 3, 0] rfl)
                · refine lv_aload_n hx hb dX3_start_125 rfl (lv_at hl 0 rfl) ?_
                  refine lv_iload hx hb dX3_start_126 (lv_at hl 4 rfl) ?_
                  refine xc_Vi (ci := 3) (rest := []) (As := [.int (nI (16 * b + j))]) ⟨hx, hb, hml, hown, hts⟩ (c_X3_isReadable l D r (nI 0) fp fa (eu χ (b + 1)) (fun _ => 0) 0 3 (cuA (eu χ 6) (b + 1)) fi ne ct 1 b (by omega) j (by omega) (fun i => by have h7 := (eu_le (χ := χ) (b + 1) (by omega) i).1; have h8 := hχ i; omega)) (cwV 1 hts gX3_start_X3_isReadable rfl rfl rfl (by decide +kernel) ⟨Nat.le_of_ble_eq_true rfl, Nat.le_of_ble_eq_true rfl⟩) hN hK (hP) rfl 0 rfl rfl hl.1 rfl (Nat.le_of_ble_eq_true rfl) dX3_start_128 ⟨Nat.le_of_ble_eq_true rfl, Nat.le_of_ble_eq_true rfl⟩ (fun r_128 hw_128 => ?_)
                  refine xz_eq (tgt := 159) hx hb dX3_start_131 (by decide) rfl (fun c_131 => ?_) (fun c_131 => ?_)
                  · have h_131 := bo.f hw_128 c_131
                    refine lv_iinc (v := nI (16 * b + j + 1)) (lv' := [(5, .int (nI (16 * b + j + 1))), (0, .ref (r 0)), (1, .int (mI (grA (eu χ 6) (b + 1)))), (2, .int (mI (mn (lsA (eu χ 6) b) (lst (eu χ (b + 1)) b j)))), (3, .int (nI (b)))]) hx hb dX3_start_159 hl (k := 4) rfl (nI_add _ _) (by decide) rfl (fun ls hl => ?_)
                    refine lv_goto (tgt := 113) hx hb dX3_start_162 (by decide) ?_
                    have e9 : mn (lsA (eu χ 6) b) (lst (eu χ (b + 1)) b j) = mn (lsA (eu χ 6) b) (lst (eu χ (b + 1)) b (j + 1)) := by first | rw [lst_out h_131] | (rw [lst_in h_131, ← mn_assoc]; generalize mn (lsA (eu χ 6) b) (lst (eu χ (b + 1)) b j) = z9 at *; unfold mn; (repeat' split) <;> omega)
                    rw [e9] at hl
                    exact ih_113 (j + 1) _ _ _ (⟨by omega, hP, hD, hS⟩) (by first | omega | (dsimp only; omega)) (lv_sub hl [1, 2, 3, 4, 0] rfl)
                  · have h_131 := bo.t hw_128 c_131
                    refine lv_iload_n hx hb dX3_start_134 rfl (lv_at hl 2 rfl) ?_
                    refine xz_lt (tgt := 148) hx hb dX3_start_135 (by decide) (mI_toInt (by omega)) (fun c_135 => ?_) (fun c_135 => ?_)
                    · refine lv_aload_n hx hb dX3_start_148 rfl (lv_at hl 0 rfl) ?_
                      refine lv_iload hx hb dX3_start_149 (lv_at hl 4 rfl) ?_
                      refine xc_Vi (ci := 3) (rest := []) (As := [.int (nI (16 * b + j))]) ⟨hx, hb, hml, hown, hts⟩ (c_X3_firstOf l D r (nI 0) fp fa (eu χ (b + 1)) (fun _ => 0) 0 3 (cuA (eu χ 6) (b + 1)) fi ne ct 1 b (by omega) j (by omega) (fun i => by have h7 := (eu_le (χ := χ) (b + 1) (by omega) i).1; have h8 := hχ i; omega) (wfs_eu hwf (b + 1) (by omega)) h_131) (cwV 1 hts gX3_start_X3_firstOf rfl rfl rfl (by decide +kernel) ⟨Nat.le_of_ble_eq_true rfl, Nat.le_of_ble_eq_true rfl⟩) hN hK (hP) rfl 0 rfl rfl hl.1 rfl (Nat.le_of_ble_eq_true rfl) dX3_start_151 ⟨Nat.le_of_ble_eq_true rfl, Nat.le_of_ble_eq_true rfl⟩ (fun r_151 hw_151 => ?_)
                      subst hw_151
                      obtain ⟨hw0, hw1, hw2, -⟩ := wfs_eu hwf (b + 1) (by omega) b j (by omega) (by omega) h_131
                      refine lv_goto (tgt := 158) hx hb dX3_start_154 (by decide) ?_
                      refine xr_same (nI_mI (256 * byt (eu χ (b + 1)) b j 1 + byt (eu χ (b + 1)) b j 2)) ?_
                      refine lv_istore_n (lv' := [(2, .int (mI (256 * byt (eu χ (b + 1)) b j 1 + byt (eu χ (b + 1)) b j 2 + 1))), (0, .ref (r 0)), (1, .int (mI (grA (eu χ 6) (b + 1)))), (3, .int (nI (b))), (5, .int (nI (16 * b + j)))]) hx hb dX3_start_158 rfl hl (by decide) rfl (fun ls hl => ?_)
                      refine lv_iinc (v := nI (16 * b + j + 1)) (lv' := [(5, .int (nI (16 * b + j + 1))), (2, .int (mI (256 * byt (eu χ (b + 1)) b j 1 + byt (eu χ (b + 1)) b j 2 + 1))), (0, .ref (r 0)), (1, .int (mI (grA (eu χ 6) (b + 1)))), (3, .int (nI (b)))]) hx hb dX3_start_159 hl (k := 4) rfl (nI_add _ _) (by decide) rfl (fun ls hl => ?_)
                      refine lv_goto (tgt := 113) hx hb dX3_start_162 (by decide) ?_
                      have e9 : 256 * byt (eu χ (b + 1)) b j 1 + byt (eu χ (b + 1)) b j 2 + 1 = mn (lsA (eu χ 6) b) (lst (eu χ (b + 1)) b (j + 1)) := by first | rw [lst_out h_131] | (rw [lst_in h_131, ← mn_assoc]; generalize mn (lsA (eu χ 6) b) (lst (eu χ (b + 1)) b j) = z9 at *; unfold mn; (repeat' split) <;> omega)
                      rw [e9] at hl
                      exact ih_113 (j + 1) _ _ _ (⟨by omega, hP, hD, hS⟩) (by first | omega | (dsimp only; omega)) (lv_sub hl [2, 3, 1, 4, 0] rfl)
                    · refine lv_aload_n hx hb dX3_start_138 rfl (lv_at hl 0 rfl) ?_
                      refine lv_iload hx hb dX3_start_139 (lv_at hl 4 rfl) ?_
                      refine xc_Vi (ci := 3) (rest := []) (As := [.int (nI (16 * b + j))]) ⟨hx, hb, hml, hown, hts⟩ (c_X3_firstOf l D r (nI 0) fp fa (eu χ (b + 1)) (fun _ => 0) 0 3 (cuA (eu χ 6) (b + 1)) fi ne ct 1 b (by omega) j (by omega) (fun i => by have h7 := (eu_le (χ := χ) (b + 1) (by omega) i).1; have h8 := hχ i; omega) (wfs_eu hwf (b + 1) (by omega)) h_131) (cwV 1 hts gX3_start_X3_firstOf rfl rfl rfl (by decide +kernel) ⟨Nat.le_of_ble_eq_true rfl, Nat.le_of_ble_eq_true rfl⟩) hN hK (hP) rfl 0 rfl rfl hl.1 rfl (Nat.le_of_ble_eq_true rfl) dX3_start_141 ⟨Nat.le_of_ble_eq_true rfl, Nat.le_of_ble_eq_true rfl⟩ (fun r_141 hw_141 => ?_)
                      subst hw_141
                      obtain ⟨hw0, hw1, hw2, -⟩ := wfs_eu hwf (b + 1) (by omega) b j (by omega) (by omega) h_131
                      refine lv_iload_n hx hb dX3_start_144 rfl (lv_at hl 2 rfl) ?_
                      refine xi_ge (tgt := 157) hx hb dX3_start_145 (by decide) (nI_toInt (by omega)) (mI_toInt (by omega)) (fun c_145 => ?_) (fun c_145 => ?_)
                      · refine lv_iload_n hx hb dX3_start_157 rfl (lv_at hl 2 rfl) ?_
                        refine lv_istore_n (lv' := [(2, .int (mI (mn (lsA (eu χ 6) b) (lst (eu χ (b + 1)) b j)))), (0, .ref (r 0)), (1, .int (mI (grA (eu χ 6) (b + 1)))), (3, .int (nI (b))), (5, .int (nI (16 * b + j)))]) hx hb dX3_start_158 rfl hl (by decide) rfl (fun ls hl => ?_)
                        refine lv_iinc (v := nI (16 * b + j + 1)) (lv' := [(5, .int (nI (16 * b + j + 1))), (2, .int (mI (mn (lsA (eu χ 6) b) (lst (eu χ (b + 1)) b j)))), (0, .ref (r 0)), (1, .int (mI (grA (eu χ 6) (b + 1)))), (3, .int (nI (b)))]) hx hb dX3_start_159 hl (k := 4) rfl (nI_add _ _) (by decide) rfl (fun ls hl => ?_)
                        refine lv_goto (tgt := 113) hx hb dX3_start_162 (by decide) ?_
                        have e9 : mn (lsA (eu χ 6) b) (lst (eu χ (b + 1)) b j) = mn (lsA (eu χ 6) b) (lst (eu χ (b + 1)) b (j + 1)) := by first | rw [lst_out h_131] | (rw [lst_in h_131, ← mn_assoc]; generalize mn (lsA (eu χ 6) b) (lst (eu χ (b + 1)) b j) = z9 at *; unfold mn; (repeat' split) <;> omega)
                        rw [e9] at hl
                        exact ih_113 (j + 1) _ _ _ (⟨by omega, hP, hD, hS⟩) (by first | omega | (dsimp only; omega)) (lv_sub hl [2, 3, 1, 4, 0] rfl)
                      · refine lv_aload_n hx hb dX3_start_148 rfl (lv_at hl 0 rfl) ?_
                        refine lv_iload hx hb dX3_start_149 (lv_at hl 4 rfl) ?_
                        refine xc_Vi (ci := 3) (rest := []) (As := [.int (nI (16 * b + j))]) ⟨hx, hb, hml, hown, hts⟩ (c_X3_firstOf l D r (nI 0) fp fa (eu χ (b + 1)) (fun _ => 0) 0 3 (cuA (eu χ 6) (b + 1)) fi ne ct 1 b (by omega) j (by omega) (fun i => by have h7 := (eu_le (χ := χ) (b + 1) (by omega) i).1; have h8 := hχ i; omega) (wfs_eu hwf (b + 1) (by omega)) h_131) (cwV 1 hts gX3_start_X3_firstOf rfl rfl rfl (by decide +kernel) ⟨Nat.le_of_ble_eq_true rfl, Nat.le_of_ble_eq_true rfl⟩) hN hK (hP) rfl 0 rfl rfl hl.1 rfl (Nat.le_of_ble_eq_true rfl) dX3_start_151 ⟨Nat.le_of_ble_eq_true rfl, Nat.le_of_ble_eq_true rfl⟩ (fun r_151 hw_151 => ?_)
                        subst hw_151
                        obtain ⟨hw0, hw1, hw2, -⟩ := wfs_eu hwf (b + 1) (by omega) b j (by omega) (by omega) h_131
                        refine lv_goto (tgt := 158) hx hb dX3_start_154 (by decide) ?_
                        refine xr_same (nI_mI (256 * byt (eu χ (b + 1)) b j 1 + byt (eu χ (b + 1)) b j 2)) ?_
                        refine lv_istore_n (lv' := [(2, .int (mI (256 * byt (eu χ (b + 1)) b j 1 + byt (eu χ (b + 1)) b j 2 + 1))), (0, .ref (r 0)), (1, .int (mI (grA (eu χ 6) (b + 1)))), (3, .int (nI (b))), (5, .int (nI (16 * b + j)))]) hx hb dX3_start_158 rfl hl (by decide) rfl (fun ls hl => ?_)
                        refine lv_iinc (v := nI (16 * b + j + 1)) (lv' := [(5, .int (nI (16 * b + j + 1))), (2, .int (mI (256 * byt (eu χ (b + 1)) b j 1 + byt (eu χ (b + 1)) b j 2 + 1))), (0, .ref (r 0)), (1, .int (mI (grA (eu χ 6) (b + 1)))), (3, .int (nI (b)))]) hx hb dX3_start_159 hl (k := 4) rfl (nI_add _ _) (by decide) rfl (fun ls hl => ?_)
                        refine lv_goto (tgt := 113) hx hb dX3_start_162 (by decide) ?_
                        have e9 : 256 * byt (eu χ (b + 1)) b j 1 + byt (eu χ (b + 1)) b j 2 + 1 = mn (lsA (eu χ 6) b) (lst (eu χ (b + 1)) b (j + 1)) := by first | rw [lst_out h_131] | (rw [lst_in h_131, ← mn_assoc]; generalize mn (lsA (eu χ 6) b) (lst (eu χ (b + 1)) b j) = z9 at *; unfold mn; (repeat' split) <;> omega)
                        rw [e9] at hl
                        exact ih_113 (j + 1) _ _ _ (⟨by omega, hP, hD, hS⟩) (by first | omega | (dsimp only; omega)) (lv_sub hl [2, 3, 1, 4, 0] rfl)
            · refine lv_iload_n hx hb dX3_start_83 rfl (lv_at hl 4 rfl) ?_
              refine lv_goto (tgt := 91) hx hb dX3_start_84 (by decide) ?_
              refine va_put (D := D) (ci := 3) (v := .int (nI (b))) (ty := .int) (C := RX3) (T := TX3) (N := 16) hx hb hts hiX3 tyX3 tyX3_ok nmX3 hown hK hP hD hS 0 rfl rfl 8 (by decide) (hts (.fieldLink RX3 54 "PairedCellsModel" "current" "I") (by decide +kernel)) (fun _ h9 => h9) rfl (by decide +kernel) rfl rfl (Nat.le_of_ble_eq_true rfl) dX3_start_91 (fun H locs hP hD hS => ?_)
              have hP : va_P D vwCl (wM cI r (nI (0)) fp fa (eu χ (b + 1)) (fun _ => 0) 0 3 b fi ne ct 1) H := hP
              have hD : va_D A (wM cI r (nI (0)) fp fa (eu χ (b + 1)) (fun _ => 0) 0 3 b fi ne ct 1) := hD
              refine lv_iload hx hb dX3_start_94 (lv_at hl 0 rfl) ?_
              refine lv_iload_n hx hb dX3_start_96 rfl (lv_at hl 2 rfl) ?_
              refine xi_le (tgt := 105) hx hb dX3_start_97 (by decide) (mI_toInt (by omega)) (mI_toInt (by omega)) (fun c_97 => ?_) (fun c_97 => ?_)
              · refine lv_iload_n hx hb dX3_start_105 rfl (lv_at hl 2 rfl) ?_
                refine lv_istore_n (lv' := [(1, .int (mI (grA (eu χ 6) b))), (4, .int (mI (grt (eu χ b) b 16))), (0, .ref (r 0)), (2, .int (mI (lsA (eu χ 6) b))), (3, .int (nI (b)))]) hx hb dX3_start_106 rfl hl (by decide) rfl (fun ls hl => ?_)
                have e8 : b = cuA (eu χ 6) (b + 1) := (cif_t (by omega)).symm
                have e9 : grA (eu χ 6) b = grA (eu χ 6) (b + 1) := by show _ = max (grA (eu χ 6) b) (grt (eu χ 6) b 16); omega
                have hq9 : (wM cI r (nI (0)) fp fa (eu χ (b + 1)) (fun _ => 0) 0 3 b fi ne ct 1 : va_W) = wM cI r (nI (0)) fp fa (eu χ (b + 1)) (fun _ => 0) 0 3 (cuA (eu χ 6) (b + 1)) fi ne ct 1 := by rw [← e8]
                have hP := va_P.eqw hq9 hP
                have hD := va_D.eqw hq9 hD
                have hP : va_P D vwCl (wM cI r (nI (0)) fp fa (eu χ (b + 1)) (fun _ => 0) 0 3 (cuA (eu χ 6) (b + 1)) fi ne ct 1) H := hP
                have hD : va_D A (wM cI r (nI (0)) fp fa (eu χ (b + 1)) (fun _ => 0) 0 3 (cuA (eu χ 6) (b + 1)) fi ne ct 1) := hD
                rw [e9] at hl
                refine lv_bipush (v := nI 16) hx hb dX3_start_107 (by decide) ?_
                refine lv_iload_n hx hb dX3_start_109 rfl (lv_at hl 4 rfl) ?_
                refine xr_mul hx hb dX3_start_110 ?_
                refine lv_istore (lv' := [(5, .int (nI (16 * b))), (1, .int (mI (grA (eu χ 6) (b + 1)))), (4, .int (mI (grt (eu χ b) b 16))), (0, .ref (r 0)), (2, .int (mI (lsA (eu χ 6) b))), (3, .int (nI (b)))]) hx hb dX3_start_111 hl (by decide) rfl (fun ls hl => ?_)
                refine lpW (α := Nat) (fun j H locs => (j ≤ 16) ∧ va_P D vwCl (wM cI r (nI (0)) fp fa (eu χ (b + 1)) (fun _ => 0) 0 3 (cuA (eu χ 6) (b + 1)) fi ne ct 1) H ∧ va_D A (wM cI r (nI (0)) fp fa (eu χ (b + 1)) (fun _ => 0) 0 3 (cuA (eu χ 6) (b + 1)) fi ne ct 1) ∧ va_S A s.heap H locs) (fun j => [(0, .ref (r 0)), (1, .int (mI (grA (eu χ 6) (b + 1)))), (2, .int (mI (mn (lsA (eu χ 6) b) (lst (eu χ (b + 1)) b j)))), (3, .int (nI (b))), (5, .int (nI (16 * b + j)))]) 6 (fun j => 16 - j) 0 (⟨by omega, hP, hD, hS⟩) (lv_sub hl [3, 1, 4, 5, 0] rfl) (fun s9 H locs ls hI9 hl9 ih_113 => ?_)
                obtain ⟨j, rfl⟩ : ∃ z, z = s9 := ⟨_, rfl⟩
                have hl : lv_has ls 6 [(0, .ref (r 0)), (1, .int (mI (grA (eu χ 6) (b + 1)))), (2, .int (mI (mn (lsA (eu χ 6) b) (lst (eu χ (b + 1)) b j)))), (3, .int (nI (b))), (5, .int (nI (16 * b + j)))] := hl9
                obtain ⟨hj, hP, hD, hS⟩ : (j ≤ 16) ∧ va_P D vwCl (wM cI r (nI (0)) fp fa (eu χ (b + 1)) (fun _ => 0) 0 3 (cuA (eu χ 6) (b + 1)) fi ne ct 1) H ∧ va_D A (wM cI r (nI (0)) fp fa (eu χ (b + 1)) (fun _ => 0) 0 3 (cuA (eu χ 6) (b + 1)) fi ne ct 1) ∧ va_S A s.heap H locs := hI9
                have hk9 := lst_lt (wfs_eu hwf (b + 1) (by omega)) (show b < 6 by omega) j (by omega)
                have hm9 : mn (lsA (eu χ 6) b) (lst (eu χ (b + 1)) b j) < 65600 := by unfold mn; (repeat' split) <;> omega
                refine lv_iload hx hb dX3_start_113 (lv_at hl 4 rfl) ?_
                refine lv_bipush (v := nI 16) hx hb dX3_start_115 (by decide) ?_
                refine lv_iload_n hx hb dX3_start_117 rfl (lv_at hl 3 rfl) ?_
                refine xr_mul hx hb dX3_start_118 ?_
                refine lv_bipush (v := nI 16) hx hb dX3_start_119 (by decide) ?_
                refine xr_add hx hb dX3_start_121 ?_
                refine xi_ge (tgt := 165) hx hb dX3_start_122 (by decide) (nI_toInt (by omega)) (nI_toInt (by omega)) (fun c_122 => ?_) (fun c_122 => ?_)
                · refine lv_iinc (v := nI (b + 1)) (lv' := [(3, .int (nI (b + 1))), (0, .ref (r 0)), (1, .int (mI (grA (eu χ 6) (b + 1)))), (2, .int (mI (mn (lsA (eu χ 6) b) (lst (eu χ (b + 1)) b j)))), (5, .int (nI (16 * b + j)))]) hx hb dX3_start_165 hl (k := 3) rfl (nI_add _ _) (by decide) rfl (fun ls hl => ?_)
                  refine lv_goto (tgt := 45) hx hb dX3_start_168 (by decide) ?_
                  have e9 : mn (lsA (eu χ 6) b) (lst (eu χ (b + 1)) b j) = lsA (eu χ 6) (b + 1) := by rw [show j = 16 by omega, eu_lst (show b < 6 by omega)]; rfl
                  rw [e9] at hl
                  exact ih_45 (b + 1) _ _ _ (⟨by omega, hP, hD, hS⟩) (by first | omega | (dsimp only; omega)) (lv_sub hl [1, 2, 3, 0] rfl)
                · refine lv_aload_n hx hb dX3_start_125 rfl (lv_at hl 0 rfl) ?_
                  refine lv_iload hx hb dX3_start_126 (lv_at hl 4 rfl) ?_
                  refine xc_Vi (ci := 3) (rest := []) (As := [.int (nI (16 * b + j))]) ⟨hx, hb, hml, hown, hts⟩ (c_X3_isReadable l D r (nI 0) fp fa (eu χ (b + 1)) (fun _ => 0) 0 3 (cuA (eu χ 6) (b + 1)) fi ne ct 1 b (by omega) j (by omega) (fun i => by have h7 := (eu_le (χ := χ) (b + 1) (by omega) i).1; have h8 := hχ i; omega)) (cwV 1 hts gX3_start_X3_isReadable rfl rfl rfl (by decide +kernel) ⟨Nat.le_of_ble_eq_true rfl, Nat.le_of_ble_eq_true rfl⟩) hN hK (hP) rfl 0 rfl rfl hl.1 rfl (Nat.le_of_ble_eq_true rfl) dX3_start_128 ⟨Nat.le_of_ble_eq_true rfl, Nat.le_of_ble_eq_true rfl⟩ (fun r_128 hw_128 => ?_)
                  refine xz_eq (tgt := 159) hx hb dX3_start_131 (by decide) rfl (fun c_131 => ?_) (fun c_131 => ?_)
                  · have h_131 := bo.f hw_128 c_131
                    refine lv_iinc (v := nI (16 * b + j + 1)) (lv' := [(5, .int (nI (16 * b + j + 1))), (0, .ref (r 0)), (1, .int (mI (grA (eu χ 6) (b + 1)))), (2, .int (mI (mn (lsA (eu χ 6) b) (lst (eu χ (b + 1)) b j)))), (3, .int (nI (b)))]) hx hb dX3_start_159 hl (k := 4) rfl (nI_add _ _) (by decide) rfl (fun ls hl => ?_)
                    refine lv_goto (tgt := 113) hx hb dX3_start_162 (by decide) ?_
                    have e9 : mn (lsA (eu χ 6) b) (lst (eu χ (b + 1)) b j) = mn (lsA (eu χ 6) b) (lst (eu χ (b + 1)) b (j + 1)) := by first | rw [lst_out h_131] | (rw [lst_in h_131, ← mn_assoc]; generalize mn (lsA (eu χ 6) b) (lst (eu χ (b + 1)) b j) = z9 at *; unfold mn; (repeat' split) <;> omega)
                    rw [e9] at hl
                    exact ih_113 (j + 1) _ _ _ (⟨by omega, hP, hD, hS⟩) (by first | omega | (dsimp only; omega)) (lv_sub hl [1, 2, 3, 4, 0] rfl)
                  · have h_131 := bo.t hw_128 c_131
                    refine lv_iload_n hx hb dX3_start_134 rfl (lv_at hl 2 rfl) ?_
                    refine xz_lt (tgt := 148) hx hb dX3_start_135 (by decide) (mI_toInt (by omega)) (fun c_135 => ?_) (fun c_135 => ?_)
                    · refine lv_aload_n hx hb dX3_start_148 rfl (lv_at hl 0 rfl) ?_
                      refine lv_iload hx hb dX3_start_149 (lv_at hl 4 rfl) ?_
                      refine xc_Vi (ci := 3) (rest := []) (As := [.int (nI (16 * b + j))]) ⟨hx, hb, hml, hown, hts⟩ (c_X3_firstOf l D r (nI 0) fp fa (eu χ (b + 1)) (fun _ => 0) 0 3 (cuA (eu χ 6) (b + 1)) fi ne ct 1 b (by omega) j (by omega) (fun i => by have h7 := (eu_le (χ := χ) (b + 1) (by omega) i).1; have h8 := hχ i; omega) (wfs_eu hwf (b + 1) (by omega)) h_131) (cwV 1 hts gX3_start_X3_firstOf rfl rfl rfl (by decide +kernel) ⟨Nat.le_of_ble_eq_true rfl, Nat.le_of_ble_eq_true rfl⟩) hN hK (hP) rfl 0 rfl rfl hl.1 rfl (Nat.le_of_ble_eq_true rfl) dX3_start_151 ⟨Nat.le_of_ble_eq_true rfl, Nat.le_of_ble_eq_true rfl⟩ (fun r_151 hw_151 => ?_)
                      subst hw_151
                      obtain ⟨hw0, hw1, hw2, -⟩ := wfs_eu hwf (b + 1) (by omega) b j (by omega) (by omega) h_131
                      refine lv_goto (tgt := 158) hx hb dX3_start_154 (by decide) ?_
                      refine xr_same (nI_mI (256 * byt (eu χ (b + 1)) b j 1 + byt (eu χ (b + 1)) b j 2)) ?_
                      refine lv_istore_n (lv' := [(2, .int (mI (256 * byt (eu χ (b + 1)) b j 1 + byt (eu χ (b + 1)) b j 2 + 1))), (0, .ref (r 0)), (1, .int (mI (grA (eu χ 6) (b + 1)))), (3, .int (nI (b))), (5, .int (nI (16 * b + j)))]) hx hb dX3_start_158 rfl hl (by decide) rfl (fun ls hl => ?_)
                      refine lv_iinc (v := nI (16 * b + j + 1)) (lv' := [(5, .int (nI (16 * b + j + 1))), (2, .int (mI (256 * byt (eu χ (b + 1)) b j 1 + byt (eu χ (b + 1)) b j 2 + 1))), (0, .ref (r 0)), (1, .int (mI (grA (eu χ 6) (b + 1)))), (3, .int (nI (b)))]) hx hb dX3_start_159 hl (k := 4) rfl (nI_add _ _) (by decide) rfl (fun ls hl => ?_)
                      refine lv_goto (tgt := 113) hx hb dX3_start_162 (by decide) ?_
                      have e9 : 256 * byt (eu χ (b + 1)) b j 1 + byt (eu χ (b + 1)) b j 2 + 1 = mn (lsA (eu χ 6) b) (lst (eu χ (b + 1)) b (j + 1)) := by first | rw [lst_out h_131] | (rw [lst_in h_131, ← mn_assoc]; generalize mn (lsA (eu χ 6) b) (lst (eu χ (b + 1)) b j) = z9 at *; unfold mn; (repeat' split) <;> omega)
                      rw [e9] at hl
                      exact ih_113 (j + 1) _ _ _ (⟨by omega, hP, hD, hS⟩) (by first | omega | (dsimp only; omega)) (lv_sub hl [2, 3, 1, 4, 0] rfl)
                    · refine lv_aload_n hx hb dX3_start_138 rfl (lv_at hl 0 rfl) ?_
                      refine lv_iload hx hb dX3_start_139 (lv_at hl 4 rfl) ?_
                      refine xc_Vi (ci := 3) (rest := []) (As := [.int (nI (16 * b + j))]) ⟨hx, hb, hml, hown, hts⟩ (c_X3_firstOf l D r (nI 0) fp fa (eu χ (b + 1)) (fun _ => 0) 0 3 (cuA (eu χ 6) (b + 1)) fi ne ct 1 b (by omega) j (by omega) (fun i => by have h7 := (eu_le (χ := χ) (b + 1) (by omega) i).1; have h8 := hχ i; omega) (wfs_eu hwf (b + 1) (by omega)) h_131) (cwV 1 hts gX3_start_X3_firstOf rfl rfl rfl (by decide +kernel) ⟨Nat.le_of_ble_eq_true rfl, Nat.le_of_ble_eq_true rfl⟩) hN hK (hP) rfl 0 rfl rfl hl.1 rfl (Nat.le_of_ble_eq_true rfl) dX3_start_141 ⟨Nat.le_of_ble_eq_true rfl, Nat.le_of_ble_eq_true rfl⟩ (fun r_141 hw_141 => ?_)
                      subst hw_141
                      obtain ⟨hw0, hw1, hw2, -⟩ := wfs_eu hwf (b + 1) (by omega) b j (by omega) (by omega) h_131
                      refine lv_iload_n hx hb dX3_start_144 rfl (lv_at hl 2 rfl) ?_
                      refine xi_ge (tgt := 157) hx hb dX3_start_145 (by decide) (nI_toInt (by omega)) (mI_toInt (by omega)) (fun c_145 => ?_) (fun c_145 => ?_)
                      · refine lv_iload_n hx hb dX3_start_157 rfl (lv_at hl 2 rfl) ?_
                        refine lv_istore_n (lv' := [(2, .int (mI (mn (lsA (eu χ 6) b) (lst (eu χ (b + 1)) b j)))), (0, .ref (r 0)), (1, .int (mI (grA (eu χ 6) (b + 1)))), (3, .int (nI (b))), (5, .int (nI (16 * b + j)))]) hx hb dX3_start_158 rfl hl (by decide) rfl (fun ls hl => ?_)
                        refine lv_iinc (v := nI (16 * b + j + 1)) (lv' := [(5, .int (nI (16 * b + j + 1))), (2, .int (mI (mn (lsA (eu χ 6) b) (lst (eu χ (b + 1)) b j)))), (0, .ref (r 0)), (1, .int (mI (grA (eu χ 6) (b + 1)))), (3, .int (nI (b)))]) hx hb dX3_start_159 hl (k := 4) rfl (nI_add _ _) (by decide) rfl (fun ls hl => ?_)
                        refine lv_goto (tgt := 113) hx hb dX3_start_162 (by decide) ?_
                        have e9 : mn (lsA (eu χ 6) b) (lst (eu χ (b + 1)) b j) = mn (lsA (eu χ 6) b) (lst (eu χ (b + 1)) b (j + 1)) := by first | rw [lst_out h_131] | (rw [lst_in h_131, ← mn_assoc]; generalize mn (lsA (eu χ 6) b) (lst (eu χ (b + 1)) b j) = z9 at *; unfold mn; (repeat' split) <;> omega)
                        rw [e9] at hl
                        exact ih_113 (j + 1) _ _ _ (⟨by omega, hP, hD, hS⟩) (by first | omega | (dsimp only; omega)) (lv_sub hl [2, 3, 1, 4, 0] rfl)
                      · refine lv_aload_n hx hb dX3_start_148 rfl (lv_at hl 0 rfl) ?_
                        refine lv_iload hx hb dX3_start_149 (lv_at hl 4 rfl) ?_
                        refine xc_Vi (ci := 3) (rest := []) (As := [.int (nI (16 * b + j))]) ⟨hx, hb, hml, hown, hts⟩ (c_X3_firstOf l D r (nI 0) fp fa (eu χ (b + 1)) (fun _ => 0) 0 3 (cuA (eu χ 6) (b + 1)) fi ne ct 1 b (by omega) j (by omega) (fun i => by have h7 := (eu_le (χ := χ) (b + 1) (by omega) i).1; have h8 := hχ i; omega) (wfs_eu hwf (b + 1) (by omega)) h_131) (cwV 1 hts gX3_start_X3_firstOf rfl rfl rfl (by decide +kernel) ⟨Nat.le_of_ble_eq_true rfl, Nat.le_of_ble_eq_true rfl⟩) hN hK (hP) rfl 0 rfl rfl hl.1 rfl (Nat.le_of_ble_eq_true rfl) dX3_start_151 ⟨Nat.le_of_ble_eq_true rfl, Nat.le_of_ble_eq_true rfl⟩ (fun r_151 hw_151 => ?_)
                        subst hw_151
                        obtain ⟨hw0, hw1, hw2, -⟩ := wfs_eu hwf (b + 1) (by omega) b j (by omega) (by omega) h_131
                        refine lv_goto (tgt := 158) hx hb dX3_start_154 (by decide) ?_
                        refine xr_same (nI_mI (256 * byt (eu χ (b + 1)) b j 1 + byt (eu χ (b + 1)) b j 2)) ?_
                        refine lv_istore_n (lv' := [(2, .int (mI (256 * byt (eu χ (b + 1)) b j 1 + byt (eu χ (b + 1)) b j 2 + 1))), (0, .ref (r 0)), (1, .int (mI (grA (eu χ 6) (b + 1)))), (3, .int (nI (b))), (5, .int (nI (16 * b + j)))]) hx hb dX3_start_158 rfl hl (by decide) rfl (fun ls hl => ?_)
                        refine lv_iinc (v := nI (16 * b + j + 1)) (lv' := [(5, .int (nI (16 * b + j + 1))), (2, .int (mI (256 * byt (eu χ (b + 1)) b j 1 + byt (eu χ (b + 1)) b j 2 + 1))), (0, .ref (r 0)), (1, .int (mI (grA (eu χ 6) (b + 1)))), (3, .int (nI (b)))]) hx hb dX3_start_159 hl (k := 4) rfl (nI_add _ _) (by decide) rfl (fun ls hl => ?_)
                        refine lv_goto (tgt := 113) hx hb dX3_start_162 (by decide) ?_
                        have e9 : 256 * byt (eu χ (b + 1)) b j 1 + byt (eu χ (b + 1)) b j 2 + 1 = mn (lsA (eu χ 6) b) (lst (eu χ (b + 1)) b (j + 1)) := by first | rw [lst_out h_131] | (rw [lst_in h_131, ← mn_assoc]; generalize mn (lsA (eu χ 6) b) (lst (eu χ (b + 1)) b j) = z9 at *; unfold mn; (repeat' split) <;> omega)
                        rw [e9] at hl
                        exact ih_113 (j + 1) _ _ _ (⟨by omega, hP, hD, hS⟩) (by first | omega | (dsimp only; omega)) (lv_sub hl [2, 3, 1, 4, 0] rfl)
              · refine lv_iload hx hb dX3_start_100 (lv_at hl 0 rfl) ?_
                refine lv_goto (tgt := 106) hx hb dX3_start_102 (by decide) ?_
                refine lv_istore_n (lv' := [(1, .int (mI (grt (eu χ b) b 16))), (4, .int (mI (grt (eu χ b) b 16))), (0, .ref (r 0)), (2, .int (mI (lsA (eu χ 6) b))), (3, .int (nI (b)))]) hx hb dX3_start_106 rfl hl (by decide) rfl (fun ls hl => ?_)
                have e8 : b = cuA (eu χ 6) (b + 1) := (cif_t (by omega)).symm
                have e9 : grt (eu χ b) b 16 = grA (eu χ 6) (b + 1) := by show _ = max (grA (eu χ 6) b) (grt (eu χ 6) b 16); omega
                have hq9 : (wM cI r (nI (0)) fp fa (eu χ (b + 1)) (fun _ => 0) 0 3 b fi ne ct 1 : va_W) = wM cI r (nI (0)) fp fa (eu χ (b + 1)) (fun _ => 0) 0 3 (cuA (eu χ 6) (b + 1)) fi ne ct 1 := by rw [← e8]
                have hP := va_P.eqw hq9 hP
                have hD := va_D.eqw hq9 hD
                have hP : va_P D vwCl (wM cI r (nI (0)) fp fa (eu χ (b + 1)) (fun _ => 0) 0 3 (cuA (eu χ 6) (b + 1)) fi ne ct 1) H := hP
                have hD : va_D A (wM cI r (nI (0)) fp fa (eu χ (b + 1)) (fun _ => 0) 0 3 (cuA (eu χ 6) (b + 1)) fi ne ct 1) := hD
                rw [e9] at hl
                refine lv_bipush (v := nI 16) hx hb dX3_start_107 (by decide) ?_
                refine lv_iload_n hx hb dX3_start_109 rfl (lv_at hl 4 rfl) ?_
                refine xr_mul hx hb dX3_start_110 ?_
                refine lv_istore (lv' := [(5, .int (nI (16 * b))), (1, .int (mI (grA (eu χ 6) (b + 1)))), (4, .int (mI (grA (eu χ 6) (b + 1)))), (0, .ref (r 0)), (2, .int (mI (lsA (eu χ 6) b))), (3, .int (nI (b)))]) hx hb dX3_start_111 hl (by decide) rfl (fun ls hl => ?_)
                refine lpW (α := Nat) (fun j H locs => (j ≤ 16) ∧ va_P D vwCl (wM cI r (nI (0)) fp fa (eu χ (b + 1)) (fun _ => 0) 0 3 (cuA (eu χ 6) (b + 1)) fi ne ct 1) H ∧ va_D A (wM cI r (nI (0)) fp fa (eu χ (b + 1)) (fun _ => 0) 0 3 (cuA (eu χ 6) (b + 1)) fi ne ct 1) ∧ va_S A s.heap H locs) (fun j => [(0, .ref (r 0)), (1, .int (mI (grA (eu χ 6) (b + 1)))), (2, .int (mI (mn (lsA (eu χ 6) b) (lst (eu χ (b + 1)) b j)))), (3, .int (nI (b))), (5, .int (nI (16 * b + j)))]) 6 (fun j => 16 - j) 0 (⟨by omega, hP, hD, hS⟩) (lv_sub hl [3, 1, 4, 5, 0] rfl) (fun s9 H locs ls hI9 hl9 ih_113 => ?_)
                obtain ⟨j, rfl⟩ : ∃ z, z = s9 := ⟨_, rfl⟩
                have hl : lv_has ls 6 [(0, .ref (r 0)), (1, .int (mI (grA (eu χ 6) (b + 1)))), (2, .int (mI (mn (lsA (eu χ 6) b) (lst (eu χ (b + 1)) b j)))), (3, .int (nI (b))), (5, .int (nI (16 * b + j)))] := hl9
                obtain ⟨hj, hP, hD, hS⟩ : (j ≤ 16) ∧ va_P D vwCl (wM cI r (nI (0)) fp fa (eu χ (b + 1)) (fun _ => 0) 0 3 (cuA (eu χ 6) (b + 1)) fi ne ct 1) H ∧ va_D A (wM cI r (nI (0)) fp fa (eu χ (b + 1)) (fun _ => 0) 0 3 (cuA (eu χ 6) (b + 1)) fi ne ct 1) ∧ va_S A s.heap H locs := hI9
                have hk9 := lst_lt (wfs_eu hwf (b + 1) (by omega)) (show b < 6 by omega) j (by omega)
                have hm9 : mn (lsA (eu χ 6) b) (lst (eu χ (b + 1)) b j) < 65600 := by unfold mn; (repeat' split) <;> omega
                refine lv_iload hx hb dX3_start_113 (lv_at hl 4 rfl) ?_
                refine lv_bipush (v := nI 16) hx hb dX3_start_115 (by decide) ?_
                refine lv_iload_n hx hb dX3_start_117 rfl (lv_at hl 3 rfl) ?_
                refine xr_mul hx hb dX3_start_118 ?_
                refine lv_bipush (v := nI 16) hx hb dX3_start_119 (by decide) ?_
                refine xr_add hx hb dX3_start_121 ?_
                refine xi_ge (tgt := 165) hx hb dX3_start_122 (by decide) (nI_toInt (by omega)) (nI_toInt (by omega)) (fun c_122 => ?_) (fun c_122 => ?_)
                · refine lv_iinc (v := nI (b + 1)) (lv' := [(3, .int (nI (b + 1))), (0, .ref (r 0)), (1, .int (mI (grA (eu χ 6) (b + 1)))), (2, .int (mI (mn (lsA (eu χ 6) b) (lst (eu χ (b + 1)) b j)))), (5, .int (nI (16 * b + j)))]) hx hb dX3_start_165 hl (k := 3) rfl (nI_add _ _) (by decide) rfl (fun ls hl => ?_)
                  refine lv_goto (tgt := 45) hx hb dX3_start_168 (by decide) ?_
                  have e9 : mn (lsA (eu χ 6) b) (lst (eu χ (b + 1)) b j) = lsA (eu χ 6) (b + 1) := by rw [show j = 16 by omega, eu_lst (show b < 6 by omega)]; rfl
                  rw [e9] at hl
                  exact ih_45 (b + 1) _ _ _ (⟨by omega, hP, hD, hS⟩) (by first | omega | (dsimp only; omega)) (lv_sub hl [1, 2, 3, 0] rfl)
                · refine lv_aload_n hx hb dX3_start_125 rfl (lv_at hl 0 rfl) ?_
                  refine lv_iload hx hb dX3_start_126 (lv_at hl 4 rfl) ?_
                  refine xc_Vi (ci := 3) (rest := []) (As := [.int (nI (16 * b + j))]) ⟨hx, hb, hml, hown, hts⟩ (c_X3_isReadable l D r (nI 0) fp fa (eu χ (b + 1)) (fun _ => 0) 0 3 (cuA (eu χ 6) (b + 1)) fi ne ct 1 b (by omega) j (by omega) (fun i => by have h7 := (eu_le (χ := χ) (b + 1) (by omega) i).1; have h8 := hχ i; omega)) (cwV 1 hts gX3_start_X3_isReadable rfl rfl rfl (by decide +kernel) ⟨Nat.le_of_ble_eq_true rfl, Nat.le_of_ble_eq_true rfl⟩) hN hK (hP) rfl 0 rfl rfl hl.1 rfl (Nat.le_of_ble_eq_true rfl) dX3_start_128 ⟨Nat.le_of_ble_eq_true rfl, Nat.le_of_ble_eq_true rfl⟩ (fun r_128 hw_128 => ?_)
                  refine xz_eq (tgt := 159) hx hb dX3_start_131 (by decide) rfl (fun c_131 => ?_) (fun c_131 => ?_)
                  · have h_131 := bo.f hw_128 c_131
                    refine lv_iinc (v := nI (16 * b + j + 1)) (lv' := [(5, .int (nI (16 * b + j + 1))), (0, .ref (r 0)), (1, .int (mI (grA (eu χ 6) (b + 1)))), (2, .int (mI (mn (lsA (eu χ 6) b) (lst (eu χ (b + 1)) b j)))), (3, .int (nI (b)))]) hx hb dX3_start_159 hl (k := 4) rfl (nI_add _ _) (by decide) rfl (fun ls hl => ?_)
                    refine lv_goto (tgt := 113) hx hb dX3_start_162 (by decide) ?_
                    have e9 : mn (lsA (eu χ 6) b) (lst (eu χ (b + 1)) b j) = mn (lsA (eu χ 6) b) (lst (eu χ (b + 1)) b (j + 1)) := by first | rw [lst_out h_131] | (rw [lst_in h_131, ← mn_assoc]; generalize mn (lsA (eu χ 6) b) (lst (eu χ (b + 1)) b j) = z9 at *; unfold mn; (repeat' split) <;> omega)
                    rw [e9] at hl
                    exact ih_113 (j + 1) _ _ _ (⟨by omega, hP, hD, hS⟩) (by first | omega | (dsimp only; omega)) (lv_sub hl [1, 2, 3, 4, 0] rfl)
                  · have h_131 := bo.t hw_128 c_131
                    refine lv_iload_n hx hb dX3_start_134 rfl (lv_at hl 2 rfl) ?_
                    refine xz_lt (tgt := 148) hx hb dX3_start_135 (by decide) (mI_toInt (by omega)) (fun c_135 => ?_) (fun c_135 => ?_)
                    · refine lv_aload_n hx hb dX3_start_148 rfl (lv_at hl 0 rfl) ?_
                      refine lv_iload hx hb dX3_start_149 (lv_at hl 4 rfl) ?_
                      refine xc_Vi (ci := 3) (rest := []) (As := [.int (nI (16 * b + j))]) ⟨hx, hb, hml, hown, hts⟩ (c_X3_firstOf l D r (nI 0) fp fa (eu χ (b + 1)) (fun _ => 0) 0 3 (cuA (eu χ 6) (b + 1)) fi ne ct 1 b (by omega) j (by omega) (fun i => by have h7 := (eu_le (χ := χ) (b + 1) (by omega) i).1; have h8 := hχ i; omega) (wfs_eu hwf (b + 1) (by omega)) h_131) (cwV 1 hts gX3_start_X3_firstOf rfl rfl rfl (by decide +kernel) ⟨Nat.le_of_ble_eq_true rfl, Nat.le_of_ble_eq_true rfl⟩) hN hK (hP) rfl 0 rfl rfl hl.1 rfl (Nat.le_of_ble_eq_true rfl) dX3_start_151 ⟨Nat.le_of_ble_eq_true rfl, Nat.le_of_ble_eq_true rfl⟩ (fun r_151 hw_151 => ?_)
                      subst hw_151
                      obtain ⟨hw0, hw1, hw2, -⟩ := wfs_eu hwf (b + 1) (by omega) b j (by omega) (by omega) h_131
                      refine lv_goto (tgt := 158) hx hb dX3_start_154 (by decide) ?_
                      refine xr_same (nI_mI (256 * byt (eu χ (b + 1)) b j 1 + byt (eu χ (b + 1)) b j 2)) ?_
                      refine lv_istore_n (lv' := [(2, .int (mI (256 * byt (eu χ (b + 1)) b j 1 + byt (eu χ (b + 1)) b j 2 + 1))), (0, .ref (r 0)), (1, .int (mI (grA (eu χ 6) (b + 1)))), (3, .int (nI (b))), (5, .int (nI (16 * b + j)))]) hx hb dX3_start_158 rfl hl (by decide) rfl (fun ls hl => ?_)
                      refine lv_iinc (v := nI (16 * b + j + 1)) (lv' := [(5, .int (nI (16 * b + j + 1))), (2, .int (mI (256 * byt (eu χ (b + 1)) b j 1 + byt (eu χ (b + 1)) b j 2 + 1))), (0, .ref (r 0)), (1, .int (mI (grA (eu χ 6) (b + 1)))), (3, .int (nI (b)))]) hx hb dX3_start_159 hl (k := 4) rfl (nI_add _ _) (by decide) rfl (fun ls hl => ?_)
                      refine lv_goto (tgt := 113) hx hb dX3_start_162 (by decide) ?_
                      have e9 : 256 * byt (eu χ (b + 1)) b j 1 + byt (eu χ (b + 1)) b j 2 + 1 = mn (lsA (eu χ 6) b) (lst (eu χ (b + 1)) b (j + 1)) := by first | rw [lst_out h_131] | (rw [lst_in h_131, ← mn_assoc]; generalize mn (lsA (eu χ 6) b) (lst (eu χ (b + 1)) b j) = z9 at *; unfold mn; (repeat' split) <;> omega)
                      rw [e9] at hl
                      exact ih_113 (j + 1) _ _ _ (⟨by omega, hP, hD, hS⟩) (by first | omega | (dsimp only; omega)) (lv_sub hl [2, 3, 1, 4, 0] rfl)
                    · refine lv_aload_n hx hb dX3_start_138 rfl (lv_at hl 0 rfl) ?_
                      refine lv_iload hx hb dX3_start_139 (lv_at hl 4 rfl) ?_
                      refine xc_Vi (ci := 3) (rest := []) (As := [.int (nI (16 * b + j))]) ⟨hx, hb, hml, hown, hts⟩ (c_X3_firstOf l D r (nI 0) fp fa (eu χ (b + 1)) (fun _ => 0) 0 3 (cuA (eu χ 6) (b + 1)) fi ne ct 1 b (by omega) j (by omega) (fun i => by have h7 := (eu_le (χ := χ) (b + 1) (by omega) i).1; have h8 := hχ i; omega) (wfs_eu hwf (b + 1) (by omega)) h_131) (cwV 1 hts gX3_start_X3_firstOf rfl rfl rfl (by decide +kernel) ⟨Nat.le_of_ble_eq_true rfl, Nat.le_of_ble_eq_true rfl⟩) hN hK (hP) rfl 0 rfl rfl hl.1 rfl (Nat.le_of_ble_eq_true rfl) dX3_start_141 ⟨Nat.le_of_ble_eq_true rfl, Nat.le_of_ble_eq_true rfl⟩ (fun r_141 hw_141 => ?_)
                      subst hw_141
                      obtain ⟨hw0, hw1, hw2, -⟩ := wfs_eu hwf (b + 1) (by omega) b j (by omega) (by omega) h_131
                      refine lv_iload_n hx hb dX3_start_144 rfl (lv_at hl 2 rfl) ?_
                      refine xi_ge (tgt := 157) hx hb dX3_start_145 (by decide) (nI_toInt (by omega)) (mI_toInt (by omega)) (fun c_145 => ?_) (fun c_145 => ?_)
                      · refine lv_iload_n hx hb dX3_start_157 rfl (lv_at hl 2 rfl) ?_
                        refine lv_istore_n (lv' := [(2, .int (mI (mn (lsA (eu χ 6) b) (lst (eu χ (b + 1)) b j)))), (0, .ref (r 0)), (1, .int (mI (grA (eu χ 6) (b + 1)))), (3, .int (nI (b))), (5, .int (nI (16 * b + j)))]) hx hb dX3_start_158 rfl hl (by decide) rfl (fun ls hl => ?_)
                        refine lv_iinc (v := nI (16 * b + j + 1)) (lv' := [(5, .int (nI (16 * b + j + 1))), (2, .int (mI (mn (lsA (eu χ 6) b) (lst (eu χ (b + 1)) b j)))), (0, .ref (r 0)), (1, .int (mI (grA (eu χ 6) (b + 1)))), (3, .int (nI (b)))]) hx hb dX3_start_159 hl (k := 4) rfl (nI_add _ _) (by decide) rfl (fun ls hl => ?_)
                        refine lv_goto (tgt := 113) hx hb dX3_start_162 (by decide) ?_
                        have e9 : mn (lsA (eu χ 6) b) (lst (eu χ (b + 1)) b j) = mn (lsA (eu χ 6) b) (lst (eu χ (b + 1)) b (j + 1)) := by first | rw [lst_out h_131] | (rw [lst_in h_131, ← mn_assoc]; generalize mn (lsA (eu χ 6) b) (lst (eu χ (b + 1)) b j) = z9 at *; unfold mn; (repeat' split) <;> omega)
                        rw [e9] at hl
                        exact ih_113 (j + 1) _ _ _ (⟨by omega, hP, hD, hS⟩) (by first | omega | (dsimp only; omega)) (lv_sub hl [2, 3, 1, 4, 0] rfl)
                      · refine lv_aload_n hx hb dX3_start_148 rfl (lv_at hl 0 rfl) ?_
                        refine lv_iload hx hb dX3_start_149 (lv_at hl 4 rfl) ?_
                        refine xc_Vi (ci := 3) (rest := []) (As := [.int (nI (16 * b + j))]) ⟨hx, hb, hml, hown, hts⟩ (c_X3_firstOf l D r (nI 0) fp fa (eu χ (b + 1)) (fun _ => 0) 0 3 (cuA (eu χ 6) (b + 1)) fi ne ct 1 b (by omega) j (by omega) (fun i => by have h7 := (eu_le (χ := χ) (b + 1) (by omega) i).1; have h8 := hχ i; omega) (wfs_eu hwf (b + 1) (by omega)) h_131) (cwV 1 hts gX3_start_X3_firstOf rfl rfl rfl (by decide +kernel) ⟨Nat.le_of_ble_eq_true rfl, Nat.le_of_ble_eq_true rfl⟩) hN hK (hP) rfl 0 rfl rfl hl.1 rfl (Nat.le_of_ble_eq_true rfl) dX3_start_151 ⟨Nat.le_of_ble_eq_true rfl, Nat.le_of_ble_eq_true rfl⟩ (fun r_151 hw_151 => ?_)
                        subst hw_151
                        obtain ⟨hw0, hw1, hw2, -⟩ := wfs_eu hwf (b + 1) (by omega) b j (by omega) (by omega) h_131
                        refine lv_goto (tgt := 158) hx hb dX3_start_154 (by decide) ?_
                        refine xr_same (nI_mI (256 * byt (eu χ (b + 1)) b j 1 + byt (eu χ (b + 1)) b j 2)) ?_
                        refine lv_istore_n (lv' := [(2, .int (mI (256 * byt (eu χ (b + 1)) b j 1 + byt (eu χ (b + 1)) b j 2 + 1))), (0, .ref (r 0)), (1, .int (mI (grA (eu χ 6) (b + 1)))), (3, .int (nI (b))), (5, .int (nI (16 * b + j)))]) hx hb dX3_start_158 rfl hl (by decide) rfl (fun ls hl => ?_)
                        refine lv_iinc (v := nI (16 * b + j + 1)) (lv' := [(5, .int (nI (16 * b + j + 1))), (2, .int (mI (256 * byt (eu χ (b + 1)) b j 1 + byt (eu χ (b + 1)) b j 2 + 1))), (0, .ref (r 0)), (1, .int (mI (grA (eu χ 6) (b + 1)))), (3, .int (nI (b)))]) hx hb dX3_start_159 hl (k := 4) rfl (nI_add _ _) (by decide) rfl (fun ls hl => ?_)
                        refine lv_goto (tgt := 113) hx hb dX3_start_162 (by decide) ?_
                        have e9 : 256 * byt (eu χ (b + 1)) b j 1 + byt (eu χ (b + 1)) b j 2 + 1 = mn (lsA (eu χ 6) b) (lst (eu χ (b + 1)) b (j + 1)) := by first | rw [lst_out h_131] | (rw [lst_in h_131, ← mn_assoc]; generalize mn (lsA (eu χ 6) b) (lst (eu χ (b + 1)) b j) = z9 at *; unfold mn; (repeat' split) <;> omega)
                        rw [e9] at hl
                        exact ih_113 (j + 1) _ _ _ (⟨by omega, hP, hD, hS⟩) (by first | omega | (dsimp only; omega)) (lv_sub hl [2, 3, 1, 4, 0] rfl)
    · exfalso; omega
  · exfalso; omega
