set_option maxHeartbeats 4000000 in
set_option maxRecDepth 100000 in
theorem c_X3_append_0f (l : Launch) (D : va_G) {cI : ClassId} (r : Nat → Nat) (th fp fa : Int32) (χ O : Nat → Nat) (cu fi ne ct on : Nat) (hon : on = 1) (hO6 : O 0 ≤ 6) (hne : ne < 65536) (k : Nat) (w : Int64) (hk1 : 1 ≤ k) (hk6 : k ≤ 6) (hwO : wf O) (hft : fit O k) (sz : Nat) : Met l yX3_append wsX3_append ({ frames := 0, cells := 0, slots := 0, locals := 0 }) (va_Pc [.ref (r 0), .int (nI (k)), .long (w)] (x_U D (tyM cI) (wM cI r th fp fa χ (opn O) (O 0) (pl O (O 0)) cu fi ne ct on) sz)) (va_Qi (fun (x : Int32) (u : Unit) => x = nI ne) (fun u t => x_E D (tyM cI) (va_A (wM cI r th fp fa χ (opn O) (O 0) (pl O (O 0)) cu fi ne ct on) sz) (wM cI r (nI 0) fp fa χ (opn (adO O ne k w)) (adO O ne k w 0) (pl (adO O ne k w) (adO O ne k w 0)) cu fi (ne + 1) ct on) t) (va_A (wM cI r th fp fa χ (opn O) (O 0) (pl O (O 0)) cu fi ne ct on) sz)) 0 0 (va_A (wM cI r th fp fa χ (opn O) (O 0) (pl O (O 0)) cu fi ne ct on) sz) := by
  refine Met.ofW (cc := cX3_append) (maxL := 5) (ret := (some .int)) (by decide) rfl ?_
  intro p e s m args below meth c s₁ B hml hv
  obtain ⟨rfl, hsz, hN, hP, hK, hD0⟩ := hv
  have hx := B.exec
  have hb := B.bytes
  have hr := B.returns
  have hts := atoms_spec (ws := wsX3_append) B.pre
  have hown : s.vm.findClass RX3 = some m.cls := findClass_of_methodNamed B.named
  have hlocks := B.notSynchronized
  subst hsz
  have hD := hD0.self (sz := s.heap.size)
  generalize hAe : va_A (wM cI r th fp fa χ (opn O) (O 0) (pl O (O 0)) cu fi ne ct on) s.heap.size = A at hD ⊢
  have hA : ∀ q : Nat, s.heap.size ≤ q → A q := fun q h => by rw [← hAe]; exact Or.inr h
  obtain ⟨H, hH⟩ : ∃ H : Heap, s.heap = H := ⟨_, rfl⟩
  obtain ⟨locs, hlo⟩ : ∃ L : List Loc, ([] : List Loc) = L := ⟨_, rfl⟩
  have hS : va_S A s.heap H locs := by rw [← hH, ← hlo]; exact va_S.rf
  have hP : va_P D vwCl (wM cI r th fp fa χ (opn O) (O 0) (pl O (O 0)) cu fi ne ct on) H := hH ▸ hP
  rw [hH, hlo]
  have hiX3 : ∀ w ∈ u_ws RX3 TX3 16, w ∈ wsX3_append := by decide +kernel
  have hl := lv_entry ([.ref (r 0), .int (nI (k)), .long (w)]) (n := 5) (Nat.le_of_ble_eq_true rfl)
  rw [lg_entry_eq]
  generalize (lg_sl ([.ref (r 0), .int (nI (k)), .long (w)]) ++ List.replicate (5 - (lg_sl ([.ref (r 0), .int (nI (k)), .long (w)])).length) Slot.unset).toArray = ls at hl ⊢
  have hl : lv_has ls 5 [(0, .ref (r 0)), (1, .int (nI (k))), (2, .long (w))] := hl
  have hp9 := pl_le hwO (O 0) (Nat.le_refl _)
  have hO9 := hwO.1
  have hft9 : pl O (O 0) + 1 + k ≤ 16 := hft
  refine lv_aload_n hx hb dX3_append_0 rfl (lv_at hl 0 rfl) ?_
  refine lv_aload_n hx hb dX3_append_1 rfl (lv_at hl 0 rfl) ?_
  refine va_get (D := D) (ci := 3) (v := .int (nI (on))) (C := RX3) (T := TX3) (N := 16) hx hb hts hiX3 hown hK hP 0 rfl rfl 6 (by decide) (hts (.fieldLink RX3 25 "PairedCellsModel" "on" "Z") (by decide +kernel)) (fun _ h9 => h9) rfl dX3_append_2 ?_
  refine xz_ne (tgt := 12) hx hb dX3_append_5 (by decide) (nI_toInt (by omega)) (fun c_5 => ?_) (fun c_5 => ?_)
  · refine lv_iload_n hx hb dX3_append_12 rfl (lv_at hl 1 rfl) ?_
    refine lv_iconst (v := nI 1) hx hb dX3_append_13 (by decide) ?_
    refine xi_lt (tgt := 23) hx hb dX3_append_14 (by decide) (nI_toInt (by omega)) (nI_toInt (by omega)) (fun c_14 => ?_) (fun c_14 => ?_)
    · exfalso; omega
    · refine lv_iload_n hx hb dX3_append_17 rfl (lv_at hl 1 rfl) ?_
      refine lv_bipush (v := nI 6) hx hb dX3_append_18 (by decide) ?_
      refine xi_le (tgt := 27) hx hb dX3_append_20 (by decide) (nI_toInt (by omega)) (nI_toInt (by omega)) (fun c_20 => ?_) (fun c_20 => ?_)
      · refine lv_iconst (v := nI 0) hx hb dX3_append_27 (by decide) ?_
        refine va_put (D := D) (ci := 3) (v := .int (nI (0))) (ty := .int) (C := RX3) (T := TX3) (N := 16) hx hb hts hiX3 tyX3 tyX3_ok nmX3 hown hK hP hD hS 0 rfl rfl 0 (by decide) (hts (.fieldLink RX3 36 "PairedCellsModel" "thrown" "I") (by decide +kernel)) (fun _ h9 => h9) rfl (by decide +kernel) rfl rfl (Nat.le_of_ble_eq_true rfl) dX3_append_28 (fun H locs hP hD hS => ?_)
        have hP : va_P D vwCl (wM cI r (nI (0)) fp fa χ (opn O) (O 0) (pl O (O 0)) cu fi ne ct on) H := hP
        have hD : va_D A (wM cI r (nI (0)) fp fa χ (opn O) (O 0) (pl O (O 0)) cu fi ne ct on) := hD
        refine lv_aload_n hx hb dX3_append_31 rfl (lv_at hl 0 rfl) ?_
        refine va_get (D := D) (ci := 3) (v := .int (nI (0))) (C := RX3) (T := TX3) (N := 16) hx hb hts hiX3 hown hK hP 0 rfl rfl 0 (by decide) (hts (.fieldLink RX3 36 "PairedCellsModel" "thrown" "I") (by decide +kernel)) (fun _ h9 => h9) rfl dX3_append_32 ?_
        refine xz_eq (tgt := 40) hx hb dX3_append_35 (by decide) (nI_toInt (by omega)) (fun c_35 => ?_) (fun c_35 => ?_)
        · refine lv_aload_n hx hb dX3_append_40 rfl (lv_at hl 0 rfl) ?_
          refine va_get (D := D) (ci := 3) (v := .int (nI ((pl O (O 0))))) (C := RX3) (T := TX3) (N := 16) hx hb hts hiX3 hown hK hP 0 rfl rfl 12 (by decide) (hts (.fieldLink RX3 29 "PairedCellsModel" "taken" "I") (by decide +kernel)) (fun _ h9 => h9) rfl dX3_append_41 ?_
          refine lv_iconst (v := nI 1) hx hb dX3_append_44 (by decide) ?_
          refine xr_add hx hb dX3_append_45 ?_
          refine lv_iload_n hx hb dX3_append_46 rfl (lv_at hl 1 rfl) ?_
          refine xr_add hx hb dX3_append_47 ?_
          refine lv_bipush (v := nI 16) hx hb dX3_append_48 (by decide) ?_
          refine xi_le (tgt := 88) hx hb dX3_append_50 (by decide) (nI_toInt (by omega)) (nI_toInt (by omega)) (fun c_50 => ?_) (fun c_50 => ?_)
          · obtain ⟨t9, ht9⟩ : ∃ t, pl O (O 0) = t := ⟨_, rfl⟩
            have ht8 : 3 ≤ t9 ∧ t9 + 1 + k ≤ 16 := ⟨by omega, by omega⟩
            rw [show (wM cI r (nI (0)) fp fa χ (opn O) (O 0) (pl O (O 0)) cu fi ne ct on : va_W) = wM cI r (nI (0)) fp fa χ (opn O) (O 0) t9 cu fi ne ct on by rw [ht9]] at hP hD
            have hP : va_P D vwCl (wM cI r (nI (0)) fp fa χ (opn O) (O 0) t9 cu fi ne ct on) H := hP
            have hD : va_D A (wM cI r (nI (0)) fp fa χ (opn O) (O 0) t9 cu fi ne ct on) := hD
            refine lv_aload_n hx hb dX3_append_88 rfl (lv_at hl 0 rfl) ?_
            refine va_get (D := D) (ci := 3) (v := .ref (r 6)) (C := RX3) (T := TX3) (N := 16) hx hb hts hiX3 hown hK hP 0 rfl rfl 13 (by decide) (hts (.fieldLink RX3 33 "PairedCellsModel" "open" "[I") (by decide +kernel)) (fun _ h9 => h9) rfl dX3_append_89 ?_
            refine lv_aload_n hx hb dX3_append_92 rfl (lv_at hl 0 rfl) ?_
            refine va_get (D := D) (ci := 3) (v := .int (nI (t9))) (C := RX3) (T := TX3) (N := 16) hx hb hts hiX3 hown hK hP 0 rfl rfl 12 (by decide) (hts (.fieldLink RX3 29 "PairedCellsModel" "taken" "I") (by decide +kernel)) (fun _ h9 => h9) rfl dX3_append_93 ?_
            refine lv_iload_n hx hb dX3_append_96 rfl (lv_at hl 1 rfl) ?_
            refine xr_iast hx hb hK hP hD hS 6 0 rfl rfl (by omega) (by decide) dX3_append_97 (fun H locs hP hD hS => ?_)
            have hP : va_P D vwCl (wM cI r (nI (0)) fp fa χ (up (opn O) (t9) (k)) (O 0) t9 cu fi ne ct on) H := hP
            have hD : va_D A (wM cI r (nI (0)) fp fa χ (up (opn O) (t9) (k)) (O 0) t9 cu fi ne ct on) := hD
            refine lv_iconst (v := nI 0) hx hb dX3_append_98 (by decide) ?_
            refine lv_istore (lv' := [(4, .int (nI (0))), (0, .ref (r 0)), (1, .int (nI (k))), (2, .long (w))]) hx hb dX3_append_99 hl (by decide) rfl (fun ls hl => ?_)
            have hq9 : (wM cI r (nI (0)) fp fa χ (up (opn O) (t9) (k)) (O 0) t9 cu fi ne ct on : va_W) = wM cI r (nI (0)) fp fa χ (fun i9 => if i9 = t9 then k else if t9 + 1 ≤ i9 ∧ i9 < t9 + 1 + 0 then wb w (i9 - (t9 + 1)) else opn O i9) (O 0) t9 cu fi ne ct on := (mX_eq (fun j hj => rfl) (fun j hj => rfl) (fun j hj => rfl) (fun j hj => rfl) (fun j hj => rfl) (fun i9 hj => by simp only [up]; (repeat' split) <;> first | rfl | omega | (exfalso; omega) | (congr 1 <;> omega)))
            refine lpW (α := Nat) (fun j H locs => (j ≤ k) ∧ va_P D vwCl (wM cI r (nI (0)) fp fa χ (fun i9 => if i9 = t9 then k else if t9 + 1 ≤ i9 ∧ i9 < t9 + 1 + j then wb w (i9 - (t9 + 1)) else opn O i9) (O 0) t9 cu fi ne ct on) H ∧ va_D A (wM cI r (nI (0)) fp fa χ (fun i9 => if i9 = t9 then k else if t9 + 1 ≤ i9 ∧ i9 < t9 + 1 + j then wb w (i9 - (t9 + 1)) else opn O i9) (O 0) t9 cu fi ne ct on) ∧ va_S A s.heap H locs) (fun j => [(0, .ref (r 0)), (1, .int (nI (k))), (2, .long (w)), (4, .int (nI (j)))]) 5 (fun j => k - j) 0 (⟨by omega, va_P.eqw hq9 hP, va_D.eqw hq9 hD, hS⟩) (lv_sub hl [1, 2, 3, 0] rfl) (fun s9 H locs ls hI9 hl9 ih_101 => ?_)
            obtain ⟨j, rfl⟩ : ∃ z, z = s9 := ⟨_, rfl⟩
            have hl : lv_has ls 5 [(0, .ref (r 0)), (1, .int (nI (k))), (2, .long (w)), (4, .int (nI (j)))] := hl9
            obtain ⟨hj, hP, hD, hS⟩ : (j ≤ k) ∧ va_P D vwCl (wM cI r (nI (0)) fp fa χ (fun i9 => if i9 = t9 then k else if t9 + 1 ≤ i9 ∧ i9 < t9 + 1 + j then wb w (i9 - (t9 + 1)) else opn O i9) (O 0) t9 cu fi ne ct on) H ∧ va_D A (wM cI r (nI (0)) fp fa χ (fun i9 => if i9 = t9 then k else if t9 + 1 ≤ i9 ∧ i9 < t9 + 1 + j then wb w (i9 - (t9 + 1)) else opn O i9) (O 0) t9 cu fi ne ct on) ∧ va_S A s.heap H locs := hI9
            refine lv_iload hx hb dX3_append_101 (lv_at hl 3 rfl) ?_
            refine lv_iload_n hx hb dX3_append_103 rfl (lv_at hl 1 rfl) ?_
            refine xi_ge (tgt := 139) hx hb dX3_append_104 (by decide) (nI_toInt (by omega)) (nI_toInt (by omega)) (fun c_104 => ?_) (fun c_104 => ?_)
            · refine lv_aload_n hx hb dX3_append_139 rfl (lv_at hl 0 rfl) ?_
              refine lv_dup hx hb dX3_append_140 rfl ?_
              refine va_get (D := D) (ci := 3) (v := .int (nI (t9))) (C := RX3) (T := TX3) (N := 16) hx hb hts hiX3 hown hK hP 0 rfl rfl 12 (by decide) (hts (.fieldLink RX3 29 "PairedCellsModel" "taken" "I") (by decide +kernel)) (fun _ h9 => h9) rfl dX3_append_141 ?_
              refine lv_iload_n hx hb dX3_append_144 rfl (lv_at hl 1 rfl) ?_
              refine lv_iconst (v := nI 1) hx hb dX3_append_145 (by decide) ?_
              refine xr_add hx hb dX3_append_146 ?_
              refine xr_add hx hb dX3_append_147 ?_
              refine va_put (D := D) (ci := 3) (v := .int (nI (t9 + (k + 1)))) (ty := .int) (C := RX3) (T := TX3) (N := 16) hx hb hts hiX3 tyX3 tyX3_ok nmX3 hown hK hP hD hS 0 rfl rfl 12 (by decide) (hts (.fieldLink RX3 29 "PairedCellsModel" "taken" "I") (by decide +kernel)) (fun _ h9 => h9) rfl (by decide +kernel) rfl rfl (Nat.le_of_ble_eq_true rfl) dX3_append_148 (fun H locs hP hD hS => ?_)
              have hP : va_P D vwCl (wM cI r (nI (0)) fp fa χ (fun i9 => if i9 = t9 then k else if t9 + 1 ≤ i9 ∧ i9 < t9 + 1 + j then wb w (i9 - (t9 + 1)) else opn O i9) (O 0) (t9 + (k + 1)) cu fi ne ct on) H := hP
              have hD : va_D A (wM cI r (nI (0)) fp fa χ (fun i9 => if i9 = t9 then k else if t9 + 1 ≤ i9 ∧ i9 < t9 + 1 + j then wb w (i9 - (t9 + 1)) else opn O i9) (O 0) (t9 + (k + 1)) cu fi ne ct on) := hD
              refine lv_aload_n hx hb dX3_append_151 rfl (lv_at hl 0 rfl) ?_
              refine lv_dup hx hb dX3_append_152 rfl ?_
              refine va_get (D := D) (ci := 3) (v := .int (nI ((O 0)))) (C := RX3) (T := TX3) (N := 16) hx hb hts hiX3 hown hK hP 0 rfl rfl 11 (by decide) (hts (.fieldLink RX3 67 "PairedCellsModel" "held" "I") (by decide +kernel)) (fun _ h9 => h9) rfl dX3_append_153 ?_
              refine lv_iconst (v := nI 1) hx hb dX3_append_156 (by decide) ?_
              refine xr_add hx hb dX3_append_157 ?_
              refine va_put (D := D) (ci := 3) (v := .int (nI ((O 0) + 1))) (ty := .int) (C := RX3) (T := TX3) (N := 16) hx hb hts hiX3 tyX3 tyX3_ok nmX3 hown hK hP hD hS 0 rfl rfl 11 (by decide) (hts (.fieldLink RX3 67 "PairedCellsModel" "held" "I") (by decide +kernel)) (fun _ h9 => h9) rfl (by decide +kernel) rfl rfl (Nat.le_of_ble_eq_true rfl) dX3_append_158 (fun H locs hP hD hS => ?_)
              have hP : va_P D vwCl (wM cI r (nI (0)) fp fa χ (fun i9 => if i9 = t9 then k else if t9 + 1 ≤ i9 ∧ i9 < t9 + 1 + j then wb w (i9 - (t9 + 1)) else opn O i9) ((O 0) + 1) (t9 + (k + 1)) cu fi ne ct on) H := hP
              have hD : va_D A (wM cI r (nI (0)) fp fa χ (fun i9 => if i9 = t9 then k else if t9 + 1 ≤ i9 ∧ i9 < t9 + 1 + j then wb w (i9 - (t9 + 1)) else opn O i9) ((O 0) + 1) (t9 + (k + 1)) cu fi ne ct on) := hD
              refine lv_aload_n hx hb dX3_append_161 rfl (lv_at hl 0 rfl) ?_
              refine lv_dup hx hb dX3_append_162 rfl ?_
              refine va_get (D := D) (ci := 3) (v := .int (nI (ne))) (C := RX3) (T := TX3) (N := 16) hx hb hts hiX3 hown hK hP 0 rfl rfl 10 (by decide) (hts (.fieldLink RX3 73 "PairedCellsModel" "next" "I") (by decide +kernel)) (fun _ h9 => h9) rfl dX3_append_163 ?_
              refine lv_iconst (v := nI 1) hx hb dX3_append_166 (by decide) ?_
              refine xr_add hx hb dX3_append_167 ?_
              refine va_put (D := D) (ci := 3) (v := .int (nI (ne + 1))) (ty := .int) (C := RX3) (T := TX3) (N := 16) hx hb hts hiX3 tyX3 tyX3_ok nmX3 hown hK hP hD hS 0 rfl rfl 10 (by decide) (hts (.fieldLink RX3 73 "PairedCellsModel" "next" "I") (by decide +kernel)) (fun _ h9 => h9) rfl (by decide +kernel) rfl rfl (Nat.le_of_ble_eq_true rfl) dX3_append_168 (fun H locs hP hD hS => ?_)
              have hP : va_P D vwCl (wM cI r (nI (0)) fp fa χ (fun i9 => if i9 = t9 then k else if t9 + 1 ≤ i9 ∧ i9 < t9 + 1 + j then wb w (i9 - (t9 + 1)) else opn O i9) ((O 0) + 1) (t9 + (k + 1)) cu fi (ne + 1) ct on) H := hP
              have hD : va_D A (wM cI r (nI (0)) fp fa χ (fun i9 => if i9 = t9 then k else if t9 + 1 ≤ i9 ∧ i9 < t9 + 1 + j then wb w (i9 - (t9 + 1)) else opn O i9) ((O 0) + 1) (t9 + (k + 1)) cu fi (ne + 1) ct on) := hD
              refine lv_aload_n hx hb dX3_append_171 rfl (lv_at hl 0 rfl) ?_
              refine va_get (D := D) (ci := 3) (v := .int (nI (ne + 1))) (C := RX3) (T := TX3) (N := 16) hx hb hts hiX3 hown hK hP 0 rfl rfl 10 (by decide) (hts (.fieldLink RX3 73 "PairedCellsModel" "next" "I") (by decide +kernel)) (fun _ h9 => h9) rfl dX3_append_172 ?_
              refine lv_iconst (v := nI 1) hx hb dX3_append_175 (by decide) ?_
              refine xr_sub hx hb (by omega) dX3_append_176 ?_
              refine xr_nat (x' := ne) (by omega) ?_
              have hj9 : j = k := by omega
              have hq8 : pl (adO O ne k w) (adO O ne k w 0) = t9 + (k + 1) := by rw [pl_adE]; omega
              have hq6 : wM cI r (nI 0) fp fa χ (opn (adO O ne k w)) (adO O ne k w 0) (pl (adO O ne k w) (adO O ne k w 0)) cu fi (ne + 1) ct on = wM cI r (nI 0) fp fa χ (opn (adO O ne k w)) (O 0 + 1) (t9 + (k + 1)) cu fi (ne + 1) ct on := by rw [hq8, adO_hd]
              have hq9 : (wM cI r (nI (0)) fp fa χ (fun i9 => if i9 = t9 then k else if t9 + 1 ≤ i9 ∧ i9 < t9 + 1 + j then wb w (i9 - (t9 + 1)) else opn O i9) ((O 0) + 1) (t9 + (k + 1)) cu fi (ne + 1) ct on : va_W) = wM cI r (nI 0) fp fa χ (opn (adO O ne k w)) (adO O ne k w 0) (pl (adO O ne k w) (adO O ne k w 0)) cu fi (ne + 1) ct on := ((mX_eq (fun j hj => rfl) (fun j hj => rfl) (fun j hj => rfl) (fun j hj => rfl) (fun j hj => rfl) (fun i9 hj => by have hq7 := ht9; simp only [opn, adJ, hq7]; (repeat' split) <;> first | rfl | omega | (exfalso; omega) | (congr 1 <;> omega))).trans hq6.symm)
              exact xf_i (post := fun (x : Int32) (u : Unit) => x = nI ne) (w1 := fun (u : Unit) => wM cI r (nI 0) fp fa χ (opn (adO O ne k w)) (adO O ne k w 0) (pl (adO O ne k w) (adO O ne k w 0)) cu fi (ne + 1) ct on) () hx hb hr hlocks (rfl) (va_P.eqw hq9 hP) hK (va_D.eqw hq9 hD) hS dX3_append_177
            · refine lv_aload_n hx hb dX3_append_107 rfl (lv_at hl 0 rfl) ?_
              refine va_get (D := D) (ci := 3) (v := .ref (r 6)) (C := RX3) (T := TX3) (N := 16) hx hb hts hiX3 hown hK hP 0 rfl rfl 13 (by decide) (hts (.fieldLink RX3 33 "PairedCellsModel" "open" "[I") (by decide +kernel)) (fun _ h9 => h9) rfl dX3_append_108 ?_
              refine lv_aload_n hx hb dX3_append_111 rfl (lv_at hl 0 rfl) ?_
              refine va_get (D := D) (ci := 3) (v := .int (nI (t9))) (C := RX3) (T := TX3) (N := 16) hx hb hts hiX3 hown hK hP 0 rfl rfl 12 (by decide) (hts (.fieldLink RX3 29 "PairedCellsModel" "taken" "I") (by decide +kernel)) (fun _ h9 => h9) rfl dX3_append_112 ?_
              refine lv_iconst (v := nI 1) hx hb dX3_append_115 (by decide) ?_
              refine xr_add hx hb dX3_append_116 ?_
              refine lv_iload hx hb dX3_append_117 (lv_at hl 3 rfl) ?_
              refine xr_add hx hb dX3_append_119 ?_
              refine lv_lload_n hx hb dX3_append_120 rfl (lv_at hl 2 rfl) ?_
              refine lv_bipush (v := nI 8) hx hb dX3_append_121 (by decide) ?_
              refine lv_iload hx hb dX3_append_123 (lv_at hl 3 rfl) ?_
              refine xr_mul hx hb dX3_append_125 ?_
              refine lv_lshr hx hb dX3_append_126 rfl ?_
              refine lv_ldc2 (v := 255) hx hb hown (hts (.constantLong RX3 85 255) (by decide +kernel)) dX3_append_127 ?_
              refine lv_land hx hb dX3_append_130 ?_
              refine lv_l2i hx hb dX3_append_131 (v := nI (wb w j)) (wb_eq w j) ?_
              refine xr_iast hx hb hK hP hD hS 6 0 rfl rfl (by omega) (by decide) dX3_append_132 (fun H locs hP hD hS => ?_)
              have hP : va_P D vwCl (wM cI r (nI (0)) fp fa χ (up (fun i9 => if i9 = t9 then k else if t9 + 1 ≤ i9 ∧ i9 < t9 + 1 + j then wb w (i9 - (t9 + 1)) else opn O i9) (t9 + 1 + j) (wb w j)) (O 0) t9 cu fi ne ct on) H := hP
              have hD : va_D A (wM cI r (nI (0)) fp fa χ (up (fun i9 => if i9 = t9 then k else if t9 + 1 ≤ i9 ∧ i9 < t9 + 1 + j then wb w (i9 - (t9 + 1)) else opn O i9) (t9 + 1 + j) (wb w j)) (O 0) t9 cu fi ne ct on) := hD
              refine lv_iinc (v := nI (j + 1)) (lv' := [(4, .int (nI (j + 1))), (0, .ref (r 0)), (1, .int (nI (k))), (2, .long (w))]) hx hb dX3_append_133 hl (k := 3) rfl (nI_add _ _) (by decide) rfl (fun ls hl => ?_)
              refine lv_goto (tgt := 101) hx hb dX3_append_136 (by decide) ?_
              have hq9 : (wM cI r (nI (0)) fp fa χ (up (fun i9 => if i9 = t9 then k else if t9 + 1 ≤ i9 ∧ i9 < t9 + 1 + j then wb w (i9 - (t9 + 1)) else opn O i9) (t9 + 1 + j) (wb w j)) (O 0) t9 cu fi ne ct on : va_W) = wM cI r (nI (0)) fp fa χ (fun i9 => if i9 = t9 then k else if t9 + 1 ≤ i9 ∧ i9 < t9 + 1 + (j + 1) then wb w (i9 - (t9 + 1)) else opn O i9) (O 0) t9 cu fi ne ct on := (mX_eq (fun j hj => rfl) (fun j hj => rfl) (fun j hj => rfl) (fun j hj => rfl) (fun j hj => rfl) (fun i9 hj => by simp only [up]; (repeat' split) <;> first | rfl | omega | (exfalso; omega) | (congr 1 <;> omega)))
              exact ih_101 (j + 1) _ _ _ (⟨by omega, va_P.eqw hq9 hP, va_D.eqw hq9 hD, hS⟩) (by first | omega | (dsimp only; omega)) (lv_sub hl [1, 2, 3, 0] rfl)
          · exfalso; omega
        · exfalso; omega
      · exfalso; omega
  · exfalso; omega
