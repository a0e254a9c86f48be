set_option maxHeartbeats 4000000 in
set_option maxRecDepth 100000 in
theorem c_X3_byteOf (l : Launch) (D : va_G) {cI : ClassId} (r : Nat → Nat) (th fp fa : Int32) (χ P : Nat → Nat) (hd tn cu fi ne ct on : Nat) (b : Nat) (hb6 : b < 6) (k : Nat) (hk : k < 16) (hχ : ∀ i, χ i < 65536) (i : Nat) (hi : i < 16) (hrd : rdb χ b k) : Met l yX3_byteOf wsX3_byteOf ({ frames := 1, cells := 0, slots := 0, locals := 22 }) (va_Pc [.ref (r 0), .int (nI (16 * b + k)), .int (nI (i))] (x_R D (tyM cI) (wM cI r th fp fa χ P hd tn cu fi ne ct on))) (vp_Si (fun x => x = nI (byt χ b k i))) 0 0 (fun _ => False) := by
  refine Met.ofW (cc := cX3_byteOf) (maxL := 6) (ret := (some .int)) (by decide) rfl ?_
  intro p e s m args below meth c s₁ B hml hv
  obtain ⟨rfl, hN, hP, hK⟩ := hv
  have hx := B.exec
  have hb := B.bytes
  have hr := B.returns
  have hts := atoms_spec (ws := wsX3_byteOf) B.pre
  have hown : s.vm.findClass RX3 = some m.cls := findClass_of_methodNamed B.named
  have hlocks := B.notSynchronized
  have hiX3 : ∀ w ∈ u_ws RX3 TX3 16, w ∈ wsX3_byteOf := by decide +kernel
  have hl := lv_entry ([.ref (r 0), .int (nI (16 * b + k)), .int (nI (i))]) (n := 6) (Nat.le_of_ble_eq_true rfl)
  rw [lg_entry_eq]
  generalize (lg_sl ([.ref (r 0), .int (nI (16 * b + k)), .int (nI (i))]) ++ List.replicate (6 - (lg_sl ([.ref (r 0), .int (nI (16 * b + k)), .int (nI (i))])).length) Slot.unset).toArray = ls at hl ⊢
  have hl : lv_has ls 6 [(0, .ref (r 0)), (1, .int (nI (16 * b + k))), (2, .int (nI (i)))] := hl
  refine lv_aload_n hx hb dX3_byteOf_0 rfl (lv_at hl 0 rfl) ?_
  refine va_get (D := D) (ci := 3) (v := .ref (r 1)) (C := RX3) (T := TX3) (N := 16) hx hb hts hiX3 hown hK hP 0 rfl rfl 1 (by decide) (hts (.fieldLink RX3 7 "PairedCellsModel" "states" "[I") (by decide +kernel)) (fun _ h9 => h9) rfl dX3_byteOf_1 ?_
  refine lv_iload_n hx hb dX3_byteOf_4 rfl (lv_at hl 1 rfl) ?_
  refine xr_iald hx hb hK hP 1 0 rfl rfl (by omega) (by decide) dX3_byteOf_5 ?_
  have hb_5 := hχ (16 * b + k)
  refine lv_iconst (v := nI 1) hx hb dX3_byteOf_6 (by decide) ?_
  refine xi_ne (tgt := 22) hx hb dX3_byteOf_7 (by decide) (nI_toInt (by omega)) (nI_toInt (by omega)) (fun c_7 => ?_) (fun c_7 => ?_)
  · refine lv_iload_n hx hb dX3_byteOf_22 rfl (lv_at hl 1 rfl) ?_
    refine lv_bipush (v := nI 16) hx hb dX3_byteOf_23 (by decide) ?_
    refine xr_div hx hb (by omega) (by decide) (by decide) dX3_byteOf_25 ?_
    refine xr_nat (x' := b) (by omega) ?_
    refine lv_istore_n (lv' := [(3, .int (nI (b))), (0, .ref (r 0)), (1, .int (nI (16 * b + k))), (2, .int (nI (i)))]) hx hb dX3_byteOf_26 rfl hl (by decide) rfl (fun ls hl => ?_)
    refine lv_aload_n hx hb dX3_byteOf_27 rfl (lv_at hl 1 rfl) ?_
    refine va_get (D := D) (ci := 3) (v := .ref (r 4)) (C := RX3) (T := TX3) (N := 16) hx hb hts hiX3 hown hK hP 0 rfl rfl 4 (by decide) (hts (.fieldLink RX3 19 "PairedCellsModel" "guardBytes" "[I") (by decide +kernel)) (fun _ h9 => h9) rfl dX3_byteOf_28 ?_
    refine lv_bipush (v := nI 17) hx hb dX3_byteOf_31 (by decide) ?_
    refine lv_iload_n hx hb dX3_byteOf_33 rfl (lv_at hl 0 rfl) ?_
    refine xr_mul hx hb dX3_byteOf_34 ?_
    refine lv_iload_n hx hb dX3_byteOf_35 rfl (lv_at hl 3 rfl) ?_
    refine xr_add hx hb dX3_byteOf_36 ?_
    refine xr_iald hx hb hK hP 4 0 rfl rfl (by omega) (by decide) dX3_byteOf_37 ?_
    have hb_37 := hχ (200 + (17 * b + i))
    refine xr_nat (x' := xfo χ b k i 0) (congrArg χ (by omega)) ?_
    refine lv_istore (lv' := [(4, .int (nI (xfo χ b k i 0))), (3, .int (nI (b))), (0, .ref (r 0)), (1, .int (nI (16 * b + k))), (2, .int (nI (i)))]) hx hb dX3_byteOf_38 hl (by decide) rfl (fun ls hl => ?_)
    refine lv_iconst (v := nI 0) hx hb dX3_byteOf_40 (by decide) ?_
    refine lv_istore (lv' := [(5, .int (nI (0))), (4, .int (nI (xfo χ b k i 0))), (3, .int (nI (b))), (0, .ref (r 0)), (1, .int (nI (16 * b + k))), (2, .int (nI (i)))]) hx hb dX3_byteOf_41 hl (by decide) rfl (fun ls hl => ?_)
    refine lpR (α := Nat) (fun j => j ≤ 8) (fun j => [(0, .ref (r 0)), (1, .int (nI (16 * b + k))), (2, .int (nI (i))), (3, .int (nI (b))), (4, .int (nI (xfo χ b k i j))), (5, .int (nI (j)))]) 6 (fun j => 8 - j) 0 (by omega) (lv_sub hl [3, 4, 5, 2, 1, 0] rfl) (fun s9 ls hI9 hl9 ih_43 => ?_)
    obtain ⟨j, rfl⟩ : ∃ z, z = s9 := ⟨_, rfl⟩
    have hl : lv_has ls 6 [(0, .ref (r 0)), (1, .int (nI (16 * b + k))), (2, .int (nI (i))), (3, .int (nI (b))), (4, .int (nI (xfo χ b k i j))), (5, .int (nI (j)))] := hl9
    obtain hj : j ≤ 8 := hI9
    refine lv_iload hx hb dX3_byteOf_43 (lv_at hl 5 rfl) ?_
    refine lv_bipush (v := nI 8) hx hb dX3_byteOf_45 (by decide) ?_
    refine xi_ge (tgt := 97) hx hb dX3_byteOf_47 (by decide) (nI_toInt (by omega)) (nI_toInt (by omega)) (fun c_47 => ?_) (fun c_47 => ?_)
    · refine lv_iload hx hb dX3_byteOf_97 (lv_at hl 4 rfl) ?_
      exact xe_i hx hb hr hlocks (by rw [show j = 8 by omega]; unfold byt; rw [if_neg (show ¬ χ (16 * b + k) = 1 by omega)]) rfl rfl dX3_byteOf_99
    · refine lv_iload hx hb dX3_byteOf_50 (lv_at hl 5 rfl) ?_
      refine lv_iload_n hx hb dX3_byteOf_52 rfl (lv_at hl 1 rfl) ?_
      refine lv_bipush (v := nI 16) hx hb dX3_byteOf_53 (by decide) ?_
      refine xr_rem hx hb (by omega) (by decide) (by decide) dX3_byteOf_55 ?_
      refine xr_nat (x' := k) (by omega) ?_
      refine xi_eq (tgt := 91) hx hb dX3_byteOf_56 (by decide) (nI_toInt (by omega)) (nI_toInt (by omega)) (fun c_56 => ?_) (fun c_56 => ?_)
      · refine lv_iinc (v := nI (j + 1)) (lv' := [(5, .int (nI (j + 1))), (0, .ref (r 0)), (1, .int (nI (16 * b + k))), (2, .int (nI (i))), (3, .int (nI (b))), (4, .int (nI (xfo χ b k i j)))]) hx hb dX3_byteOf_91 hl (k := 5) rfl (nI_add _ _) (by decide) rfl (fun ls hl => ?_)
        refine lv_goto (tgt := 43) hx hb dX3_byteOf_94 (by decide) ?_
        have e9 : xfo χ b k i j = xfo χ b k i (j + 1) := by first | rw [xfo_out (fun h7 => h7.1 (by omega))] | rw [xfo_out (fun h7 => h_66 h7.2)]
        rw [e9] at hl
        exact ih_43 (j + 1) _ (by omega) (by first | omega | (dsimp only; omega)) (lv_sub hl [1, 2, 3, 4, 5, 0] rfl)
      · refine lv_aload_n hx hb dX3_byteOf_59 rfl (lv_at hl 0 rfl) ?_
        refine lv_iload_n hx hb dX3_byteOf_60 rfl (lv_at hl 3 rfl) ?_
        refine lv_iload hx hb dX3_byteOf_61 (lv_at hl 5 rfl) ?_
        refine xc_Vi (ci := 3) (rest := []) (As := [.int (nI (b)), .int (nI (j))]) ⟨hx, hb, hml, hown, hts⟩ (c_X3_isCovered l D r th fp fa χ P hd tn cu fi ne ct on b hb6 (j) (by omega) hχ) (cwV 2 hts gX3_byteOf_X3_isCovered rfl rfl rfl (by decide +kernel) ⟨Nat.le_of_ble_eq_true rfl, Nat.le_of_ble_eq_true rfl⟩) hN hK (hP) rfl 0 rfl rfl hl.1 rfl (Nat.le_of_ble_eq_true rfl) dX3_byteOf_63 ⟨Nat.le_of_ble_eq_true rfl, Nat.le_of_ble_eq_true rfl⟩ (fun r_63 hw_63 => ?_)
        refine xz_eq (tgt := 91) hx hb dX3_byteOf_66 (by decide) rfl (fun c_66 => ?_) (fun c_66 => ?_)
        · have h_66 := bo.f hw_63 c_66
          refine lv_iinc (v := nI (j + 1)) (lv' := [(5, .int (nI (j + 1))), (0, .ref (r 0)), (1, .int (nI (16 * b + k))), (2, .int (nI (i))), (3, .int (nI (b))), (4, .int (nI (xfo χ b k i j)))]) hx hb dX3_byteOf_91 hl (k := 5) rfl (nI_add _ _) (by decide) rfl (fun ls hl => ?_)
          refine lv_goto (tgt := 43) hx hb dX3_byteOf_94 (by decide) ?_
          have e9 : xfo χ b k i j = xfo χ b k i (j + 1) := by first | rw [xfo_out (fun h7 => h7.1 (by omega))] | rw [xfo_out (fun h7 => h_66 h7.2)]
          rw [e9] at hl
          exact ih_43 (j + 1) _ (by omega) (by first | omega | (dsimp only; omega)) (lv_sub hl [1, 2, 3, 4, 5, 0] rfl)
        · have h_66 := bo.t hw_63 c_66
          refine lv_iload hx hb dX3_byteOf_69 (lv_at hl 4 rfl) ?_
          refine lv_aload_n hx hb dX3_byteOf_71 rfl (lv_at hl 0 rfl) ?_
          refine va_get (D := D) (ci := 3) (v := .ref (r 2)) (C := RX3) (T := TX3) (N := 16) hx hb hts hiX3 hown hK hP 0 rfl rfl 2 (by decide) (hts (.fieldLink RX3 13 "PairedCellsModel" "bytes" "[I") (by decide +kernel)) (fun _ h9 => h9) rfl dX3_byteOf_72 ?_
          refine lv_bipush (v := nI 16) hx hb dX3_byteOf_75 (by decide) ?_
          refine lv_bipush (v := nI 16) hx hb dX3_byteOf_77 (by decide) ?_
          refine lv_iload_n hx hb dX3_byteOf_79 rfl (lv_at hl 3 rfl) ?_
          refine xr_mul hx hb dX3_byteOf_80 ?_
          refine lv_iload hx hb dX3_byteOf_81 (lv_at hl 5 rfl) ?_
          refine xr_add hx hb dX3_byteOf_83 ?_
          refine xr_mul hx hb dX3_byteOf_84 ?_
          refine lv_iload_n hx hb dX3_byteOf_85 rfl (lv_at hl 2 rfl) ?_
          refine xr_add hx hb dX3_byteOf_86 ?_
          refine xr_iald hx hb hK hP 2 0 rfl rfl (by omega) (by decide) dX3_byteOf_87 ?_
          have hb_87 := hχ (1000 + (16 * (16 * b + j) + i))
          refine xr_nat (x' := χ (1000 + 256 * b + (16 * j + i))) (congrArg χ (by omega)) ?_
          refine xr_xor hx hb dX3_byteOf_88 ?_
          refine lv_istore (lv' := [(4, .int (nI ((xfo χ b k i j) ^^^ (χ (1000 + 256 * b + (16 * j + i)))))), (0, .ref (r 0)), (1, .int (nI (16 * b + k))), (2, .int (nI (i))), (3, .int (nI (b))), (5, .int (nI (j)))]) hx hb dX3_byteOf_89 hl (by decide) rfl (fun ls hl => ?_)
          refine lv_iinc (v := nI (j + 1)) (lv' := [(5, .int (nI (j + 1))), (4, .int (nI ((xfo χ b k i j) ^^^ (χ (1000 + 256 * b + (16 * j + i)))))), (0, .ref (r 0)), (1, .int (nI (16 * b + k))), (2, .int (nI (i))), (3, .int (nI (b)))]) hx hb dX3_byteOf_91 hl (k := 5) rfl (nI_add _ _) (by decide) rfl (fun ls hl => ?_)
          refine lv_goto (tgt := 43) hx hb dX3_byteOf_94 (by decide) ?_
          have e9 : (xfo χ b k i j) ^^^ (χ (1000 + 256 * b + (16 * j + i))) = xfo χ b k i (j + 1) := by rw [xfo_in ⟨by omega, h_66⟩]
          rw [e9] at hl
          exact ih_43 (j + 1) _ (by omega) (by first | omega | (dsimp only; omega)) (lv_sub hl [2, 3, 4, 5, 1, 0] rfl)
  · refine lv_aload_n hx hb dX3_byteOf_10 rfl (lv_at hl 0 rfl) ?_
    refine va_get (D := D) (ci := 3) (v := .ref (r 2)) (C := RX3) (T := TX3) (N := 16) hx hb hts hiX3 hown hK hP 0 rfl rfl 2 (by decide) (hts (.fieldLink RX3 13 "PairedCellsModel" "bytes" "[I") (by decide +kernel)) (fun _ h9 => h9) rfl dX3_byteOf_11 ?_
    refine lv_bipush (v := nI 16) hx hb dX3_byteOf_14 (by decide) ?_
    refine lv_iload_n hx hb dX3_byteOf_16 rfl (lv_at hl 1 rfl) ?_
    refine xr_mul hx hb dX3_byteOf_17 ?_
    refine lv_iload_n hx hb dX3_byteOf_18 rfl (lv_at hl 2 rfl) ?_
    refine xr_add hx hb dX3_byteOf_19 ?_
    refine xr_iald hx hb hK hP 2 0 rfl rfl (by omega) (by decide) dX3_byteOf_20 ?_
    have hb_20 := hχ (1000 + (16 * (16 * b + k) + i))
    exact xe_i hx hb hr hlocks (by unfold byt; rw [if_pos (show χ (16 * b + k) = 1 by omega)]; exact congrArg (fun z => nI (χ z)) (by omega)) rfl rfl dX3_byteOf_21
