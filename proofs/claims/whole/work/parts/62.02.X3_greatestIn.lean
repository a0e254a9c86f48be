set_option maxHeartbeats 4000000 in
set_option maxRecDepth 100000 in
theorem c_X3_greatestIn (l : Launch) (D : va_G) {cI : ClassId} (r : Nat → Nat) (th fp fa : Int32) (χ P : Nat → Nat) (hd tn cu fi ne ct on : Nat) (b : Nat) (hb6 : b < 6) (hχ : ∀ i, χ i < 65536) (hwf : wfs χ) : Met l yX3_greatestIn wsX3_greatestIn ({ frames := 4, cells := 0, slots := 0, locals := 89 }) (va_Pc [.ref (r 0), .int (nI (b))] (x_R D (tyM cI) (wM cI r th fp fa χ P hd tn cu fi ne ct on))) (vp_Si (fun x => x = mI (grt χ b 16))) 0 0 (fun _ => False) := by
  refine Met.ofW (cc := cX3_greatestIn) (maxL := 4) (ret := (some .int)) (by decide) rfl ?_
  intro p e s m args below meth c s₁ B hml hv
  obtain ⟨rfl, hN, hP, hK⟩ := hv
  have hx := B.exec
  have hb := B.bytes
  have hr := B.returns
  have hts := atoms_spec (ws := wsX3_greatestIn) B.pre
  have hown : s.vm.findClass RX3 = some m.cls := findClass_of_methodNamed B.named
  have hlocks := B.notSynchronized
  have hl := lv_entry ([.ref (r 0), .int (nI (b))]) (n := 4) (Nat.le_of_ble_eq_true rfl)
  rw [lg_entry_eq]
  generalize (lg_sl ([.ref (r 0), .int (nI (b))]) ++ List.replicate (4 - (lg_sl ([.ref (r 0), .int (nI (b))])).length) Slot.unset).toArray = ls at hl ⊢
  have hl : lv_has ls 4 [(0, .ref (r 0)), (1, .int (nI (b)))] := hl
  refine lv_iconst (v := mI 0) hx hb dX3_greatestIn_0 (by decide) ?_
  refine lv_istore_n (lv' := [(2, .int (mI (0))), (0, .ref (r 0)), (1, .int (nI (b)))]) hx hb dX3_greatestIn_1 rfl hl (by decide) rfl (fun ls hl => ?_)
  refine lv_bipush (v := nI 16) hx hb dX3_greatestIn_2 (by decide) ?_
  refine lv_iload_n hx hb dX3_greatestIn_4 rfl (lv_at hl 2 rfl) ?_
  refine xr_mul hx hb dX3_greatestIn_5 ?_
  refine lv_istore_n (lv' := [(3, .int (nI (16 * b))), (2, .int (mI (0))), (0, .ref (r 0)), (1, .int (nI (b)))]) hx hb dX3_greatestIn_6 rfl hl (by decide) rfl (fun ls hl => ?_)
  refine lpR (α := Nat) (fun k => k ≤ 16) (fun k => [(0, .ref (r 0)), (1, .int (nI (b))), (2, .int (mI (grt χ b k))), (3, .int (nI (16 * b + k)))]) 4 (fun k => 16 - k) 0 (by omega) (lv_sub hl [2, 3, 1, 0] rfl) (fun s9 ls hI9 hl9 ih_7 => ?_)
  obtain ⟨k, rfl⟩ : ∃ z, z = s9 := ⟨_, rfl⟩
  have hl : lv_has ls 4 [(0, .ref (r 0)), (1, .int (nI (b))), (2, .int (mI (grt χ b k))), (3, .int (nI (16 * b + k)))] := hl9
  obtain hk7 : k ≤ 16 := hI9
  have hg9 := grt_lt hwf hb6 k (by omega)
  refine lv_iload_n hx hb dX3_greatestIn_7 rfl (lv_at hl 3 rfl) ?_
  refine lv_bipush (v := nI 16) hx hb dX3_greatestIn_8 (by decide) ?_
  refine lv_iload_n hx hb dX3_greatestIn_10 rfl (lv_at hl 1 rfl) ?_
  refine xr_mul hx hb dX3_greatestIn_11 ?_
  refine lv_bipush (v := nI 16) hx hb dX3_greatestIn_12 (by decide) ?_
  refine xr_add hx hb dX3_greatestIn_14 ?_
  refine xi_ge (tgt := 51) hx hb dX3_greatestIn_15 (by decide) (nI_toInt (by omega)) (nI_toInt (by omega)) (fun c_15 => ?_) (fun c_15 => ?_)
  · refine lv_iload_n hx hb dX3_greatestIn_51 rfl (lv_at hl 2 rfl) ?_
    exact xe_i hx hb hr hlocks (by rw [show k = 16 by omega]) rfl rfl dX3_greatestIn_52
  · refine lv_aload_n hx hb dX3_greatestIn_18 rfl (lv_at hl 0 rfl) ?_
    refine lv_iload_n hx hb dX3_greatestIn_19 rfl (lv_at hl 3 rfl) ?_
    refine xc_Vi (ci := 3) (rest := []) (As := [.int (nI (16 * b + k))]) ⟨hx, hb, hml, hown, hts⟩ (c_X3_isReadable l D r th fp fa χ P hd tn cu fi ne ct on b hb6 k (by omega) hχ) (cwV 1 hts gX3_greatestIn_X3_isReadable rfl rfl rfl (by decide +kernel) ⟨Nat.le_of_ble_eq_true rfl, Nat.le_of_ble_eq_true rfl⟩) hN hK (hP) rfl 0 rfl rfl hl.1 rfl (Nat.le_of_ble_eq_true rfl) dX3_greatestIn_20 ⟨Nat.le_of_ble_eq_true rfl, Nat.le_of_ble_eq_true rfl⟩ (fun r_20 hw_20 => ?_)
    refine xz_eq (tgt := 43) hx hb dX3_greatestIn_23 (by decide) rfl (fun c_23 => ?_) (fun c_23 => ?_)
    · have h_23 := bo.f hw_20 c_23
      refine lv_iload_n hx hb dX3_greatestIn_43 rfl (lv_at hl 2 rfl) ?_
      refine lv_istore_n (lv' := [(2, .int (mI (grt χ b k))), (0, .ref (r 0)), (1, .int (nI (b))), (3, .int (nI (16 * b + k)))]) hx hb dX3_greatestIn_44 rfl hl (by decide) rfl (fun ls hl => ?_)
      refine lv_iinc (v := nI (16 * b + k + 1)) (lv' := [(3, .int (nI (16 * b + k + 1))), (2, .int (mI (grt χ b k))), (0, .ref (r 0)), (1, .int (nI (b)))]) hx hb dX3_greatestIn_45 hl (k := 3) rfl (nI_add _ _) (by decide) rfl (fun ls hl => ?_)
      refine lv_goto (tgt := 7) hx hb dX3_greatestIn_48 (by decide) ?_
      have e9 : grt χ b k = grt χ b (k + 1) := by first | exact (grt_out h_23).symm | (rw [grt_in h_23]; omega)
      rw [e9] at hl
      exact ih_7 (k + 1) _ (by omega) (by first | omega | (dsimp only; omega)) (lv_sub hl [2, 3, 1, 0] rfl)
    · have h_23 := bo.t hw_20 c_23
      obtain ⟨hw0, hw1, hw2, -⟩ := hwf b k hb6 (by omega) h_23
      refine lv_aload_n hx hb dX3_greatestIn_26 rfl (lv_at hl 0 rfl) ?_
      refine lv_iload_n hx hb dX3_greatestIn_27 rfl (lv_at hl 3 rfl) ?_
      refine xc_Vi (ci := 3) (rest := []) (As := [.int (nI (16 * b + k))]) ⟨hx, hb, hml, hown, hts⟩ (c_X3_lastOf l D r th fp fa χ P hd tn cu fi ne ct on b hb6 k (by omega) hχ hwf h_23) (cwV 1 hts gX3_greatestIn_X3_lastOf rfl rfl rfl (by decide +kernel) ⟨Nat.le_of_ble_eq_true rfl, Nat.le_of_ble_eq_true rfl⟩) hN hK (hP) rfl 0 rfl rfl hl.1 rfl (Nat.le_of_ble_eq_true rfl) dX3_greatestIn_28 ⟨Nat.le_of_ble_eq_true rfl, Nat.le_of_ble_eq_true rfl⟩ (fun r_28 hw_28 => ?_)
      subst hw_28
      refine lv_iload_n hx hb dX3_greatestIn_31 rfl (lv_at hl 2 rfl) ?_
      refine xi_le (tgt := 43) hx hb dX3_greatestIn_32 (by decide) (mI_toInt (by omega)) (mI_toInt (by omega)) (fun c_32 => ?_) (fun c_32 => ?_)
      · refine lv_iload_n hx hb dX3_greatestIn_43 rfl (lv_at hl 2 rfl) ?_
        refine lv_istore_n (lv' := [(2, .int (mI (grt χ b k))), (0, .ref (r 0)), (1, .int (nI (b))), (3, .int (nI (16 * b + k)))]) hx hb dX3_greatestIn_44 rfl hl (by decide) rfl (fun ls hl => ?_)
        refine lv_iinc (v := nI (16 * b + k + 1)) (lv' := [(3, .int (nI (16 * b + k + 1))), (2, .int (mI (grt χ b k))), (0, .ref (r 0)), (1, .int (nI (b)))]) hx hb dX3_greatestIn_45 hl (k := 3) rfl (nI_add _ _) (by decide) rfl (fun ls hl => ?_)
        refine lv_goto (tgt := 7) hx hb dX3_greatestIn_48 (by decide) ?_
        have e9 : grt χ b k = grt χ b (k + 1) := by first | exact (grt_out h_23).symm | (rw [grt_in h_23]; omega)
        rw [e9] at hl
        exact ih_7 (k + 1) _ (by omega) (by first | omega | (dsimp only; omega)) (lv_sub hl [2, 3, 1, 0] rfl)
      · refine lv_aload_n hx hb dX3_greatestIn_35 rfl (lv_at hl 0 rfl) ?_
        refine lv_iload_n hx hb dX3_greatestIn_36 rfl (lv_at hl 3 rfl) ?_
        refine xc_Vi (ci := 3) (rest := []) (As := [.int (nI (16 * b + k))]) ⟨hx, hb, hml, hown, hts⟩ (c_X3_lastOf l D r th fp fa χ P hd tn cu fi ne ct on b hb6 k (by omega) hχ hwf h_23) (cwV 1 hts gX3_greatestIn_X3_lastOf rfl rfl rfl (by decide +kernel) ⟨Nat.le_of_ble_eq_true rfl, Nat.le_of_ble_eq_true rfl⟩) hN hK (hP) rfl 0 rfl rfl hl.1 rfl (Nat.le_of_ble_eq_true rfl) dX3_greatestIn_37 ⟨Nat.le_of_ble_eq_true rfl, Nat.le_of_ble_eq_true rfl⟩ (fun r_37 hw_37 => ?_)
        subst hw_37
        refine lv_goto (tgt := 44) hx hb dX3_greatestIn_40 (by decide) ?_
        refine lv_istore_n (lv' := [(2, .int (mI (256 * byt χ b k 1 + byt χ b k 2 + byt χ b k 0))), (0, .ref (r 0)), (1, .int (nI (b))), (3, .int (nI (16 * b + k)))]) hx hb dX3_greatestIn_44 rfl hl (by decide) rfl (fun ls hl => ?_)
        refine lv_iinc (v := nI (16 * b + k + 1)) (lv' := [(3, .int (nI (16 * b + k + 1))), (2, .int (mI (256 * byt χ b k 1 + byt χ b k 2 + byt χ b k 0))), (0, .ref (r 0)), (1, .int (nI (b)))]) hx hb dX3_greatestIn_45 hl (k := 3) rfl (nI_add _ _) (by decide) rfl (fun ls hl => ?_)
        refine lv_goto (tgt := 7) hx hb dX3_greatestIn_48 (by decide) ?_
        have e9 : 256 * byt χ b k 1 + byt χ b k 2 + byt χ b k 0 = grt χ b (k + 1) := by first | exact (grt_out h_23).symm | (rw [grt_in h_23]; omega)
        rw [e9] at hl
        exact ih_7 (k + 1) _ (by omega) (by first | omega | (dsimp only; omega)) (lv_sub hl [2, 3, 1, 0] rfl)
