set_option maxHeartbeats 4000000 in
set_option maxRecDepth 100000 in
theorem c_X3_used (l : Launch) (D : va_G) {cI : ClassId} (r : Nat → Nat) (th fp fa : Int32) (χ P : Nat → Nat) (hd tn cu fi ne ct on : Nat) (b : Nat) (hb6 : b < 6) (hχ : ∀ i, χ i < 65536) (hpx : pfx χ) : Met l yX3_used wsX3_used ({ frames := 0, cells := 0, slots := 0, locals := 0 }) (va_Pc [.ref (r 0), .int (nI (b))] (x_R D (tyM cI) (wM cI r th fp fa χ P hd tn cu fi ne ct on))) (vp_Si (fun x => x = nI (plc χ b))) 0 0 (fun _ => False) := by
  refine Met.ofW (cc := cX3_used) (maxL := 4) (ret := (some .int)) (by decide) rfl ?_
  intro p e s m args below meth c s₁ B hml hv
  obtain ⟨rfl, hN, hP, hK⟩ := hv
  have hx := B.exec
  have hb := B.bytes
  have hr := B.returns
  have hts := atoms_spec (ws := wsX3_used) B.pre
  have hown : s.vm.findClass RX3 = some m.cls := findClass_of_methodNamed B.named
  have hlocks := B.notSynchronized
  have hiX3 : ∀ w ∈ u_ws RX3 TX3 16, w ∈ wsX3_used := by decide +kernel
  have hl := lv_entry ([.ref (r 0), .int (nI (b))]) (n := 4) (Nat.le_of_ble_eq_true rfl)
  rw [lg_entry_eq]
  generalize (lg_sl ([.ref (r 0), .int (nI (b))]) ++ List.replicate (4 - (lg_sl ([.ref (r 0), .int (nI (b))])).length) Slot.unset).toArray = ls at hl ⊢
  have hl : lv_has ls 4 [(0, .ref (r 0)), (1, .int (nI (b)))] := hl
  have hm0 : (0 : Nat) = min 0 (plc χ b) := (Nat.zero_min _).symm
  refine lv_iconst (v := nI 0) hx hb dX3_used_0 (by decide) ?_
  refine lv_istore_n (lv' := [(2, .int (nI (0))), (0, .ref (r 0)), (1, .int (nI (b)))]) hx hb dX3_used_1 rfl hl (by decide) rfl (fun ls hl => ?_)
  refine lv_bipush (v := nI 16) hx hb dX3_used_2 (by decide) ?_
  refine lv_iload_n hx hb dX3_used_4 rfl (lv_at hl 2 rfl) ?_
  refine xr_mul hx hb dX3_used_5 ?_
  refine lv_istore_n (lv' := [(3, .int (nI (16 * b))), (2, .int (nI (0))), (0, .ref (r 0)), (1, .int (nI (b)))]) hx hb dX3_used_6 rfl hl (by decide) rfl (fun ls hl => ?_)
  refine lpR (α := Nat) (fun k => k ≤ 16) (fun k => [(0, .ref (r 0)), (1, .int (nI (b))), (2, .int (nI (min k (plc χ b)))), (3, .int (nI (16 * b + k)))]) 4 (fun k => 16 - k) 0 (by omega) (lv_sub hl [2, 3, 1, 0] rfl) (fun s9 ls hI9 hl9 ih_7 => ?_)
  obtain ⟨k, rfl⟩ : ∃ z, z = s9 := ⟨_, rfl⟩
  have hl : lv_has ls 4 [(0, .ref (r 0)), (1, .int (nI (b))), (2, .int (nI (min k (plc χ b)))), (3, .int (nI (16 * b + k)))] := hl9
  obtain hk : k ≤ 16 := hI9
  refine lv_iload_n hx hb dX3_used_7 rfl (lv_at hl 3 rfl) ?_
  refine lv_bipush (v := nI 16) hx hb dX3_used_8 (by decide) ?_
  refine lv_iload_n hx hb dX3_used_10 rfl (lv_at hl 1 rfl) ?_
  refine xr_mul hx hb dX3_used_11 ?_
  refine lv_bipush (v := nI 16) hx hb dX3_used_12 (by decide) ?_
  refine xr_add hx hb dX3_used_14 ?_
  refine xi_ge (tgt := 41) hx hb dX3_used_15 (by decide) (nI_toInt (by omega)) (nI_toInt (by omega)) (fun c_15 => ?_) (fun c_15 => ?_)
  · refine lv_iload_n hx hb dX3_used_41 rfl (lv_at hl 2 rfl) ?_
    exact xe_i hx hb hr hlocks (by rw [show k = 16 by omega, Nat.min_eq_right (plc_le χ b)]) rfl rfl dX3_used_42
  · refine lv_iload_n hx hb dX3_used_18 rfl (lv_at hl 2 rfl) ?_
    refine lv_aload_n hx hb dX3_used_19 rfl (lv_at hl 0 rfl) ?_
    refine va_get (D := D) (ci := 3) (v := .ref (r 1)) (C := RX3) (T := TX3) (N := 16) hx hb hts hiX3 hown hK hP 0 rfl rfl 1 (by decide) (hts (.fieldLink RX3 7 "PairedCellsModel" "states" "[I") (by decide +kernel)) (fun _ h9 => h9) rfl dX3_used_20 ?_
    refine lv_iload_n hx hb dX3_used_23 rfl (lv_at hl 3 rfl) ?_
    refine xr_iald hx hb hK hP 1 0 rfl rfl (by omega) (by decide) dX3_used_24 ?_
    have hb_24 := hχ (16 * b + k)
    refine xz_ne (tgt := 32) hx hb dX3_used_25 (by decide) (nI_toInt (by omega)) (fun c_25 => ?_) (fun c_25 => ?_)
    · refine lv_iconst (v := nI 1) hx hb dX3_used_32 (by decide) ?_
      refine xr_add hx hb dX3_used_33 ?_
      refine lv_istore_n (lv' := [(2, .int (nI (min k (plc χ b) + 1))), (0, .ref (r 0)), (1, .int (nI (b))), (3, .int (nI (16 * b + k)))]) hx hb dX3_used_34 rfl hl (by decide) rfl (fun ls hl => ?_)
      refine lv_iinc (v := nI (16 * b + k + 1)) (lv' := [(3, .int (nI (16 * b + k + 1))), (2, .int (nI (min k (plc χ b) + 1))), (0, .ref (r 0)), (1, .int (nI (b)))]) hx hb dX3_used_35 hl (k := 3) rfl (nI_add _ _) (by decide) rfl (fun ls hl => ?_)
      refine lv_goto (tgt := 7) hx hb dX3_used_38 (by decide) ?_
      have e9 : min k (plc χ b) + 1 = min (k + 1) (plc χ b) := by first | (have h7 : plc χ b ≤ k := Nat.le_of_not_lt (fun h8 => plc_lt h8 (by omega)); omega) | (have h7 : k < plc χ b := Nat.lt_of_not_le (fun h8 => by have h9 := (hpx b hb6).1 k h8 (by omega); omega); omega)
      rw [e9] at hl
      exact ih_7 (k + 1) _ (by omega) (by first | omega | (dsimp only; omega)) (lv_sub hl [2, 3, 1, 0] rfl)
    · refine lv_iconst (v := nI 0) hx hb dX3_used_28 (by decide) ?_
      refine lv_goto (tgt := 33) hx hb dX3_used_29 (by decide) ?_
      refine xr_add hx hb dX3_used_33 ?_
      refine lv_istore_n (lv' := [(2, .int (nI (min k (plc χ b) + 0))), (0, .ref (r 0)), (1, .int (nI (b))), (3, .int (nI (16 * b + k)))]) hx hb dX3_used_34 rfl hl (by decide) rfl (fun ls hl => ?_)
      refine lv_iinc (v := nI (16 * b + k + 1)) (lv' := [(3, .int (nI (16 * b + k + 1))), (2, .int (nI (min k (plc χ b) + 0))), (0, .ref (r 0)), (1, .int (nI (b)))]) hx hb dX3_used_35 hl (k := 3) rfl (nI_add _ _) (by decide) rfl (fun ls hl => ?_)
      refine lv_goto (tgt := 7) hx hb dX3_used_38 (by decide) ?_
      have e9 : min k (plc χ b) + 0 = min (k + 1) (plc χ b) := by first | (have h7 : plc χ b ≤ k := Nat.le_of_not_lt (fun h8 => plc_lt h8 (by omega)); omega) | (have h7 : k < plc χ b := Nat.lt_of_not_le (fun h8 => by have h9 := (hpx b hb6).1 k h8 (by omega); omega); omega)
      rw [e9] at hl
      exact ih_7 (k + 1) _ (by omega) (by first | omega | (dsimp only; omega)) (lv_sub hl [2, 3, 1, 0] rfl)
