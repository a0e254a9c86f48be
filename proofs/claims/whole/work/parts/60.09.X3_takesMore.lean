set_option maxHeartbeats 4000000 in
set_option maxRecDepth 100000 in
theorem c_X3_takesMore (l : Launch) (D : va_G) {cI : ClassId} (r : Nat → Nat) (th fp fa : Int32) (χ P : Nat → Nat) (hd tn cu fi ne ct on : Nat) (b : Nat) (hb6 : b < 6) (hχ : ∀ i, χ i < 65536) (hpx : pfx χ) : Met l yX3_takesMore wsX3_takesMore ({ frames := 1, cells := 0, slots := 0, locals := 23 }) (va_Pc [.ref (r 0), .int (nI (b))] (x_R D (tyM cI) (wM cI r th fp fa χ P hd tn cu fi ne ct on))) (vp_Si (fun x => bo x (tk χ b))) 0 0 (fun _ => False) := by
  refine Met.ofW (cc := cX3_takesMore) (maxL := 4) (ret := (some .boolean)) (by decide) rfl ?_
  intro p e s m args below meth c s₁ B hml hv
  obtain ⟨rfl, hN, hP, hK⟩ := hv
  have hx := B.exec
  have hb := B.bytes
  have hr := B.returns
  have hts := atoms_spec (ws := wsX3_takesMore) B.pre
  have hown : s.vm.findClass RX3 = some m.cls := findClass_of_methodNamed B.named
  have hlocks := B.notSynchronized
  have hiX3 : ∀ w ∈ u_ws RX3 TX3 16, w ∈ wsX3_takesMore := by decide +kernel
  have hl := lv_entry ([.ref (r 0), .int (nI (b))]) (n := 4) (Nat.le_of_ble_eq_true rfl)
  rw [lg_entry_eq]
  generalize (lg_sl ([.ref (r 0), .int (nI (b))]) ++ List.replicate (4 - (lg_sl ([.ref (r 0), .int (nI (b))])).length) Slot.unset).toArray = ls at hl ⊢
  have hl : lv_has ls 4 [(0, .ref (r 0)), (1, .int (nI (b)))] := hl
  have hpl := plc_le χ b
  refine lv_aload_n hx hb dX3_takesMore_0 rfl (lv_at hl 0 rfl) ?_
  refine lv_iload_n hx hb dX3_takesMore_1 rfl (lv_at hl 1 rfl) ?_
  refine xc_Vi (ci := 3) (rest := []) (As := [.int (nI (b))]) ⟨hx, hb, hml, hown, hts⟩ (c_X3_used l D r th fp fa χ P hd tn cu fi ne ct on b hb6 hχ hpx) (cwV 1 hts gX3_takesMore_X3_used rfl rfl rfl (by decide +kernel) ⟨Nat.le_of_ble_eq_true rfl, Nat.le_of_ble_eq_true rfl⟩) hN hK (hP) rfl 0 rfl rfl hl.1 rfl (Nat.le_of_ble_eq_true rfl) dX3_takesMore_2 ⟨Nat.le_of_ble_eq_true rfl, Nat.le_of_ble_eq_true rfl⟩ (fun r_2 hw_2 => ?_)
  subst hw_2
  refine lv_bipush (v := nI 16) hx hb dX3_takesMore_5 (by decide) ?_
  refine xi_ge (tgt := 14) hx hb dX3_takesMore_7 (by decide) (nI_toInt (by omega)) (nI_toInt (by omega)) (fun c_7 => ?_) (fun c_7 => ?_)
  · refine lv_iconst (v := nI 0) hx hb dX3_takesMore_14 (by decide) ?_
    refine lv_istore_n (lv' := [(2, .int (nI (0))), (0, .ref (r 0)), (1, .int (nI (b)))]) hx hb dX3_takesMore_15 rfl hl (by decide) rfl (fun ls hl => ?_)
    refine lv_bipush (v := nI 16) hx hb dX3_takesMore_16 (by decide) ?_
    refine lv_iload_n hx hb dX3_takesMore_18 rfl (lv_at hl 2 rfl) ?_
    refine xr_mul hx hb dX3_takesMore_19 ?_
    refine lv_bipush (v := nI 8) hx hb dX3_takesMore_20 (by decide) ?_
    refine xr_add hx hb dX3_takesMore_22 ?_
    refine lv_istore_n (lv' := [(3, .int (nI (16 * b + 8))), (2, .int (nI (0))), (0, .ref (r 0)), (1, .int (nI (b)))]) hx hb dX3_takesMore_23 rfl hl (by decide) rfl (fun ls hl => ?_)
    refine lpR (α := Nat × Nat) (fun (k, v) => 8 ≤ k ∧ k ≤ 16 ∧ ((v = 1 ∧ plc χ b < 16 ∧ ∀ i, 8 ≤ i → i < k → χ (16 * b + i) ≠ 2) ∨ (v = 0 ∧ ¬ tk χ b))) (fun (k, v) => [(0, .ref (r 0)), (1, .int (nI (b))), (2, .int (nI (v))), (3, .int (nI (16 * b + k)))]) 4 (fun (k, v) => 16 - k) (8, 0) (⟨by omega, by omega, Or.inr ⟨rfl, fun h7 => by have h8 := h7.2; omega⟩⟩) (lv_sub hl [2, 3, 1, 0] rfl) (fun s9 ls hI9 hl9 ih_24 => ?_)
    obtain ⟨k, v⟩ := s9
    have hl : lv_has ls 4 [(0, .ref (r 0)), (1, .int (nI (b))), (2, .int (nI (v))), (3, .int (nI (16 * b + k)))] := hl9
    obtain ⟨hk8, hk, hv⟩ : 8 ≤ k ∧ k ≤ 16 ∧ ((v = 1 ∧ plc χ b < 16 ∧ ∀ i, 8 ≤ i → i < k → χ (16 * b + i) ≠ 2) ∨ (v = 0 ∧ ¬ tk χ b)) := hI9
    refine lv_iload_n hx hb dX3_takesMore_24 rfl (lv_at hl 3 rfl) ?_
    refine lv_bipush (v := nI 16) hx hb dX3_takesMore_25 (by decide) ?_
    refine lv_iload_n hx hb dX3_takesMore_27 rfl (lv_at hl 1 rfl) ?_
    refine xr_mul hx hb dX3_takesMore_28 ?_
    refine lv_bipush (v := nI 16) hx hb dX3_takesMore_29 (by decide) ?_
    refine xr_add hx hb dX3_takesMore_31 ?_
    refine xi_ge (tgt := 61) hx hb dX3_takesMore_32 (by decide) (nI_toInt (by omega)) (nI_toInt (by omega)) (fun c_32 => ?_) (fun c_32 => ?_)
    · refine lv_iload_n hx hb dX3_takesMore_61 rfl (lv_at hl 2 rfl) ?_
      rcases hv with ⟨rfl, hq1, hq2⟩ | ⟨rfl, hq⟩
      · exact xe_z hx hb hr hlocks rfl (bo.one ⟨fun j h7 h8 => hq2 j h7 (by omega), hq1⟩) rfl rfl dX3_takesMore_62
      · exact xe_z hx hb hr hlocks rfl (bo.zero hq) rfl rfl dX3_takesMore_62
    · refine lv_iload_n hx hb dX3_takesMore_35 rfl (lv_at hl 2 rfl) ?_
      refine xz_eq (tgt := 53) hx hb dX3_takesMore_36 (by decide) (nI_toInt (by omega)) (fun c_36 => ?_) (fun c_36 => ?_)
      · refine lv_iconst (v := nI 0) hx hb dX3_takesMore_53 (by decide) ?_
        refine lv_istore_n (lv' := [(2, .int (nI (0))), (0, .ref (r 0)), (1, .int (nI (b))), (3, .int (nI (16 * b + k)))]) hx hb dX3_takesMore_54 rfl hl (by decide) rfl (fun ls hl => ?_)
        refine lv_iinc (v := nI (16 * b + k + 1)) (lv' := [(3, .int (nI (16 * b + k + 1))), (2, .int (nI (0))), (0, .ref (r 0)), (1, .int (nI (b)))]) hx hb dX3_takesMore_55 hl (k := 3) rfl (nI_add _ _) (by decide) rfl (fun ls hl => ?_)
        refine lv_goto (tgt := 24) hx hb dX3_takesMore_58 (by decide) ?_
        exact ih_24 (k + 1, 0) _ (⟨by omega, by omega, Or.inr ⟨rfl, fun h7 => by first | exact (hv.resolve_left (fun h8 => by omega)).2 h7 | exact h7.1 k hk8 (by omega) (by omega)⟩⟩) (by first | omega | (dsimp only; omega)) (lv_sub hl [2, 3, 1, 0] rfl)
      · refine lv_aload_n hx hb dX3_takesMore_39 rfl (lv_at hl 0 rfl) ?_
        refine va_get (D := D) (ci := 3) (v := .ref (r 1)) (C := RX3) (T := TX3) (N := 16) hx hb hts hiX3 hown hK hP 0 rfl rfl 1 (by decide) (hts (.fieldLink RX3 7 "PairedCellsModel" "states" "[I") (by decide +kernel)) (fun _ h9 => h9) rfl dX3_takesMore_40 ?_
        refine lv_iload_n hx hb dX3_takesMore_43 rfl (lv_at hl 3 rfl) ?_
        refine xr_iald hx hb hK hP 1 0 rfl rfl (by omega) (by decide) dX3_takesMore_44 ?_
        have hb_44 := hχ (16 * b + k)
        refine lv_iconst (v := nI 2) hx hb dX3_takesMore_45 (by decide) ?_
        refine xi_eq (tgt := 53) hx hb dX3_takesMore_46 (by decide) (nI_toInt (by omega)) (nI_toInt (by omega)) (fun c_46 => ?_) (fun c_46 => ?_)
        · refine lv_iconst (v := nI 0) hx hb dX3_takesMore_53 (by decide) ?_
          refine lv_istore_n (lv' := [(2, .int (nI (0))), (0, .ref (r 0)), (1, .int (nI (b))), (3, .int (nI (16 * b + k)))]) hx hb dX3_takesMore_54 rfl hl (by decide) rfl (fun ls hl => ?_)
          refine lv_iinc (v := nI (16 * b + k + 1)) (lv' := [(3, .int (nI (16 * b + k + 1))), (2, .int (nI (0))), (0, .ref (r 0)), (1, .int (nI (b)))]) hx hb dX3_takesMore_55 hl (k := 3) rfl (nI_add _ _) (by decide) rfl (fun ls hl => ?_)
          refine lv_goto (tgt := 24) hx hb dX3_takesMore_58 (by decide) ?_
          exact ih_24 (k + 1, 0) _ (⟨by omega, by omega, Or.inr ⟨rfl, fun h7 => by first | exact (hv.resolve_left (fun h8 => by omega)).2 h7 | exact h7.1 k hk8 (by omega) (by omega)⟩⟩) (by first | omega | (dsimp only; omega)) (lv_sub hl [2, 3, 1, 0] rfl)
        · refine lv_iconst (v := nI 1) hx hb dX3_takesMore_49 (by decide) ?_
          refine lv_goto (tgt := 54) hx hb dX3_takesMore_50 (by decide) ?_
          refine lv_istore_n (lv' := [(2, .int (nI (1))), (0, .ref (r 0)), (1, .int (nI (b))), (3, .int (nI (16 * b + k)))]) hx hb dX3_takesMore_54 rfl hl (by decide) rfl (fun ls hl => ?_)
          refine lv_iinc (v := nI (16 * b + k + 1)) (lv' := [(3, .int (nI (16 * b + k + 1))), (2, .int (nI (1))), (0, .ref (r 0)), (1, .int (nI (b)))]) hx hb dX3_takesMore_55 hl (k := 3) rfl (nI_add _ _) (by decide) rfl (fun ls hl => ?_)
          refine lv_goto (tgt := 24) hx hb dX3_takesMore_58 (by decide) ?_
          exact ih_24 (k + 1, 1) _ (⟨by omega, by omega, Or.inl ⟨rfl, (hv.resolve_right (fun h7 => by omega)).2.1, fun i h6 hi => by (rcases Nat.lt_succ_iff_lt_or_eq.mp hi with h7 | h7); exact (hv.resolve_right (fun h8 => by omega)).2.2 i h6 h7; (subst h7; omega)⟩⟩) (by first | omega | (dsimp only; omega)) (lv_sub hl [2, 3, 1, 0] rfl)
  · refine lv_iconst (v := nI 1) hx hb dX3_takesMore_10 (by decide) ?_
    refine lv_goto (tgt := 15) hx hb dX3_takesMore_11 (by decide) ?_
    refine lv_istore_n (lv' := [(2, .int (nI (1))), (0, .ref (r 0)), (1, .int (nI (b)))]) hx hb dX3_takesMore_15 rfl hl (by decide) rfl (fun ls hl => ?_)
    refine lv_bipush (v := nI 16) hx hb dX3_takesMore_16 (by decide) ?_
    refine lv_iload_n hx hb dX3_takesMore_18 rfl (lv_at hl 2 rfl) ?_
    refine xr_mul hx hb dX3_takesMore_19 ?_
    refine lv_bipush (v := nI 8) hx hb dX3_takesMore_20 (by decide) ?_
    refine xr_add hx hb dX3_takesMore_22 ?_
    refine lv_istore_n (lv' := [(3, .int (nI (16 * b + 8))), (2, .int (nI (1))), (0, .ref (r 0)), (1, .int (nI (b)))]) hx hb dX3_takesMore_23 rfl hl (by decide) rfl (fun ls hl => ?_)
    refine lpR (α := Nat × Nat) (fun (k, v) => 8 ≤ k ∧ k ≤ 16 ∧ ((v = 1 ∧ plc χ b < 16 ∧ ∀ i, 8 ≤ i → i < k → χ (16 * b + i) ≠ 2) ∨ (v = 0 ∧ ¬ tk χ b))) (fun (k, v) => [(0, .ref (r 0)), (1, .int (nI (b))), (2, .int (nI (v))), (3, .int (nI (16 * b + k)))]) 4 (fun (k, v) => 16 - k) (8, 1) (⟨by omega, by omega, Or.inl ⟨rfl, by omega, fun i h7 h8 => absurd h8 (by omega)⟩⟩) (lv_sub hl [2, 3, 1, 0] rfl) (fun s9 ls hI9 hl9 ih_24 => ?_)
    obtain ⟨k, v⟩ := s9
    have hl : lv_has ls 4 [(0, .ref (r 0)), (1, .int (nI (b))), (2, .int (nI (v))), (3, .int (nI (16 * b + k)))] := hl9
    obtain ⟨hk8, hk, hv⟩ : 8 ≤ k ∧ k ≤ 16 ∧ ((v = 1 ∧ plc χ b < 16 ∧ ∀ i, 8 ≤ i → i < k → χ (16 * b + i) ≠ 2) ∨ (v = 0 ∧ ¬ tk χ b)) := hI9
    refine lv_iload_n hx hb dX3_takesMore_24 rfl (lv_at hl 3 rfl) ?_
    refine lv_bipush (v := nI 16) hx hb dX3_takesMore_25 (by decide) ?_
    refine lv_iload_n hx hb dX3_takesMore_27 rfl (lv_at hl 1 rfl) ?_
    refine xr_mul hx hb dX3_takesMore_28 ?_
    refine lv_bipush (v := nI 16) hx hb dX3_takesMore_29 (by decide) ?_
    refine xr_add hx hb dX3_takesMore_31 ?_
    refine xi_ge (tgt := 61) hx hb dX3_takesMore_32 (by decide) (nI_toInt (by omega)) (nI_toInt (by omega)) (fun c_32 => ?_) (fun c_32 => ?_)
    · refine lv_iload_n hx hb dX3_takesMore_61 rfl (lv_at hl 2 rfl) ?_
      rcases hv with ⟨rfl, hq1, hq2⟩ | ⟨rfl, hq⟩
      · exact xe_z hx hb hr hlocks rfl (bo.one ⟨fun j h7 h8 => hq2 j h7 (by omega), hq1⟩) rfl rfl dX3_takesMore_62
      · exact xe_z hx hb hr hlocks rfl (bo.zero hq) rfl rfl dX3_takesMore_62
    · refine lv_iload_n hx hb dX3_takesMore_35 rfl (lv_at hl 2 rfl) ?_
      refine xz_eq (tgt := 53) hx hb dX3_takesMore_36 (by decide) (nI_toInt (by omega)) (fun c_36 => ?_) (fun c_36 => ?_)
      · refine lv_iconst (v := nI 0) hx hb dX3_takesMore_53 (by decide) ?_
        refine lv_istore_n (lv' := [(2, .int (nI (0))), (0, .ref (r 0)), (1, .int (nI (b))), (3, .int (nI (16 * b + k)))]) hx hb dX3_takesMore_54 rfl hl (by decide) rfl (fun ls hl => ?_)
        refine lv_iinc (v := nI (16 * b + k + 1)) (lv' := [(3, .int (nI (16 * b + k + 1))), (2, .int (nI (0))), (0, .ref (r 0)), (1, .int (nI (b)))]) hx hb dX3_takesMore_55 hl (k := 3) rfl (nI_add _ _) (by decide) rfl (fun ls hl => ?_)
        refine lv_goto (tgt := 24) hx hb dX3_takesMore_58 (by decide) ?_
        exact ih_24 (k + 1, 0) _ (⟨by omega, by omega, Or.inr ⟨rfl, fun h7 => by first | exact (hv.resolve_left (fun h8 => by omega)).2 h7 | exact h7.1 k hk8 (by omega) (by omega)⟩⟩) (by first | omega | (dsimp only; omega)) (lv_sub hl [2, 3, 1, 0] rfl)
      · refine lv_aload_n hx hb dX3_takesMore_39 rfl (lv_at hl 0 rfl) ?_
        refine va_get (D := D) (ci := 3) (v := .ref (r 1)) (C := RX3) (T := TX3) (N := 16) hx hb hts hiX3 hown hK hP 0 rfl rfl 1 (by decide) (hts (.fieldLink RX3 7 "PairedCellsModel" "states" "[I") (by decide +kernel)) (fun _ h9 => h9) rfl dX3_takesMore_40 ?_
        refine lv_iload_n hx hb dX3_takesMore_43 rfl (lv_at hl 3 rfl) ?_
        refine xr_iald hx hb hK hP 1 0 rfl rfl (by omega) (by decide) dX3_takesMore_44 ?_
        have hb_44 := hχ (16 * b + k)
        refine lv_iconst (v := nI 2) hx hb dX3_takesMore_45 (by decide) ?_
        refine xi_eq (tgt := 53) hx hb dX3_takesMore_46 (by decide) (nI_toInt (by omega)) (nI_toInt (by omega)) (fun c_46 => ?_) (fun c_46 => ?_)
        · refine lv_iconst (v := nI 0) hx hb dX3_takesMore_53 (by decide) ?_
          refine lv_istore_n (lv' := [(2, .int (nI (0))), (0, .ref (r 0)), (1, .int (nI (b))), (3, .int (nI (16 * b + k)))]) hx hb dX3_takesMore_54 rfl hl (by decide) rfl (fun ls hl => ?_)
          refine lv_iinc (v := nI (16 * b + k + 1)) (lv' := [(3, .int (nI (16 * b + k + 1))), (2, .int (nI (0))), (0, .ref (r 0)), (1, .int (nI (b)))]) hx hb dX3_takesMore_55 hl (k := 3) rfl (nI_add _ _) (by decide) rfl (fun ls hl => ?_)
          refine lv_goto (tgt := 24) hx hb dX3_takesMore_58 (by decide) ?_
          exact ih_24 (k + 1, 0) _ (⟨by omega, by omega, Or.inr ⟨rfl, fun h7 => by first | exact (hv.resolve_left (fun h8 => by omega)).2 h7 | exact h7.1 k hk8 (by omega) (by omega)⟩⟩) (by first | omega | (dsimp only; omega)) (lv_sub hl [2, 3, 1, 0] rfl)
        · refine lv_iconst (v := nI 1) hx hb dX3_takesMore_49 (by decide) ?_
          refine lv_goto (tgt := 54) hx hb dX3_takesMore_50 (by decide) ?_
          refine lv_istore_n (lv' := [(2, .int (nI (1))), (0, .ref (r 0)), (1, .int (nI (b))), (3, .int (nI (16 * b + k)))]) hx hb dX3_takesMore_54 rfl hl (by decide) rfl (fun ls hl => ?_)
          refine lv_iinc (v := nI (16 * b + k + 1)) (lv' := [(3, .int (nI (16 * b + k + 1))), (2, .int (nI (1))), (0, .ref (r 0)), (1, .int (nI (b)))]) hx hb dX3_takesMore_55 hl (k := 3) rfl (nI_add _ _) (by decide) rfl (fun ls hl => ?_)
          refine lv_goto (tgt := 24) hx hb dX3_takesMore_58 (by decide) ?_
          exact ih_24 (k + 1, 1) _ (⟨by omega, by omega, Or.inl ⟨rfl, (hv.resolve_right (fun h7 => by omega)).2.1, fun i h6 hi => by (rcases Nat.lt_succ_iff_lt_or_eq.mp hi with h7 | h7); exact (hv.resolve_right (fun h8 => by omega)).2.2 i h6 h7; (subst h7; omega)⟩⟩) (by first | omega | (dsimp only; omega)) (lv_sub hl [2, 3, 1, 0] rfl)
