set_option maxHeartbeats 4000000 in
set_option maxRecDepth 100000 in
theorem c_X3_isErased (l : Launch) (D : va_G) {cI : ClassId} (r : Nat → Nat) (th fp fa : Int32) (χ P : Nat → Nat) (hd tn cu fi ne ct on : Nat) (b : Nat) (hb6 : b < 6) (hχ : ∀ i, χ i < 65536) (hpx : pfx χ) : Met l yX3_isErased wsX3_isErased ({ frames := 0, cells := 0, slots := 0, locals := 0 }) (va_Pc [.ref (r 0), .int (nI (b))] (x_R D (tyM cI) (wM cI r th fp fa χ P hd tn cu fi ne ct on))) (vp_Si (fun x => bo x (χ (16 * b) = 0))) 0 0 (fun _ => False) := by
  refine Met.ofW (cc := cX3_isErased) (maxL := 4) (ret := (some .boolean)) (by decide) rfl ?_
  intro p e s m args below meth c s₁ B hml hv
  obtain ⟨rfl, hN, hP, hK⟩ := hv
  have hx := B.exec
  have hb := B.bytes
  have hr := B.returns
  have hts := atoms_spec (ws := wsX3_isErased) B.pre
  have hown : s.vm.findClass RX3 = some m.cls := findClass_of_methodNamed B.named
  have hlocks := B.notSynchronized
  have hiX3 : ∀ w ∈ u_ws RX3 TX3 16, w ∈ wsX3_isErased := by decide +kernel
  have hl := lv_entry ([.ref (r 0), .int (nI (b))]) (n := 4) (Nat.le_of_ble_eq_true rfl)
  rw [lg_entry_eq]
  generalize (lg_sl ([.ref (r 0), .int (nI (b))]) ++ List.replicate (4 - (lg_sl ([.ref (r 0), .int (nI (b))])).length) Slot.unset).toArray = ls at hl ⊢
  have hl : lv_has ls 4 [(0, .ref (r 0)), (1, .int (nI (b)))] := hl
  refine lv_aload_n hx hb dX3_isErased_0 rfl (lv_at hl 0 rfl) ?_
  refine va_get (D := D) (ci := 3) (v := .ref (r 3)) (C := RX3) (T := TX3) (N := 16) hx hb hts hiX3 hown hK hP 0 rfl rfl 3 (by decide) (hts (.fieldLink RX3 16 "PairedCellsModel" "guards" "[I") (by decide +kernel)) (fun _ h9 => h9) rfl dX3_isErased_1 ?_
  refine lv_iload_n hx hb dX3_isErased_4 rfl (lv_at hl 1 rfl) ?_
  refine xr_iald hx hb hK hP 3 0 rfl rfl (by omega) (by decide) dX3_isErased_5 ?_
  have hb_5 := hχ (100 + b)
  refine xz_ne (tgt := 13) hx hb dX3_isErased_6 (by decide) (nI_toInt (by omega)) (fun c_6 => ?_) (fun c_6 => ?_)
  · refine lv_iconst (v := nI 0) hx hb dX3_isErased_13 (by decide) ?_
    refine lv_istore_n (lv' := [(2, .int (nI (0))), (0, .ref (r 0)), (1, .int (nI (b)))]) hx hb dX3_isErased_14 rfl hl (by decide) rfl (fun ls hl => ?_)
    refine lv_bipush (v := nI 16) hx hb dX3_isErased_15 (by decide) ?_
    refine lv_iload_n hx hb dX3_isErased_17 rfl (lv_at hl 2 rfl) ?_
    refine xr_mul hx hb dX3_isErased_18 ?_
    refine lv_istore_n (lv' := [(3, .int (nI (16 * b))), (2, .int (nI (0))), (0, .ref (r 0)), (1, .int (nI (b)))]) hx hb dX3_isErased_19 rfl hl (by decide) rfl (fun ls hl => ?_)
    refine lpR (α := Nat × Nat) (fun (k, v) => k ≤ 16 ∧ ((v = 1 ∧ χ (100 + b) = 0 ∧ ∀ i, i < k → χ (16 * b + i) = 0) ∨ (v = 0 ∧ ¬ (χ (100 + b) = 0 ∧ ∀ i, i < k → χ (16 * b + i) = 0)))) (fun (k, v) => [(0, .ref (r 0)), (1, .int (nI (b))), (2, .int (nI (v))), (3, .int (nI (16 * b + k)))]) 4 (fun (k, v) => 16 - k) (0, 0) (⟨by omega, Or.inr ⟨rfl, fun h7 => absurd h7.1 (by omega)⟩⟩) (lv_sub hl [2, 3, 1, 0] rfl) (fun s9 ls hI9 hl9 ih_20 => ?_)
    obtain ⟨k, v⟩ := s9
    have hl : lv_has ls 4 [(0, .ref (r 0)), (1, .int (nI (b))), (2, .int (nI (v))), (3, .int (nI (16 * b + k)))] := hl9
    obtain ⟨hk, hv⟩ : k ≤ 16 ∧ ((v = 1 ∧ χ (100 + b) = 0 ∧ ∀ i, i < k → χ (16 * b + i) = 0) ∨ (v = 0 ∧ ¬ (χ (100 + b) = 0 ∧ ∀ i, i < k → χ (16 * b + i) = 0))) := hI9
    refine lv_iload_n hx hb dX3_isErased_20 rfl (lv_at hl 3 rfl) ?_
    refine lv_bipush (v := nI 16) hx hb dX3_isErased_21 (by decide) ?_
    refine lv_iload_n hx hb dX3_isErased_23 rfl (lv_at hl 1 rfl) ?_
    refine xr_mul hx hb dX3_isErased_24 ?_
    refine lv_bipush (v := nI 16) hx hb dX3_isErased_25 (by decide) ?_
    refine xr_add hx hb dX3_isErased_27 ?_
    refine xi_ge (tgt := 56) hx hb dX3_isErased_28 (by decide) (nI_toInt (by omega)) (nI_toInt (by omega)) (fun c_28 => ?_) (fun c_28 => ?_)
    · refine lv_iload_n hx hb dX3_isErased_56 rfl (lv_at hl 2 rfl) ?_
      rcases hv with ⟨rfl, hq⟩ | ⟨rfl, hq⟩
      · exact xe_z hx hb hr hlocks rfl (bo.one (hq.2 0 (by omega))) rfl rfl dX3_isErased_57
      · exact xe_z hx hb hr hlocks rfl (bo.zero (fun h7 => hq ⟨(hpx b hb6).2 (by rw [plc_zero.mpr h7]; decide), fun i hi => (hpx b hb6).1 i (by rw [plc_zero.mpr h7]; exact Nat.zero_le _) (by omega)⟩)) rfl rfl dX3_isErased_57
    · refine lv_iload_n hx hb dX3_isErased_31 rfl (lv_at hl 2 rfl) ?_
      refine xz_eq (tgt := 48) hx hb dX3_isErased_32 (by decide) (nI_toInt (by omega)) (fun c_32 => ?_) (fun c_32 => ?_)
      · refine lv_iconst (v := nI 0) hx hb dX3_isErased_48 (by decide) ?_
        refine lv_istore_n (lv' := [(2, .int (nI (0))), (0, .ref (r 0)), (1, .int (nI (b))), (3, .int (nI (16 * b + k)))]) hx hb dX3_isErased_49 rfl hl (by decide) rfl (fun ls hl => ?_)
        refine lv_iinc (v := nI (16 * b + k + 1)) (lv' := [(3, .int (nI (16 * b + k + 1))), (2, .int (nI (0))), (0, .ref (r 0)), (1, .int (nI (b)))]) hx hb dX3_isErased_50 hl (k := 3) rfl (nI_add _ _) (by decide) rfl (fun ls hl => ?_)
        refine lv_goto (tgt := 20) hx hb dX3_isErased_53 (by decide) ?_
        exact ih_20 (k + 1, 0) _ (⟨by omega, Or.inr ⟨rfl, fun h7 => by first | exact (hv.resolve_left (fun h8 => by omega)).2 ⟨h7.1, fun i hi => h7.2 i (by omega)⟩ | (have h8 := h7.2 k (by omega); omega)⟩⟩) (by first | omega | (dsimp only; omega)) (lv_sub hl [2, 3, 1, 0] rfl)
      · refine lv_aload_n hx hb dX3_isErased_35 rfl (lv_at hl 0 rfl) ?_
        refine va_get (D := D) (ci := 3) (v := .ref (r 1)) (C := RX3) (T := TX3) (N := 16) hx hb hts hiX3 hown hK hP 0 rfl rfl 1 (by decide) (hts (.fieldLink RX3 7 "PairedCellsModel" "states" "[I") (by decide +kernel)) (fun _ h9 => h9) rfl dX3_isErased_36 ?_
        refine lv_iload_n hx hb dX3_isErased_39 rfl (lv_at hl 3 rfl) ?_
        refine xr_iald hx hb hK hP 1 0 rfl rfl (by omega) (by decide) dX3_isErased_40 ?_
        have hb_40 := hχ (16 * b + k)
        refine xz_ne (tgt := 48) hx hb dX3_isErased_41 (by decide) (nI_toInt (by omega)) (fun c_41 => ?_) (fun c_41 => ?_)
        · refine lv_iconst (v := nI 0) hx hb dX3_isErased_48 (by decide) ?_
          refine lv_istore_n (lv' := [(2, .int (nI (0))), (0, .ref (r 0)), (1, .int (nI (b))), (3, .int (nI (16 * b + k)))]) hx hb dX3_isErased_49 rfl hl (by decide) rfl (fun ls hl => ?_)
          refine lv_iinc (v := nI (16 * b + k + 1)) (lv' := [(3, .int (nI (16 * b + k + 1))), (2, .int (nI (0))), (0, .ref (r 0)), (1, .int (nI (b)))]) hx hb dX3_isErased_50 hl (k := 3) rfl (nI_add _ _) (by decide) rfl (fun ls hl => ?_)
          refine lv_goto (tgt := 20) hx hb dX3_isErased_53 (by decide) ?_
          exact ih_20 (k + 1, 0) _ (⟨by omega, Or.inr ⟨rfl, fun h7 => by first | exact (hv.resolve_left (fun h8 => by omega)).2 ⟨h7.1, fun i hi => h7.2 i (by omega)⟩ | (have h8 := h7.2 k (by omega); omega)⟩⟩) (by first | omega | (dsimp only; omega)) (lv_sub hl [2, 3, 1, 0] rfl)
        · refine lv_iconst (v := nI 1) hx hb dX3_isErased_44 (by decide) ?_
          refine lv_goto (tgt := 49) hx hb dX3_isErased_45 (by decide) ?_
          refine lv_istore_n (lv' := [(2, .int (nI (1))), (0, .ref (r 0)), (1, .int (nI (b))), (3, .int (nI (16 * b + k)))]) hx hb dX3_isErased_49 rfl hl (by decide) rfl (fun ls hl => ?_)
          refine lv_iinc (v := nI (16 * b + k + 1)) (lv' := [(3, .int (nI (16 * b + k + 1))), (2, .int (nI (1))), (0, .ref (r 0)), (1, .int (nI (b)))]) hx hb dX3_isErased_50 hl (k := 3) rfl (nI_add _ _) (by decide) rfl (fun ls hl => ?_)
          refine lv_goto (tgt := 20) hx hb dX3_isErased_53 (by decide) ?_
          exact ih_20 (k + 1, 1) _ (⟨by omega, Or.inl ⟨rfl, (hv.resolve_right (fun h7 => by omega)).2.1, fun i hi => by (rcases Nat.lt_succ_iff_lt_or_eq.mp hi with h7 | h7); exact (hv.resolve_right (fun h8 => by omega)).2.2 i h7; (subst h7; omega)⟩⟩) (by first | omega | (dsimp only; omega)) (lv_sub hl [2, 3, 1, 0] rfl)
  · refine lv_iconst (v := nI 1) hx hb dX3_isErased_9 (by decide) ?_
    refine lv_goto (tgt := 14) hx hb dX3_isErased_10 (by decide) ?_
    refine lv_istore_n (lv' := [(2, .int (nI (1))), (0, .ref (r 0)), (1, .int (nI (b)))]) hx hb dX3_isErased_14 rfl hl (by decide) rfl (fun ls hl => ?_)
    refine lv_bipush (v := nI 16) hx hb dX3_isErased_15 (by decide) ?_
    refine lv_iload_n hx hb dX3_isErased_17 rfl (lv_at hl 2 rfl) ?_
    refine xr_mul hx hb dX3_isErased_18 ?_
    refine lv_istore_n (lv' := [(3, .int (nI (16 * b))), (2, .int (nI (1))), (0, .ref (r 0)), (1, .int (nI (b)))]) hx hb dX3_isErased_19 rfl hl (by decide) rfl (fun ls hl => ?_)
    refine lpR (α := Nat × Nat) (fun (k, v) => k ≤ 16 ∧ ((v = 1 ∧ χ (100 + b) = 0 ∧ ∀ i, i < k → χ (16 * b + i) = 0) ∨ (v = 0 ∧ ¬ (χ (100 + b) = 0 ∧ ∀ i, i < k → χ (16 * b + i) = 0)))) (fun (k, v) => [(0, .ref (r 0)), (1, .int (nI (b))), (2, .int (nI (v))), (3, .int (nI (16 * b + k)))]) 4 (fun (k, v) => 16 - k) (0, 1) (⟨by omega, Or.inl ⟨rfl, by omega, fun i hi => absurd hi (Nat.not_lt_zero i)⟩⟩) (lv_sub hl [2, 3, 1, 0] rfl) (fun s9 ls hI9 hl9 ih_20 => ?_)
    obtain ⟨k, v⟩ := s9
    have hl : lv_has ls 4 [(0, .ref (r 0)), (1, .int (nI (b))), (2, .int (nI (v))), (3, .int (nI (16 * b + k)))] := hl9
    obtain ⟨hk, hv⟩ : k ≤ 16 ∧ ((v = 1 ∧ χ (100 + b) = 0 ∧ ∀ i, i < k → χ (16 * b + i) = 0) ∨ (v = 0 ∧ ¬ (χ (100 + b) = 0 ∧ ∀ i, i < k → χ (16 * b + i) = 0))) := hI9
    refine lv_iload_n hx hb dX3_isErased_20 rfl (lv_at hl 3 rfl) ?_
    refine lv_bipush (v := nI 16) hx hb dX3_isErased_21 (by decide) ?_
    refine lv_iload_n hx hb dX3_isErased_23 rfl (lv_at hl 1 rfl) ?_
    refine xr_mul hx hb dX3_isErased_24 ?_
    refine lv_bipush (v := nI 16) hx hb dX3_isErased_25 (by decide) ?_
    refine xr_add hx hb dX3_isErased_27 ?_
    refine xi_ge (tgt := 56) hx hb dX3_isErased_28 (by decide) (nI_toInt (by omega)) (nI_toInt (by omega)) (fun c_28 => ?_) (fun c_28 => ?_)
    · refine lv_iload_n hx hb dX3_isErased_56 rfl (lv_at hl 2 rfl) ?_
      rcases hv with ⟨rfl, hq⟩ | ⟨rfl, hq⟩
      · exact xe_z hx hb hr hlocks rfl (bo.one (hq.2 0 (by omega))) rfl rfl dX3_isErased_57
      · exact xe_z hx hb hr hlocks rfl (bo.zero (fun h7 => hq ⟨(hpx b hb6).2 (by rw [plc_zero.mpr h7]; decide), fun i hi => (hpx b hb6).1 i (by rw [plc_zero.mpr h7]; exact Nat.zero_le _) (by omega)⟩)) rfl rfl dX3_isErased_57
    · refine lv_iload_n hx hb dX3_isErased_31 rfl (lv_at hl 2 rfl) ?_
      refine xz_eq (tgt := 48) hx hb dX3_isErased_32 (by decide) (nI_toInt (by omega)) (fun c_32 => ?_) (fun c_32 => ?_)
      · refine lv_iconst (v := nI 0) hx hb dX3_isErased_48 (by decide) ?_
        refine lv_istore_n (lv' := [(2, .int (nI (0))), (0, .ref (r 0)), (1, .int (nI (b))), (3, .int (nI (16 * b + k)))]) hx hb dX3_isErased_49 rfl hl (by decide) rfl (fun ls hl => ?_)
        refine lv_iinc (v := nI (16 * b + k + 1)) (lv' := [(3, .int (nI (16 * b + k + 1))), (2, .int (nI (0))), (0, .ref (r 0)), (1, .int (nI (b)))]) hx hb dX3_isErased_50 hl (k := 3) rfl (nI_add _ _) (by decide) rfl (fun ls hl => ?_)
        refine lv_goto (tgt := 20) hx hb dX3_isErased_53 (by decide) ?_
        exact ih_20 (k + 1, 0) _ (⟨by omega, Or.inr ⟨rfl, fun h7 => by first | exact (hv.resolve_left (fun h8 => by omega)).2 ⟨h7.1, fun i hi => h7.2 i (by omega)⟩ | (have h8 := h7.2 k (by omega); omega)⟩⟩) (by first | omega | (dsimp only; omega)) (lv_sub hl [2, 3, 1, 0] rfl)
      · refine lv_aload_n hx hb dX3_isErased_35 rfl (lv_at hl 0 rfl) ?_
        refine va_get (D := D) (ci := 3) (v := .ref (r 1)) (C := RX3) (T := TX3) (N := 16) hx hb hts hiX3 hown hK hP 0 rfl rfl 1 (by decide) (hts (.fieldLink RX3 7 "PairedCellsModel" "states" "[I") (by decide +kernel)) (fun _ h9 => h9) rfl dX3_isErased_36 ?_
        refine lv_iload_n hx hb dX3_isErased_39 rfl (lv_at hl 3 rfl) ?_
        refine xr_iald hx hb hK hP 1 0 rfl rfl (by omega) (by decide) dX3_isErased_40 ?_
        have hb_40 := hχ (16 * b + k)
        refine xz_ne (tgt := 48) hx hb dX3_isErased_41 (by decide) (nI_toInt (by omega)) (fun c_41 => ?_) (fun c_41 => ?_)
        · refine lv_iconst (v := nI 0) hx hb dX3_isErased_48 (by decide) ?_
          refine lv_istore_n (lv' := [(2, .int (nI (0))), (0, .ref (r 0)), (1, .int (nI (b))), (3, .int (nI (16 * b + k)))]) hx hb dX3_isErased_49 rfl hl (by decide) rfl (fun ls hl => ?_)
          refine lv_iinc (v := nI (16 * b + k + 1)) (lv' := [(3, .int (nI (16 * b + k + 1))), (2, .int (nI (0))), (0, .ref (r 0)), (1, .int (nI (b)))]) hx hb dX3_isErased_50 hl (k := 3) rfl (nI_add _ _) (by decide) rfl (fun ls hl => ?_)
          refine lv_goto (tgt := 20) hx hb dX3_isErased_53 (by decide) ?_
          exact ih_20 (k + 1, 0) _ (⟨by omega, Or.inr ⟨rfl, fun h7 => by first | exact (hv.resolve_left (fun h8 => by omega)).2 ⟨h7.1, fun i hi => h7.2 i (by omega)⟩ | (have h8 := h7.2 k (by omega); omega)⟩⟩) (by first | omega | (dsimp only; omega)) (lv_sub hl [2, 3, 1, 0] rfl)
        · refine lv_iconst (v := nI 1) hx hb dX3_isErased_44 (by decide) ?_
          refine lv_goto (tgt := 49) hx hb dX3_isErased_45 (by decide) ?_
          refine lv_istore_n (lv' := [(2, .int (nI (1))), (0, .ref (r 0)), (1, .int (nI (b))), (3, .int (nI (16 * b + k)))]) hx hb dX3_isErased_49 rfl hl (by decide) rfl (fun ls hl => ?_)
          refine lv_iinc (v := nI (16 * b + k + 1)) (lv' := [(3, .int (nI (16 * b + k + 1))), (2, .int (nI (1))), (0, .ref (r 0)), (1, .int (nI (b)))]) hx hb dX3_isErased_50 hl (k := 3) rfl (nI_add _ _) (by decide) rfl (fun ls hl => ?_)
          refine lv_goto (tgt := 20) hx hb dX3_isErased_53 (by decide) ?_
          exact ih_20 (k + 1, 1) _ (⟨by omega, Or.inl ⟨rfl, (hv.resolve_right (fun h7 => by omega)).2.1, fun i hi => by (rcases Nat.lt_succ_iff_lt_or_eq.mp hi with h7 | h7); exact (hv.resolve_right (fun h8 => by omega)).2.2 i h7; (subst h7; omega)⟩⟩) (by first | omega | (dsimp only; omega)) (lv_sub hl [2, 3, 1, 0] rfl)
