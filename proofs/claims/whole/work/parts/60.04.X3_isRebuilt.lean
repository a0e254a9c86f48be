set_option maxHeartbeats 4000000 in
set_option maxRecDepth 100000 in
theorem c_X3_isRebuilt (l : Launch) (D : va_G) {cI : ClassId} (r : Nat → Nat) (th fp fa : Int32) (χ P : Nat → Nat) (hd tn cu fi ne ct on : Nat) (b : Nat) (hb6 : b < 6) (k : Nat) (hk : k < 16) (hχ : ∀ i, χ i < 65536) : Met l yX3_isRebuilt wsX3_isRebuilt ({ frames := 1, cells := 0, slots := 0, locals := 22 }) (va_Pc [.ref (r 0), .int (nI (16 * b + k))] (x_R D (tyM cI) (wM cI r th fp fa χ P hd tn cu fi ne ct on))) (vp_Si (fun x => bo x (reb χ b k))) 0 0 (fun _ => False) := by
  refine Met.ofW (cc := cX3_isRebuilt) (maxL := 5) (ret := (some .boolean)) (by decide) rfl ?_
  intro p e s m args below meth c s₁ B hml hv
  obtain ⟨rfl, hN, hP, hK⟩ := hv
  have hx := B.exec
  have hb := B.bytes
  have hr := B.returns
  have hts := atoms_spec (ws := wsX3_isRebuilt) B.pre
  have hown : s.vm.findClass RX3 = some m.cls := findClass_of_methodNamed B.named
  have hlocks := B.notSynchronized
  have hiX3 : ∀ w ∈ u_ws RX3 TX3 16, w ∈ wsX3_isRebuilt := by decide +kernel
  have hl := lv_entry ([.ref (r 0), .int (nI (16 * b + k))]) (n := 5) (Nat.le_of_ble_eq_true rfl)
  rw [lg_entry_eq]
  generalize (lg_sl ([.ref (r 0), .int (nI (16 * b + k))]) ++ List.replicate (5 - (lg_sl ([.ref (r 0), .int (nI (16 * b + k))])).length) Slot.unset).toArray = ls at hl ⊢
  have hl : lv_has ls 5 [(0, .ref (r 0)), (1, .int (nI (16 * b + k)))] := hl
  refine lv_iload_n hx hb dX3_isRebuilt_0 rfl (lv_at hl 1 rfl) ?_
  refine lv_bipush (v := nI 16) hx hb dX3_isRebuilt_1 (by decide) ?_
  refine xr_div hx hb (by omega) (by decide) (by decide) dX3_isRebuilt_3 ?_
  refine xr_nat (x' := b) (by omega) ?_
  refine lv_istore_n (lv' := [(2, .int (nI (b))), (0, .ref (r 0)), (1, .int (nI (16 * b + k)))]) hx hb dX3_isRebuilt_4 rfl hl (by decide) rfl (fun ls hl => ?_)
  refine lv_iload_n hx hb dX3_isRebuilt_5 rfl (lv_at hl 2 rfl) ?_
  refine lv_bipush (v := nI 16) hx hb dX3_isRebuilt_6 (by decide) ?_
  refine xr_rem hx hb (by omega) (by decide) (by decide) dX3_isRebuilt_8 ?_
  refine xr_nat (x' := k) (by omega) ?_
  refine lv_bipush (v := nI 8) hx hb dX3_isRebuilt_9 (by decide) ?_
  refine xi_ge (tgt := 50) hx hb dX3_isRebuilt_11 (by decide) (nI_toInt (by omega)) (nI_toInt (by omega)) (fun c_11 => ?_) (fun c_11 => ?_)
  · refine lv_iconst (v := nI 0) hx hb dX3_isRebuilt_50 (by decide) ?_
    refine lv_istore_n (lv' := [(3, .int (nI (0))), (2, .int (nI (b))), (0, .ref (r 0)), (1, .int (nI (16 * b + k)))]) hx hb dX3_isRebuilt_51 rfl hl (by decide) rfl (fun ls hl => ?_)
    refine lv_iconst (v := nI 0) hx hb dX3_isRebuilt_52 (by decide) ?_
    refine lv_istore (lv' := [(4, .int (nI (0))), (3, .int (nI (0))), (2, .int (nI (b))), (0, .ref (r 0)), (1, .int (nI (16 * b + k)))]) hx hb dX3_isRebuilt_53 hl (by decide) rfl (fun ls hl => ?_)
    refine lpR (α := Nat × Nat) (fun (j, v) => j ≤ 8 ∧ ((v = 1 ∧ χ (16 * b + k) = 2 ∧ cvr χ b k ∧ ∀ i, i < j → (i = k ∨ ¬ cov χ b i) ∨ χ (16 * b + i) = 1) ∨ (v = 0 ∧ ¬ reb χ b k))) (fun (j, v) => [(0, .ref (r 0)), (1, .int (nI (16 * b + k))), (2, .int (nI (b))), (3, .int (nI (v))), (4, .int (nI (j)))]) 5 (fun (j, v) => 8 - j) (0, 0) (⟨by omega, Or.inr ⟨rfl, fun h7 => by first | exact h_43 h7.2.1.2.2 | (have h8 := h7.1; have h9 := h7.2.1.1; have h6 := h7.2.1.2.1; omega)⟩⟩) (lv_sub hl [3, 4, 2, 1, 0] rfl) (fun s9 ls hI9 hl9 ih_55 => ?_)
    obtain ⟨j, v⟩ := s9
    have hl : lv_has ls 5 [(0, .ref (r 0)), (1, .int (nI (16 * b + k))), (2, .int (nI (b))), (3, .int (nI (v))), (4, .int (nI (j)))] := hl9
    obtain ⟨hj, hv⟩ : j ≤ 8 ∧ ((v = 1 ∧ χ (16 * b + k) = 2 ∧ cvr χ b k ∧ ∀ i, i < j → (i = k ∨ ¬ cov χ b i) ∨ χ (16 * b + i) = 1) ∨ (v = 0 ∧ ¬ reb χ b k)) := hI9
    refine lv_iload hx hb dX3_isRebuilt_55 (lv_at hl 4 rfl) ?_
    refine lv_bipush (v := nI 8) hx hb dX3_isRebuilt_57 (by decide) ?_
    refine xi_ge (tgt := 113) hx hb dX3_isRebuilt_59 (by decide) (nI_toInt (by omega)) (nI_toInt (by omega)) (fun c_59 => ?_) (fun c_59 => ?_)
    · refine lv_iload_n hx hb dX3_isRebuilt_113 rfl (lv_at hl 3 rfl) ?_
      rcases hv with ⟨rfl, hq⟩ | ⟨rfl, hq⟩
      · exact xe_z hx hb hr hlocks rfl (bo.one ⟨hq.1, hq.2.1, fun i hi hik hc => (hq.2.2 i (by omega)).resolve_left (fun h8 => h8.elim hik (fun h9 => h9 hc))⟩) rfl rfl dX3_isRebuilt_114
      · exact xe_z hx hb hr hlocks rfl (bo.zero hq) rfl rfl dX3_isRebuilt_114
    · refine lv_iload_n hx hb dX3_isRebuilt_62 rfl (lv_at hl 3 rfl) ?_
      refine xz_eq (tgt := 113) hx hb dX3_isRebuilt_63 (by decide) (nI_toInt (by omega)) (fun c_63 => ?_) (fun c_63 => ?_)
      · refine lv_iload_n hx hb dX3_isRebuilt_113 rfl (lv_at hl 3 rfl) ?_
        rcases hv with ⟨rfl, hq⟩ | ⟨rfl, hq⟩
        · exact xe_z hx hb hr hlocks rfl (bo.one ⟨hq.1, hq.2.1, fun i hi hik hc => (hq.2.2 i (by omega)).resolve_left (fun h8 => h8.elim hik (fun h9 => h9 hc))⟩) rfl rfl dX3_isRebuilt_114
        · exact xe_z hx hb hr hlocks rfl (bo.zero hq) rfl rfl dX3_isRebuilt_114
      · refine lv_iload hx hb dX3_isRebuilt_66 (lv_at hl 4 rfl) ?_
        refine lv_iload_n hx hb dX3_isRebuilt_68 rfl (lv_at hl 1 rfl) ?_
        refine lv_bipush (v := nI 16) hx hb dX3_isRebuilt_69 (by decide) ?_
        refine xr_rem hx hb (by omega) (by decide) (by decide) dX3_isRebuilt_71 ?_
        refine xr_nat (x' := k) (by omega) ?_
        refine xi_eq (tgt := 101) hx hb dX3_isRebuilt_72 (by decide) (nI_toInt (by omega)) (nI_toInt (by omega)) (fun c_72 => ?_) (fun c_72 => ?_)
        · refine lv_iconst (v := nI 1) hx hb dX3_isRebuilt_101 (by decide) ?_
          refine lv_goto (tgt := 106) hx hb dX3_isRebuilt_102 (by decide) ?_
          refine lv_istore_n (lv' := [(3, .int (nI (1))), (0, .ref (r 0)), (1, .int (nI (16 * b + k))), (2, .int (nI (b))), (4, .int (nI (j)))]) hx hb dX3_isRebuilt_106 rfl hl (by decide) rfl (fun ls hl => ?_)
          refine lv_iinc (v := nI (j + 1)) (lv' := [(4, .int (nI (j + 1))), (3, .int (nI (1))), (0, .ref (r 0)), (1, .int (nI (16 * b + k))), (2, .int (nI (b)))]) hx hb dX3_isRebuilt_107 hl (k := 4) rfl (nI_add _ _) (by decide) rfl (fun ls hl => ?_)
          refine lv_goto (tgt := 55) hx hb dX3_isRebuilt_110 (by decide) ?_
          exact ih_55 (j + 1, 1) _ (⟨by omega, Or.inl ⟨rfl, (hv.resolve_right (fun h7 => by omega)).2.1, (hv.resolve_right (fun h7 => by omega)).2.2.1, fun i hi => by (rcases Nat.lt_succ_iff_lt_or_eq.mp hi with h7 | h7); exact (hv.resolve_right (fun h8 => by omega)).2.2.2 i h7; (subst h7; first | exact Or.inl (Or.inl (by omega)) | exact Or.inl (Or.inr h_82) | exact Or.inr (by omega))⟩⟩) (by first | omega | (dsimp only; omega)) (lv_sub hl [2, 3, 4, 1, 0] rfl)
        · refine lv_aload_n hx hb dX3_isRebuilt_75 rfl (lv_at hl 0 rfl) ?_
          refine lv_iload_n hx hb dX3_isRebuilt_76 rfl (lv_at hl 2 rfl) ?_
          refine lv_iload hx hb dX3_isRebuilt_77 (lv_at hl 4 rfl) ?_
          refine xc_Vi (ci := 3) (rest := []) (As := [.int (nI (b)), .int (nI (j))]) ⟨hx, hb, hml, hown, hts⟩ (c_X3_isCovered l D r th fp fa χ P hd tn cu fi ne ct on b hb6 (j) (by omega) hχ) (cwV 2 hts gX3_isRebuilt_X3_isCovered rfl rfl rfl (by decide +kernel) ⟨Nat.le_of_ble_eq_true rfl, Nat.le_of_ble_eq_true rfl⟩) hN hK (hP) rfl 0 rfl rfl hl.1 rfl (Nat.le_of_ble_eq_true rfl) dX3_isRebuilt_79 ⟨Nat.le_of_ble_eq_true rfl, Nat.le_of_ble_eq_true rfl⟩ (fun r_79 hw_79 => ?_)
          refine xz_eq (tgt := 101) hx hb dX3_isRebuilt_82 (by decide) rfl (fun c_82 => ?_) (fun c_82 => ?_)
          · have h_82 := bo.f hw_79 c_82
            refine lv_iconst (v := nI 1) hx hb dX3_isRebuilt_101 (by decide) ?_
            refine lv_goto (tgt := 106) hx hb dX3_isRebuilt_102 (by decide) ?_
            refine lv_istore_n (lv' := [(3, .int (nI (1))), (0, .ref (r 0)), (1, .int (nI (16 * b + k))), (2, .int (nI (b))), (4, .int (nI (j)))]) hx hb dX3_isRebuilt_106 rfl hl (by decide) rfl (fun ls hl => ?_)
            refine lv_iinc (v := nI (j + 1)) (lv' := [(4, .int (nI (j + 1))), (3, .int (nI (1))), (0, .ref (r 0)), (1, .int (nI (16 * b + k))), (2, .int (nI (b)))]) hx hb dX3_isRebuilt_107 hl (k := 4) rfl (nI_add _ _) (by decide) rfl (fun ls hl => ?_)
            refine lv_goto (tgt := 55) hx hb dX3_isRebuilt_110 (by decide) ?_
            exact ih_55 (j + 1, 1) _ (⟨by omega, Or.inl ⟨rfl, (hv.resolve_right (fun h7 => by omega)).2.1, (hv.resolve_right (fun h7 => by omega)).2.2.1, fun i hi => by (rcases Nat.lt_succ_iff_lt_or_eq.mp hi with h7 | h7); exact (hv.resolve_right (fun h8 => by omega)).2.2.2 i h7; (subst h7; first | exact Or.inl (Or.inl (by omega)) | exact Or.inl (Or.inr h_82) | exact Or.inr (by omega))⟩⟩) (by first | omega | (dsimp only; omega)) (lv_sub hl [2, 3, 4, 1, 0] rfl)
          · have h_82 := bo.t hw_79 c_82
            refine lv_aload_n hx hb dX3_isRebuilt_85 rfl (lv_at hl 0 rfl) ?_
            refine va_get (D := D) (ci := 3) (v := .ref (r 1)) (C := RX3) (T := TX3) (N := 16) hx hb hts hiX3 hown hK hP 0 rfl rfl 1 (by decide) (hts (.fieldLink RX3 7 "PairedCellsModel" "states" "[I") (by decide +kernel)) (fun _ h9 => h9) rfl dX3_isRebuilt_86 ?_
            refine lv_bipush (v := nI 16) hx hb dX3_isRebuilt_89 (by decide) ?_
            refine lv_iload_n hx hb dX3_isRebuilt_91 rfl (lv_at hl 2 rfl) ?_
            refine xr_mul hx hb dX3_isRebuilt_92 ?_
            refine lv_iload hx hb dX3_isRebuilt_93 (lv_at hl 4 rfl) ?_
            refine xr_add hx hb dX3_isRebuilt_95 ?_
            refine xr_iald hx hb hK hP 1 0 rfl rfl (by omega) (by decide) dX3_isRebuilt_96 ?_
            have hb_96 := hχ (16 * b + j)
            refine lv_iconst (v := nI 1) hx hb dX3_isRebuilt_97 (by decide) ?_
            refine xi_ne (tgt := 105) hx hb dX3_isRebuilt_98 (by decide) (nI_toInt (by omega)) (nI_toInt (by omega)) (fun c_98 => ?_) (fun c_98 => ?_)
            · refine lv_iconst (v := nI 0) hx hb dX3_isRebuilt_105 (by decide) ?_
              refine lv_istore_n (lv' := [(3, .int (nI (0))), (0, .ref (r 0)), (1, .int (nI (16 * b + k))), (2, .int (nI (b))), (4, .int (nI (j)))]) hx hb dX3_isRebuilt_106 rfl hl (by decide) rfl (fun ls hl => ?_)
              refine lv_iinc (v := nI (j + 1)) (lv' := [(4, .int (nI (j + 1))), (3, .int (nI (0))), (0, .ref (r 0)), (1, .int (nI (16 * b + k))), (2, .int (nI (b)))]) hx hb dX3_isRebuilt_107 hl (k := 4) rfl (nI_add _ _) (by decide) rfl (fun ls hl => ?_)
              refine lv_goto (tgt := 55) hx hb dX3_isRebuilt_110 (by decide) ?_
              exact ih_55 (j + 1, 0) _ (⟨by omega, Or.inr ⟨rfl, fun h7 => by have h8 := h7.2.2 j (by omega) (by omega) h_82; omega⟩⟩) (by first | omega | (dsimp only; omega)) (lv_sub hl [2, 3, 4, 1, 0] rfl)
            · refine lv_iconst (v := nI 1) hx hb dX3_isRebuilt_101 (by decide) ?_
              refine lv_goto (tgt := 106) hx hb dX3_isRebuilt_102 (by decide) ?_
              refine lv_istore_n (lv' := [(3, .int (nI (1))), (0, .ref (r 0)), (1, .int (nI (16 * b + k))), (2, .int (nI (b))), (4, .int (nI (j)))]) hx hb dX3_isRebuilt_106 rfl hl (by decide) rfl (fun ls hl => ?_)
              refine lv_iinc (v := nI (j + 1)) (lv' := [(4, .int (nI (j + 1))), (3, .int (nI (1))), (0, .ref (r 0)), (1, .int (nI (16 * b + k))), (2, .int (nI (b)))]) hx hb dX3_isRebuilt_107 hl (k := 4) rfl (nI_add _ _) (by decide) rfl (fun ls hl => ?_)
              refine lv_goto (tgt := 55) hx hb dX3_isRebuilt_110 (by decide) ?_
              exact ih_55 (j + 1, 1) _ (⟨by omega, Or.inl ⟨rfl, (hv.resolve_right (fun h7 => by omega)).2.1, (hv.resolve_right (fun h7 => by omega)).2.2.1, fun i hi => by (rcases Nat.lt_succ_iff_lt_or_eq.mp hi with h7 | h7); exact (hv.resolve_right (fun h8 => by omega)).2.2.2 i h7; (subst h7; first | exact Or.inl (Or.inl (by omega)) | exact Or.inl (Or.inr h_82) | exact Or.inr (by omega))⟩⟩) (by first | omega | (dsimp only; omega)) (lv_sub hl [2, 3, 4, 1, 0] rfl)
  · refine lv_aload_n hx hb dX3_isRebuilt_14 rfl (lv_at hl 1 rfl) ?_
    refine va_get (D := D) (ci := 3) (v := .ref (r 1)) (C := RX3) (T := TX3) (N := 16) hx hb hts hiX3 hown hK hP 0 rfl rfl 1 (by decide) (hts (.fieldLink RX3 7 "PairedCellsModel" "states" "[I") (by decide +kernel)) (fun _ h9 => h9) rfl dX3_isRebuilt_15 ?_
    refine lv_iload_n hx hb dX3_isRebuilt_18 rfl (lv_at hl 2 rfl) ?_
    refine xr_iald hx hb hK hP 1 0 rfl rfl (by omega) (by decide) dX3_isRebuilt_19 ?_
    have hb_19 := hχ (16 * b + k)
    refine lv_iconst (v := nI 2) hx hb dX3_isRebuilt_20 (by decide) ?_
    refine xi_ne (tgt := 50) hx hb dX3_isRebuilt_21 (by decide) (nI_toInt (by omega)) (nI_toInt (by omega)) (fun c_21 => ?_) (fun c_21 => ?_)
    · refine lv_iconst (v := nI 0) hx hb dX3_isRebuilt_50 (by decide) ?_
      refine lv_istore_n (lv' := [(3, .int (nI (0))), (2, .int (nI (b))), (0, .ref (r 0)), (1, .int (nI (16 * b + k)))]) hx hb dX3_isRebuilt_51 rfl hl (by decide) rfl (fun ls hl => ?_)
      refine lv_iconst (v := nI 0) hx hb dX3_isRebuilt_52 (by decide) ?_
      refine lv_istore (lv' := [(4, .int (nI (0))), (3, .int (nI (0))), (2, .int (nI (b))), (0, .ref (r 0)), (1, .int (nI (16 * b + k)))]) hx hb dX3_isRebuilt_53 hl (by decide) rfl (fun ls hl => ?_)
      refine lpR (α := Nat × Nat) (fun (j, v) => j ≤ 8 ∧ ((v = 1 ∧ χ (16 * b + k) = 2 ∧ cvr χ b k ∧ ∀ i, i < j → (i = k ∨ ¬ cov χ b i) ∨ χ (16 * b + i) = 1) ∨ (v = 0 ∧ ¬ reb χ b k))) (fun (j, v) => [(0, .ref (r 0)), (1, .int (nI (16 * b + k))), (2, .int (nI (b))), (3, .int (nI (v))), (4, .int (nI (j)))]) 5 (fun (j, v) => 8 - j) (0, 0) (⟨by omega, Or.inr ⟨rfl, fun h7 => by first | exact h_43 h7.2.1.2.2 | (have h8 := h7.1; have h9 := h7.2.1.1; have h6 := h7.2.1.2.1; omega)⟩⟩) (lv_sub hl [3, 4, 2, 1, 0] rfl) (fun s9 ls hI9 hl9 ih_55 => ?_)
      obtain ⟨j, v⟩ := s9
      have hl : lv_has ls 5 [(0, .ref (r 0)), (1, .int (nI (16 * b + k))), (2, .int (nI (b))), (3, .int (nI (v))), (4, .int (nI (j)))] := hl9
      obtain ⟨hj, hv⟩ : j ≤ 8 ∧ ((v = 1 ∧ χ (16 * b + k) = 2 ∧ cvr χ b k ∧ ∀ i, i < j → (i = k ∨ ¬ cov χ b i) ∨ χ (16 * b + i) = 1) ∨ (v = 0 ∧ ¬ reb χ b k)) := hI9
      refine lv_iload hx hb dX3_isRebuilt_55 (lv_at hl 4 rfl) ?_
      refine lv_bipush (v := nI 8) hx hb dX3_isRebuilt_57 (by decide) ?_
      refine xi_ge (tgt := 113) hx hb dX3_isRebuilt_59 (by decide) (nI_toInt (by omega)) (nI_toInt (by omega)) (fun c_59 => ?_) (fun c_59 => ?_)
      · refine lv_iload_n hx hb dX3_isRebuilt_113 rfl (lv_at hl 3 rfl) ?_
        rcases hv with ⟨rfl, hq⟩ | ⟨rfl, hq⟩
        · exact xe_z hx hb hr hlocks rfl (bo.one ⟨hq.1, hq.2.1, fun i hi hik hc => (hq.2.2 i (by omega)).resolve_left (fun h8 => h8.elim hik (fun h9 => h9 hc))⟩) rfl rfl dX3_isRebuilt_114
        · exact xe_z hx hb hr hlocks rfl (bo.zero hq) rfl rfl dX3_isRebuilt_114
      · refine lv_iload_n hx hb dX3_isRebuilt_62 rfl (lv_at hl 3 rfl) ?_
        refine xz_eq (tgt := 113) hx hb dX3_isRebuilt_63 (by decide) (nI_toInt (by omega)) (fun c_63 => ?_) (fun c_63 => ?_)
        · refine lv_iload_n hx hb dX3_isRebuilt_113 rfl (lv_at hl 3 rfl) ?_
          rcases hv with ⟨rfl, hq⟩ | ⟨rfl, hq⟩
          · exact xe_z hx hb hr hlocks rfl (bo.one ⟨hq.1, hq.2.1, fun i hi hik hc => (hq.2.2 i (by omega)).resolve_left (fun h8 => h8.elim hik (fun h9 => h9 hc))⟩) rfl rfl dX3_isRebuilt_114
          · exact xe_z hx hb hr hlocks rfl (bo.zero hq) rfl rfl dX3_isRebuilt_114
        · refine lv_iload hx hb dX3_isRebuilt_66 (lv_at hl 4 rfl) ?_
          refine lv_iload_n hx hb dX3_isRebuilt_68 rfl (lv_at hl 1 rfl) ?_
          refine lv_bipush (v := nI 16) hx hb dX3_isRebuilt_69 (by decide) ?_
          refine xr_rem hx hb (by omega) (by decide) (by decide) dX3_isRebuilt_71 ?_
          refine xr_nat (x' := k) (by omega) ?_
          refine xi_eq (tgt := 101) hx hb dX3_isRebuilt_72 (by decide) (nI_toInt (by omega)) (nI_toInt (by omega)) (fun c_72 => ?_) (fun c_72 => ?_)
          · refine lv_iconst (v := nI 1) hx hb dX3_isRebuilt_101 (by decide) ?_
            refine lv_goto (tgt := 106) hx hb dX3_isRebuilt_102 (by decide) ?_
            refine lv_istore_n (lv' := [(3, .int (nI (1))), (0, .ref (r 0)), (1, .int (nI (16 * b + k))), (2, .int (nI (b))), (4, .int (nI (j)))]) hx hb dX3_isRebuilt_106 rfl hl (by decide) rfl (fun ls hl => ?_)
            refine lv_iinc (v := nI (j + 1)) (lv' := [(4, .int (nI (j + 1))), (3, .int (nI (1))), (0, .ref (r 0)), (1, .int (nI (16 * b + k))), (2, .int (nI (b)))]) hx hb dX3_isRebuilt_107 hl (k := 4) rfl (nI_add _ _) (by decide) rfl (fun ls hl => ?_)
            refine lv_goto (tgt := 55) hx hb dX3_isRebuilt_110 (by decide) ?_
            exact ih_55 (j + 1, 1) _ (⟨by omega, Or.inl ⟨rfl, (hv.resolve_right (fun h7 => by omega)).2.1, (hv.resolve_right (fun h7 => by omega)).2.2.1, fun i hi => by (rcases Nat.lt_succ_iff_lt_or_eq.mp hi with h7 | h7); exact (hv.resolve_right (fun h8 => by omega)).2.2.2 i h7; (subst h7; first | exact Or.inl (Or.inl (by omega)) | exact Or.inl (Or.inr h_82) | exact Or.inr (by omega))⟩⟩) (by first | omega | (dsimp only; omega)) (lv_sub hl [2, 3, 4, 1, 0] rfl)
          · refine lv_aload_n hx hb dX3_isRebuilt_75 rfl (lv_at hl 0 rfl) ?_
            refine lv_iload_n hx hb dX3_isRebuilt_76 rfl (lv_at hl 2 rfl) ?_
            refine lv_iload hx hb dX3_isRebuilt_77 (lv_at hl 4 rfl) ?_
            refine xc_Vi (ci := 3) (rest := []) (As := [.int (nI (b)), .int (nI (j))]) ⟨hx, hb, hml, hown, hts⟩ (c_X3_isCovered l D r th fp fa χ P hd tn cu fi ne ct on b hb6 (j) (by omega) hχ) (cwV 2 hts gX3_isRebuilt_X3_isCovered rfl rfl rfl (by decide +kernel) ⟨Nat.le_of_ble_eq_true rfl, Nat.le_of_ble_eq_true rfl⟩) hN hK (hP) rfl 0 rfl rfl hl.1 rfl (Nat.le_of_ble_eq_true rfl) dX3_isRebuilt_79 ⟨Nat.le_of_ble_eq_true rfl, Nat.le_of_ble_eq_true rfl⟩ (fun r_79 hw_79 => ?_)
            refine xz_eq (tgt := 101) hx hb dX3_isRebuilt_82 (by decide) rfl (fun c_82 => ?_) (fun c_82 => ?_)
            · have h_82 := bo.f hw_79 c_82
              refine lv_iconst (v := nI 1) hx hb dX3_isRebuilt_101 (by decide) ?_
              refine lv_goto (tgt := 106) hx hb dX3_isRebuilt_102 (by decide) ?_
              refine lv_istore_n (lv' := [(3, .int (nI (1))), (0, .ref (r 0)), (1, .int (nI (16 * b + k))), (2, .int (nI (b))), (4, .int (nI (j)))]) hx hb dX3_isRebuilt_106 rfl hl (by decide) rfl (fun ls hl => ?_)
              refine lv_iinc (v := nI (j + 1)) (lv' := [(4, .int (nI (j + 1))), (3, .int (nI (1))), (0, .ref (r 0)), (1, .int (nI (16 * b + k))), (2, .int (nI (b)))]) hx hb dX3_isRebuilt_107 hl (k := 4) rfl (nI_add _ _) (by decide) rfl (fun ls hl => ?_)
              refine lv_goto (tgt := 55) hx hb dX3_isRebuilt_110 (by decide) ?_
              exact ih_55 (j + 1, 1) _ (⟨by omega, Or.inl ⟨rfl, (hv.resolve_right (fun h7 => by omega)).2.1, (hv.resolve_right (fun h7 => by omega)).2.2.1, fun i hi => by (rcases Nat.lt_succ_iff_lt_or_eq.mp hi with h7 | h7); exact (hv.resolve_right (fun h8 => by omega)).2.2.2 i h7; (subst h7; first | exact Or.inl (Or.inl (by omega)) | exact Or.inl (Or.inr h_82) | exact Or.inr (by omega))⟩⟩) (by first | omega | (dsimp only; omega)) (lv_sub hl [2, 3, 4, 1, 0] rfl)
            · have h_82 := bo.t hw_79 c_82
              refine lv_aload_n hx hb dX3_isRebuilt_85 rfl (lv_at hl 0 rfl) ?_
              refine va_get (D := D) (ci := 3) (v := .ref (r 1)) (C := RX3) (T := TX3) (N := 16) hx hb hts hiX3 hown hK hP 0 rfl rfl 1 (by decide) (hts (.fieldLink RX3 7 "PairedCellsModel" "states" "[I") (by decide +kernel)) (fun _ h9 => h9) rfl dX3_isRebuilt_86 ?_
              refine lv_bipush (v := nI 16) hx hb dX3_isRebuilt_89 (by decide) ?_
              refine lv_iload_n hx hb dX3_isRebuilt_91 rfl (lv_at hl 2 rfl) ?_
              refine xr_mul hx hb dX3_isRebuilt_92 ?_
              refine lv_iload hx hb dX3_isRebuilt_93 (lv_at hl 4 rfl) ?_
              refine xr_add hx hb dX3_isRebuilt_95 ?_
              refine xr_iald hx hb hK hP 1 0 rfl rfl (by omega) (by decide) dX3_isRebuilt_96 ?_
              have hb_96 := hχ (16 * b + j)
              refine lv_iconst (v := nI 1) hx hb dX3_isRebuilt_97 (by decide) ?_
              refine xi_ne (tgt := 105) hx hb dX3_isRebuilt_98 (by decide) (nI_toInt (by omega)) (nI_toInt (by omega)) (fun c_98 => ?_) (fun c_98 => ?_)
              · refine lv_iconst (v := nI 0) hx hb dX3_isRebuilt_105 (by decide) ?_
                refine lv_istore_n (lv' := [(3, .int (nI (0))), (0, .ref (r 0)), (1, .int (nI (16 * b + k))), (2, .int (nI (b))), (4, .int (nI (j)))]) hx hb dX3_isRebuilt_106 rfl hl (by decide) rfl (fun ls hl => ?_)
                refine lv_iinc (v := nI (j + 1)) (lv' := [(4, .int (nI (j + 1))), (3, .int (nI (0))), (0, .ref (r 0)), (1, .int (nI (16 * b + k))), (2, .int (nI (b)))]) hx hb dX3_isRebuilt_107 hl (k := 4) rfl (nI_add _ _) (by decide) rfl (fun ls hl => ?_)
                refine lv_goto (tgt := 55) hx hb dX3_isRebuilt_110 (by decide) ?_
                exact ih_55 (j + 1, 0) _ (⟨by omega, Or.inr ⟨rfl, fun h7 => by have h8 := h7.2.2 j (by omega) (by omega) h_82; omega⟩⟩) (by first | omega | (dsimp only; omega)) (lv_sub hl [2, 3, 4, 1, 0] rfl)
              · refine lv_iconst (v := nI 1) hx hb dX3_isRebuilt_101 (by decide) ?_
                refine lv_goto (tgt := 106) hx hb dX3_isRebuilt_102 (by decide) ?_
                refine lv_istore_n (lv' := [(3, .int (nI (1))), (0, .ref (r 0)), (1, .int (nI (16 * b + k))), (2, .int (nI (b))), (4, .int (nI (j)))]) hx hb dX3_isRebuilt_106 rfl hl (by decide) rfl (fun ls hl => ?_)
                refine lv_iinc (v := nI (j + 1)) (lv' := [(4, .int (nI (j + 1))), (3, .int (nI (1))), (0, .ref (r 0)), (1, .int (nI (16 * b + k))), (2, .int (nI (b)))]) hx hb dX3_isRebuilt_107 hl (k := 4) rfl (nI_add _ _) (by decide) rfl (fun ls hl => ?_)
                refine lv_goto (tgt := 55) hx hb dX3_isRebuilt_110 (by decide) ?_
                exact ih_55 (j + 1, 1) _ (⟨by omega, Or.inl ⟨rfl, (hv.resolve_right (fun h7 => by omega)).2.1, (hv.resolve_right (fun h7 => by omega)).2.2.1, fun i hi => by (rcases Nat.lt_succ_iff_lt_or_eq.mp hi with h7 | h7); exact (hv.resolve_right (fun h8 => by omega)).2.2.2 i h7; (subst h7; first | exact Or.inl (Or.inl (by omega)) | exact Or.inl (Or.inr h_82) | exact Or.inr (by omega))⟩⟩) (by first | omega | (dsimp only; omega)) (lv_sub hl [2, 3, 4, 1, 0] rfl)
    · refine lv_aload_n hx hb dX3_isRebuilt_24 rfl (lv_at hl 1 rfl) ?_
      refine va_get (D := D) (ci := 3) (v := .ref (r 3)) (C := RX3) (T := TX3) (N := 16) hx hb hts hiX3 hown hK hP 0 rfl rfl 3 (by decide) (hts (.fieldLink RX3 16 "PairedCellsModel" "guards" "[I") (by decide +kernel)) (fun _ h9 => h9) rfl dX3_isRebuilt_25 ?_
      refine lv_iload_n hx hb dX3_isRebuilt_28 rfl (lv_at hl 0 rfl) ?_
      refine xr_iald hx hb hK hP 3 0 rfl rfl (by omega) (by decide) dX3_isRebuilt_29 ?_
      have hb_29 := hχ (100 + b)
      refine lv_iconst (v := nI 1) hx hb dX3_isRebuilt_30 (by decide) ?_
      refine xi_ne (tgt := 50) hx hb dX3_isRebuilt_31 (by decide) (nI_toInt (by omega)) (nI_toInt (by omega)) (fun c_31 => ?_) (fun c_31 => ?_)
      · refine lv_iconst (v := nI 0) hx hb dX3_isRebuilt_50 (by decide) ?_
        refine lv_istore_n (lv' := [(3, .int (nI (0))), (2, .int (nI (b))), (0, .ref (r 0)), (1, .int (nI (16 * b + k)))]) hx hb dX3_isRebuilt_51 rfl hl (by decide) rfl (fun ls hl => ?_)
        refine lv_iconst (v := nI 0) hx hb dX3_isRebuilt_52 (by decide) ?_
        refine lv_istore (lv' := [(4, .int (nI (0))), (3, .int (nI (0))), (2, .int (nI (b))), (0, .ref (r 0)), (1, .int (nI (16 * b + k)))]) hx hb dX3_isRebuilt_53 hl (by decide) rfl (fun ls hl => ?_)
        refine lpR (α := Nat × Nat) (fun (j, v) => j ≤ 8 ∧ ((v = 1 ∧ χ (16 * b + k) = 2 ∧ cvr χ b k ∧ ∀ i, i < j → (i = k ∨ ¬ cov χ b i) ∨ χ (16 * b + i) = 1) ∨ (v = 0 ∧ ¬ reb χ b k))) (fun (j, v) => [(0, .ref (r 0)), (1, .int (nI (16 * b + k))), (2, .int (nI (b))), (3, .int (nI (v))), (4, .int (nI (j)))]) 5 (fun (j, v) => 8 - j) (0, 0) (⟨by omega, Or.inr ⟨rfl, fun h7 => by first | exact h_43 h7.2.1.2.2 | (have h8 := h7.1; have h9 := h7.2.1.1; have h6 := h7.2.1.2.1; omega)⟩⟩) (lv_sub hl [3, 4, 2, 1, 0] rfl) (fun s9 ls hI9 hl9 ih_55 => ?_)
        obtain ⟨j, v⟩ := s9
        have hl : lv_has ls 5 [(0, .ref (r 0)), (1, .int (nI (16 * b + k))), (2, .int (nI (b))), (3, .int (nI (v))), (4, .int (nI (j)))] := hl9
        obtain ⟨hj, hv⟩ : j ≤ 8 ∧ ((v = 1 ∧ χ (16 * b + k) = 2 ∧ cvr χ b k ∧ ∀ i, i < j → (i = k ∨ ¬ cov χ b i) ∨ χ (16 * b + i) = 1) ∨ (v = 0 ∧ ¬ reb χ b k)) := hI9
        refine lv_iload hx hb dX3_isRebuilt_55 (lv_at hl 4 rfl) ?_
        refine lv_bipush (v := nI 8) hx hb dX3_isRebuilt_57 (by decide) ?_
        refine xi_ge (tgt := 113) hx hb dX3_isRebuilt_59 (by decide) (nI_toInt (by omega)) (nI_toInt (by omega)) (fun c_59 => ?_) (fun c_59 => ?_)
        · refine lv_iload_n hx hb dX3_isRebuilt_113 rfl (lv_at hl 3 rfl) ?_
          rcases hv with ⟨rfl, hq⟩ | ⟨rfl, hq⟩
          · exact xe_z hx hb hr hlocks rfl (bo.one ⟨hq.1, hq.2.1, fun i hi hik hc => (hq.2.2 i (by omega)).resolve_left (fun h8 => h8.elim hik (fun h9 => h9 hc))⟩) rfl rfl dX3_isRebuilt_114
          · exact xe_z hx hb hr hlocks rfl (bo.zero hq) rfl rfl dX3_isRebuilt_114
        · refine lv_iload_n hx hb dX3_isRebuilt_62 rfl (lv_at hl 3 rfl) ?_
          refine xz_eq (tgt := 113) hx hb dX3_isRebuilt_63 (by decide) (nI_toInt (by omega)) (fun c_63 => ?_) (fun c_63 => ?_)
          · refine lv_iload_n hx hb dX3_isRebuilt_113 rfl (lv_at hl 3 rfl) ?_
            rcases hv with ⟨rfl, hq⟩ | ⟨rfl, hq⟩
            · exact xe_z hx hb hr hlocks rfl (bo.one ⟨hq.1, hq.2.1, fun i hi hik hc => (hq.2.2 i (by omega)).resolve_left (fun h8 => h8.elim hik (fun h9 => h9 hc))⟩) rfl rfl dX3_isRebuilt_114
            · exact xe_z hx hb hr hlocks rfl (bo.zero hq) rfl rfl dX3_isRebuilt_114
          · refine lv_iload hx hb dX3_isRebuilt_66 (lv_at hl 4 rfl) ?_
            refine lv_iload_n hx hb dX3_isRebuilt_68 rfl (lv_at hl 1 rfl) ?_
            refine lv_bipush (v := nI 16) hx hb dX3_isRebuilt_69 (by decide) ?_
            refine xr_rem hx hb (by omega) (by decide) (by decide) dX3_isRebuilt_71 ?_
            refine xr_nat (x' := k) (by omega) ?_
            refine xi_eq (tgt := 101) hx hb dX3_isRebuilt_72 (by decide) (nI_toInt (by omega)) (nI_toInt (by omega)) (fun c_72 => ?_) (fun c_72 => ?_)
            · refine lv_iconst (v := nI 1) hx hb dX3_isRebuilt_101 (by decide) ?_
              refine lv_goto (tgt := 106) hx hb dX3_isRebuilt_102 (by decide) ?_
              refine lv_istore_n (lv' := [(3, .int (nI (1))), (0, .ref (r 0)), (1, .int (nI (16 * b + k))), (2, .int (nI (b))), (4, .int (nI (j)))]) hx hb dX3_isRebuilt_106 rfl hl (by decide) rfl (fun ls hl => ?_)
              refine lv_iinc (v := nI (j + 1)) (lv' := [(4, .int (nI (j + 1))), (3, .int (nI (1))), (0, .ref (r 0)), (1, .int (nI (16 * b + k))), (2, .int (nI (b)))]) hx hb dX3_isRebuilt_107 hl (k := 4) rfl (nI_add _ _) (by decide) rfl (fun ls hl => ?_)
              refine lv_goto (tgt := 55) hx hb dX3_isRebuilt_110 (by decide) ?_
              exact ih_55 (j + 1, 1) _ (⟨by omega, Or.inl ⟨rfl, (hv.resolve_right (fun h7 => by omega)).2.1, (hv.resolve_right (fun h7 => by omega)).2.2.1, fun i hi => by (rcases Nat.lt_succ_iff_lt_or_eq.mp hi with h7 | h7); exact (hv.resolve_right (fun h8 => by omega)).2.2.2 i h7; (subst h7; first | exact Or.inl (Or.inl (by omega)) | exact Or.inl (Or.inr h_82) | exact Or.inr (by omega))⟩⟩) (by first | omega | (dsimp only; omega)) (lv_sub hl [2, 3, 4, 1, 0] rfl)
            · refine lv_aload_n hx hb dX3_isRebuilt_75 rfl (lv_at hl 0 rfl) ?_
              refine lv_iload_n hx hb dX3_isRebuilt_76 rfl (lv_at hl 2 rfl) ?_
              refine lv_iload hx hb dX3_isRebuilt_77 (lv_at hl 4 rfl) ?_
              refine xc_Vi (ci := 3) (rest := []) (As := [.int (nI (b)), .int (nI (j))]) ⟨hx, hb, hml, hown, hts⟩ (c_X3_isCovered l D r th fp fa χ P hd tn cu fi ne ct on b hb6 (j) (by omega) hχ) (cwV 2 hts gX3_isRebuilt_X3_isCovered rfl rfl rfl (by decide +kernel) ⟨Nat.le_of_ble_eq_true rfl, Nat.le_of_ble_eq_true rfl⟩) hN hK (hP) rfl 0 rfl rfl hl.1 rfl (Nat.le_of_ble_eq_true rfl) dX3_isRebuilt_79 ⟨Nat.le_of_ble_eq_true rfl, Nat.le_of_ble_eq_true rfl⟩ (fun r_79 hw_79 => ?_)
              refine xz_eq (tgt := 101) hx hb dX3_isRebuilt_82 (by decide) rfl (fun c_82 => ?_) (fun c_82 => ?_)
              · have h_82 := bo.f hw_79 c_82
                refine lv_iconst (v := nI 1) hx hb dX3_isRebuilt_101 (by decide) ?_
                refine lv_goto (tgt := 106) hx hb dX3_isRebuilt_102 (by decide) ?_
                refine lv_istore_n (lv' := [(3, .int (nI (1))), (0, .ref (r 0)), (1, .int (nI (16 * b + k))), (2, .int (nI (b))), (4, .int (nI (j)))]) hx hb dX3_isRebuilt_106 rfl hl (by decide) rfl (fun ls hl => ?_)
                refine lv_iinc (v := nI (j + 1)) (lv' := [(4, .int (nI (j + 1))), (3, .int (nI (1))), (0, .ref (r 0)), (1, .int (nI (16 * b + k))), (2, .int (nI (b)))]) hx hb dX3_isRebuilt_107 hl (k := 4) rfl (nI_add _ _) (by decide) rfl (fun ls hl => ?_)
                refine lv_goto (tgt := 55) hx hb dX3_isRebuilt_110 (by decide) ?_
                exact ih_55 (j + 1, 1) _ (⟨by omega, Or.inl ⟨rfl, (hv.resolve_right (fun h7 => by omega)).2.1, (hv.resolve_right (fun h7 => by omega)).2.2.1, fun i hi => by (rcases Nat.lt_succ_iff_lt_or_eq.mp hi with h7 | h7); exact (hv.resolve_right (fun h8 => by omega)).2.2.2 i h7; (subst h7; first | exact Or.inl (Or.inl (by omega)) | exact Or.inl (Or.inr h_82) | exact Or.inr (by omega))⟩⟩) (by first | omega | (dsimp only; omega)) (lv_sub hl [2, 3, 4, 1, 0] rfl)
              · have h_82 := bo.t hw_79 c_82
                refine lv_aload_n hx hb dX3_isRebuilt_85 rfl (lv_at hl 0 rfl) ?_
                refine va_get (D := D) (ci := 3) (v := .ref (r 1)) (C := RX3) (T := TX3) (N := 16) hx hb hts hiX3 hown hK hP 0 rfl rfl 1 (by decide) (hts (.fieldLink RX3 7 "PairedCellsModel" "states" "[I") (by decide +kernel)) (fun _ h9 => h9) rfl dX3_isRebuilt_86 ?_
                refine lv_bipush (v := nI 16) hx hb dX3_isRebuilt_89 (by decide) ?_
                refine lv_iload_n hx hb dX3_isRebuilt_91 rfl (lv_at hl 2 rfl) ?_
                refine xr_mul hx hb dX3_isRebuilt_92 ?_
                refine lv_iload hx hb dX3_isRebuilt_93 (lv_at hl 4 rfl) ?_
                refine xr_add hx hb dX3_isRebuilt_95 ?_
                refine xr_iald hx hb hK hP 1 0 rfl rfl (by omega) (by decide) dX3_isRebuilt_96 ?_
                have hb_96 := hχ (16 * b + j)
                refine lv_iconst (v := nI 1) hx hb dX3_isRebuilt_97 (by decide) ?_
                refine xi_ne (tgt := 105) hx hb dX3_isRebuilt_98 (by decide) (nI_toInt (by omega)) (nI_toInt (by omega)) (fun c_98 => ?_) (fun c_98 => ?_)
                · refine lv_iconst (v := nI 0) hx hb dX3_isRebuilt_105 (by decide) ?_
                  refine lv_istore_n (lv' := [(3, .int (nI (0))), (0, .ref (r 0)), (1, .int (nI (16 * b + k))), (2, .int (nI (b))), (4, .int (nI (j)))]) hx hb dX3_isRebuilt_106 rfl hl (by decide) rfl (fun ls hl => ?_)
                  refine lv_iinc (v := nI (j + 1)) (lv' := [(4, .int (nI (j + 1))), (3, .int (nI (0))), (0, .ref (r 0)), (1, .int (nI (16 * b + k))), (2, .int (nI (b)))]) hx hb dX3_isRebuilt_107 hl (k := 4) rfl (nI_add _ _) (by decide) rfl (fun ls hl => ?_)
                  refine lv_goto (tgt := 55) hx hb dX3_isRebuilt_110 (by decide) ?_
                  exact ih_55 (j + 1, 0) _ (⟨by omega, Or.inr ⟨rfl, fun h7 => by have h8 := h7.2.2 j (by omega) (by omega) h_82; omega⟩⟩) (by first | omega | (dsimp only; omega)) (lv_sub hl [2, 3, 4, 1, 0] rfl)
                · refine lv_iconst (v := nI 1) hx hb dX3_isRebuilt_101 (by decide) ?_
                  refine lv_goto (tgt := 106) hx hb dX3_isRebuilt_102 (by decide) ?_
                  refine lv_istore_n (lv' := [(3, .int (nI (1))), (0, .ref (r 0)), (1, .int (nI (16 * b + k))), (2, .int (nI (b))), (4, .int (nI (j)))]) hx hb dX3_isRebuilt_106 rfl hl (by decide) rfl (fun ls hl => ?_)
                  refine lv_iinc (v := nI (j + 1)) (lv' := [(4, .int (nI (j + 1))), (3, .int (nI (1))), (0, .ref (r 0)), (1, .int (nI (16 * b + k))), (2, .int (nI (b)))]) hx hb dX3_isRebuilt_107 hl (k := 4) rfl (nI_add _ _) (by decide) rfl (fun ls hl => ?_)
                  refine lv_goto (tgt := 55) hx hb dX3_isRebuilt_110 (by decide) ?_
                  exact ih_55 (j + 1, 1) _ (⟨by omega, Or.inl ⟨rfl, (hv.resolve_right (fun h7 => by omega)).2.1, (hv.resolve_right (fun h7 => by omega)).2.2.1, fun i hi => by (rcases Nat.lt_succ_iff_lt_or_eq.mp hi with h7 | h7); exact (hv.resolve_right (fun h8 => by omega)).2.2.2 i h7; (subst h7; first | exact Or.inl (Or.inl (by omega)) | exact Or.inl (Or.inr h_82) | exact Or.inr (by omega))⟩⟩) (by first | omega | (dsimp only; omega)) (lv_sub hl [2, 3, 4, 1, 0] rfl)
      · refine lv_aload_n hx hb dX3_isRebuilt_34 rfl (lv_at hl 1 rfl) ?_
        refine lv_iload_n hx hb dX3_isRebuilt_35 rfl (lv_at hl 0 rfl) ?_
        refine lv_iload_n hx hb dX3_isRebuilt_36 rfl (lv_at hl 2 rfl) ?_
        refine lv_bipush (v := nI 16) hx hb dX3_isRebuilt_37 (by decide) ?_
        refine xr_rem hx hb (by omega) (by decide) (by decide) dX3_isRebuilt_39 ?_
        refine xr_nat (x' := k) (by omega) ?_
        refine xc_Vi (ci := 3) (rest := []) (As := [.int (nI (b)), .int (nI (k))]) ⟨hx, hb, hml, hown, hts⟩ (c_X3_isCovered l D r th fp fa χ P hd tn cu fi ne ct on b hb6 (k) (hk) hχ) (cwV 2 hts gX3_isRebuilt_X3_isCovered rfl rfl rfl (by decide +kernel) ⟨Nat.le_of_ble_eq_true rfl, Nat.le_of_ble_eq_true rfl⟩) hN hK (hP) rfl 0 rfl rfl hl.1 rfl (Nat.le_of_ble_eq_true rfl) dX3_isRebuilt_40 ⟨Nat.le_of_ble_eq_true rfl, Nat.le_of_ble_eq_true rfl⟩ (fun r_40 hw_40 => ?_)
        refine xz_eq (tgt := 50) hx hb dX3_isRebuilt_43 (by decide) rfl (fun c_43 => ?_) (fun c_43 => ?_)
        · have h_43 := bo.f hw_40 c_43
          refine lv_iconst (v := nI 0) hx hb dX3_isRebuilt_50 (by decide) ?_
          refine lv_istore_n (lv' := [(3, .int (nI (0))), (2, .int (nI (b))), (0, .ref (r 0)), (1, .int (nI (16 * b + k)))]) hx hb dX3_isRebuilt_51 rfl hl (by decide) rfl (fun ls hl => ?_)
          refine lv_iconst (v := nI 0) hx hb dX3_isRebuilt_52 (by decide) ?_
          refine lv_istore (lv' := [(4, .int (nI (0))), (3, .int (nI (0))), (2, .int (nI (b))), (0, .ref (r 0)), (1, .int (nI (16 * b + k)))]) hx hb dX3_isRebuilt_53 hl (by decide) rfl (fun ls hl => ?_)
          refine lpR (α := Nat × Nat) (fun (j, v) => j ≤ 8 ∧ ((v = 1 ∧ χ (16 * b + k) = 2 ∧ cvr χ b k ∧ ∀ i, i < j → (i = k ∨ ¬ cov χ b i) ∨ χ (16 * b + i) = 1) ∨ (v = 0 ∧ ¬ reb χ b k))) (fun (j, v) => [(0, .ref (r 0)), (1, .int (nI (16 * b + k))), (2, .int (nI (b))), (3, .int (nI (v))), (4, .int (nI (j)))]) 5 (fun (j, v) => 8 - j) (0, 0) (⟨by omega, Or.inr ⟨rfl, fun h7 => by first | exact h_43 h7.2.1.2.2 | (have h8 := h7.1; have h9 := h7.2.1.1; have h6 := h7.2.1.2.1; omega)⟩⟩) (lv_sub hl [3, 4, 2, 1, 0] rfl) (fun s9 ls hI9 hl9 ih_55 => ?_)
          obtain ⟨j, v⟩ := s9
          have hl : lv_has ls 5 [(0, .ref (r 0)), (1, .int (nI (16 * b + k))), (2, .int (nI (b))), (3, .int (nI (v))), (4, .int (nI (j)))] := hl9
          obtain ⟨hj, hv⟩ : j ≤ 8 ∧ ((v = 1 ∧ χ (16 * b + k) = 2 ∧ cvr χ b k ∧ ∀ i, i < j → (i = k ∨ ¬ cov χ b i) ∨ χ (16 * b + i) = 1) ∨ (v = 0 ∧ ¬ reb χ b k)) := hI9
          refine lv_iload hx hb dX3_isRebuilt_55 (lv_at hl 4 rfl) ?_
          refine lv_bipush (v := nI 8) hx hb dX3_isRebuilt_57 (by decide) ?_
          refine xi_ge (tgt := 113) hx hb dX3_isRebuilt_59 (by decide) (nI_toInt (by omega)) (nI_toInt (by omega)) (fun c_59 => ?_) (fun c_59 => ?_)
          · refine lv_iload_n hx hb dX3_isRebuilt_113 rfl (lv_at hl 3 rfl) ?_
            rcases hv with ⟨rfl, hq⟩ | ⟨rfl, hq⟩
            · exact xe_z hx hb hr hlocks rfl (bo.one ⟨hq.1, hq.2.1, fun i hi hik hc => (hq.2.2 i (by omega)).resolve_left (fun h8 => h8.elim hik (fun h9 => h9 hc))⟩) rfl rfl dX3_isRebuilt_114
            · exact xe_z hx hb hr hlocks rfl (bo.zero hq) rfl rfl dX3_isRebuilt_114
          · refine lv_iload_n hx hb dX3_isRebuilt_62 rfl (lv_at hl 3 rfl) ?_
            refine xz_eq (tgt := 113) hx hb dX3_isRebuilt_63 (by decide) (nI_toInt (by omega)) (fun c_63 => ?_) (fun c_63 => ?_)
            · refine lv_iload_n hx hb dX3_isRebuilt_113 rfl (lv_at hl 3 rfl) ?_
              rcases hv with ⟨rfl, hq⟩ | ⟨rfl, hq⟩
              · exact xe_z hx hb hr hlocks rfl (bo.one ⟨hq.1, hq.2.1, fun i hi hik hc => (hq.2.2 i (by omega)).resolve_left (fun h8 => h8.elim hik (fun h9 => h9 hc))⟩) rfl rfl dX3_isRebuilt_114
              · exact xe_z hx hb hr hlocks rfl (bo.zero hq) rfl rfl dX3_isRebuilt_114
            · refine lv_iload hx hb dX3_isRebuilt_66 (lv_at hl 4 rfl) ?_
              refine lv_iload_n hx hb dX3_isRebuilt_68 rfl (lv_at hl 1 rfl) ?_
              refine lv_bipush (v := nI 16) hx hb dX3_isRebuilt_69 (by decide) ?_
              refine xr_rem hx hb (by omega) (by decide) (by decide) dX3_isRebuilt_71 ?_
              refine xr_nat (x' := k) (by omega) ?_
              refine xi_eq (tgt := 101) hx hb dX3_isRebuilt_72 (by decide) (nI_toInt (by omega)) (nI_toInt (by omega)) (fun c_72 => ?_) (fun c_72 => ?_)
              · refine lv_iconst (v := nI 1) hx hb dX3_isRebuilt_101 (by decide) ?_
                refine lv_goto (tgt := 106) hx hb dX3_isRebuilt_102 (by decide) ?_
                refine lv_istore_n (lv' := [(3, .int (nI (1))), (0, .ref (r 0)), (1, .int (nI (16 * b + k))), (2, .int (nI (b))), (4, .int (nI (j)))]) hx hb dX3_isRebuilt_106 rfl hl (by decide) rfl (fun ls hl => ?_)
                refine lv_iinc (v := nI (j + 1)) (lv' := [(4, .int (nI (j + 1))), (3, .int (nI (1))), (0, .ref (r 0)), (1, .int (nI (16 * b + k))), (2, .int (nI (b)))]) hx hb dX3_isRebuilt_107 hl (k := 4) rfl (nI_add _ _) (by decide) rfl (fun ls hl => ?_)
                refine lv_goto (tgt := 55) hx hb dX3_isRebuilt_110 (by decide) ?_
                exact ih_55 (j + 1, 1) _ (⟨by omega, Or.inl ⟨rfl, (hv.resolve_right (fun h7 => by omega)).2.1, (hv.resolve_right (fun h7 => by omega)).2.2.1, fun i hi => by (rcases Nat.lt_succ_iff_lt_or_eq.mp hi with h7 | h7); exact (hv.resolve_right (fun h8 => by omega)).2.2.2 i h7; (subst h7; first | exact Or.inl (Or.inl (by omega)) | exact Or.inl (Or.inr h_82) | exact Or.inr (by omega))⟩⟩) (by first | omega | (dsimp only; omega)) (lv_sub hl [2, 3, 4, 1, 0] rfl)
              · refine lv_aload_n hx hb dX3_isRebuilt_75 rfl (lv_at hl 0 rfl) ?_
                refine lv_iload_n hx hb dX3_isRebuilt_76 rfl (lv_at hl 2 rfl) ?_
                refine lv_iload hx hb dX3_isRebuilt_77 (lv_at hl 4 rfl) ?_
                refine xc_Vi (ci := 3) (rest := []) (As := [.int (nI (b)), .int (nI (j))]) ⟨hx, hb, hml, hown, hts⟩ (c_X3_isCovered l D r th fp fa χ P hd tn cu fi ne ct on b hb6 (j) (by omega) hχ) (cwV 2 hts gX3_isRebuilt_X3_isCovered rfl rfl rfl (by decide +kernel) ⟨Nat.le_of_ble_eq_true rfl, Nat.le_of_ble_eq_true rfl⟩) hN hK (hP) rfl 0 rfl rfl hl.1 rfl (Nat.le_of_ble_eq_true rfl) dX3_isRebuilt_79 ⟨Nat.le_of_ble_eq_true rfl, Nat.le_of_ble_eq_true rfl⟩ (fun r_79 hw_79 => ?_)
                refine xz_eq (tgt := 101) hx hb dX3_isRebuilt_82 (by decide) rfl (fun c_82 => ?_) (fun c_82 => ?_)
                · have h_82 := bo.f hw_79 c_82
                  refine lv_iconst (v := nI 1) hx hb dX3_isRebuilt_101 (by decide) ?_
                  refine lv_goto (tgt := 106) hx hb dX3_isRebuilt_102 (by decide) ?_
                  refine lv_istore_n (lv' := [(3, .int (nI (1))), (0, .ref (r 0)), (1, .int (nI (16 * b + k))), (2, .int (nI (b))), (4, .int (nI (j)))]) hx hb dX3_isRebuilt_106 rfl hl (by decide) rfl (fun ls hl => ?_)
                  refine lv_iinc (v := nI (j + 1)) (lv' := [(4, .int (nI (j + 1))), (3, .int (nI (1))), (0, .ref (r 0)), (1, .int (nI (16 * b + k))), (2, .int (nI (b)))]) hx hb dX3_isRebuilt_107 hl (k := 4) rfl (nI_add _ _) (by decide) rfl (fun ls hl => ?_)
                  refine lv_goto (tgt := 55) hx hb dX3_isRebuilt_110 (by decide) ?_
                  exact ih_55 (j + 1, 1) _ (⟨by omega, Or.inl ⟨rfl, (hv.resolve_right (fun h7 => by omega)).2.1, (hv.resolve_right (fun h7 => by omega)).2.2.1, fun i hi => by (rcases Nat.lt_succ_iff_lt_or_eq.mp hi with h7 | h7); exact (hv.resolve_right (fun h8 => by omega)).2.2.2 i h7; (subst h7; first | exact Or.inl (Or.inl (by omega)) | exact Or.inl (Or.inr h_82) | exact Or.inr (by omega))⟩⟩) (by first | omega | (dsimp only; omega)) (lv_sub hl [2, 3, 4, 1, 0] rfl)
                · have h_82 := bo.t hw_79 c_82
                  refine lv_aload_n hx hb dX3_isRebuilt_85 rfl (lv_at hl 0 rfl) ?_
                  refine va_get (D := D) (ci := 3) (v := .ref (r 1)) (C := RX3) (T := TX3) (N := 16) hx hb hts hiX3 hown hK hP 0 rfl rfl 1 (by decide) (hts (.fieldLink RX3 7 "PairedCellsModel" "states" "[I") (by decide +kernel)) (fun _ h9 => h9) rfl dX3_isRebuilt_86 ?_
                  refine lv_bipush (v := nI 16) hx hb dX3_isRebuilt_89 (by decide) ?_
                  refine lv_iload_n hx hb dX3_isRebuilt_91 rfl (lv_at hl 2 rfl) ?_
                  refine xr_mul hx hb dX3_isRebuilt_92 ?_
                  refine lv_iload hx hb dX3_isRebuilt_93 (lv_at hl 4 rfl) ?_
                  refine xr_add hx hb dX3_isRebuilt_95 ?_
                  refine xr_iald hx hb hK hP 1 0 rfl rfl (by omega) (by decide) dX3_isRebuilt_96 ?_
                  have hb_96 := hχ (16 * b + j)
                  refine lv_iconst (v := nI 1) hx hb dX3_isRebuilt_97 (by decide) ?_
                  refine xi_ne (tgt := 105) hx hb dX3_isRebuilt_98 (by decide) (nI_toInt (by omega)) (nI_toInt (by omega)) (fun c_98 => ?_) (fun c_98 => ?_)
                  · refine lv_iconst (v := nI 0) hx hb dX3_isRebuilt_105 (by decide) ?_
                    refine lv_istore_n (lv' := [(3, .int (nI (0))), (0, .ref (r 0)), (1, .int (nI (16 * b + k))), (2, .int (nI (b))), (4, .int (nI (j)))]) hx hb dX3_isRebuilt_106 rfl hl (by decide) rfl (fun ls hl => ?_)
                    refine lv_iinc (v := nI (j + 1)) (lv' := [(4, .int (nI (j + 1))), (3, .int (nI (0))), (0, .ref (r 0)), (1, .int (nI (16 * b + k))), (2, .int (nI (b)))]) hx hb dX3_isRebuilt_107 hl (k := 4) rfl (nI_add _ _) (by decide) rfl (fun ls hl => ?_)
                    refine lv_goto (tgt := 55) hx hb dX3_isRebuilt_110 (by decide) ?_
                    exact ih_55 (j + 1, 0) _ (⟨by omega, Or.inr ⟨rfl, fun h7 => by have h8 := h7.2.2 j (by omega) (by omega) h_82; omega⟩⟩) (by first | omega | (dsimp only; omega)) (lv_sub hl [2, 3, 4, 1, 0] rfl)
                  · refine lv_iconst (v := nI 1) hx hb dX3_isRebuilt_101 (by decide) ?_
                    refine lv_goto (tgt := 106) hx hb dX3_isRebuilt_102 (by decide) ?_
                    refine lv_istore_n (lv' := [(3, .int (nI (1))), (0, .ref (r 0)), (1, .int (nI (16 * b + k))), (2, .int (nI (b))), (4, .int (nI (j)))]) hx hb dX3_isRebuilt_106 rfl hl (by decide) rfl (fun ls hl => ?_)
                    refine lv_iinc (v := nI (j + 1)) (lv' := [(4, .int (nI (j + 1))), (3, .int (nI (1))), (0, .ref (r 0)), (1, .int (nI (16 * b + k))), (2, .int (nI (b)))]) hx hb dX3_isRebuilt_107 hl (k := 4) rfl (nI_add _ _) (by decide) rfl (fun ls hl => ?_)
                    refine lv_goto (tgt := 55) hx hb dX3_isRebuilt_110 (by decide) ?_
                    exact ih_55 (j + 1, 1) _ (⟨by omega, Or.inl ⟨rfl, (hv.resolve_right (fun h7 => by omega)).2.1, (hv.resolve_right (fun h7 => by omega)).2.2.1, fun i hi => by (rcases Nat.lt_succ_iff_lt_or_eq.mp hi with h7 | h7); exact (hv.resolve_right (fun h8 => by omega)).2.2.2 i h7; (subst h7; first | exact Or.inl (Or.inl (by omega)) | exact Or.inl (Or.inr h_82) | exact Or.inr (by omega))⟩⟩) (by first | omega | (dsimp only; omega)) (lv_sub hl [2, 3, 4, 1, 0] rfl)
        · have h_43 := bo.t hw_40 c_43
          refine lv_iconst (v := nI 1) hx hb dX3_isRebuilt_46 (by decide) ?_
          refine lv_goto (tgt := 51) hx hb dX3_isRebuilt_47 (by decide) ?_
          refine lv_istore_n (lv' := [(3, .int (nI (1))), (2, .int (nI (b))), (0, .ref (r 0)), (1, .int (nI (16 * b + k)))]) hx hb dX3_isRebuilt_51 rfl hl (by decide) rfl (fun ls hl => ?_)
          refine lv_iconst (v := nI 0) hx hb dX3_isRebuilt_52 (by decide) ?_
          refine lv_istore (lv' := [(4, .int (nI (0))), (3, .int (nI (1))), (2, .int (nI (b))), (0, .ref (r 0)), (1, .int (nI (16 * b + k)))]) hx hb dX3_isRebuilt_53 hl (by decide) rfl (fun ls hl => ?_)
          refine lpR (α := Nat × Nat) (fun (j, v) => j ≤ 8 ∧ ((v = 1 ∧ χ (16 * b + k) = 2 ∧ cvr χ b k ∧ ∀ i, i < j → (i = k ∨ ¬ cov χ b i) ∨ χ (16 * b + i) = 1) ∨ (v = 0 ∧ ¬ reb χ b k))) (fun (j, v) => [(0, .ref (r 0)), (1, .int (nI (16 * b + k))), (2, .int (nI (b))), (3, .int (nI (v))), (4, .int (nI (j)))]) 5 (fun (j, v) => 8 - j) (0, 1) (⟨by omega, Or.inl ⟨rfl, by omega, ⟨by omega, by omega, h_43⟩, fun i hi => absurd hi (Nat.not_lt_zero i)⟩⟩) (lv_sub hl [3, 4, 2, 1, 0] rfl) (fun s9 ls hI9 hl9 ih_55 => ?_)
          obtain ⟨j, v⟩ := s9
          have hl : lv_has ls 5 [(0, .ref (r 0)), (1, .int (nI (16 * b + k))), (2, .int (nI (b))), (3, .int (nI (v))), (4, .int (nI (j)))] := hl9
          obtain ⟨hj, hv⟩ : j ≤ 8 ∧ ((v = 1 ∧ χ (16 * b + k) = 2 ∧ cvr χ b k ∧ ∀ i, i < j → (i = k ∨ ¬ cov χ b i) ∨ χ (16 * b + i) = 1) ∨ (v = 0 ∧ ¬ reb χ b k)) := hI9
          refine lv_iload hx hb dX3_isRebuilt_55 (lv_at hl 4 rfl) ?_
          refine lv_bipush (v := nI 8) hx hb dX3_isRebuilt_57 (by decide) ?_
          refine xi_ge (tgt := 113) hx hb dX3_isRebuilt_59 (by decide) (nI_toInt (by omega)) (nI_toInt (by omega)) (fun c_59 => ?_) (fun c_59 => ?_)
          · refine lv_iload_n hx hb dX3_isRebuilt_113 rfl (lv_at hl 3 rfl) ?_
            rcases hv with ⟨rfl, hq⟩ | ⟨rfl, hq⟩
            · exact xe_z hx hb hr hlocks rfl (bo.one ⟨hq.1, hq.2.1, fun i hi hik hc => (hq.2.2 i (by omega)).resolve_left (fun h8 => h8.elim hik (fun h9 => h9 hc))⟩) rfl rfl dX3_isRebuilt_114
            · exact xe_z hx hb hr hlocks rfl (bo.zero hq) rfl rfl dX3_isRebuilt_114
          · refine lv_iload_n hx hb dX3_isRebuilt_62 rfl (lv_at hl 3 rfl) ?_
            refine xz_eq (tgt := 113) hx hb dX3_isRebuilt_63 (by decide) (nI_toInt (by omega)) (fun c_63 => ?_) (fun c_63 => ?_)
            · refine lv_iload_n hx hb dX3_isRebuilt_113 rfl (lv_at hl 3 rfl) ?_
              rcases hv with ⟨rfl, hq⟩ | ⟨rfl, hq⟩
              · exact xe_z hx hb hr hlocks rfl (bo.one ⟨hq.1, hq.2.1, fun i hi hik hc => (hq.2.2 i (by omega)).resolve_left (fun h8 => h8.elim hik (fun h9 => h9 hc))⟩) rfl rfl dX3_isRebuilt_114
              · exact xe_z hx hb hr hlocks rfl (bo.zero hq) rfl rfl dX3_isRebuilt_114
            · refine lv_iload hx hb dX3_isRebuilt_66 (lv_at hl 4 rfl) ?_
              refine lv_iload_n hx hb dX3_isRebuilt_68 rfl (lv_at hl 1 rfl) ?_
              refine lv_bipush (v := nI 16) hx hb dX3_isRebuilt_69 (by decide) ?_
              refine xr_rem hx hb (by omega) (by decide) (by decide) dX3_isRebuilt_71 ?_
              refine xr_nat (x' := k) (by omega) ?_
              refine xi_eq (tgt := 101) hx hb dX3_isRebuilt_72 (by decide) (nI_toInt (by omega)) (nI_toInt (by omega)) (fun c_72 => ?_) (fun c_72 => ?_)
              · refine lv_iconst (v := nI 1) hx hb dX3_isRebuilt_101 (by decide) ?_
                refine lv_goto (tgt := 106) hx hb dX3_isRebuilt_102 (by decide) ?_
                refine lv_istore_n (lv' := [(3, .int (nI (1))), (0, .ref (r 0)), (1, .int (nI (16 * b + k))), (2, .int (nI (b))), (4, .int (nI (j)))]) hx hb dX3_isRebuilt_106 rfl hl (by decide) rfl (fun ls hl => ?_)
                refine lv_iinc (v := nI (j + 1)) (lv' := [(4, .int (nI (j + 1))), (3, .int (nI (1))), (0, .ref (r 0)), (1, .int (nI (16 * b + k))), (2, .int (nI (b)))]) hx hb dX3_isRebuilt_107 hl (k := 4) rfl (nI_add _ _) (by decide) rfl (fun ls hl => ?_)
                refine lv_goto (tgt := 55) hx hb dX3_isRebuilt_110 (by decide) ?_
                exact ih_55 (j + 1, 1) _ (⟨by omega, Or.inl ⟨rfl, (hv.resolve_right (fun h7 => by omega)).2.1, (hv.resolve_right (fun h7 => by omega)).2.2.1, fun i hi => by (rcases Nat.lt_succ_iff_lt_or_eq.mp hi with h7 | h7); exact (hv.resolve_right (fun h8 => by omega)).2.2.2 i h7; (subst h7; first | exact Or.inl (Or.inl (by omega)) | exact Or.inl (Or.inr h_82) | exact Or.inr (by omega))⟩⟩) (by first | omega | (dsimp only; omega)) (lv_sub hl [2, 3, 4, 1, 0] rfl)
              · refine lv_aload_n hx hb dX3_isRebuilt_75 rfl (lv_at hl 0 rfl) ?_
                refine lv_iload_n hx hb dX3_isRebuilt_76 rfl (lv_at hl 2 rfl) ?_
                refine lv_iload hx hb dX3_isRebuilt_77 (lv_at hl 4 rfl) ?_
                refine xc_Vi (ci := 3) (rest := []) (As := [.int (nI (b)), .int (nI (j))]) ⟨hx, hb, hml, hown, hts⟩ (c_X3_isCovered l D r th fp fa χ P hd tn cu fi ne ct on b hb6 (j) (by omega) hχ) (cwV 2 hts gX3_isRebuilt_X3_isCovered rfl rfl rfl (by decide +kernel) ⟨Nat.le_of_ble_eq_true rfl, Nat.le_of_ble_eq_true rfl⟩) hN hK (hP) rfl 0 rfl rfl hl.1 rfl (Nat.le_of_ble_eq_true rfl) dX3_isRebuilt_79 ⟨Nat.le_of_ble_eq_true rfl, Nat.le_of_ble_eq_true rfl⟩ (fun r_79 hw_79 => ?_)
                refine xz_eq (tgt := 101) hx hb dX3_isRebuilt_82 (by decide) rfl (fun c_82 => ?_) (fun c_82 => ?_)
                · have h_82 := bo.f hw_79 c_82
                  refine lv_iconst (v := nI 1) hx hb dX3_isRebuilt_101 (by decide) ?_
                  refine lv_goto (tgt := 106) hx hb dX3_isRebuilt_102 (by decide) ?_
                  refine lv_istore_n (lv' := [(3, .int (nI (1))), (0, .ref (r 0)), (1, .int (nI (16 * b + k))), (2, .int (nI (b))), (4, .int (nI (j)))]) hx hb dX3_isRebuilt_106 rfl hl (by decide) rfl (fun ls hl => ?_)
                  refine lv_iinc (v := nI (j + 1)) (lv' := [(4, .int (nI (j + 1))), (3, .int (nI (1))), (0, .ref (r 0)), (1, .int (nI (16 * b + k))), (2, .int (nI (b)))]) hx hb dX3_isRebuilt_107 hl (k := 4) rfl (nI_add _ _) (by decide) rfl (fun ls hl => ?_)
                  refine lv_goto (tgt := 55) hx hb dX3_isRebuilt_110 (by decide) ?_
                  exact ih_55 (j + 1, 1) _ (⟨by omega, Or.inl ⟨rfl, (hv.resolve_right (fun h7 => by omega)).2.1, (hv.resolve_right (fun h7 => by omega)).2.2.1, fun i hi => by (rcases Nat.lt_succ_iff_lt_or_eq.mp hi with h7 | h7); exact (hv.resolve_right (fun h8 => by omega)).2.2.2 i h7; (subst h7; first | exact Or.inl (Or.inl (by omega)) | exact Or.inl (Or.inr h_82) | exact Or.inr (by omega))⟩⟩) (by first | omega | (dsimp only; omega)) (lv_sub hl [2, 3, 4, 1, 0] rfl)
                · have h_82 := bo.t hw_79 c_82
                  refine lv_aload_n hx hb dX3_isRebuilt_85 rfl (lv_at hl 0 rfl) ?_
                  refine va_get (D := D) (ci := 3) (v := .ref (r 1)) (C := RX3) (T := TX3) (N := 16) hx hb hts hiX3 hown hK hP 0 rfl rfl 1 (by decide) (hts (.fieldLink RX3 7 "PairedCellsModel" "states" "[I") (by decide +kernel)) (fun _ h9 => h9) rfl dX3_isRebuilt_86 ?_
                  refine lv_bipush (v := nI 16) hx hb dX3_isRebuilt_89 (by decide) ?_
                  refine lv_iload_n hx hb dX3_isRebuilt_91 rfl (lv_at hl 2 rfl) ?_
                  refine xr_mul hx hb dX3_isRebuilt_92 ?_
                  refine lv_iload hx hb dX3_isRebuilt_93 (lv_at hl 4 rfl) ?_
                  refine xr_add hx hb dX3_isRebuilt_95 ?_
                  refine xr_iald hx hb hK hP 1 0 rfl rfl (by omega) (by decide) dX3_isRebuilt_96 ?_
                  have hb_96 := hχ (16 * b + j)
                  refine lv_iconst (v := nI 1) hx hb dX3_isRebuilt_97 (by decide) ?_
                  refine xi_ne (tgt := 105) hx hb dX3_isRebuilt_98 (by decide) (nI_toInt (by omega)) (nI_toInt (by omega)) (fun c_98 => ?_) (fun c_98 => ?_)
                  · refine lv_iconst (v := nI 0) hx hb dX3_isRebuilt_105 (by decide) ?_
                    refine lv_istore_n (lv' := [(3, .int (nI (0))), (0, .ref (r 0)), (1, .int (nI (16 * b + k))), (2, .int (nI (b))), (4, .int (nI (j)))]) hx hb dX3_isRebuilt_106 rfl hl (by decide) rfl (fun ls hl => ?_)
                    refine lv_iinc (v := nI (j + 1)) (lv' := [(4, .int (nI (j + 1))), (3, .int (nI (0))), (0, .ref (r 0)), (1, .int (nI (16 * b + k))), (2, .int (nI (b)))]) hx hb dX3_isRebuilt_107 hl (k := 4) rfl (nI_add _ _) (by decide) rfl (fun ls hl => ?_)
                    refine lv_goto (tgt := 55) hx hb dX3_isRebuilt_110 (by decide) ?_
                    exact ih_55 (j + 1, 0) _ (⟨by omega, Or.inr ⟨rfl, fun h7 => by have h8 := h7.2.2 j (by omega) (by omega) h_82; omega⟩⟩) (by first | omega | (dsimp only; omega)) (lv_sub hl [2, 3, 4, 1, 0] rfl)
                  · refine lv_iconst (v := nI 1) hx hb dX3_isRebuilt_101 (by decide) ?_
                    refine lv_goto (tgt := 106) hx hb dX3_isRebuilt_102 (by decide) ?_
                    refine lv_istore_n (lv' := [(3, .int (nI (1))), (0, .ref (r 0)), (1, .int (nI (16 * b + k))), (2, .int (nI (b))), (4, .int (nI (j)))]) hx hb dX3_isRebuilt_106 rfl hl (by decide) rfl (fun ls hl => ?_)
                    refine lv_iinc (v := nI (j + 1)) (lv' := [(4, .int (nI (j + 1))), (3, .int (nI (1))), (0, .ref (r 0)), (1, .int (nI (16 * b + k))), (2, .int (nI (b)))]) hx hb dX3_isRebuilt_107 hl (k := 4) rfl (nI_add _ _) (by decide) rfl (fun ls hl => ?_)
                    refine lv_goto (tgt := 55) hx hb dX3_isRebuilt_110 (by decide) ?_
                    exact ih_55 (j + 1, 1) _ (⟨by omega, Or.inl ⟨rfl, (hv.resolve_right (fun h7 => by omega)).2.1, (hv.resolve_right (fun h7 => by omega)).2.2.1, fun i hi => by (rcases Nat.lt_succ_iff_lt_or_eq.mp hi with h7 | h7); exact (hv.resolve_right (fun h8 => by omega)).2.2.2 i h7; (subst h7; first | exact Or.inl (Or.inl (by omega)) | exact Or.inl (Or.inr h_82) | exact Or.inr (by omega))⟩⟩) (by first | omega | (dsimp only; omega)) (lv_sub hl [2, 3, 4, 1, 0] rfl)
