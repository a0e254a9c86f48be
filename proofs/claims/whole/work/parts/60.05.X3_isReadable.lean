set_option maxHeartbeats 4000000 in
set_option maxRecDepth 100000 in
theorem c_X3_isReadable (l : Launch) (D : va_G) {cI : ClassId} (r : Nat → Nat) (th fp fa : Int32) (χ P : Nat → Nat) (hd tn cu fi ne ct on : Nat) (b : Nat) (hb6 : b < 6) (k : Nat) (hk : k < 16) (hχ : ∀ i, χ i < 65536) : Met l yX3_isReadable wsX3_isReadable ({ frames := 2, cells := 0, slots := 0, locals := 46 }) (va_Pc [.ref (r 0), .int (nI (16 * b + k))] (x_R D (tyM cI) (wM cI r th fp fa χ P hd tn cu fi ne ct on))) (vp_Si (fun x => bo x (rdb χ b k))) 0 0 (fun _ => False) := by
  refine Met.ofW (cc := cX3_isReadable) (maxL := 2) (ret := (some .boolean)) (by decide) rfl ?_
  intro p e s m args below meth c s₁ B hml hv
  obtain ⟨rfl, hN, hP, hK⟩ := hv
  have hx := B.exec
  have hb := B.bytes
  have hr := B.returns
  have hts := atoms_spec (ws := wsX3_isReadable) B.pre
  have hown : s.vm.findClass RX3 = some m.cls := findClass_of_methodNamed B.named
  have hlocks := B.notSynchronized
  have hiX3 : ∀ w ∈ u_ws RX3 TX3 16, w ∈ wsX3_isReadable := by decide +kernel
  have hl := lv_entry ([.ref (r 0), .int (nI (16 * b + k))]) (n := 2) (Nat.le_of_ble_eq_true rfl)
  rw [lg_entry_eq]
  generalize (lg_sl ([.ref (r 0), .int (nI (16 * b + k))]) ++ List.replicate (2 - (lg_sl ([.ref (r 0), .int (nI (16 * b + k))])).length) Slot.unset).toArray = ls at hl ⊢
  have hl : lv_has ls 2 [(0, .ref (r 0)), (1, .int (nI (16 * b + k)))] := hl
  refine lv_aload_n hx hb dX3_isReadable_0 rfl (lv_at hl 0 rfl) ?_
  refine va_get (D := D) (ci := 3) (v := .ref (r 1)) (C := RX3) (T := TX3) (N := 16) hx hb hts hiX3 hown hK hP 0 rfl rfl 1 (by decide) (hts (.fieldLink RX3 7 "PairedCellsModel" "states" "[I") (by decide +kernel)) (fun _ h9 => h9) rfl dX3_isReadable_1 ?_
  refine lv_iload_n hx hb dX3_isReadable_4 rfl (lv_at hl 1 rfl) ?_
  refine xr_iald hx hb hK hP 1 0 rfl rfl (by omega) (by decide) dX3_isReadable_5 ?_
  have hb_5 := hχ (16 * b + k)
  refine lv_iconst (v := nI 1) hx hb dX3_isReadable_6 (by decide) ?_
  refine xi_eq (tgt := 18) hx hb dX3_isReadable_7 (by decide) (nI_toInt (by omega)) (nI_toInt (by omega)) (fun c_7 => ?_) (fun c_7 => ?_)
  · refine lv_iconst (v := nI 1) hx hb dX3_isReadable_18 (by decide) ?_
    refine lv_goto (tgt := 23) hx hb dX3_isReadable_19 (by decide) ?_
    exact xe_z hx hb hr hlocks rfl (bo.one (by first | exact Or.inr h_15 | exact Or.inl (by omega))) rfl rfl dX3_isReadable_23
  · refine lv_aload_n hx hb dX3_isReadable_10 rfl (lv_at hl 0 rfl) ?_
    refine lv_iload_n hx hb dX3_isReadable_11 rfl (lv_at hl 1 rfl) ?_
    refine xc_Vi (ci := 3) (rest := []) (As := [.int (nI (16 * b + k))]) ⟨hx, hb, hml, hown, hts⟩ (c_X3_isRebuilt l D r th fp fa χ P hd tn cu fi ne ct on b hb6 k hk hχ) (cwV 1 hts gX3_isReadable_X3_isRebuilt rfl rfl rfl (by decide +kernel) ⟨Nat.le_of_ble_eq_true rfl, Nat.le_of_ble_eq_true rfl⟩) hN hK (hP) rfl 0 rfl rfl hl.1 rfl (Nat.le_of_ble_eq_true rfl) dX3_isReadable_12 ⟨Nat.le_of_ble_eq_true rfl, Nat.le_of_ble_eq_true rfl⟩ (fun r_12 hw_12 => ?_)
    refine xz_eq (tgt := 22) hx hb dX3_isReadable_15 (by decide) rfl (fun c_15 => ?_) (fun c_15 => ?_)
    · have h_15 := bo.f hw_12 c_15
      refine lv_iconst (v := nI 0) hx hb dX3_isReadable_22 (by decide) ?_
      exact xe_z hx hb hr hlocks rfl (bo.zero (fun h7 => h7.elim (fun h8 => by omega) h_15)) rfl rfl dX3_isReadable_23
    · have h_15 := bo.t hw_12 c_15
      refine lv_iconst (v := nI 1) hx hb dX3_isReadable_18 (by decide) ?_
      refine lv_goto (tgt := 23) hx hb dX3_isReadable_19 (by decide) ?_
      exact xe_z hx hb hr hlocks rfl (bo.one (by first | exact Or.inr h_15 | exact Or.inl (by omega))) rfl rfl dX3_isReadable_23
