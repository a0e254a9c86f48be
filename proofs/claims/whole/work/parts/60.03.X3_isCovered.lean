set_option maxHeartbeats 4000000 in
set_option maxRecDepth 100000 in
theorem c_X3_isCovered (l : Launch) (D : va_G) {cI : ClassId} (r : Nat → Nat) (th fp fa : Int32) (χ P : Nat → Nat) (hd tn cu fi ne ct on : Nat) (b : Nat) (hb6 : b < 6) (k : Nat) (hk : k < 16) (hχ : ∀ i, χ i < 65536) : Met l yX3_isCovered wsX3_isCovered ({ frames := 0, cells := 0, slots := 0, locals := 0 }) (va_Pc [.ref (r 0), .int (nI (b)), .int (nI (k))] (x_R D (tyM cI) (wM cI r th fp fa χ P hd tn cu fi ne ct on))) (vp_Si (fun x => bo x (cov χ b k))) 0 0 (fun _ => False) := by
  refine Met.ofW (cc := cX3_isCovered) (maxL := 3) (ret := (some .boolean)) (by decide) rfl ?_
  intro p e s m args below meth c s₁ B hml hv
  obtain ⟨rfl, hN, hP, hK⟩ := hv
  have hx := B.exec
  have hb := B.bytes
  have hr := B.returns
  have hts := atoms_spec (ws := wsX3_isCovered) B.pre
  have hown : s.vm.findClass RX3 = some m.cls := findClass_of_methodNamed B.named
  have hlocks := B.notSynchronized
  have hiX3 : ∀ w ∈ u_ws RX3 TX3 16, w ∈ wsX3_isCovered := by decide +kernel
  have hl := lv_entry ([.ref (r 0), .int (nI (b)), .int (nI (k))]) (n := 3) (Nat.le_of_ble_eq_true rfl)
  rw [lg_entry_eq]
  generalize (lg_sl ([.ref (r 0), .int (nI (b)), .int (nI (k))]) ++ List.replicate (3 - (lg_sl ([.ref (r 0), .int (nI (b)), .int (nI (k))])).length) Slot.unset).toArray = ls at hl ⊢
  have hl : lv_has ls 3 [(0, .ref (r 0)), (1, .int (nI (b))), (2, .int (nI (k)))] := hl
  refine lv_aload_n hx hb dX3_isCovered_0 rfl (lv_at hl 0 rfl) ?_
  refine va_get (D := D) (ci := 3) (v := .ref (r 4)) (C := RX3) (T := TX3) (N := 16) hx hb hts hiX3 hown hK hP 0 rfl rfl 4 (by decide) (hts (.fieldLink RX3 19 "PairedCellsModel" "guardBytes" "[I") (by decide +kernel)) (fun _ h9 => h9) rfl dX3_isCovered_1 ?_
  refine lv_bipush (v := nI 17) hx hb dX3_isCovered_4 (by decide) ?_
  refine lv_iload_n hx hb dX3_isCovered_6 rfl (lv_at hl 1 rfl) ?_
  refine xr_mul hx hb dX3_isCovered_7 ?_
  refine lv_bipush (v := nI 16) hx hb dX3_isCovered_8 (by decide) ?_
  refine xr_add hx hb dX3_isCovered_10 ?_
  refine xr_iald hx hb hK hP 4 0 rfl rfl (by omega) (by decide) dX3_isCovered_11 ?_
  have hb_11 := hχ (200 + (17 * b + 16))
  refine xr_nat (x' := χ (200 + 17 * b + 16)) (congrArg χ (by omega)) ?_
  refine lv_iload_n hx hb dX3_isCovered_12 rfl (lv_at hl 2 rfl) ?_
  have hb9 := hχ (200 + 17 * b + 16)
  refine xr_shr hx hb (by omega) (by omega) dX3_isCovered_13 ?_
  refine lv_iconst (v := nI 1) hx hb dX3_isCovered_14 (by decide) ?_
  refine xr_and1 hx hb (Nat.lt_of_le_of_lt (Nat.div_le_self _ _) (by have h7 := hχ (200 + 17 * b + 16); omega)) dX3_isCovered_15 ?_
  refine lv_iconst (v := nI 1) hx hb dX3_isCovered_16 (by decide) ?_
  refine xi_ne (tgt := 24) hx hb dX3_isCovered_17 (by decide) (nI_toInt (by omega)) (nI_toInt (by omega)) (fun c_17 => ?_) (fun c_17 => ?_)
  · refine lv_iconst (v := nI 0) hx hb dX3_isCovered_24 (by decide) ?_
    exact xe_z hx hb hr hlocks rfl (bo.zero (fun h7 => by unfold cov at h7; omega)) rfl rfl dX3_isCovered_25
  · refine lv_iconst (v := nI 1) hx hb dX3_isCovered_20 (by decide) ?_
    refine lv_goto (tgt := 25) hx hb dX3_isCovered_21 (by decide) ?_
    exact xe_z hx hb hr hlocks rfl (bo.one (by unfold cov; omega)) rfl rfl dX3_isCovered_25
