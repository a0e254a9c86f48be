set_option maxHeartbeats 4000000 in
set_option maxRecDepth 100000 in
theorem c_X3_place_0 (l : Launch) (D : va_G) {cI : ClassId} (b k u9 : Nat) (hb6 : b < 6) (hk8 : k < 8) (hu : u9 < 2) : Met l yX3_place wsX3_place ({ frames := 0, cells := 0, slots := 0, locals := 0 }) (va_Pc [.int (nI (b)), .int (nI (k)), .int (nI (u9))] (x_R D (tyM cI) (([] : va_W)))) (vp_Si (fun x => x = nI (16 * b + plo k u9))) 0 0 (fun _ => False) := by
  refine Met.ofW (cc := cX3_place) (maxL := 3) (ret := (some .int)) (by decide) rfl ?_
  intro p e s m args below meth c s₁ B hml hv
  obtain ⟨rfl, hN, hP, hK⟩ := hv
  have hx := B.exec
  have hb := B.bytes
  have hr := B.returns
  have hts := atoms_spec (ws := wsX3_place) B.pre
  have hown : s.vm.findClass RX3 = some m.cls := findClass_of_methodNamed B.named
  have hlocks := B.notSynchronized
  have hl := lv_entry ([.int (nI (b)), .int (nI (k)), .int (nI (u9))]) (n := 3) (Nat.le_of_ble_eq_true rfl)
  rw [lg_entry_eq]
  generalize (lg_sl ([.int (nI (b)), .int (nI (k)), .int (nI (u9))]) ++ List.replicate (3 - (lg_sl ([.int (nI (b)), .int (nI (k)), .int (nI (u9))])).length) Slot.unset).toArray = ls at hl ⊢
  have hl : lv_has ls 3 [(0, .int (nI (b))), (1, .int (nI (k))), (2, .int (nI (u9)))] := hl
  refine lv_bipush (v := nI 16) hx hb dX3_place_0 (by decide) ?_
  refine lv_iload_n hx hb dX3_place_2 rfl (lv_at hl 0 rfl) ?_
  refine xr_mul hx hb dX3_place_3 ?_
  refine lv_iload_n hx hb dX3_place_4 rfl (lv_at hl 1 rfl) ?_
  refine xr_add hx hb dX3_place_5 ?_
  refine lv_iload_n hx hb dX3_place_6 rfl (lv_at hl 2 rfl) ?_
  refine xz_eq (tgt := 15) hx hb dX3_place_7 (by decide) (nI_toInt (by omega)) (fun c_7 => ?_) (fun c_7 => ?_)
  · refine lv_iconst (v := nI 0) hx hb dX3_place_15 (by decide) ?_
    refine xr_add hx hb dX3_place_16 ?_
    exact xe_i hx hb hr hlocks (congrArg nI (by unfold plo; (repeat' split) <;> omega)) rfl rfl dX3_place_17
  · refine lv_bipush (v := nI 8) hx hb dX3_place_10 (by decide) ?_
    refine lv_goto (tgt := 16) hx hb dX3_place_12 (by decide) ?_
    refine xr_add hx hb dX3_place_16 ?_
    exact xe_i hx hb hr hlocks (congrArg nI (by unfold plo; (repeat' split) <;> omega)) rfl rfl dX3_place_17
