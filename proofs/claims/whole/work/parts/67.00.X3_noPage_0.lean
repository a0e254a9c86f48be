set_option maxHeartbeats 4000000 in
set_option maxRecDepth 100000 in
theorem c_X3_noPage_0 (l : Launch) (D : va_G) {cI : ClassId} (b k : Nat) (hb6 : b < 6) (hk8 : k < 8) : Met l yX3_noPage wsX3_noPage ({ frames := 0, cells := 0, slots := 0, locals := 0 }) (va_Pc [.int (nI (b)), .int (nI (k))] (x_R D (tyM cI) (([] : va_W)))) (vp_Si (fun x => x = nI 0)) 0 0 (fun _ => False) := by
  refine Met.ofW (cc := cX3_noPage) (maxL := 2) (ret := (some .boolean)) (by decide) rfl ?_
  intro p e s m args below meth c s₁ B hml hv
  obtain ⟨rfl, hN, hP, hK⟩ := hv
  have hx := B.exec
  have hb := B.bytes
  have hr := B.returns
  have hts := atoms_spec (ws := wsX3_noPage) B.pre
  have hown : s.vm.findClass RX3 = some m.cls := findClass_of_methodNamed B.named
  have hlocks := B.notSynchronized
  have hl := lv_entry ([.int (nI (b)), .int (nI (k))]) (n := 2) (Nat.le_of_ble_eq_true rfl)
  rw [lg_entry_eq]
  generalize (lg_sl ([.int (nI (b)), .int (nI (k))]) ++ List.replicate (2 - (lg_sl ([.int (nI (b)), .int (nI (k))])).length) Slot.unset).toArray = ls at hl ⊢
  have hl : lv_has ls 2 [(0, .int (nI (b))), (1, .int (nI (k)))] := hl
  refine lv_iload_n hx hb dX3_noPage_0 rfl (lv_at hl 0 rfl) ?_
  refine xz_lt (tgt := 19) hx hb dX3_noPage_1 (by decide) (nI_toInt (by omega)) (fun c_1 => ?_) (fun c_1 => ?_)
  · exfalso; omega
  · refine lv_iload_n hx hb dX3_noPage_4 rfl (lv_at hl 0 rfl) ?_
    refine lv_iconst (v := nI 5) hx hb dX3_noPage_5 (by decide) ?_
    refine xi_gt (tgt := 19) hx hb dX3_noPage_6 (by decide) (nI_toInt (by omega)) (nI_toInt (by omega)) (fun c_6 => ?_) (fun c_6 => ?_)
    · exfalso; omega
    · refine lv_iload_n hx hb dX3_noPage_9 rfl (lv_at hl 1 rfl) ?_
      refine xz_lt (tgt := 19) hx hb dX3_noPage_10 (by decide) (nI_toInt (by omega)) (fun c_10 => ?_) (fun c_10 => ?_)
      · exfalso; omega
      · refine lv_iload_n hx hb dX3_noPage_13 rfl (lv_at hl 1 rfl) ?_
        refine lv_bipush (v := nI 7) hx hb dX3_noPage_14 (by decide) ?_
        refine xi_le (tgt := 23) hx hb dX3_noPage_16 (by decide) (nI_toInt (by omega)) (nI_toInt (by omega)) (fun c_16 => ?_) (fun c_16 => ?_)
        · refine lv_iconst (v := nI 0) hx hb dX3_noPage_23 (by decide) ?_
          exact xe_z hx hb hr hlocks rfl (rfl) rfl rfl dX3_noPage_24
        · exfalso; omega
