set_option maxHeartbeats 4000000 in
set_option maxRecDepth 100000 in
theorem c_X3_lastOf (l : Launch) (D : va_G) {cI : ClassId} (r : Nat → Nat) (th fp fa : Int32) (χ P : Nat → Nat) (hd tn cu fi ne ct on : Nat) (b : Nat) (hb6 : b < 6) (k : Nat) (hk : k < 16) (hχ : ∀ i, χ i < 65536) (hwf : wfs χ) (hrd : rdb χ b k) : Met l yX3_lastOf wsX3_lastOf ({ frames := 3, cells := 0, slots := 0, locals := 68 }) (va_Pc [.ref (r 0), .int (nI (16 * b + k))] (x_R D (tyM cI) (wM cI r th fp fa χ P hd tn cu fi ne ct on))) (vp_Si (fun x => x = mI (256 * byt χ b k 1 + byt χ b k 2 + byt χ b k 0))) 0 0 (fun _ => False) := by
  refine Met.ofW (cc := cX3_lastOf) (maxL := 2) (ret := (some .int)) (by decide) rfl ?_
  intro p e s m args below meth c s₁ B hml hv
  obtain ⟨rfl, hN, hP, hK⟩ := hv
  have hx := B.exec
  have hb := B.bytes
  have hr := B.returns
  have hts := atoms_spec (ws := wsX3_lastOf) B.pre
  have hown : s.vm.findClass RX3 = some m.cls := findClass_of_methodNamed B.named
  have hlocks := B.notSynchronized
  have hl := lv_entry ([.ref (r 0), .int (nI (16 * b + k))]) (n := 2) (Nat.le_of_ble_eq_true rfl)
  rw [lg_entry_eq]
  generalize (lg_sl ([.ref (r 0), .int (nI (16 * b + k))]) ++ List.replicate (2 - (lg_sl ([.ref (r 0), .int (nI (16 * b + k))])).length) Slot.unset).toArray = ls at hl ⊢
  have hl : lv_has ls 2 [(0, .ref (r 0)), (1, .int (nI (16 * b + k)))] := hl
  refine lv_aload_n hx hb dX3_lastOf_0 rfl (lv_at hl 0 rfl) ?_
  refine lv_iload_n hx hb dX3_lastOf_1 rfl (lv_at hl 1 rfl) ?_
  refine xc_Vi (ci := 3) (rest := []) (As := [.int (nI (16 * b + k))]) ⟨hx, hb, hml, hown, hts⟩ (c_X3_firstOf l D r th fp fa χ P hd tn cu fi ne ct on b hb6 k hk hχ hwf hrd) (cwV 1 hts gX3_lastOf_X3_firstOf rfl rfl rfl (by decide +kernel) ⟨Nat.le_of_ble_eq_true rfl, Nat.le_of_ble_eq_true rfl⟩) hN hK (hP) rfl 0 rfl rfl hl.1 rfl (Nat.le_of_ble_eq_true rfl) dX3_lastOf_2 ⟨Nat.le_of_ble_eq_true rfl, Nat.le_of_ble_eq_true rfl⟩ (fun r_2 hw_2 => ?_)
  subst hw_2
  refine lv_aload_n hx hb dX3_lastOf_5 rfl (lv_at hl 0 rfl) ?_
  refine lv_iload_n hx hb dX3_lastOf_6 rfl (lv_at hl 1 rfl) ?_
  refine lv_iconst (v := nI 0) hx hb dX3_lastOf_7 (by decide) ?_
  refine xc_Vi (ci := 3) (rest := [.int (nI (256 * byt χ b k 1 + byt χ b k 2))]) (As := [.int (nI (16 * b + k)), .int (nI (0))]) ⟨hx, hb, hml, hown, hts⟩ (c_X3_byteOf l D r th fp fa χ P hd tn cu fi ne ct on b hb6 k hk hχ 0 (by decide) hrd) (cwV 2 hts gX3_lastOf_X3_byteOf rfl rfl rfl (by decide +kernel) ⟨Nat.le_of_ble_eq_true rfl, Nat.le_of_ble_eq_true rfl⟩) hN hK (hP) rfl 0 rfl rfl hl.1 rfl (Nat.le_of_ble_eq_true rfl) dX3_lastOf_8 ⟨Nat.le_of_ble_eq_true rfl, Nat.le_of_ble_eq_true rfl⟩ (fun r_8 hw_8 => ?_)
  subst hw_8
  refine xr_add hx hb dX3_lastOf_11 ?_
  refine lv_iconst (v := nI 1) hx hb dX3_lastOf_12 (by decide) ?_
  refine xr_subm hx hb dX3_lastOf_13 ?_
  exact xe_i hx hb hr hlocks (rfl) rfl rfl dX3_lastOf_14
