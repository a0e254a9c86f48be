set_option maxHeartbeats 4000000 in
set_option maxRecDepth 100000 in
theorem c_X0_init (l : Launch) (D : va_G) {cI cB : ClassId} (q0 : Nat) (sz : Nat) : Met l yX0_init wsX0_init ({ frames := 1, cells := 3, slots := 289, locals := 12 }) (va_Pc [.ref q0] (x_U D (tyP cI cB) ([(q0, .inr (0, [.null, .null, .null, .int (nI 0), .int (nI 0)]))]) sz)) (va_Qv (fun (u : Nat → Nat) => True) (fun u t => x_E D (tyP cI cB) (va_A ([(q0, .inr (0, [.null, .null, .null, .int (nI 0), .int (nI 0)]))]) sz) ([(q0, .inr (0, [.ref (u 0), .ref (u 1), .ref (u 2), .int (nI 0), .int (nI 0)])), (u 0, ar cI 16 (fun _ => 0)), (u 1, ar cI 256 (fun _ => 0)), (u 2, ar cI 17 (fun _ => 0))]) t) (va_A ([(q0, .inr (0, [.null, .null, .null, .int (nI 0), .int (nI 0)]))]) sz)) 3 289 (va_A ([(q0, .inr (0, [.null, .null, .null, .int (nI 0), .int (nI 0)]))]) sz) := by
  refine Met.ofW (cc := cX0_init) (maxL := 1) (ret := none) (by decide) rfl ?_
  intro p e s m args below meth c s₁ B hml hv
  obtain ⟨rfl, hsz, hN, hP, hK, hD0⟩ := hv
  have hx := B.exec
  have hb := B.bytes
  have hr := B.returns
  have hts := atoms_spec (ws := wsX0_init) B.pre
  have hown : s.vm.findClass RX0 = some m.cls := findClass_of_methodNamed B.named
  have hlocks := B.notSynchronized
  have hin : meth.name = "<init>" := (name_of_methodNamed B.named B.method).1
  subst hsz
  have hD := hD0.self (sz := s.heap.size)
  generalize hAe : va_A ([(q0, .inr (0, [.null, .null, .null, .int (nI 0), .int (nI 0)]))]) s.heap.size = A at hD ⊢
  have hA : ∀ q : Nat, s.heap.size ≤ q → A q := fun q h => by rw [← hAe]; exact Or.inr h
  obtain ⟨H, hH⟩ : ∃ H : Heap, s.heap = H := ⟨_, rfl⟩
  obtain ⟨locs, hlo⟩ : ∃ L : List Loc, ([] : List Loc) = L := ⟨_, rfl⟩
  have hS : va_S A s.heap H locs := by rw [← hH, ← hlo]; exact va_S.rf
  have hP : va_P D vwCl ([(q0, .inr (0, [.null, .null, .null, .int (nI 0), .int (nI 0)]))]) H := hH ▸ hP
  rw [hH, hlo]
  have hiX0 : ∀ w ∈ u_ws RX0 TX0 5, w ∈ wsX0_init := by decide +kernel
  have hl := lv_entry ([.ref q0]) (n := 1) (Nat.le_of_ble_eq_true rfl)
  rw [lg_entry_eq]
  generalize (lg_sl ([.ref q0]) ++ List.replicate (1 - (lg_sl ([.ref q0])).length) Slot.unset).toArray = ls at hl ⊢
  have hl : lv_has ls 1 [(0, .ref q0)] := hl
  refine lv_aload_n hx hb dX0_init_0 rfl (lv_at hl 0 rfl) ?_
  refine W.objInit hx hb hown (hts (.methodLink RX0 3 objectInit) (by decide +kernel)) (hts (.instanceMethod objectInit) (by decide +kernel)) (hts (.code objectInit ⟨#[0xb1]⟩ 1 none) (by decide +kernel)) rfl (by rw [hml]; exact hl.1) rfl dX0_init_1 (Nat.le_of_ble_eq_true rfl) (Nat.le_of_ble_eq_true rfl) ?_
  refine W.eq (g2 := F0 m 4 ls []) rfl ?_
  refine lv_aload_n hx hb dX0_init_4 rfl (lv_at hl 0 rfl) ?_
  refine lv_bipush (v := nI 16) hx hb dX0_init_5 (by decide) ?_
  refine xm_newi hx hb (hts (.arrayClass .int) (by decide +kernel)) hK hP hD hS hA 0 rfl (by decide) (Nat.le_of_ble_eq_true rfl) (Nat.le_of_ble_eq_true rfl) dX0_init_7 (fun q7 H hP hD hS => ?_)
  have hP : va_P D vwCl ([(q0, .inr (0, [.null, .null, .null, .int (nI 0), .int (nI 0)])), (q7, ar cI 16 (fun _ => 0))]) H := hP
  have hD : va_D A ([(q0, .inr (0, [.null, .null, .null, .int (nI 0), .int (nI 0)])), (q7, ar cI 16 (fun _ => 0))]) := hD
  refine W.widen (k := 1) (n := 16) (Nat.le_of_ble_eq_true rfl) (Nat.le_of_ble_eq_true rfl) ?_
  refine va_putF (D := D) (ci := 0) (v := .ref q7) (ty := .array .int) (C := RX0) (T := TX0) (N := 5) hx hb hts hiX0 tyX0 tyX0_ok nmX0 hown hK hP hD hS 0 rfl rfl 0 (by decide) (hts (.fieldLink RX0 9 "PairedCells$Block" "states" "[I") (by decide +kernel)) (fun _ h9 => h9) rfl hin rfl (by decide +kernel) rfl rfl (Nat.le_of_ble_eq_true rfl) dX0_init_9 (fun H locs hP hD hS => ?_)
  have hP : va_P D vwCl ([(q0, .inr (0, [.ref q7, .null, .null, .int (nI 0), .int (nI 0)])), (q7, ar cI 16 (fun _ => 0))]) H := hP
  have hD : va_D A ([(q0, .inr (0, [.ref q7, .null, .null, .int (nI 0), .int (nI 0)])), (q7, ar cI 16 (fun _ => 0))]) := hD
  refine lv_aload_n hx hb dX0_init_12 rfl (lv_at hl 0 rfl) ?_
  refine lv_sipush (v := nI 256) hx hb dX0_init_13 (by decide) ?_
  refine xm_newi hx hb (hts (.arrayClass .int) (by decide +kernel)) hK hP hD hS hA 0 rfl (by decide) (Nat.le_of_ble_eq_true rfl) (Nat.le_of_ble_eq_true rfl) dX0_init_16 (fun q16 H hP hD hS => ?_)
  have hP : va_P D vwCl ([(q0, .inr (0, [.ref q7, .null, .null, .int (nI 0), .int (nI 0)])), (q7, ar cI 16 (fun _ => 0)), (q16, ar cI 256 (fun _ => 0))]) H := hP
  have hD : va_D A ([(q0, .inr (0, [.ref q7, .null, .null, .int (nI 0), .int (nI 0)])), (q7, ar cI 16 (fun _ => 0)), (q16, ar cI 256 (fun _ => 0))]) := hD
  refine W.widen (k := 2) (n := 272) (Nat.le_of_ble_eq_true rfl) (Nat.le_of_ble_eq_true rfl) ?_
  refine va_putF (D := D) (ci := 0) (v := .ref q16) (ty := .array .int) (C := RX0) (T := TX0) (N := 5) hx hb hts hiX0 tyX0 tyX0_ok nmX0 hown hK hP hD hS 0 rfl rfl 1 (by decide) (hts (.fieldLink RX0 15 "PairedCells$Block" "bytes" "[I") (by decide +kernel)) (fun _ h9 => h9) rfl hin rfl (by decide +kernel) rfl rfl (Nat.le_of_ble_eq_true rfl) dX0_init_18 (fun H locs hP hD hS => ?_)
  have hP : va_P D vwCl ([(q0, .inr (0, [.ref q7, .ref q16, .null, .int (nI 0), .int (nI 0)])), (q7, ar cI 16 (fun _ => 0)), (q16, ar cI 256 (fun _ => 0))]) H := hP
  have hD : va_D A ([(q0, .inr (0, [.ref q7, .ref q16, .null, .int (nI 0), .int (nI 0)])), (q7, ar cI 16 (fun _ => 0)), (q16, ar cI 256 (fun _ => 0))]) := hD
  refine lv_aload_n hx hb dX0_init_21 rfl (lv_at hl 0 rfl) ?_
  refine lv_bipush (v := nI 17) hx hb dX0_init_22 (by decide) ?_
  refine xm_newi hx hb (hts (.arrayClass .int) (by decide +kernel)) hK hP hD hS hA 0 rfl (by decide) (Nat.le_of_ble_eq_true rfl) (Nat.le_of_ble_eq_true rfl) dX0_init_24 (fun q24 H hP hD hS => ?_)
  have hP : va_P D vwCl ([(q0, .inr (0, [.ref q7, .ref q16, .null, .int (nI 0), .int (nI 0)])), (q7, ar cI 16 (fun _ => 0)), (q16, ar cI 256 (fun _ => 0)), (q24, ar cI 17 (fun _ => 0))]) H := hP
  have hD : va_D A ([(q0, .inr (0, [.ref q7, .ref q16, .null, .int (nI 0), .int (nI 0)])), (q7, ar cI 16 (fun _ => 0)), (q16, ar cI 256 (fun _ => 0)), (q24, ar cI 17 (fun _ => 0))]) := hD
  refine W.widen (k := 3) (n := 289) (Nat.le_of_ble_eq_true rfl) (Nat.le_of_ble_eq_true rfl) ?_
  refine va_putF (D := D) (ci := 0) (v := .ref q24) (ty := .array .int) (C := RX0) (T := TX0) (N := 5) hx hb hts hiX0 tyX0 tyX0_ok nmX0 hown hK hP hD hS 0 rfl rfl 2 (by decide) (hts (.fieldLink RX0 18 "PairedCells$Block" "guardBytes" "[I") (by decide +kernel)) (fun _ h9 => h9) rfl hin rfl (by decide +kernel) rfl rfl (Nat.le_of_ble_eq_true rfl) dX0_init_26 (fun H locs hP hD hS => ?_)
  have hP : va_P D vwCl ([(q0, .inr (0, [.ref q7, .ref q16, .ref q24, .int (nI 0), .int (nI 0)])), (q7, ar cI 16 (fun _ => 0)), (q16, ar cI 256 (fun _ => 0)), (q24, ar cI 17 (fun _ => 0))]) H := hP
  have hD : va_D A ([(q0, .inr (0, [.ref q7, .ref q16, .ref q24, .int (nI 0), .int (nI 0)])), (q7, ar cI 16 (fun _ => 0)), (q16, ar cI 256 (fun _ => 0)), (q24, ar cI 17 (fun _ => 0))]) := hD
  refine lv_aload_n hx hb dX0_init_29 rfl (lv_at hl 0 rfl) ?_
  refine lv_iconst (v := nI 0) hx hb dX0_init_30 (by decide) ?_
  refine va_put (D := D) (ci := 0) (v := .int (nI 0)) (ty := .int) (C := RX0) (T := TX0) (N := 5) hx hb hts hiX0 tyX0 tyX0_ok nmX0 hown hK hP hD hS 0 rfl rfl 3 (by decide) (hts (.fieldLink RX0 21 "PairedCells$Block" "guardState" "I") (by decide +kernel)) (fun _ h9 => h9) rfl (by decide +kernel) rfl rfl (Nat.le_of_ble_eq_true rfl) dX0_init_31 (fun H locs hP hD hS => ?_)
  have hP : va_P D vwCl ([(q0, .inr (0, [.ref q7, .ref q16, .ref q24, .int (nI 0), .int (nI 0)])), (q7, ar cI 16 (fun _ => 0)), (q16, ar cI 256 (fun _ => 0)), (q24, ar cI 17 (fun _ => 0))]) H := hP
  have hD : va_D A ([(q0, .inr (0, [.ref q7, .ref q16, .ref q24, .int (nI 0), .int (nI 0)])), (q7, ar cI 16 (fun _ => 0)), (q16, ar cI 256 (fun _ => 0)), (q24, ar cI 17 (fun _ => 0))]) := hD
  refine lv_aload_n hx hb dX0_init_34 rfl (lv_at hl 0 rfl) ?_
  refine lv_iconst (v := nI 0) hx hb dX0_init_35 (by decide) ?_
  refine va_put (D := D) (ci := 0) (v := .int (nI 0)) (ty := .int) (C := RX0) (T := TX0) (N := 5) hx hb hts hiX0 tyX0 tyX0_ok nmX0 hown hK hP hD hS 0 rfl rfl 4 (by decide) (hts (.fieldLink RX0 25 "PairedCells$Block" "erasures" "I") (by decide +kernel)) (fun _ h9 => h9) rfl (by decide +kernel) rfl rfl (Nat.le_of_ble_eq_true rfl) dX0_init_36 (fun H locs hP hD hS => ?_)
  have hP : va_P D vwCl ([(q0, .inr (0, [.ref q7, .ref q16, .ref q24, .int (nI 0), .int (nI 0)])), (q7, ar cI 16 (fun _ => 0)), (q16, ar cI 256 (fun _ => 0)), (q24, ar cI 17 (fun _ => 0))]) H := hP
  have hD : va_D A ([(q0, .inr (0, [.ref q7, .ref q16, .ref q24, .int (nI 0), .int (nI 0)])), (q7, ar cI 16 (fun _ => 0)), (q16, ar cI 256 (fun _ => 0)), (q24, ar cI 17 (fun _ => 0))]) := hD
  exact xf_v (post := fun (u : Nat → Nat) => True) (w1 := fun (u : Nat → Nat) => [(q0, .inr (0, [.ref (u 0), .ref (u 1), .ref (u 2), .int (nI 0), .int (nI 0)])), (u 0, ar cI 16 (fun _ => 0)), (u 1, ar cI 256 (fun _ => 0)), (u 2, ar cI 17 (fun _ => 0))]) (fun j => [q7, q16, q24].getD j 0) hx hb hr hlocks trivial hP hK hD hS dX0_init_39
