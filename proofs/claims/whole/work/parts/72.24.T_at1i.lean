set_option maxHeartbeats 4000000 in
set_option maxRecDepth 100000 in
theorem c_T_at1i (l : Launch) (hst : l.stackTraces = false) (D : va_G) {cI cB : ClassId} (a shw O χ : Nat → Nat) (cu fi ne ct on : Nat) (b k : Nat) (hb6 : b < 6) (hk8 : k < 8) (z9 v9 : Int32) (hx7 : v9.toInt < 0 ∨ 15 < v9.toInt) (sz : Nat) : vx_Met l yX2_at wsX2_at ({ frames := 6, cells := 1, slots := 6, locals := 90 }) (va_Pc [.ref (a 0), .int (nI (b)), .int (nI (k)), .int (z9), .int (v9)] (x_Z D (tyP cI cB) (wP cI cB a shw O χ cu fi ne ct on) sz)) (va_Qi (fun _ (_ : Unit) => False) (fun _ _ => True) (va_A (wP cI cB a shw O χ cu fi ne ct on) sz)) (x_T D (tyP cI cB) (va_A (wP cI cB a shw O χ cu fi ne ct on) sz) (fun (_ : Unit) => True) (fun _ => wP cI cB a shw O χ cu fi ne ct on) "java/lang/IndexOutOfBoundsException") 1 6 (va_A (wP cI cB a shw O χ cu fi ne ct on) sz) := by
  refine vx_ofW (cc := cX2_at) (maxL := 6) (ret := (some .int)) (by decide) rfl ?_
  intro p e s m args below meth c s₁ B hml htab hv
  obtain ⟨rfl, ⟨hsz, hN, hP, hK, hD0⟩, hZ⟩ := hv
  have hx := B.exec
  have hb := B.bytes
  have hr := B.returns
  have hts := atoms_spec (ws := wsX2_at) B.pre
  have hown : s.vm.findClass RX2 = some m.cls := findClass_of_methodNamed B.named
  have hlocks := B.notSynchronized
  subst hsz
  have hD := hD0.self (sz := s.heap.size)
  generalize hAe : va_A (wP cI cB a shw O χ cu fi ne ct on) s.heap.size = A at hD hZ ⊢
  have hA : ∀ q : Nat, s.heap.size ≤ q → A q := fun q h => by rw [← hAe]; exact Or.inr h
  obtain ⟨H, hH⟩ : ∃ H : Heap, s.heap = H := ⟨_, rfl⟩
  obtain ⟨locs, hlo⟩ : ∃ L : List Loc, ([] : List Loc) = L := ⟨_, rfl⟩
  have hS : va_S A s.heap H locs := by rw [← hH, ← hlo]; exact va_S.rf
  have hP : va_P D vwCl (wP cI cB a shw O χ cu fi ne ct on) H := hH ▸ hP
  rw [hH, hlo]
  have hiX2 : ∀ w ∈ u_ws RX2 TX2 8, w ∈ wsX2_at := by decide +kernel
  have hl := lv_entry ([.ref (a 0), .int (nI (b)), .int (nI (k)), .int (z9), .int (v9)]) (n := 6) (Nat.le_of_ble_eq_true rfl)
  rw [lg_entry_eq]
  generalize (lg_sl ([.ref (a 0), .int (nI (b)), .int (nI (k)), .int (z9), .int (v9)]) ++ List.replicate (6 - (lg_sl ([.ref (a 0), .int (nI (b)), .int (nI (k)), .int (z9), .int (v9)])).length) Slot.unset).toArray = ls at hl ⊢
  have hl : lv_has ls 6 [(0, .ref (a 0)), (1, .int (nI (b))), (2, .int (nI (k))), (3, .int (z9)), (4, .int (v9))] := hl
  refine lv_iload_n hx hb dX2_at_0 rfl (lv_at hl 1 rfl) ?_
  refine lv_iload_n hx hb dX2_at_1 rfl (lv_at hl 2 rfl) ?_
  refine xc_Sv (rest := []) (As := [.int (nI (b)), .int (nI (k))]) ⟨hx, hb, hml, hown, hts⟩ (c_X2_requireLine l D b k hb6 hk8) (va_cwS 2 hts gX2_at_X2_requireLine rfl rfl rfl (by decide +kernel) ⟨Nat.le_of_ble_eq_true rfl, Nat.le_of_ble_eq_true rfl⟩) hN hK (va_P_nil) rfl hl.1 rfl (Nat.le_of_ble_eq_true rfl) dX2_at_2 ⟨Nat.le_of_ble_eq_true rfl, Nat.le_of_ble_eq_true rfl⟩ (fun hw_2 => ?_)
  refine lv_iload hx hb dX2_at_5 (lv_at hl 4 rfl) ?_
  refine xz_lt (tgt := 17) hx hb dX2_at_7 (by decide) rfl (fun c_7 => ?_) (fun c_7 => ?_)
  · exact xt_throw (text := "no such byte") (names := ["java/lang/RuntimeException", "java/lang/Exception"]) (px := fun (_ : Unit) => True) (w1 := fun _ => wP cI cB a shw O χ cu fi ne ct on) () hx hb hst hown (by decide) (by decide) (hts (.classLink RX2 135 "java/lang/IndexOutOfBoundsException") (by decide +kernel)) (hts (.initialized "java/lang/IndexOutOfBoundsException") (by decide +kernel)) (fun w hw => hts w ((by decide +kernel : ∀ w ∈ (vx_atS RX2 139 "java/lang/IndexOutOfBoundsException" ["java/lang/RuntimeException", "java/lang/Exception"]).filter goodWord, w ∈ wsX2_at) w hw)) (by decide +kernel) (by decide) (by decide) (by decide +kernel) hZ hS (by rw [hml]; exact hl.1) dX2_at_17 dX2_at_20 dX2_at_21 dX2_at_23 dX2_at_26 htab (Nat.le_of_ble_eq_true rfl) (Nat.le_of_ble_eq_true rfl) (Nat.le_of_ble_eq_true rfl) (Nat.le_of_ble_eq_true rfl) hlocks trivial hP hK hD (Nat.le_of_ble_eq_true rfl) (Nat.le_of_ble_eq_true rfl)
  · refine lv_iload hx hb dX2_at_10 (lv_at hl 4 rfl) ?_
    refine lv_bipush (v := nI 16) hx hb dX2_at_12 (by decide) ?_
    refine xi_lt (tgt := 27) hx hb dX2_at_14 (by decide) rfl (nI_toInt (by omega)) (fun c_14 => ?_) (fun c_14 => ?_)
    · exfalso; omega
    · exact xt_throw (text := "no such byte") (names := ["java/lang/RuntimeException", "java/lang/Exception"]) (px := fun (_ : Unit) => True) (w1 := fun _ => wP cI cB a shw O χ cu fi ne ct on) () hx hb hst hown (by decide) (by decide) (hts (.classLink RX2 135 "java/lang/IndexOutOfBoundsException") (by decide +kernel)) (hts (.initialized "java/lang/IndexOutOfBoundsException") (by decide +kernel)) (fun w hw => hts w ((by decide +kernel : ∀ w ∈ (vx_atS RX2 139 "java/lang/IndexOutOfBoundsException" ["java/lang/RuntimeException", "java/lang/Exception"]).filter goodWord, w ∈ wsX2_at) w hw)) (by decide +kernel) (by decide) (by decide) (by decide +kernel) hZ hS (by rw [hml]; exact hl.1) dX2_at_17 dX2_at_20 dX2_at_21 dX2_at_23 dX2_at_26 htab (Nat.le_of_ble_eq_true rfl) (Nat.le_of_ble_eq_true rfl) (Nat.le_of_ble_eq_true rfl) (Nat.le_of_ble_eq_true rfl) hlocks trivial hP hK hD (Nat.le_of_ble_eq_true rfl) (Nat.le_of_ble_eq_true rfl)
