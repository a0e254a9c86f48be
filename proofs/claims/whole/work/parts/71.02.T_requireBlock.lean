set_option maxHeartbeats 4000000 in
set_option maxRecDepth 100000 in
theorem c_T_requireBlock (l : Launch) (hst : l.stackTraces = false) (D : va_G) {cI cB : ClassId} (x : Int32) (hx7 : x.toInt < 0 ∨ 5 < x.toInt) (sz : Nat) : vx_Met l yX2_requireBlock wsX2_requireBlock ({ frames := 6, cells := 1, slots := 6, locals := 90 }) (va_Pc [.int (x)] (x_Z D (tyP cI cB) (([] : va_W)) sz)) (va_Qv (fun (_ : Unit) => False) (fun _ _ => True) (va_A (([] : va_W)) sz)) (x_T D (tyP cI cB) (va_A (([] : va_W)) sz) (fun (_ : Unit) => True) (fun _ => ([] : va_W)) "java/lang/IndexOutOfBoundsException") 1 6 (va_A (([] : va_W)) sz) := by
  refine vx_ofW (cc := cX2_requireBlock) (maxL := 1) (ret := none) (by decide) rfl ?_
  intro p e s m args below meth c s₁ B hml htab hv
  obtain ⟨rfl, ⟨hsz, hN, hP, hK, hD0⟩, hZ⟩ := hv
  have hx := B.exec
  have hb := B.bytes
  have hr := B.returns
  have hts := atoms_spec (ws := wsX2_requireBlock) B.pre
  have hown : s.vm.findClass RX2 = some m.cls := findClass_of_methodNamed B.named
  have hlocks := B.notSynchronized
  subst hsz
  have hD := hD0.self (sz := s.heap.size)
  generalize hAe : va_A (([] : va_W)) s.heap.size = A at hD hZ ⊢
  have hA : ∀ q : Nat, s.heap.size ≤ q → A q := fun q h => by rw [← hAe]; exact Or.inr h
  obtain ⟨H, hH⟩ : ∃ H : Heap, s.heap = H := ⟨_, rfl⟩
  obtain ⟨locs, hlo⟩ : ∃ L : List Loc, ([] : List Loc) = L := ⟨_, rfl⟩
  have hS : va_S A s.heap H locs := by rw [← hH, ← hlo]; exact va_S.rf
  have hP : va_P D vwCl (([] : va_W)) H := hH ▸ hP
  rw [hH, hlo]
  have hl := lv_entry ([.int (x)]) (n := 1) (Nat.le_of_ble_eq_true rfl)
  rw [lg_entry_eq]
  generalize (lg_sl ([.int (x)]) ++ List.replicate (1 - (lg_sl ([.int (x)])).length) Slot.unset).toArray = ls at hl ⊢
  have hl : lv_has ls 1 [(0, .int (x))] := hl
  refine lv_iload_n hx hb dX2_requireBlock_0 rfl (lv_at hl 0 rfl) ?_
  refine xz_lt (tgt := 10) hx hb dX2_requireBlock_1 (by decide) rfl (fun c_1 => ?_) (fun c_1 => ?_)
  · exact xt_throw (text := "no such block") (names := ["java/lang/RuntimeException", "java/lang/Exception"]) (px := fun (_ : Unit) => True) (w1 := fun _ => ([] : va_W)) () hx hb hst hown (by decide) (by decide) (hts (.classLink RX2 135 "java/lang/IndexOutOfBoundsException") (by decide +kernel)) (hts (.initialized "java/lang/IndexOutOfBoundsException") (by decide +kernel)) (fun w hw => hts w ((by decide +kernel : ∀ w ∈ (vx_atS RX2 139 "java/lang/IndexOutOfBoundsException" ["java/lang/RuntimeException", "java/lang/Exception"]).filter goodWord, w ∈ wsX2_requireBlock) w hw)) (by decide +kernel) (by decide) (by decide) (by decide +kernel) hZ hS (by rw [hml]; exact hl.1) dX2_requireBlock_10 dX2_requireBlock_13 dX2_requireBlock_14 dX2_requireBlock_16 dX2_requireBlock_19 htab (Nat.le_of_ble_eq_true rfl) (Nat.le_of_ble_eq_true rfl) (Nat.le_of_ble_eq_true rfl) (Nat.le_of_ble_eq_true rfl) hlocks trivial hP hK hD (Nat.le_of_ble_eq_true rfl) (Nat.le_of_ble_eq_true rfl)
  · refine lv_iload_n hx hb dX2_requireBlock_4 rfl (lv_at hl 0 rfl) ?_
    refine lv_bipush (v := nI 6) hx hb dX2_requireBlock_5 (by decide) ?_
    refine xi_lt (tgt := 20) hx hb dX2_requireBlock_7 (by decide) rfl (nI_toInt (by omega)) (fun c_7 => ?_) (fun c_7 => ?_)
    · exfalso; omega
    · exact xt_throw (text := "no such block") (names := ["java/lang/RuntimeException", "java/lang/Exception"]) (px := fun (_ : Unit) => True) (w1 := fun _ => ([] : va_W)) () hx hb hst hown (by decide) (by decide) (hts (.classLink RX2 135 "java/lang/IndexOutOfBoundsException") (by decide +kernel)) (hts (.initialized "java/lang/IndexOutOfBoundsException") (by decide +kernel)) (fun w hw => hts w ((by decide +kernel : ∀ w ∈ (vx_atS RX2 139 "java/lang/IndexOutOfBoundsException" ["java/lang/RuntimeException", "java/lang/Exception"]).filter goodWord, w ∈ wsX2_requireBlock) w hw)) (by decide +kernel) (by decide) (by decide) (by decide +kernel) hZ hS (by rw [hml]; exact hl.1) dX2_requireBlock_10 dX2_requireBlock_13 dX2_requireBlock_14 dX2_requireBlock_16 dX2_requireBlock_19 htab (Nat.le_of_ble_eq_true rfl) (Nat.le_of_ble_eq_true rfl) (Nat.le_of_ble_eq_true rfl) (Nat.le_of_ble_eq_true rfl) hlocks trivial hP hK hD (Nat.le_of_ble_eq_true rfl) (Nat.le_of_ble_eq_true rfl)
