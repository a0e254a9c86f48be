set_option maxHeartbeats 4000000 in
set_option maxRecDepth 100000 in
theorem c_T_cutAfter1 (l : Launch) (hst : l.stackTraces = false) (D : va_G) {cI cB : ClassId} (a shw O χ : Nat → Nat) (cu fi ne ct on : Nat) (x : Int32) (hx7 : x.toInt < 0 ∨ 60 < x.toInt) (sz : Nat) : vx_Met l yX2_cutAfter wsX2_cutAfter ({ frames := 6, cells := 1, slots := 6, locals := 90 }) (va_Pc [.ref (a 0), .int (x)] (x_Z D (tyP cI cB) (wP cI cB a shw O χ cu fi ne ct on) sz)) (va_Qv (fun (_ : Unit) => False) (fun _ _ => True) (va_A (wP cI cB a shw O χ cu fi ne ct on) sz)) (x_T D (tyP cI cB) (va_A (wP cI cB a shw O χ cu fi ne ct on) sz) (fun (_ : Unit) => True) (fun _ => wP cI cB a shw O χ cu fi ne ct on) "java/lang/IllegalArgumentException") 1 6 (va_A (wP cI cB a shw O χ cu fi ne ct on) sz) := by
  refine vx_ofW (cc := cX2_cutAfter) (maxL := 2) (ret := none) (by decide) rfl ?_
  intro p e s m args below meth c s₁ B hml htab hv
  obtain ⟨rfl, ⟨hsz, hN, hP, hK, hD0⟩, hZ⟩ := hv
  have hx := B.exec
  have hb := B.bytes
  have hr := B.returns
  have hts := atoms_spec (ws := wsX2_cutAfter) B.pre
  have hown : s.vm.findClass RX2 = some m.cls := findClass_of_methodNamed B.named
  have hlocks := B.notSynchronized
  subst hsz
  have hD := hD0.self (sz := s.heap.size)
  generalize hAe : va_A (wP cI cB a shw O χ cu fi ne ct on) s.heap.size = A at hD hZ ⊢
  have hA : ∀ q : Nat, s.heap.size ≤ q → A q := fun q h => by rw [← hAe]; exact Or.inr h
  obtain ⟨H, hH⟩ : ∃ H : Heap, s.heap = H := ⟨_, rfl⟩
  obtain ⟨locs, hlo⟩ : ∃ L : List Loc, ([] : List Loc) = L := ⟨_, rfl⟩
  have hS : va_S A s.heap H locs := by rw [← hH, ← hlo]; exact va_S.rf
  have hP : va_P D vwCl (wP cI cB a shw O χ cu fi ne ct on) H := hH ▸ hP
  rw [hH, hlo]
  have hiX2 : ∀ w ∈ u_ws RX2 TX2 8, w ∈ wsX2_cutAfter := by decide +kernel
  have hl := lv_entry ([.ref (a 0), .int (x)]) (n := 2) (Nat.le_of_ble_eq_true rfl)
  rw [lg_entry_eq]
  generalize (lg_sl ([.ref (a 0), .int (x)]) ++ List.replicate (2 - (lg_sl ([.ref (a 0), .int (x)])).length) Slot.unset).toArray = ls at hl ⊢
  have hl : lv_has ls 2 [(0, .ref (a 0)), (1, .int (x))] := hl
  refine lv_iload_n hx hb dX2_cutAfter_0 rfl (lv_at hl 1 rfl) ?_
  refine xz_lt (tgt := 10) hx hb dX2_cutAfter_1 (by decide) rfl (fun c_1 => ?_) (fun c_1 => ?_)
  · exact xt_throw (text := "a cut is set for 1 to 60, or 0 for none") (names := ["java/lang/RuntimeException", "java/lang/Exception"]) (px := fun (_ : Unit) => True) (w1 := fun _ => wP cI cB a shw O χ cu fi ne ct on) () hx hb hst hown (by decide) (by decide) (hts (.classLink RX2 46 "java/lang/IllegalArgumentException") (by decide +kernel)) (hts (.initialized "java/lang/IllegalArgumentException") (by decide +kernel)) (fun w hw => hts w ((by decide +kernel : ∀ w ∈ (vx_atS RX2 50 "java/lang/IllegalArgumentException" ["java/lang/RuntimeException", "java/lang/Exception"]).filter goodWord, w ∈ wsX2_cutAfter) w hw)) (by decide +kernel) (by decide) (by decide) (by decide +kernel) hZ hS (by rw [hml]; exact hl.1) dX2_cutAfter_10 dX2_cutAfter_13 dX2_cutAfter_14 dX2_cutAfter_16 dX2_cutAfter_19 htab (Nat.le_of_ble_eq_true rfl) (Nat.le_of_ble_eq_true rfl) (Nat.le_of_ble_eq_true rfl) (Nat.le_of_ble_eq_true rfl) hlocks trivial hP hK hD (Nat.le_of_ble_eq_true rfl) (Nat.le_of_ble_eq_true rfl)
  · refine lv_iload_n hx hb dX2_cutAfter_4 rfl (lv_at hl 1 rfl) ?_
    refine lv_bipush (v := nI 60) hx hb dX2_cutAfter_5 (by decide) ?_
    refine xi_le (tgt := 20) hx hb dX2_cutAfter_7 (by decide) rfl (nI_toInt (by omega)) (fun c_7 => ?_) (fun c_7 => ?_)
    · exfalso; omega
    · exact xt_throw (text := "a cut is set for 1 to 60, or 0 for none") (names := ["java/lang/RuntimeException", "java/lang/Exception"]) (px := fun (_ : Unit) => True) (w1 := fun _ => wP cI cB a shw O χ cu fi ne ct on) () hx hb hst hown (by decide) (by decide) (hts (.classLink RX2 46 "java/lang/IllegalArgumentException") (by decide +kernel)) (hts (.initialized "java/lang/IllegalArgumentException") (by decide +kernel)) (fun w hw => hts w ((by decide +kernel : ∀ w ∈ (vx_atS RX2 50 "java/lang/IllegalArgumentException" ["java/lang/RuntimeException", "java/lang/Exception"]).filter goodWord, w ∈ wsX2_cutAfter) w hw)) (by decide +kernel) (by decide) (by decide) (by decide +kernel) hZ hS (by rw [hml]; exact hl.1) dX2_cutAfter_10 dX2_cutAfter_13 dX2_cutAfter_14 dX2_cutAfter_16 dX2_cutAfter_19 htab (Nat.le_of_ble_eq_true rfl) (Nat.le_of_ble_eq_true rfl) (Nat.le_of_ble_eq_true rfl) (Nat.le_of_ble_eq_true rfl) hlocks trivial hP hK hD (Nat.le_of_ble_eq_true rfl) (Nat.le_of_ble_eq_true rfl)
