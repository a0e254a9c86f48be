theorem rw_row {cI : ClassId} {q n : Nat} {f g : Nat → Nat} (h : ∀ j, j < n → f j = g j) : ([(q, ar cI n f)] : va_W) = [(q, ar cI n g)] := by
  simp only [ar]
  rw [gd_congr h]

set_option maxHeartbeats 4000000 in
set_option maxRecDepth 100000 in
theorem c_fill (l : Launch) (D : va_G) {cI cB : ClassId} (q n x : Nat) (f : Nat → Nat) (hn : n < 2 ^ 31) (sz : Nat) : Met l yJ7_fill_53178 wsJ7_fill_53178 ({ frames := 0, cells := 0, slots := 0, locals := 0 }) (va_Pc [.ref (q), .int (nI (x))] (x_U D (tyP cI cB) ([(q, ar cI n f)]) sz)) (va_Qv (fun (_ : Unit) => True) (fun u t => x_E D (tyP cI cB) (va_A ([(q, ar cI n f)]) sz) ([(q, ar cI n (fun _ => x))]) t) (va_A ([(q, ar cI n f)]) sz)) 0 0 (va_A ([(q, ar cI n f)]) sz) := by
  refine Met.ofW (cc := cJ7_fill_53178) (maxL := 4) (ret := none) (by decide) rfl ?_
  intro p e s m args below meth c s₁ B hml hv
  obtain ⟨rfl, hsz, hN, hP, hK, hD0⟩ := hv
  have hx := B.exec
  have hb := B.bytes
  have hr := B.returns
  have hts := atoms_spec (ws := wsJ7_fill_53178) B.pre
  have hown : s.vm.findClass RJ7 = some m.cls := findClass_of_methodNamed B.named
  have hlocks := B.notSynchronized
  subst hsz
  have hD := hD0.self (sz := s.heap.size)
  generalize hAe : va_A ([(q, ar cI n f)]) s.heap.size = A at hD ⊢
  have hA : ∀ q : Nat, s.heap.size ≤ q → A q := fun q h => by rw [← hAe]; exact Or.inr h
  obtain ⟨H, hH⟩ : ∃ H : Heap, s.heap = H := ⟨_, rfl⟩
  obtain ⟨locs, hlo⟩ : ∃ L : List Loc, ([] : List Loc) = L := ⟨_, rfl⟩
  have hS : va_S A s.heap H locs := by rw [← hH, ← hlo]; exact va_S.rf
  have hP : va_P D vwCl ([(q, ar cI n f)]) H := hH ▸ hP
  rw [hH, hlo]
  have hl := lv_entry ([.ref (q), .int (nI (x))]) (n := 4) (Nat.le_of_ble_eq_true rfl)
  rw [lg_entry_eq]
  generalize (lg_sl ([.ref (q), .int (nI (x))]) ++ List.replicate (4 - (lg_sl ([.ref (q), .int (nI (x))])).length) Slot.unset).toArray = ls at hl ⊢
  have hl : lv_has ls 4 [(0, .ref (q)), (1, .int (nI (x)))] := hl
  refine lv_iconst (v := nI 0) hx hb dJ7_fill_53178_0 (by decide) ?_
  refine lv_istore_n (lv' := [(2, .int (nI (0))), (0, .ref (q)), (1, .int (nI (x)))]) hx hb dJ7_fill_53178_1 rfl hl (by decide) rfl (fun ls hl => ?_)
  refine lv_aload_n hx hb dJ7_fill_53178_2 rfl (lv_at hl 1 rfl) ?_
  refine va_alen hx hb hK hP 0 0 rfl rfl (v := nI (n)) rfl dJ7_fill_53178_3 ?_
  refine lv_istore_n (lv' := [(3, .int (nI (n))), (2, .int (nI (0))), (0, .ref (q)), (1, .int (nI (x)))]) hx hb dJ7_fill_53178_4 rfl hl (by decide) rfl (fun ls hl => ?_)
  have hq9 : ([(q, ar cI n f)] : va_W) = [(q, ar cI n (fun j => if j < 0 then x else f j))] := (rw_row (fun j hj => (if_neg (Nat.not_lt_zero j)).symm))
  refine lpW (α := Nat) (fun k H locs => (k ≤ n) ∧ va_P D vwCl ([(q, ar cI n (fun j => if j < k then x else f j))]) H ∧ va_D A ([(q, ar cI n (fun j => if j < k then x else f j))]) ∧ va_S A s.heap H locs) (fun k => [(0, .ref (q)), (1, .int (nI (x))), (2, .int (nI (k))), (3, .int (nI (n)))]) 4 (fun k => n - k) 0 (⟨by omega, va_P.eqw hq9 hP, va_D.eqw hq9 hD, hS⟩) (lv_sub hl [2, 3, 1, 0] rfl) (fun s9 H locs ls hI9 hl9 ih_5 => ?_)
  obtain ⟨k, rfl⟩ : ∃ z, z = s9 := ⟨_, rfl⟩
  have hl : lv_has ls 4 [(0, .ref (q)), (1, .int (nI (x))), (2, .int (nI (k))), (3, .int (nI (n)))] := hl9
  obtain ⟨hk, hP, hD, hS⟩ : (k ≤ n) ∧ va_P D vwCl ([(q, ar cI n (fun j => if j < k then x else f j))]) H ∧ va_D A ([(q, ar cI n (fun j => if j < k then x else f j))]) ∧ va_S A s.heap H locs := hI9
  refine lv_iload_n hx hb dJ7_fill_53178_5 rfl (lv_at hl 2 rfl) ?_
  refine lv_iload_n hx hb dJ7_fill_53178_6 rfl (lv_at hl 3 rfl) ?_
  refine xi_ge (tgt := 20) hx hb dJ7_fill_53178_7 (by decide) (nI_toInt (by omega)) (nI_toInt (by omega)) (fun c_7 => ?_) (fun c_7 => ?_)
  · have hq9 : ([(q, ar cI n (fun j => if j < k then x else f j))] : va_W) = [(q, ar cI n (fun _ => x))] := (rw_row (fun j hj => if_pos (show j < k by omega)))
    exact xf_v (post := fun (_ : Unit) => True) (w1 := fun (_ : Unit) => [(q, ar cI n (fun _ => x))]) () hx hb hr hlocks (trivial) (va_P.eqw hq9 hP) hK (va_D.eqw hq9 hD) hS dJ7_fill_53178_20
  · refine lv_aload_n hx hb dJ7_fill_53178_10 rfl (lv_at hl 0 rfl) ?_
    refine lv_iload_n hx hb dJ7_fill_53178_11 rfl (lv_at hl 2 rfl) ?_
    refine lv_iload_n hx hb dJ7_fill_53178_12 rfl (lv_at hl 1 rfl) ?_
    refine xr_iast hx hb hK hP hD hS 0 0 rfl rfl (by omega) (by omega) dJ7_fill_53178_13 (fun H locs hP hD hS => ?_)
    have hP : va_P D vwCl ([(q, ar cI n (up (fun j => if j < k then x else f j) (k) (x)))]) H := hP
    have hD : va_D A ([(q, ar cI n (up (fun j => if j < k then x else f j) (k) (x)))]) := hD
    refine lv_iinc (v := nI (k + 1)) (lv' := [(2, .int (nI (k + 1))), (0, .ref (q)), (1, .int (nI (x))), (3, .int (nI (n)))]) hx hb dJ7_fill_53178_14 hl (k := 2) rfl (nI_add _ _) (by decide) rfl (fun ls hl => ?_)
    refine lv_goto (tgt := 5) hx hb dJ7_fill_53178_17 (by decide) ?_
    have hq9 : ([(q, ar cI n (up (fun j => if j < k then x else f j) (k) (x)))] : va_W) = [(q, ar cI n (fun j => if j < (k + 1) then x else f j))] := (rw_row (fun j hj => by simp only [up]; (repeat' split) <;> first | rfl | omega | (exfalso; omega)))
    exact ih_5 (k + 1) _ _ _ (⟨by omega, va_P.eqw hq9 hP, va_D.eqw hq9 hD, hS⟩) (by first | omega | (dsimp only; omega)) (lv_sub hl [1, 2, 0, 3] rfl)

set_option maxHeartbeats 4000000 in
set_option maxRecDepth 100000 in
theorem c_X1_clear (l : Launch) (D : va_G) {cI cB : ClassId} (q0 q1 : Nat) (O : Nat → Nat) (hO0 : O 0 < 65536) (sz : Nat) : Met l yX1_clear wsX1_clear ({ frames := 1, cells := 0, slots := 0, locals := 23 }) (va_Pc [.ref (q0)] (x_U D (tyP cI cB) (eW cI (q0) (q1) O) sz)) (va_Qv (fun (_ : Unit) => True) (fun u t => x_E D (tyP cI cB) (va_A (eW cI (q0) (q1) O) sz) (eW cI q0 q1 (fun _ => 0)) t) (va_A (eW cI (q0) (q1) O) sz)) 0 0 (va_A (eW cI (q0) (q1) O) sz) := by
  refine Met.ofW (cc := cX1_clear) (maxL := 1) (ret := none) (by decide) rfl ?_
  intro p e s m args below meth c s₁ B hml hv
  obtain ⟨rfl, hsz, hN, hP, hK, hD0⟩ := hv
  have hx := B.exec
  have hb := B.bytes
  have hr := B.returns
  have hts := atoms_spec (ws := wsX1_clear) B.pre
  have hown : s.vm.findClass RX1 = some m.cls := findClass_of_methodNamed B.named
  have hlocks := B.notSynchronized
  subst hsz
  have hD := hD0.self (sz := s.heap.size)
  generalize hAe : va_A (eW cI (q0) (q1) O) s.heap.size = A at hD ⊢
  have hA : ∀ q : Nat, s.heap.size ≤ q → A q := fun q h => by rw [← hAe]; exact Or.inr h
  obtain ⟨H, hH⟩ : ∃ H : Heap, s.heap = H := ⟨_, rfl⟩
  obtain ⟨locs, hlo⟩ : ∃ L : List Loc, ([] : List Loc) = L := ⟨_, rfl⟩
  have hS : va_S A s.heap H locs := by rw [← hH, ← hlo]; exact va_S.rf
  have hP : va_P D vwCl (eW cI (q0) (q1) O) H := hH ▸ hP
  rw [hH, hlo]
  have hiX1 : ∀ w ∈ u_ws RX1 TX1 1, w ∈ wsX1_clear := by decide +kernel
  have hl := lv_entry ([.ref (q0)]) (n := 1) (Nat.le_of_ble_eq_true rfl)
  rw [lg_entry_eq]
  generalize (lg_sl ([.ref (q0)]) ++ List.replicate (1 - (lg_sl ([.ref (q0)])).length) Slot.unset).toArray = ls at hl ⊢
  have hl : lv_has ls 1 [(0, .ref (q0))] := hl
  refine lv_aload_n hx hb dX1_clear_0 rfl (lv_at hl 0 rfl) ?_
  refine va_get (D := D) (ci := 1) (v := .ref (q1)) (C := RX1) (T := TX1) (N := 1) hx hb hts hiX1 hown hK hP 0 rfl rfl 0 (by decide) (hts (.fieldLink RX1 9 "PairedCells$EventPage" "bytes" "[I") (by decide +kernel)) (fun _ h9 => h9) rfl dX1_clear_1 ?_
  refine lv_iconst (v := nI 0) hx hb dX1_clear_4 (by decide) ?_
  have hF9 := x_hF (hD.sub (ws' := [(q1, ar cI 16 O)]) [1] (by decide) rfl) hS hA
  refine xw_Sv (rest := []) (As := [.ref (q1), .int (nI (0))]) ⟨hx, hb, hml, hown, hts⟩ (c_fill l D q1 16 0 O (by decide) H.size) (va_cwS 2 hts gX1_clear_J7_fill_53178 rfl rfl rfl (by decide +kernel) ⟨Nat.le_of_ble_eq_true rfl, Nat.le_of_ble_eq_true rfl⟩) hN hK (hP.sub (ws' := [(q1, ar cI 16 O)]) [1] rfl) (hD.sub (ws' := [(q1, ar cI 16 O)]) [1] (by decide) rfl) hS hA rfl hl.1 rfl (Nat.le_of_ble_eq_true rfl) dX1_clear_5 ⟨Nat.le_of_ble_eq_true rfl, Nat.le_of_ble_eq_true rfl⟩ (fun u_5 H1 locs hw_5 hP1 hD1 hDA hk9 hS => ?_)
  obtain ⟨hP, hD⟩ := va_join (wr := [(q0, .inr (1, [.ref q1]))]) hP hD [1] [0] rfl rfl (by decide) (by decide) hk9 hF9 hP1 hD1
  generalize H1 = H at hP hS ⊢
  have hP : va_P D vwCl (eW cI (q0) (q1) (fun _ => 0)) H := hP
  have hD : va_D A (eW cI (q0) (q1) (fun _ => 0)) := hD
  exact xf_v (post := fun (_ : Unit) => True) (w1 := fun (_ : Unit) => eW cI q0 q1 (fun _ => 0)) () hx hb hr hlocks (trivial) hP hK hD hS dX1_clear_8

set_option maxHeartbeats 4000000 in
set_option maxRecDepth 100000 in
theorem c_X1_events (l : Launch) (D : va_G) {cI cB : ClassId} (q0 q1 : Nat) (O : Nat → Nat) (hO0 : O 0 < 65536) : Met l yX1_events wsX1_events ({ frames := 0, cells := 0, slots := 0, locals := 0 }) (va_Pc [.ref (q0)] (x_R D (tyP cI cB) (eW cI (q0) (q1) O))) (vp_Si (fun r => r = nI (O 0))) 0 0 (fun _ => False) := by
  refine Met.ofW (cc := cX1_events) (maxL := 1) (ret := (some .int)) (by decide) rfl ?_
  intro p e s m args below meth c s₁ B hml hv
  obtain ⟨rfl, hN, hP, hK⟩ := hv
  have hx := B.exec
  have hb := B.bytes
  have hr := B.returns
  have hts := atoms_spec (ws := wsX1_events) B.pre
  have hown : s.vm.findClass RX1 = some m.cls := findClass_of_methodNamed B.named
  have hlocks := B.notSynchronized
  have hiX1 : ∀ w ∈ u_ws RX1 TX1 1, w ∈ wsX1_events := by decide +kernel
  have hl := lv_entry ([.ref (q0)]) (n := 1) (Nat.le_of_ble_eq_true rfl)
  rw [lg_entry_eq]
  generalize (lg_sl ([.ref (q0)]) ++ List.replicate (1 - (lg_sl ([.ref (q0)])).length) Slot.unset).toArray = ls at hl ⊢
  have hl : lv_has ls 1 [(0, .ref (q0))] := hl
  refine lv_aload_n hx hb dX1_events_0 rfl (lv_at hl 0 rfl) ?_
  refine va_get (D := D) (ci := 1) (v := .ref (q1)) (C := RX1) (T := TX1) (N := 1) hx hb hts hiX1 hown hK hP 0 rfl rfl 0 (by decide) (hts (.fieldLink RX1 9 "PairedCells$EventPage" "bytes" "[I") (by decide +kernel)) (fun _ h9 => h9) rfl dX1_events_1 ?_
  refine lv_iconst (v := nI 0) hx hb dX1_events_4 (by decide) ?_
  refine xr_iald hx hb hK hP 1 0 rfl rfl (by omega) (by decide) dX1_events_5 ?_
  exact xe_i hx hb hr hlocks (rfl) rfl rfl dX1_events_6

set_option maxHeartbeats 4000000 in
set_option maxRecDepth 100000 in
theorem c_X1_isEmpty (l : Launch) (D : va_G) {cI cB : ClassId} (q0 q1 : Nat) (O : Nat → Nat) (hO0 : O 0 < 65536) : Met l yX1_isEmpty wsX1_isEmpty ({ frames := 1, cells := 0, slots := 0, locals := 20 }) (va_Pc [.ref (q0)] (x_R D (tyP cI cB) (eW cI (q0) (q1) O))) (vp_Si (fun r => bo r (O 0 = 0))) 0 0 (fun _ => False) := by
  refine Met.ofW (cc := cX1_isEmpty) (maxL := 1) (ret := (some .boolean)) (by decide) rfl ?_
  intro p e s m args below meth c s₁ B hml hv
  obtain ⟨rfl, hN, hP, hK⟩ := hv
  have hx := B.exec
  have hb := B.bytes
  have hr := B.returns
  have hts := atoms_spec (ws := wsX1_isEmpty) B.pre
  have hown : s.vm.findClass RX1 = some m.cls := findClass_of_methodNamed B.named
  have hlocks := B.notSynchronized
  have hl := lv_entry ([.ref (q0)]) (n := 1) (Nat.le_of_ble_eq_true rfl)
  rw [lg_entry_eq]
  generalize (lg_sl ([.ref (q0)]) ++ List.replicate (1 - (lg_sl ([.ref (q0)])).length) Slot.unset).toArray = ls at hl ⊢
  have hl : lv_has ls 1 [(0, .ref (q0))] := hl
  refine lv_aload_n hx hb dX1_isEmpty_0 rfl (lv_at hl 0 rfl) ?_
  refine xc_Vi (ci := 1) (rest := []) (As := []) ⟨hx, hb, hml, hown, hts⟩ (c_X1_events l D q0 q1 O hO0) (cwV 0 hts gX1_isEmpty_X1_events rfl rfl rfl (by decide +kernel) ⟨Nat.le_of_ble_eq_true rfl, Nat.le_of_ble_eq_true rfl⟩) hN hK (hP) rfl 0 rfl rfl hl.1 rfl (Nat.le_of_ble_eq_true rfl) dX1_isEmpty_1 ⟨Nat.le_of_ble_eq_true rfl, Nat.le_of_ble_eq_true rfl⟩ (fun r_1 hw_1 => ?_)
  subst hw_1
  refine xz_ne (tgt := 11) hx hb dX1_isEmpty_4 (by decide) (nI_toInt (by omega)) (fun c_4 => ?_) (fun c_4 => ?_)
  · refine lv_iconst (v := nI 0) hx hb dX1_isEmpty_11 (by decide) ?_
    exact xe_z hx hb hr hlocks rfl (bo.zero (by omega)) rfl rfl dX1_isEmpty_12
  · refine lv_iconst (v := nI 1) hx hb dX1_isEmpty_7 (by decide) ?_
    refine lv_goto (tgt := 12) hx hb dX1_isEmpty_8 (by decide) ?_
    exact xe_z hx hb hr hlocks rfl (bo.one (by omega)) rfl rfl dX1_isEmpty_12

set_option maxHeartbeats 4000000 in
set_option maxRecDepth 100000 in
theorem c_X1_firstNumber (l : Launch) (D : va_G) {cI cB : ClassId} (q0 q1 : Nat) (O : Nat → Nat) (hO0 : O 0 < 65536) (hO1 : O 1 < 256) (hO2 : O 2 < 256) : Met l yX1_firstNumber wsX1_firstNumber ({ frames := 0, cells := 0, slots := 0, locals := 0 }) (va_Pc [.ref (q0)] (x_R D (tyP cI cB) (eW cI (q0) (q1) O))) (vp_Si (fun r => r = nI ((256 * O 1 + O 2)))) 0 0 (fun _ => False) := by
  refine Met.ofW (cc := cX1_firstNumber) (maxL := 1) (ret := (some .int)) (by decide) rfl ?_
  intro p e s m args below meth c s₁ B hml hv
  obtain ⟨rfl, hN, hP, hK⟩ := hv
  have hx := B.exec
  have hb := B.bytes
  have hr := B.returns
  have hts := atoms_spec (ws := wsX1_firstNumber) B.pre
  have hown : s.vm.findClass RX1 = some m.cls := findClass_of_methodNamed B.named
  have hlocks := B.notSynchronized
  have hiX1 : ∀ w ∈ u_ws RX1 TX1 1, w ∈ wsX1_firstNumber := by decide +kernel
  have hl := lv_entry ([.ref (q0)]) (n := 1) (Nat.le_of_ble_eq_true rfl)
  rw [lg_entry_eq]
  generalize (lg_sl ([.ref (q0)]) ++ List.replicate (1 - (lg_sl ([.ref (q0)])).length) Slot.unset).toArray = ls at hl ⊢
  have hl : lv_has ls 1 [(0, .ref (q0))] := hl
  refine lv_aload_n hx hb dX1_firstNumber_0 rfl (lv_at hl 0 rfl) ?_
  refine va_get (D := D) (ci := 1) (v := .ref (q1)) (C := RX1) (T := TX1) (N := 1) hx hb hts hiX1 hown hK hP 0 rfl rfl 0 (by decide) (hts (.fieldLink RX1 9 "PairedCells$EventPage" "bytes" "[I") (by decide +kernel)) (fun _ h9 => h9) rfl dX1_firstNumber_1 ?_
  refine lv_iconst (v := nI 1) hx hb dX1_firstNumber_4 (by decide) ?_
  refine xr_iald hx hb hK hP 1 0 rfl rfl (by omega) (by decide) dX1_firstNumber_5 ?_
  refine lv_bipush (v := nI 8) hx hb dX1_firstNumber_6 (by decide) ?_
  refine xr_shl hx hb (by omega) (by omega) dX1_firstNumber_8 ?_
  refine lv_aload_n hx hb dX1_firstNumber_9 rfl (lv_at hl 0 rfl) ?_
  refine va_get (D := D) (ci := 1) (v := .ref (q1)) (C := RX1) (T := TX1) (N := 1) hx hb hts hiX1 hown hK hP 0 rfl rfl 0 (by decide) (hts (.fieldLink RX1 9 "PairedCells$EventPage" "bytes" "[I") (by decide +kernel)) (fun _ h9 => h9) rfl dX1_firstNumber_10 ?_
  refine lv_iconst (v := nI 2) hx hb dX1_firstNumber_13 (by decide) ?_
  refine xr_iald hx hb hK hP 1 0 rfl rfl (by omega) (by decide) dX1_firstNumber_14 ?_
  refine xr_or hx hb dX1_firstNumber_15 ?_
  refine xr_nat (x' := 256 * O 1 + O 2) (xl_fst hO2) ?_
  exact xe_i hx hb hr hlocks (rfl) rfl rfl dX1_firstNumber_16

set_option maxHeartbeats 4000000 in
set_option maxRecDepth 100000 in
theorem c_X1_lastNumber (l : Launch) (D : va_G) {cI cB : ClassId} (q0 q1 : Nat) (O : Nat → Nat) (hO0 : O 0 < 65536) (hO1 : O 1 < 256) (hO2 : O 2 < 256) : Met l yX1_lastNumber wsX1_lastNumber ({ frames := 1, cells := 0, slots := 0, locals := 20 }) (va_Pc [.ref (q0)] (x_R D (tyP cI cB) (eW cI (q0) (q1) O))) (vp_Si (fun r => r = mI ((256 * O 1 + O 2) + O 0))) 0 0 (fun _ => False) := by
  refine Met.ofW (cc := cX1_lastNumber) (maxL := 1) (ret := (some .int)) (by decide) rfl ?_
  intro p e s m args below meth c s₁ B hml hv
  obtain ⟨rfl, hN, hP, hK⟩ := hv
  have hx := B.exec
  have hb := B.bytes
  have hr := B.returns
  have hts := atoms_spec (ws := wsX1_lastNumber) B.pre
  have hown : s.vm.findClass RX1 = some m.cls := findClass_of_methodNamed B.named
  have hlocks := B.notSynchronized
  have hl := lv_entry ([.ref (q0)]) (n := 1) (Nat.le_of_ble_eq_true rfl)
  rw [lg_entry_eq]
  generalize (lg_sl ([.ref (q0)]) ++ List.replicate (1 - (lg_sl ([.ref (q0)])).length) Slot.unset).toArray = ls at hl ⊢
  have hl : lv_has ls 1 [(0, .ref (q0))] := hl
  refine lv_aload_n hx hb dX1_lastNumber_0 rfl (lv_at hl 0 rfl) ?_
  refine xc_Vi (ci := 1) (rest := []) (As := []) ⟨hx, hb, hml, hown, hts⟩ (c_X1_firstNumber l D q0 q1 O hO0 hO1 hO2) (cwV 0 hts gX1_lastNumber_X1_firstNumber rfl rfl rfl (by decide +kernel) ⟨Nat.le_of_ble_eq_true rfl, Nat.le_of_ble_eq_true rfl⟩) hN hK (hP) rfl 0 rfl rfl hl.1 rfl (Nat.le_of_ble_eq_true rfl) dX1_lastNumber_1 ⟨Nat.le_of_ble_eq_true rfl, Nat.le_of_ble_eq_true rfl⟩ (fun r_1 hw_1 => ?_)
  subst hw_1
  refine lv_aload_n hx hb dX1_lastNumber_4 rfl (lv_at hl 0 rfl) ?_
  refine xc_Vi (ci := 1) (rest := [.int (nI (256 * O 1 + O 2))]) (As := []) ⟨hx, hb, hml, hown, hts⟩ (c_X1_events l D q0 q1 O hO0) (cwV 0 hts gX1_lastNumber_X1_events rfl rfl rfl (by decide +kernel) ⟨Nat.le_of_ble_eq_true rfl, Nat.le_of_ble_eq_true rfl⟩) hN hK (hP) rfl 0 rfl rfl hl.1 rfl (Nat.le_of_ble_eq_true rfl) dX1_lastNumber_5 ⟨Nat.le_of_ble_eq_true rfl, Nat.le_of_ble_eq_true rfl⟩ (fun r_5 hw_5 => ?_)
  subst hw_5
  refine xr_add hx hb dX1_lastNumber_8 ?_
  refine lv_iconst (v := nI 1) hx hb dX1_lastNumber_9 (by decide) ?_
  refine xr_subm hx hb dX1_lastNumber_10 ?_
  exact xe_i hx hb hr hlocks (rfl) rfl rfl dX1_lastNumber_11

set_option maxHeartbeats 4000000 in
set_option maxRecDepth 100000 in
theorem c_X1_holds (l : Launch) (D : va_G) {cI cB : ClassId} (q0 q1 : Nat) (O : Nat → Nat) (hO0 : O 0 < 65536) (hO1 : O 1 < 256) (hO2 : O 2 < 256) (k : Nat) (hk : k < 65536) : Met l yX1_holds wsX1_holds ({ frames := 2, cells := 0, slots := 0, locals := 40 }) (va_Pc [.ref (q0), .int (nI (k))] (x_R D (tyP cI cB) (eW cI (q0) (q1) O))) (vp_Si (fun r => bo r (O 0 ≠ 0 ∧ (256 * O 1 + O 2) ≤ k ∧ k < (256 * O 1 + O 2) + O 0))) 0 0 (fun _ => False) := by
  refine Met.ofW (cc := cX1_holds) (maxL := 2) (ret := (some .boolean)) (by decide) rfl ?_
  intro p e s m args below meth c s₁ B hml hv
  obtain ⟨rfl, hN, hP, hK⟩ := hv
  have hx := B.exec
  have hb := B.bytes
  have hr := B.returns
  have hts := atoms_spec (ws := wsX1_holds) B.pre
  have hown : s.vm.findClass RX1 = some m.cls := findClass_of_methodNamed B.named
  have hlocks := B.notSynchronized
  have hl := lv_entry ([.ref (q0), .int (nI (k))]) (n := 2) (Nat.le_of_ble_eq_true rfl)
  rw [lg_entry_eq]
  generalize (lg_sl ([.ref (q0), .int (nI (k))]) ++ List.replicate (2 - (lg_sl ([.ref (q0), .int (nI (k))])).length) Slot.unset).toArray = ls at hl ⊢
  have hl : lv_has ls 2 [(0, .ref (q0)), (1, .int (nI (k)))] := hl
  refine lv_aload_n hx hb dX1_holds_0 rfl (lv_at hl 0 rfl) ?_
  refine xc_Vi (ci := 1) (rest := []) (As := []) ⟨hx, hb, hml, hown, hts⟩ (c_X1_isEmpty l D q0 q1 O hO0) (cwV 0 hts gX1_holds_X1_isEmpty rfl rfl rfl (by decide +kernel) ⟨Nat.le_of_ble_eq_true rfl, Nat.le_of_ble_eq_true rfl⟩) hN hK (hP) rfl 0 rfl rfl hl.1 rfl (Nat.le_of_ble_eq_true rfl) dX1_holds_1 ⟨Nat.le_of_ble_eq_true rfl, Nat.le_of_ble_eq_true rfl⟩ (fun r_1 hw_1 => ?_)
  refine xz_ne (tgt := 27) hx hb dX1_holds_4 (by decide) rfl (fun c_4 => ?_) (fun c_4 => ?_)
  · have h_4 := bo.t hw_1 c_4
    refine lv_iconst (v := nI 0) hx hb dX1_holds_27 (by decide) ?_
    exact xe_z hx hb hr hlocks rfl (bo.zero (by omega)) rfl rfl dX1_holds_28
  · have h_4 := bo.f hw_1 c_4
    refine lv_iload_n hx hb dX1_holds_7 rfl (lv_at hl 1 rfl) ?_
    refine lv_aload_n hx hb dX1_holds_8 rfl (lv_at hl 0 rfl) ?_
    refine xc_Vi (ci := 1) (rest := [.int (nI (k))]) (As := []) ⟨hx, hb, hml, hown, hts⟩ (c_X1_firstNumber l D q0 q1 O hO0 hO1 hO2) (cwV 0 hts gX1_holds_X1_firstNumber rfl rfl rfl (by decide +kernel) ⟨Nat.le_of_ble_eq_true rfl, Nat.le_of_ble_eq_true rfl⟩) hN hK (hP) rfl 0 rfl rfl hl.1 rfl (Nat.le_of_ble_eq_true rfl) dX1_holds_9 ⟨Nat.le_of_ble_eq_true rfl, Nat.le_of_ble_eq_true rfl⟩ (fun r_9 hw_9 => ?_)
    subst hw_9
    refine xi_lt (tgt := 27) hx hb dX1_holds_12 (by decide) (nI_toInt (by omega)) (nI_toInt (by omega)) (fun c_12 => ?_) (fun c_12 => ?_)
    · refine lv_iconst (v := nI 0) hx hb dX1_holds_27 (by decide) ?_
      exact xe_z hx hb hr hlocks rfl (bo.zero (by omega)) rfl rfl dX1_holds_28
    · refine lv_iload_n hx hb dX1_holds_15 rfl (lv_at hl 1 rfl) ?_
      refine lv_aload_n hx hb dX1_holds_16 rfl (lv_at hl 0 rfl) ?_
      refine xc_Vi (ci := 1) (rest := [.int (nI (k))]) (As := []) ⟨hx, hb, hml, hown, hts⟩ (c_X1_lastNumber l D q0 q1 O hO0 hO1 hO2) (cwV 0 hts gX1_holds_X1_lastNumber rfl rfl rfl (by decide +kernel) ⟨Nat.le_of_ble_eq_true rfl, Nat.le_of_ble_eq_true rfl⟩) hN hK (hP) rfl 0 rfl rfl hl.1 rfl (Nat.le_of_ble_eq_true rfl) dX1_holds_17 ⟨Nat.le_of_ble_eq_true rfl, Nat.le_of_ble_eq_true rfl⟩ (fun r_17 hw_17 => ?_)
      subst hw_17
      refine xi_gt (tgt := 27) hx hb dX1_holds_20 (by decide) (nI_toInt (by omega)) (mI_toInt (by omega)) (fun c_20 => ?_) (fun c_20 => ?_)
      · refine lv_iconst (v := nI 0) hx hb dX1_holds_27 (by decide) ?_
        exact xe_z hx hb hr hlocks rfl (bo.zero (by omega)) rfl rfl dX1_holds_28
      · refine lv_iconst (v := nI 1) hx hb dX1_holds_23 (by decide) ?_
        refine lv_goto (tgt := 28) hx hb dX1_holds_24 (by decide) ?_
        exact xe_z hx hb hr hlocks rfl (bo.one (by omega)) rfl rfl dX1_holds_28

set_option maxHeartbeats 4000000 in
set_option maxRecDepth 100000 in
theorem c_X1_placeOfRow (l : Launch) (D : va_G) {cI cB : ClassId} (q0 q1 : Nat) (O : Nat → Nat) (hO0 : O 0 < 65536) (hw : wf O) (i : Nat) (hi : i ≤ O 0) : Met l yX1_placeOfRow wsX1_placeOfRow ({ frames := 0, cells := 0, slots := 0, locals := 0 }) (va_Pc [.ref (q0), .int (nI (i))] (x_R D (tyP cI cB) (eW cI (q0) (q1) O))) (vp_Si (fun r => r = nI (pl O i))) 0 0 (fun _ => False) := by
  refine Met.ofW (cc := cX1_placeOfRow) (maxL := 4) (ret := (some .int)) (by decide) rfl ?_
  intro p e s m args below meth c s₁ B hml hv
  obtain ⟨rfl, hN, hP, hK⟩ := hv
  have hx := B.exec
  have hb := B.bytes
  have hr := B.returns
  have hts := atoms_spec (ws := wsX1_placeOfRow) B.pre
  have hown : s.vm.findClass RX1 = some m.cls := findClass_of_methodNamed B.named
  have hlocks := B.notSynchronized
  have hiX1 : ∀ w ∈ u_ws RX1 TX1 1, w ∈ wsX1_placeOfRow := by decide +kernel
  have hl := lv_entry ([.ref (q0), .int (nI (i))]) (n := 4) (Nat.le_of_ble_eq_true rfl)
  rw [lg_entry_eq]
  generalize (lg_sl ([.ref (q0), .int (nI (i))]) ++ List.replicate (4 - (lg_sl ([.ref (q0), .int (nI (i))])).length) Slot.unset).toArray = ls at hl ⊢
  have hl : lv_has ls 4 [(0, .ref (q0)), (1, .int (nI (i)))] := hl
  have hO9 := hw.1
  refine lv_iconst (v := nI 3) hx hb dX1_placeOfRow_0 (by decide) ?_
  refine lv_istore_n (lv' := [(2, .int (nI (3))), (0, .ref (q0)), (1, .int (nI (i)))]) hx hb dX1_placeOfRow_1 rfl hl (by decide) rfl (fun ls hl => ?_)
  refine lv_iconst (v := nI 0) hx hb dX1_placeOfRow_2 (by decide) ?_
  refine lv_istore_n (lv' := [(3, .int (nI (0))), (2, .int (nI (3))), (0, .ref (q0)), (1, .int (nI (i)))]) hx hb dX1_placeOfRow_3 rfl hl (by decide) rfl (fun ls hl => ?_)
  refine lpR (α := Nat) (fun k => k ≤ i) (fun k => [(0, .ref (q0)), (1, .int (nI (i))), (2, .int (nI (pl O k))), (3, .int (nI (k)))]) 4 (fun k => i - k) 0 (by omega) (lv_sub hl [2, 3, 1, 0] rfl) (fun s9 ls hI9 hl9 ih_4 => ?_)
  obtain ⟨k, rfl⟩ : ∃ z, z = s9 := ⟨_, rfl⟩
  have hl : lv_has ls 4 [(0, .ref (q0)), (1, .int (nI (i))), (2, .int (nI (pl O k))), (3, .int (nI (k)))] := hl9
  obtain hk : k ≤ i := hI9
  refine lv_iload_n hx hb dX1_placeOfRow_4 rfl (lv_at hl 3 rfl) ?_
  refine lv_iload_n hx hb dX1_placeOfRow_5 rfl (lv_at hl 1 rfl) ?_
  refine xi_ge (tgt := 26) hx hb dX1_placeOfRow_6 (by decide) (nI_toInt (by omega)) (nI_toInt (by omega)) (fun c_6 => ?_) (fun c_6 => ?_)
  · refine lv_iload_n hx hb dX1_placeOfRow_26 rfl (lv_at hl 2 rfl) ?_
    exact xe_i hx hb hr hlocks (by rw [show k = i by omega]) rfl rfl dX1_placeOfRow_27
  · have hp9 := pl_lt hw (show k < O 0 by omega)
    refine lv_iload_n hx hb dX1_placeOfRow_9 rfl (lv_at hl 2 rfl) ?_
    refine lv_iconst (v := nI 1) hx hb dX1_placeOfRow_10 (by decide) ?_
    refine lv_aload_n hx hb dX1_placeOfRow_11 rfl (lv_at hl 0 rfl) ?_
    refine va_get (D := D) (ci := 1) (v := .ref (q1)) (C := RX1) (T := TX1) (N := 1) hx hb hts hiX1 hown hK hP 0 rfl rfl 0 (by decide) (hts (.fieldLink RX1 9 "PairedCells$EventPage" "bytes" "[I") (by decide +kernel)) (fun _ h9 => h9) rfl dX1_placeOfRow_12 ?_
    refine lv_iload_n hx hb dX1_placeOfRow_15 rfl (lv_at hl 2 rfl) ?_
    refine xr_iald hx hb hK hP 1 0 rfl rfl (by omega) (by decide) dX1_placeOfRow_16 ?_
    refine xr_add hx hb dX1_placeOfRow_17 ?_
    refine xr_add hx hb dX1_placeOfRow_18 ?_
    refine xr_nat (x' := pl O (k + 1)) (by show _ = pl O k + 1 + O (pl O k); omega) ?_
    refine lv_istore_n (lv' := [(2, .int (nI (pl O (k + 1)))), (0, .ref (q0)), (1, .int (nI (i))), (3, .int (nI (k)))]) hx hb dX1_placeOfRow_19 rfl hl (by decide) rfl (fun ls hl => ?_)
    refine lv_iinc (v := nI (k + 1)) (lv' := [(3, .int (nI (k + 1))), (2, .int (nI (pl O (k + 1)))), (0, .ref (q0)), (1, .int (nI (i)))]) hx hb dX1_placeOfRow_20 hl (k := 3) rfl (nI_add _ _) (by decide) rfl (fun ls hl => ?_)
    refine lv_goto (tgt := 4) hx hb dX1_placeOfRow_23 (by decide) ?_
    exact ih_4 (k + 1) _ (by omega) (by first | omega | (dsimp only; omega)) (lv_sub hl [2, 3, 1, 0] rfl)

set_option maxHeartbeats 4000000 in
set_option maxRecDepth 100000 in
theorem c_X1_fits (l : Launch) (D : va_G) {cI cB : ClassId} (q0 q1 : Nat) (O : Nat → Nat) (hO0 : O 0 < 65536) (hw : wf O) (k : Nat) (hk : k < 65536) : Met l yX1_fits wsX1_fits ({ frames := 1, cells := 0, slots := 0, locals := 23 }) (va_Pc [.ref (q0), .int (nI (k))] (x_R D (tyP cI cB) (eW cI (q0) (q1) O))) (vp_Si (fun r => bo r (pl O (O 0) + 1 + k ≤ 16))) 0 0 (fun _ => False) := by
  refine Met.ofW (cc := cX1_fits) (maxL := 2) (ret := (some .boolean)) (by decide) rfl ?_
  intro p e s m args below meth c s₁ B hml hv
  obtain ⟨rfl, hN, hP, hK⟩ := hv
  have hx := B.exec
  have hb := B.bytes
  have hr := B.returns
  have hts := atoms_spec (ws := wsX1_fits) B.pre
  have hown : s.vm.findClass RX1 = some m.cls := findClass_of_methodNamed B.named
  have hlocks := B.notSynchronized
  have hl := lv_entry ([.ref (q0), .int (nI (k))]) (n := 2) (Nat.le_of_ble_eq_true rfl)
  rw [lg_entry_eq]
  generalize (lg_sl ([.ref (q0), .int (nI (k))]) ++ List.replicate (2 - (lg_sl ([.ref (q0), .int (nI (k))])).length) Slot.unset).toArray = ls at hl ⊢
  have hl : lv_has ls 2 [(0, .ref (q0)), (1, .int (nI (k)))] := hl
  have hp9 := pl_le hw (O 0) (Nat.le_refl _)
  refine lv_aload_n hx hb dX1_fits_0 rfl (lv_at hl 0 rfl) ?_
  refine lv_aload_n hx hb dX1_fits_1 rfl (lv_at hl 0 rfl) ?_
  refine xc_Vi (ci := 1) (rest := [.ref (q0)]) (As := []) ⟨hx, hb, hml, hown, hts⟩ (c_X1_events l D q0 q1 O hO0) (cwV 0 hts gX1_fits_X1_events rfl rfl rfl (by decide +kernel) ⟨Nat.le_of_ble_eq_true rfl, Nat.le_of_ble_eq_true rfl⟩) hN hK (hP) rfl 0 rfl rfl hl.1 rfl (Nat.le_of_ble_eq_true rfl) dX1_fits_2 ⟨Nat.le_of_ble_eq_true rfl, Nat.le_of_ble_eq_true rfl⟩ (fun r_2 hw_2 => ?_)
  subst hw_2
  refine xc_Vi (ci := 1) (rest := []) (As := [.int (nI (O 0))]) ⟨hx, hb, hml, hown, hts⟩ (c_X1_placeOfRow l D q0 q1 O hO0 hw (O 0) (Nat.le_refl _)) (cwV 1 hts gX1_fits_X1_placeOfRow rfl rfl rfl (by decide +kernel) ⟨Nat.le_of_ble_eq_true rfl, Nat.le_of_ble_eq_true rfl⟩) hN hK (hP) rfl 0 rfl rfl hl.1 rfl (Nat.le_of_ble_eq_true rfl) dX1_fits_5 ⟨Nat.le_of_ble_eq_true rfl, Nat.le_of_ble_eq_true rfl⟩ (fun r_5 hw_5 => ?_)
  subst hw_5
  refine lv_iconst (v := nI 1) hx hb dX1_fits_8 (by decide) ?_
  refine xr_add hx hb dX1_fits_9 ?_
  refine lv_iload_n hx hb dX1_fits_10 rfl (lv_at hl 1 rfl) ?_
  refine xr_add hx hb dX1_fits_11 ?_
  refine lv_bipush (v := nI 16) hx hb dX1_fits_12 (by decide) ?_
  refine xi_gt (tgt := 21) hx hb dX1_fits_14 (by decide) (nI_toInt (by omega)) (nI_toInt (by omega)) (fun c_14 => ?_) (fun c_14 => ?_)
  · refine lv_iconst (v := nI 0) hx hb dX1_fits_21 (by decide) ?_
    exact xe_z hx hb hr hlocks rfl (bo.zero (by omega)) rfl rfl dX1_fits_22
  · refine lv_iconst (v := nI 1) hx hb dX1_fits_17 (by decide) ?_
    refine lv_goto (tgt := 22) hx hb dX1_fits_18 (by decide) ?_
    exact xe_z hx hb hr hlocks rfl (bo.one (by omega)) rfl rfl dX1_fits_22

set_option maxHeartbeats 4000000 in
set_option maxRecDepth 100000 in
theorem c_X1_lengthOf (l : Launch) (D : va_G) {cI cB : ClassId} (q0 q1 : Nat) (O : Nat → Nat) (hO0 : O 0 < 65536) (hw : wf O) (hO1 : O 1 < 256) (hO2 : O 2 < 256) (k : Nat) (hk1 : (256 * O 1 + O 2) ≤ k) (hk2 : k < (256 * O 1 + O 2) + O 0) : Met l yX1_lengthOf wsX1_lengthOf ({ frames := 1, cells := 0, slots := 0, locals := 23 }) (va_Pc [.ref (q0), .int (nI (k))] (x_R D (tyP cI cB) (eW cI (q0) (q1) O))) (vp_Si (fun r => r = nI (O (pl O (k - (256 * O 1 + O 2)))))) 0 0 (fun _ => False) := by
  refine Met.ofW (cc := cX1_lengthOf) (maxL := 2) (ret := (some .int)) (by decide) rfl ?_
  intro p e s m args below meth c s₁ B hml hv
  obtain ⟨rfl, hN, hP, hK⟩ := hv
  have hx := B.exec
  have hb := B.bytes
  have hr := B.returns
  have hts := atoms_spec (ws := wsX1_lengthOf) B.pre
  have hown : s.vm.findClass RX1 = some m.cls := findClass_of_methodNamed B.named
  have hlocks := B.notSynchronized
  have hiX1 : ∀ w ∈ u_ws RX1 TX1 1, w ∈ wsX1_lengthOf := by decide +kernel
  have hl := lv_entry ([.ref (q0), .int (nI (k))]) (n := 2) (Nat.le_of_ble_eq_true rfl)
  rw [lg_entry_eq]
  generalize (lg_sl ([.ref (q0), .int (nI (k))]) ++ List.replicate (2 - (lg_sl ([.ref (q0), .int (nI (k))])).length) Slot.unset).toArray = ls at hl ⊢
  have hl : lv_has ls 2 [(0, .ref (q0)), (1, .int (nI (k)))] := hl
  have hO9 := hw.1
  have hk3 : 256 * O 1 + O 2 ≤ k := hk1
  have hk4 : k < 256 * O 1 + O 2 + O 0 := hk2
  have hp9 := pl_lt hw (show k - (256 * O 1 + O 2) < O 0 by omega)
  refine lv_aload_n hx hb dX1_lengthOf_0 rfl (lv_at hl 0 rfl) ?_
  refine va_get (D := D) (ci := 1) (v := .ref (q1)) (C := RX1) (T := TX1) (N := 1) hx hb hts hiX1 hown hK hP 0 rfl rfl 0 (by decide) (hts (.fieldLink RX1 9 "PairedCells$EventPage" "bytes" "[I") (by decide +kernel)) (fun _ h9 => h9) rfl dX1_lengthOf_1 ?_
  refine lv_aload_n hx hb dX1_lengthOf_4 rfl (lv_at hl 0 rfl) ?_
  refine lv_iload_n hx hb dX1_lengthOf_5 rfl (lv_at hl 1 rfl) ?_
  refine lv_aload_n hx hb dX1_lengthOf_6 rfl (lv_at hl 0 rfl) ?_
  refine xc_Vi (ci := 1) (rest := [.int (nI (k)), .ref (q0), .ref (q1)]) (As := []) ⟨hx, hb, hml, hown, hts⟩ (c_X1_firstNumber l D q0 q1 O hO0 hO1 hO2) (cwV 0 hts gX1_lengthOf_X1_firstNumber rfl rfl rfl (by decide +kernel) ⟨Nat.le_of_ble_eq_true rfl, Nat.le_of_ble_eq_true rfl⟩) hN hK (hP) rfl 0 rfl rfl hl.1 rfl (Nat.le_of_ble_eq_true rfl) dX1_lengthOf_7 ⟨Nat.le_of_ble_eq_true rfl, Nat.le_of_ble_eq_true rfl⟩ (fun r_7 hw_7 => ?_)
  subst hw_7
  refine xr_sub hx hb (by omega) dX1_lengthOf_10 ?_
  refine xc_Vi (ci := 1) (rest := [.ref (q1)]) (As := [.int (nI (k - (256 * O 1 + O 2)))]) ⟨hx, hb, hml, hown, hts⟩ (c_X1_placeOfRow l D q0 q1 O hO0 hw (k - (256 * O 1 + O 2)) (by omega)) (cwV 1 hts gX1_lengthOf_X1_placeOfRow rfl rfl rfl (by decide +kernel) ⟨Nat.le_of_ble_eq_true rfl, Nat.le_of_ble_eq_true rfl⟩) hN hK (hP) rfl 0 rfl rfl hl.1 rfl (Nat.le_of_ble_eq_true rfl) dX1_lengthOf_11 ⟨Nat.le_of_ble_eq_true rfl, Nat.le_of_ble_eq_true rfl⟩ (fun r_11 hw_11 => ?_)
  subst hw_11
  refine xr_iald hx hb hK hP 1 0 rfl rfl (by omega) (by decide) dX1_lengthOf_14 ?_
  exact xe_i hx hb hr hlocks (rfl) rfl rfl dX1_lengthOf_15

set_option maxHeartbeats 4000000 in
set_option maxRecDepth 100000 in
theorem c_X1_bytesOf (l : Launch) (D : va_G) {cI cB : ClassId} (q0 q1 : Nat) (O : Nat → Nat) (hO0 : O 0 < 65536) (hw : wf O) (hO1 : O 1 < 256) (hO2 : O 2 < 256) (k : Nat) (hk1 : (256 * O 1 + O 2) ≤ k) (hk2 : k < (256 * O 1 + O 2) + O 0) : Met l yX1_bytesOf wsX1_bytesOf ({ frames := 1, cells := 0, slots := 0, locals := 23 }) (va_Pc [.ref (q0), .int (nI (k))] (x_R D (tyP cI cB) (eW cI (q0) (q1) O))) (vp_Sl (fun r => r = evF (fun i => O (pl O (k - (256 * O 1 + O 2)) + i)) (O (pl O (k - (256 * O 1 + O 2)))) 0)) 0 0 (fun _ => False) := by
  refine Met.ofW (cc := cX1_bytesOf) (maxL := 6) (ret := (some .long)) (by decide) rfl ?_
  intro p e s m args below meth c s₁ B hml hv
  obtain ⟨rfl, hN, hP, hK⟩ := hv
  have hx := B.exec
  have hb := B.bytes
  have hr := B.returns
  have hts := atoms_spec (ws := wsX1_bytesOf) B.pre
  have hown : s.vm.findClass RX1 = some m.cls := findClass_of_methodNamed B.named
  have hlocks := B.notSynchronized
  have hiX1 : ∀ w ∈ u_ws RX1 TX1 1, w ∈ wsX1_bytesOf := by decide +kernel
  have hl := lv_entry ([.ref (q0), .int (nI (k))]) (n := 6) (Nat.le_of_ble_eq_true rfl)
  rw [lg_entry_eq]
  generalize (lg_sl ([.ref (q0), .int (nI (k))]) ++ List.replicate (6 - (lg_sl ([.ref (q0), .int (nI (k))])).length) Slot.unset).toArray = ls at hl ⊢
  have hl : lv_has ls 6 [(0, .ref (q0)), (1, .int (nI (k)))] := hl
  have hO9 := hw.1
  have hk3 : 256 * O 1 + O 2 ≤ k := hk1
  have hk4 : k < 256 * O 1 + O 2 + O 0 := hk2
  have hp9 := pl_lt hw (show k - (256 * O 1 + O 2) < O 0 by omega)
  have hp8 := hw.2.2.2 (k - (256 * O 1 + O 2)) (by omega)
  obtain ⟨t, ht⟩ : ∃ t, pl O (k - (256 * O 1 + O 2)) = t := ⟨_, rfl⟩
  rw [ht] at hp9 hp8
  refine lv_aload_n hx hb dX1_bytesOf_0 rfl (lv_at hl 0 rfl) ?_
  refine lv_iload_n hx hb dX1_bytesOf_1 rfl (lv_at hl 1 rfl) ?_
  refine lv_aload_n hx hb dX1_bytesOf_2 rfl (lv_at hl 0 rfl) ?_
  refine xc_Vi (ci := 1) (rest := [.int (nI (k)), .ref (q0)]) (As := []) ⟨hx, hb, hml, hown, hts⟩ (c_X1_firstNumber l D q0 q1 O hO0 hO1 hO2) (cwV 0 hts gX1_bytesOf_X1_firstNumber rfl rfl rfl (by decide +kernel) ⟨Nat.le_of_ble_eq_true rfl, Nat.le_of_ble_eq_true rfl⟩) hN hK (hP) rfl 0 rfl rfl hl.1 rfl (Nat.le_of_ble_eq_true rfl) dX1_bytesOf_3 ⟨Nat.le_of_ble_eq_true rfl, Nat.le_of_ble_eq_true rfl⟩ (fun r_3 hw_3 => ?_)
  subst hw_3
  refine xr_sub hx hb (by omega) dX1_bytesOf_6 ?_
  refine xc_Vi (ci := 1) (rest := []) (As := [.int (nI (k - (256 * O 1 + O 2)))]) ⟨hx, hb, hml, hown, hts⟩ (c_X1_placeOfRow l D q0 q1 O hO0 hw (k - (256 * O 1 + O 2)) (by omega)) (cwV 1 hts gX1_bytesOf_X1_placeOfRow rfl rfl rfl (by decide +kernel) ⟨Nat.le_of_ble_eq_true rfl, Nat.le_of_ble_eq_true rfl⟩) hN hK (hP) rfl 0 rfl rfl hl.1 rfl (Nat.le_of_ble_eq_true rfl) dX1_bytesOf_7 ⟨Nat.le_of_ble_eq_true rfl, Nat.le_of_ble_eq_true rfl⟩ (fun r_7 hw_7 => ?_)
  rw [ht] at hw_7
  subst hw_7
  refine lv_istore_n (lv' := [(2, .int (nI (t))), (0, .ref (q0)), (1, .int (nI (k)))]) hx hb dX1_bytesOf_10 rfl hl (by decide) rfl (fun ls hl => ?_)
  refine lv_lconst (v := 0) hx hb dX1_bytesOf_11 (by decide) ?_
  refine lv_lstore_n (lv' := [(3, .long (0)), (2, .int (nI (t))), (0, .ref (q0)), (1, .int (nI (k)))]) hx hb dX1_bytesOf_12 rfl hl (by decide) rfl (fun ls hl => ?_)
  refine lv_aload_n hx hb dX1_bytesOf_13 rfl (lv_at hl 2 rfl) ?_
  refine va_get (D := D) (ci := 1) (v := .ref (q1)) (C := RX1) (T := TX1) (N := 1) hx hb hts hiX1 hown hK hP 0 rfl rfl 0 (by decide) (hts (.fieldLink RX1 9 "PairedCells$EventPage" "bytes" "[I") (by decide +kernel)) (fun _ h9 => h9) rfl dX1_bytesOf_14 ?_
  refine lv_iload_n hx hb dX1_bytesOf_17 rfl (lv_at hl 1 rfl) ?_
  refine xr_iald hx hb hK hP 1 0 rfl rfl (by omega) (by decide) dX1_bytesOf_18 ?_
  refine lv_istore (lv' := [(5, .int (nI (O (t)))), (3, .long (0)), (2, .int (nI (t))), (0, .ref (q0)), (1, .int (nI (k)))]) hx hb dX1_bytesOf_19 hl (by decide) rfl (fun ls hl => ?_)
  refine lpR (α := Nat × Int64) (fun (j, v) => j ≤ O t ∧ evF (fun i => O (t + i)) j v = evF (fun i => O (t + i)) (O t) 0) (fun (j, v) => [(0, .ref (q0)), (1, .int (nI (k))), (2, .int (nI (t))), (3, .long (v)), (5, .int (nI (j)))]) 6 (fun (j, v) => j) (O t, 0) (⟨Nat.le_refl _, rfl⟩) (lv_sub hl [3, 4, 2, 1, 0] rfl) (fun s9 ls hI9 hl9 ih_21 => ?_)
  obtain ⟨j, v⟩ := s9
  have hl : lv_has ls 6 [(0, .ref (q0)), (1, .int (nI (k))), (2, .int (nI (t))), (3, .long (v)), (5, .int (nI (j)))] := hl9
  obtain ⟨hj, hv⟩ : j ≤ O t ∧ evF (fun i => O (t + i)) j v = evF (fun i => O (t + i)) (O t) 0 := hI9
  refine lv_iload hx hb dX1_bytesOf_21 (lv_at hl 4 rfl) ?_
  refine xz_le (tgt := 48) hx hb dX1_bytesOf_23 (by decide) (nI_toInt (by omega)) (fun c_23 => ?_) (fun c_23 => ?_)
  · refine lv_lload_n hx hb dX1_bytesOf_48 rfl (lv_at hl 3 rfl) ?_
    exact xe_l hx hb hr hlocks (by rw [ht, ← hv, show j = 0 by omega]; rfl) rfl rfl dX1_bytesOf_49
  · refine lv_lload_n hx hb dX1_bytesOf_26 rfl (lv_at hl 3 rfl) ?_
    refine lv_bipush (v := nI 8) hx hb dX1_bytesOf_27 (by decide) ?_
    refine lv_lshl hx hb dX1_bytesOf_29 rfl ?_
    refine lv_aload_n hx hb dX1_bytesOf_30 rfl (lv_at hl 0 rfl) ?_
    refine va_get (D := D) (ci := 1) (v := .ref (q1)) (C := RX1) (T := TX1) (N := 1) hx hb hts hiX1 hown hK hP 0 rfl rfl 0 (by decide) (hts (.fieldLink RX1 9 "PairedCells$EventPage" "bytes" "[I") (by decide +kernel)) (fun _ h9 => h9) rfl dX1_bytesOf_31 ?_
    refine lv_iload_n hx hb dX1_bytesOf_34 rfl (lv_at hl 2 rfl) ?_
    refine lv_iload hx hb dX1_bytesOf_35 (lv_at hl 4 rfl) ?_
    refine xr_add hx hb dX1_bytesOf_37 ?_
    refine xr_iald hx hb hK hP 1 0 rfl rfl (by omega) (by decide) dX1_bytesOf_38 ?_
    refine lv_i2l hx hb dX1_bytesOf_39 rfl ?_
    refine lv_lor hx hb dX1_bytesOf_40 ?_
    refine lv_lstore_n (lv' := [(3, .long ((v <<< ((nI 8).toInt64 &&& 63)) ||| (nI (O (t + j))).toInt64)), (0, .ref (q0)), (1, .int (nI (k))), (2, .int (nI (t))), (5, .int (nI (j)))]) hx hb dX1_bytesOf_41 rfl hl (by decide) rfl (fun ls hl => ?_)
    refine lv_iinc (v := nI (j - 1)) (lv' := [(5, .int (nI (j - 1))), (3, .long ((v <<< ((nI 8).toInt64 &&& 63)) ||| (nI (O (t + j))).toInt64)), (0, .ref (q0)), (1, .int (nI (k))), (2, .int (nI (t)))]) hx hb dX1_bytesOf_42 hl (k := 4) rfl (xl_dec (by omega)) (by decide) rfl (fun ls hl => ?_)
    refine lv_goto (tgt := 21) hx hb dX1_bytesOf_45 (by decide) ?_
    exact ih_21 (j - 1, (v <<< ((nI 8).toInt64 &&& 63)) ||| (nI (O (t + j))).toInt64) _ (⟨by omega, by rw [← hv, show j = (j - 1) + 1 by omega]; rfl⟩) (by first | omega | (dsimp only; omega)) (lv_sub hl [2, 3, 4, 1, 0] rfl)

set_option maxHeartbeats 4000000 in
set_option maxRecDepth 100000 in
theorem c_X1_add (l : Launch) (D : va_G) {cI cB : ClassId} (q0 q1 : Nat) (O : Nat → Nat) (hO0 : O 0 < 65536) (hw : wf O) (num k : Nat) (w : Int64) (hnum : num < 65536) (hk : k < 65536) (hf : pl O (O 0) + 1 + k ≤ 16) (sz : Nat) : Met l yX1_add wsX1_add ({ frames := 2, cells := 0, slots := 0, locals := 40 }) (va_Pc [.ref (q0), .int (nI (num)), .int (nI (k)), .long (w)] (x_U D (tyP cI cB) (eW cI (q0) (q1) O) sz)) (va_Qv (fun (_ : Unit) => True) (fun u t => x_E D (tyP cI cB) (va_A (eW cI (q0) (q1) O) sz) (eW cI q0 q1 (adO O num k w)) t) (va_A (eW cI (q0) (q1) O) sz)) 0 0 (va_A (eW cI (q0) (q1) O) sz) := by
  refine Met.ofW (cc := cX1_add) (maxL := 7) (ret := none) (by decide) rfl ?_
  intro p e s m args below meth c s₁ B hml hv
  obtain ⟨rfl, hsz, hN, hP, hK, hD0⟩ := hv
  have hx := B.exec
  have hb := B.bytes
  have hr := B.returns
  have hts := atoms_spec (ws := wsX1_add) B.pre
  have hown : s.vm.findClass RX1 = some m.cls := findClass_of_methodNamed B.named
  have hlocks := B.notSynchronized
  subst hsz
  have hD := hD0.self (sz := s.heap.size)
  generalize hAe : va_A (eW cI (q0) (q1) O) s.heap.size = A at hD ⊢
  have hA : ∀ q : Nat, s.heap.size ≤ q → A q := fun q h => by rw [← hAe]; exact Or.inr h
  obtain ⟨H, hH⟩ : ∃ H : Heap, s.heap = H := ⟨_, rfl⟩
  obtain ⟨locs, hlo⟩ : ∃ L : List Loc, ([] : List Loc) = L := ⟨_, rfl⟩
  have hS : va_S A s.heap H locs := by rw [← hH, ← hlo]; exact va_S.rf
  have hP : va_P D vwCl (eW cI (q0) (q1) O) H := hH ▸ hP
  rw [hH, hlo]
  have hiX1 : ∀ w ∈ u_ws RX1 TX1 1, w ∈ wsX1_add := by decide +kernel
  have hl := lv_entry ([.ref (q0), .int (nI (num)), .int (nI (k)), .long (w)]) (n := 7) (Nat.le_of_ble_eq_true rfl)
  rw [lg_entry_eq]
  generalize (lg_sl ([.ref (q0), .int (nI (num)), .int (nI (k)), .long (w)]) ++ List.replicate (7 - (lg_sl ([.ref (q0), .int (nI (num)), .int (nI (k)), .long (w)])).length) Slot.unset).toArray = ls at hl ⊢
  have hl : lv_has ls 7 [(0, .ref (q0)), (1, .int (nI (num))), (2, .int (nI (k))), (3, .long (w))] := hl
  have hp9 := pl_le hw (O 0) (Nat.le_refl _)
  obtain ⟨t, ht⟩ : ∃ t, pl O (O 0) = t := ⟨_, rfl⟩
  rw [ht] at hp9 hf
  refine lv_aload_n hx hb dX1_add_0 rfl (lv_at hl 0 rfl) ?_
  refine lv_aload_n hx hb dX1_add_1 rfl (lv_at hl 0 rfl) ?_
  refine xc_Vi (ci := 1) (rest := [.ref (q0)]) (As := []) ⟨hx, hb, hml, hown, hts⟩ (c_X1_events l D q0 q1 O hO0) (cwV 0 hts gX1_add_X1_events rfl rfl rfl (by decide +kernel) ⟨Nat.le_of_ble_eq_true rfl, Nat.le_of_ble_eq_true rfl⟩) hN hK (hP) rfl 0 rfl rfl hl.1 rfl (Nat.le_of_ble_eq_true rfl) dX1_add_2 ⟨Nat.le_of_ble_eq_true rfl, Nat.le_of_ble_eq_true rfl⟩ (fun r_2 hw_2 => ?_)
  subst hw_2
  refine xc_Vi (ci := 1) (rest := []) (As := [.int (nI (O 0))]) ⟨hx, hb, hml, hown, hts⟩ (c_X1_placeOfRow l D q0 q1 O hO0 hw (O 0) (Nat.le_refl _)) (cwV 1 hts gX1_add_X1_placeOfRow rfl rfl rfl (by decide +kernel) ⟨Nat.le_of_ble_eq_true rfl, Nat.le_of_ble_eq_true rfl⟩) hN hK (hP) rfl 0 rfl rfl hl.1 rfl (Nat.le_of_ble_eq_true rfl) dX1_add_5 ⟨Nat.le_of_ble_eq_true rfl, Nat.le_of_ble_eq_true rfl⟩ (fun r_5 hw_5 => ?_)
  rw [ht] at hw_5
  subst hw_5
  refine lv_istore (lv' := [(5, .int (nI (t))), (0, .ref (q0)), (1, .int (nI (num))), (2, .int (nI (k))), (3, .long (w))]) hx hb dX1_add_8 hl (by decide) rfl (fun ls hl => ?_)
  refine lv_aload_n hx hb dX1_add_10 rfl (lv_at hl 1 rfl) ?_
  refine xc_Vi (ci := 1) (rest := []) (As := []) ⟨hx, hb, hml, hown, hts⟩ (c_X1_isEmpty l D q0 q1 O hO0) (cwV 0 hts gX1_add_X1_isEmpty rfl rfl rfl (by decide +kernel) ⟨Nat.le_of_ble_eq_true rfl, Nat.le_of_ble_eq_true rfl⟩) hN hK (hP) rfl 0 rfl rfl hl.1 rfl (Nat.le_of_ble_eq_true rfl) dX1_add_11 ⟨Nat.le_of_ble_eq_true rfl, Nat.le_of_ble_eq_true rfl⟩ (fun r_11 hw_11 => ?_)
  refine xz_eq (tgt := 42) hx hb dX1_add_14 (by decide) rfl (fun c_14 => ?_) (fun c_14 => ?_)
  · have h_14 := bo.f hw_11 c_14
    refine lv_aload_n hx hb dX1_add_42 rfl (lv_at hl 1 rfl) ?_
    refine va_get (D := D) (ci := 1) (v := .ref (q1)) (C := RX1) (T := TX1) (N := 1) hx hb hts hiX1 hown hK hP 0 rfl rfl 0 (by decide) (hts (.fieldLink RX1 9 "PairedCells$EventPage" "bytes" "[I") (by decide +kernel)) (fun _ h9 => h9) rfl dX1_add_43 ?_
    refine lv_iconst (v := nI 0) hx hb dX1_add_46 (by decide) ?_
    refine lv_dup2_11 hx hb dX1_add_47 rfl rfl ?_
    refine xr_iald hx hb hK hP 1 0 rfl rfl (by omega) (by decide) dX1_add_48 ?_
    refine xr_nat (x' := O 0) (rfl) ?_
    refine lv_iconst (v := nI 1) hx hb dX1_add_49 (by decide) ?_
    refine xr_add hx hb dX1_add_50 ?_
    refine xr_iast hx hb hK hP hD hS 1 0 rfl rfl (by omega) (by decide) dX1_add_51 (fun H locs hP hD hS => ?_)
    have hP : va_P D vwCl (eW cI (q0) (q1) (up O (0) (O 0 + 1))) H := hP
    have hD : va_D A (eW cI (q0) (q1) (up O (0) (O 0 + 1))) := hD
    refine lv_aload_n hx hb dX1_add_52 rfl (lv_at hl 1 rfl) ?_
    refine va_get (D := D) (ci := 1) (v := .ref (q1)) (C := RX1) (T := TX1) (N := 1) hx hb hts hiX1 hown hK hP 0 rfl rfl 0 (by decide) (hts (.fieldLink RX1 9 "PairedCells$EventPage" "bytes" "[I") (by decide +kernel)) (fun _ h9 => h9) rfl dX1_add_53 ?_
    refine lv_iload hx hb dX1_add_56 (lv_at hl 0 rfl) ?_
    refine lv_iload_n hx hb dX1_add_58 rfl (lv_at hl 3 rfl) ?_
    refine xr_iast hx hb hK hP hD hS 1 0 rfl rfl (by omega) (by decide) dX1_add_59 (fun H locs hP hD hS => ?_)
    have hP : va_P D vwCl (eW cI (q0) (q1) (up (up O (0) (O 0 + 1)) (t) (k))) H := hP
    have hD : va_D A (eW cI (q0) (q1) (up (up O (0) (O 0 + 1)) (t) (k))) := hD
    refine lv_iconst (v := nI 0) hx hb dX1_add_60 (by decide) ?_
    refine lv_istore (lv' := [(6, .int (nI (0))), (5, .int (nI (t))), (0, .ref (q0)), (1, .int (nI (num))), (2, .int (nI (k))), (3, .long (w))]) hx hb dX1_add_61 hl (by decide) rfl (fun ls hl => ?_)
    have hq9 : (eW cI (q0) (q1) (up (up O (0) (O 0 + 1)) (t) (k)) : va_W) = eW cI (q0) (q1) (adJ O num k w 0) := (eW_eq (fun i hi => by simp only [adJ, up, ht]; (repeat' split) <;> first | rfl | omega | (exfalso; omega)))
    refine lpW (α := Nat) (fun j H locs => (j ≤ k) ∧ va_P D vwCl (eW cI (q0) (q1) (adJ O num k w j)) H ∧ va_D A (eW cI (q0) (q1) (adJ O num k w j)) ∧ va_S A s.heap H locs) (fun j => [(0, .ref (q0)), (1, .int (nI (num))), (2, .int (nI (k))), (3, .long (w)), (5, .int (nI (t))), (6, .int (nI (j)))]) 7 (fun j => k - j) 0 (⟨Nat.zero_le _, va_P.eqw hq9 hP, va_D.eqw hq9 hD, hS⟩) (lv_sub hl [2, 3, 4, 5, 1, 0] rfl) (fun s9 H locs ls hI9 hl9 ih_63 => ?_)
    obtain ⟨j, rfl⟩ : ∃ z, z = s9 := ⟨_, rfl⟩
    have hl : lv_has ls 7 [(0, .ref (q0)), (1, .int (nI (num))), (2, .int (nI (k))), (3, .long (w)), (5, .int (nI (t))), (6, .int (nI (j)))] := hl9
    obtain ⟨hj, hP, hD, hS⟩ : (j ≤ k) ∧ va_P D vwCl (eW cI (q0) (q1) (adJ O num k w j)) H ∧ va_D A (eW cI (q0) (q1) (adJ O num k w j)) ∧ va_S A s.heap H locs := hI9
    refine lv_iload hx hb dX1_add_63 (lv_at hl 5 rfl) ?_
    refine lv_iload_n hx hb dX1_add_65 rfl (lv_at hl 2 rfl) ?_
    refine xi_ge (tgt := 99) hx hb dX1_add_66 (by decide) (nI_toInt (by omega)) (nI_toInt (by omega)) (fun c_66 => ?_) (fun c_66 => ?_)
    · have hq9 : (eW cI (q0) (q1) (adJ O num k w j) : va_W) = eW cI q0 q1 (adO O num k w) := (by rw [show j = k by omega])
      exact xf_v (post := fun (_ : Unit) => True) (w1 := fun (_ : Unit) => eW cI q0 q1 (adO O num k w)) () hx hb hr hlocks (trivial) (va_P.eqw hq9 hP) hK (va_D.eqw hq9 hD) hS dX1_add_99
    · refine lv_aload_n hx hb dX1_add_69 rfl (lv_at hl 0 rfl) ?_
      refine va_get (D := D) (ci := 1) (v := .ref (q1)) (C := RX1) (T := TX1) (N := 1) hx hb hts hiX1 hown hK hP 0 rfl rfl 0 (by decide) (hts (.fieldLink RX1 9 "PairedCells$EventPage" "bytes" "[I") (by decide +kernel)) (fun _ h9 => h9) rfl dX1_add_70 ?_
      refine lv_iload hx hb dX1_add_73 (lv_at hl 4 rfl) ?_
      refine lv_iconst (v := nI 1) hx hb dX1_add_75 (by decide) ?_
      refine xr_add hx hb dX1_add_76 ?_
      refine lv_iload hx hb dX1_add_77 (lv_at hl 5 rfl) ?_
      refine xr_add hx hb dX1_add_79 ?_
      refine lv_lload_n hx hb dX1_add_80 rfl (lv_at hl 3 rfl) ?_
      refine lv_bipush (v := nI 8) hx hb dX1_add_81 (by decide) ?_
      refine lv_iload hx hb dX1_add_83 (lv_at hl 5 rfl) ?_
      refine xr_mul hx hb dX1_add_85 ?_
      refine lv_lshr hx hb dX1_add_86 rfl ?_
      refine lv_ldc2 (v := 255) hx hb hown (hts (.constantLong RX1 39 255) (by decide +kernel)) dX1_add_87 ?_
      refine lv_land hx hb dX1_add_90 ?_
      refine lv_l2i hx hb dX1_add_91 (v := nI (wb w j)) (wb_eq w j) ?_
      refine xr_iast hx hb hK hP hD hS 1 0 rfl rfl (by omega) (by decide) dX1_add_92 (fun H locs hP hD hS => ?_)
      have hP : va_P D vwCl (eW cI (q0) (q1) (up (adJ O num k w j) (t + 1 + j) (wb w j))) H := hP
      have hD : va_D A (eW cI (q0) (q1) (up (adJ O num k w j) (t + 1 + j) (wb w j))) := hD
      refine lv_iinc (v := nI (j + 1)) (lv' := [(6, .int (nI (j + 1))), (0, .ref (q0)), (1, .int (nI (num))), (2, .int (nI (k))), (3, .long (w)), (5, .int (nI (t)))]) hx hb dX1_add_93 hl (k := 5) rfl (nI_add _ _) (by decide) rfl (fun ls hl => ?_)
      refine lv_goto (tgt := 63) hx hb dX1_add_96 (by decide) ?_
      have hq9 : (eW cI (q0) (q1) (up (adJ O num k w j) (t + 1 + j) (wb w j)) : va_W) = eW cI (q0) (q1) (adJ O num k w (j + 1)) := (eW_eq (fun i hi => by simp only [adJ, up, ht]; (repeat' split) <;> first | rfl | omega | (exfalso; omega) | (congr 1; omega)))
      exact ih_63 (j + 1) _ _ _ (⟨by omega, va_P.eqw hq9 hP, va_D.eqw hq9 hD, hS⟩) (by first | omega | (dsimp only; omega)) (lv_sub hl [1, 2, 3, 4, 5, 0] rfl)
  · have h_14 := bo.t hw_11 c_14
    refine lv_aload_n hx hb dX1_add_17 rfl (lv_at hl 1 rfl) ?_
    refine va_get (D := D) (ci := 1) (v := .ref (q1)) (C := RX1) (T := TX1) (N := 1) hx hb hts hiX1 hown hK hP 0 rfl rfl 0 (by decide) (hts (.fieldLink RX1 9 "PairedCells$EventPage" "bytes" "[I") (by decide +kernel)) (fun _ h9 => h9) rfl dX1_add_18 ?_
    refine lv_iconst (v := nI 1) hx hb dX1_add_21 (by decide) ?_
    refine lv_iload_n hx hb dX1_add_22 rfl (lv_at hl 2 rfl) ?_
    refine lv_bipush (v := nI 8) hx hb dX1_add_23 (by decide) ?_
    refine xr_shr hx hb (by omega) (by omega) dX1_add_25 ?_
    refine lv_sipush (v := nI 255) hx hb dX1_add_26 (by decide) ?_
    refine xr_and255 hx hb (by omega) dX1_add_29 ?_
    refine xr_iast hx hb hK hP hD hS 1 0 rfl rfl (by omega) (by decide) dX1_add_30 (fun H locs hP hD hS => ?_)
    have hP : va_P D vwCl (eW cI (q0) (q1) (up O (1) ((num / 2 ^ 8) % 256))) H := hP
    have hD : va_D A (eW cI (q0) (q1) (up O (1) ((num / 2 ^ 8) % 256))) := hD
    refine lv_aload_n hx hb dX1_add_31 rfl (lv_at hl 1 rfl) ?_
    refine va_get (D := D) (ci := 1) (v := .ref (q1)) (C := RX1) (T := TX1) (N := 1) hx hb hts hiX1 hown hK hP 0 rfl rfl 0 (by decide) (hts (.fieldLink RX1 9 "PairedCells$EventPage" "bytes" "[I") (by decide +kernel)) (fun _ h9 => h9) rfl dX1_add_32 ?_
    refine lv_iconst (v := nI 2) hx hb dX1_add_35 (by decide) ?_
    refine lv_iload_n hx hb dX1_add_36 rfl (lv_at hl 2 rfl) ?_
    refine lv_sipush (v := nI 255) hx hb dX1_add_37 (by decide) ?_
    refine xr_and255 hx hb (by omega) dX1_add_40 ?_
    refine xr_iast hx hb hK hP hD hS 1 0 rfl rfl (by omega) (by decide) dX1_add_41 (fun H locs hP hD hS => ?_)
    have hP : va_P D vwCl (eW cI (q0) (q1) (up (up O (1) ((num / 2 ^ 8) % 256)) (2) (num % 256))) H := hP
    have hD : va_D A (eW cI (q0) (q1) (up (up O (1) ((num / 2 ^ 8) % 256)) (2) (num % 256))) := hD
    refine lv_aload_n hx hb dX1_add_42 rfl (lv_at hl 1 rfl) ?_
    refine va_get (D := D) (ci := 1) (v := .ref (q1)) (C := RX1) (T := TX1) (N := 1) hx hb hts hiX1 hown hK hP 0 rfl rfl 0 (by decide) (hts (.fieldLink RX1 9 "PairedCells$EventPage" "bytes" "[I") (by decide +kernel)) (fun _ h9 => h9) rfl dX1_add_43 ?_
    refine lv_iconst (v := nI 0) hx hb dX1_add_46 (by decide) ?_
    refine lv_dup2_11 hx hb dX1_add_47 rfl rfl ?_
    refine xr_iald hx hb hK hP 1 0 rfl rfl (by omega) (by decide) dX1_add_48 ?_
    refine xr_nat (x' := O 0) (rfl) ?_
    refine lv_iconst (v := nI 1) hx hb dX1_add_49 (by decide) ?_
    refine xr_add hx hb dX1_add_50 ?_
    refine xr_iast hx hb hK hP hD hS 1 0 rfl rfl (by omega) (by decide) dX1_add_51 (fun H locs hP hD hS => ?_)
    have hP : va_P D vwCl (eW cI (q0) (q1) (up (up (up O (1) ((num / 2 ^ 8) % 256)) (2) (num % 256)) (0) (O 0 + 1))) H := hP
    have hD : va_D A (eW cI (q0) (q1) (up (up (up O (1) ((num / 2 ^ 8) % 256)) (2) (num % 256)) (0) (O 0 + 1))) := hD
    refine lv_aload_n hx hb dX1_add_52 rfl (lv_at hl 1 rfl) ?_
    refine va_get (D := D) (ci := 1) (v := .ref (q1)) (C := RX1) (T := TX1) (N := 1) hx hb hts hiX1 hown hK hP 0 rfl rfl 0 (by decide) (hts (.fieldLink RX1 9 "PairedCells$EventPage" "bytes" "[I") (by decide +kernel)) (fun _ h9 => h9) rfl dX1_add_53 ?_
    refine lv_iload hx hb dX1_add_56 (lv_at hl 0 rfl) ?_
    refine lv_iload_n hx hb dX1_add_58 rfl (lv_at hl 3 rfl) ?_
    refine xr_iast hx hb hK hP hD hS 1 0 rfl rfl (by omega) (by decide) dX1_add_59 (fun H locs hP hD hS => ?_)
    have hP : va_P D vwCl (eW cI (q0) (q1) (up (up (up (up O (1) ((num / 2 ^ 8) % 256)) (2) (num % 256)) (0) (O 0 + 1)) (t) (k))) H := hP
    have hD : va_D A (eW cI (q0) (q1) (up (up (up (up O (1) ((num / 2 ^ 8) % 256)) (2) (num % 256)) (0) (O 0 + 1)) (t) (k))) := hD
    refine lv_iconst (v := nI 0) hx hb dX1_add_60 (by decide) ?_
    refine lv_istore (lv' := [(6, .int (nI (0))), (5, .int (nI (t))), (0, .ref (q0)), (1, .int (nI (num))), (2, .int (nI (k))), (3, .long (w))]) hx hb dX1_add_61 hl (by decide) rfl (fun ls hl => ?_)
    have hq9 : (eW cI (q0) (q1) (up (up (up (up O (1) ((num / 2 ^ 8) % 256)) (2) (num % 256)) (0) (O 0 + 1)) (t) (k)) : va_W) = eW cI (q0) (q1) (adJ O num k w 0) := (eW_eq (fun i hi => by simp only [adJ, up, ht]; (repeat' split) <;> first | rfl | omega | (exfalso; omega)))
    refine lpW (α := Nat) (fun j H locs => (j ≤ k) ∧ va_P D vwCl (eW cI (q0) (q1) (adJ O num k w j)) H ∧ va_D A (eW cI (q0) (q1) (adJ O num k w j)) ∧ va_S A s.heap H locs) (fun j => [(0, .ref (q0)), (1, .int (nI (num))), (2, .int (nI (k))), (3, .long (w)), (5, .int (nI (t))), (6, .int (nI (j)))]) 7 (fun j => k - j) 0 (⟨Nat.zero_le _, va_P.eqw hq9 hP, va_D.eqw hq9 hD, hS⟩) (lv_sub hl [2, 3, 4, 5, 1, 0] rfl) (fun s9 H locs ls hI9 hl9 ih_63 => ?_)
    obtain ⟨j, rfl⟩ : ∃ z, z = s9 := ⟨_, rfl⟩
    have hl : lv_has ls 7 [(0, .ref (q0)), (1, .int (nI (num))), (2, .int (nI (k))), (3, .long (w)), (5, .int (nI (t))), (6, .int (nI (j)))] := hl9
    obtain ⟨hj, hP, hD, hS⟩ : (j ≤ k) ∧ va_P D vwCl (eW cI (q0) (q1) (adJ O num k w j)) H ∧ va_D A (eW cI (q0) (q1) (adJ O num k w j)) ∧ va_S A s.heap H locs := hI9
    refine lv_iload hx hb dX1_add_63 (lv_at hl 5 rfl) ?_
    refine lv_iload_n hx hb dX1_add_65 rfl (lv_at hl 2 rfl) ?_
    refine xi_ge (tgt := 99) hx hb dX1_add_66 (by decide) (nI_toInt (by omega)) (nI_toInt (by omega)) (fun c_66 => ?_) (fun c_66 => ?_)
    · have hq9 : (eW cI (q0) (q1) (adJ O num k w j) : va_W) = eW cI q0 q1 (adO O num k w) := (by rw [show j = k by omega])
      exact xf_v (post := fun (_ : Unit) => True) (w1 := fun (_ : Unit) => eW cI q0 q1 (adO O num k w)) () hx hb hr hlocks (trivial) (va_P.eqw hq9 hP) hK (va_D.eqw hq9 hD) hS dX1_add_99
    · refine lv_aload_n hx hb dX1_add_69 rfl (lv_at hl 0 rfl) ?_
      refine va_get (D := D) (ci := 1) (v := .ref (q1)) (C := RX1) (T := TX1) (N := 1) hx hb hts hiX1 hown hK hP 0 rfl rfl 0 (by decide) (hts (.fieldLink RX1 9 "PairedCells$EventPage" "bytes" "[I") (by decide +kernel)) (fun _ h9 => h9) rfl dX1_add_70 ?_
      refine lv_iload hx hb dX1_add_73 (lv_at hl 4 rfl) ?_
      refine lv_iconst (v := nI 1) hx hb dX1_add_75 (by decide) ?_
      refine xr_add hx hb dX1_add_76 ?_
      refine lv_iload hx hb dX1_add_77 (lv_at hl 5 rfl) ?_
      refine xr_add hx hb dX1_add_79 ?_
      refine lv_lload_n hx hb dX1_add_80 rfl (lv_at hl 3 rfl) ?_
      refine lv_bipush (v := nI 8) hx hb dX1_add_81 (by decide) ?_
      refine lv_iload hx hb dX1_add_83 (lv_at hl 5 rfl) ?_
      refine xr_mul hx hb dX1_add_85 ?_
      refine lv_lshr hx hb dX1_add_86 rfl ?_
      refine lv_ldc2 (v := 255) hx hb hown (hts (.constantLong RX1 39 255) (by decide +kernel)) dX1_add_87 ?_
      refine lv_land hx hb dX1_add_90 ?_
      refine lv_l2i hx hb dX1_add_91 (v := nI (wb w j)) (wb_eq w j) ?_
      refine xr_iast hx hb hK hP hD hS 1 0 rfl rfl (by omega) (by decide) dX1_add_92 (fun H locs hP hD hS => ?_)
      have hP : va_P D vwCl (eW cI (q0) (q1) (up (adJ O num k w j) (t + 1 + j) (wb w j))) H := hP
      have hD : va_D A (eW cI (q0) (q1) (up (adJ O num k w j) (t + 1 + j) (wb w j))) := hD
      refine lv_iinc (v := nI (j + 1)) (lv' := [(6, .int (nI (j + 1))), (0, .ref (q0)), (1, .int (nI (num))), (2, .int (nI (k))), (3, .long (w)), (5, .int (nI (t)))]) hx hb dX1_add_93 hl (k := 5) rfl (nI_add _ _) (by decide) rfl (fun ls hl => ?_)
      refine lv_goto (tgt := 63) hx hb dX1_add_96 (by decide) ?_
      have hq9 : (eW cI (q0) (q1) (up (adJ O num k w j) (t + 1 + j) (wb w j)) : va_W) = eW cI (q0) (q1) (adJ O num k w (j + 1)) := (eW_eq (fun i hi => by simp only [adJ, up, ht]; (repeat' split) <;> first | rfl | omega | (exfalso; omega) | (congr 1; omega)))
      exact ih_63 (j + 1) _ _ _ (⟨by omega, va_P.eqw hq9 hP, va_D.eqw hq9 hD, hS⟩) (by first | omega | (dsimp only; omega)) (lv_sub hl [1, 2, 3, 4, 5, 0] rfl)
