set_option maxHeartbeats 4000000 in
set_option maxRecDepth 100000 in
theorem c_X0_nextPlace (l : Launch) (D : va_G) {cI cB : ClassId} (a χ : Nat → Nat) (b : Nat) (hb6 : b < 6) (hχ : ∀ i, χ i < 65536) : Met l yX0_nextPlace wsX0_nextPlace ({ frames := 0, cells := 0, slots := 0, locals := 0 }) (va_Pc [.ref (a (6 + 4 * b))] (x_R D (tyP cI cB) (wB cI a χ b))) (vp_Si (fun r => r = nI (plc χ b))) 0 0 (fun _ => False) := by
  refine Met.ofW (cc := cX0_nextPlace) (maxL := 2) (ret := (some .int)) (by decide) rfl ?_
  intro p e s m args below meth c s₁ B hml hv
  obtain ⟨rfl, hN, hP, hK⟩ := hv
  have hx := B.exec
  have hb := B.bytes
  have hr := B.returns
  have hts := atoms_spec (ws := wsX0_nextPlace) B.pre
  have hown : s.vm.findClass RX0 = some m.cls := findClass_of_methodNamed B.named
  have hlocks := B.notSynchronized
  have hiX0 : ∀ w ∈ u_ws RX0 TX0 5, w ∈ wsX0_nextPlace := by decide +kernel
  have hl := lv_entry ([.ref (a (6 + 4 * b))]) (n := 2) (Nat.le_of_ble_eq_true rfl)
  rw [lg_entry_eq]
  generalize (lg_sl ([.ref (a (6 + 4 * b))]) ++ List.replicate (2 - (lg_sl ([.ref (a (6 + 4 * b))])).length) Slot.unset).toArray = ls at hl ⊢
  have hl : lv_has ls 2 [(0, .ref (a (6 + 4 * b)))] := hl
  refine lv_iconst (v := nI 0) hx hb dX0_nextPlace_0 (by decide) ?_
  refine lv_istore_n (lv' := [(1, .int (nI (0))), (0, .ref (a (6 + 4 * b)))]) hx hb dX0_nextPlace_1 rfl hl (by decide) rfl (fun ls hl => ?_)
  refine lpR (α := Nat) (fun k => k ≤ 16 ∧ ∀ j, j < k → χ (16 * b + j) ≠ 0) (fun k => [(0, .ref (a (6 + 4 * b))), (1, .int (nI (k)))]) 2 (fun k => 16 - k) 0 (⟨by omega, fun j hj => absurd hj (Nat.not_lt_zero j)⟩) (lv_sub hl [1, 0] rfl) (fun s9 ls hI9 hl9 ih_2 => ?_)
  obtain ⟨k, rfl⟩ : ∃ z, z = s9 := ⟨_, rfl⟩
  have hl : lv_has ls 2 [(0, .ref (a (6 + 4 * b))), (1, .int (nI (k)))] := hl9
  obtain ⟨hk, hz⟩ : k ≤ 16 ∧ ∀ j, j < k → χ (16 * b + j) ≠ 0 := hI9
  refine lv_iload_n hx hb dX0_nextPlace_2 rfl (lv_at hl 1 rfl) ?_
  refine lv_bipush (v := nI 16) hx hb dX0_nextPlace_3 (by decide) ?_
  refine xi_ge (tgt := 23) hx hb dX0_nextPlace_5 (by decide) (nI_toInt (by omega)) (nI_toInt (by omega)) (fun c_5 => ?_) (fun c_5 => ?_)
  · refine lv_iload_n hx hb dX0_nextPlace_23 rfl (lv_at hl 1 rfl) ?_
    exact xe_i hx hb hr hlocks (congrArg nI (plc_eq (by omega) hz (fun h => by omega))) rfl rfl dX0_nextPlace_24
  · refine lv_aload_n hx hb dX0_nextPlace_8 rfl (lv_at hl 0 rfl) ?_
    refine va_get (D := D) (ci := 0) (v := .ref (a (7 + 4 * b))) (C := RX0) (T := TX0) (N := 5) hx hb hts hiX0 hown hK hP 0 rfl rfl 0 (by decide) (hts (.fieldLink RX0 9 "PairedCells$Block" "states" "[I") (by decide +kernel)) (fun _ h9 => h9) rfl dX0_nextPlace_9 ?_
    refine lv_iload_n hx hb dX0_nextPlace_12 rfl (lv_at hl 1 rfl) ?_
    refine xr_iald hx hb hK hP 1 0 rfl rfl (by omega) (by decide) dX0_nextPlace_13 ?_
    have hb_13 := hχ (16 * b + k)
    refine xz_eq (tgt := 23) hx hb dX0_nextPlace_14 (by decide) (nI_toInt (by omega)) (fun c_14 => ?_) (fun c_14 => ?_)
    · refine lv_iload_n hx hb dX0_nextPlace_23 rfl (lv_at hl 1 rfl) ?_
      exact xe_i hx hb hr hlocks (congrArg nI (plc_eq (by omega) hz (fun h => by omega))) rfl rfl dX0_nextPlace_24
    · refine lv_iinc (v := nI (k + 1)) (lv' := [(1, .int (nI (k + 1))), (0, .ref (a (6 + 4 * b)))]) hx hb dX0_nextPlace_17 hl (k := 1) rfl (nI_add _ _) (by decide) rfl (fun ls hl => ?_)
      refine lv_goto (tgt := 2) hx hb dX0_nextPlace_20 (by decide) ?_
      exact ih_2 (k + 1) _ (⟨by omega, fun j hj => by rcases Nat.lt_succ_iff_lt_or_eq.mp hj with h | h; exact hz j h; subst h; omega⟩) (by first | omega | (dsimp only; omega)) (lv_sub hl [1, 0] rfl)

set_option maxHeartbeats 4000000 in
set_option maxRecDepth 100000 in
theorem c_X0_isErased (l : Launch) (D : va_G) {cI cB : ClassId} (a χ : Nat → Nat) (b : Nat) (hb6 : b < 6) (hχ : ∀ i, χ i < 65536) : Met l yX0_isErased wsX0_isErased ({ frames := 1, cells := 0, slots := 0, locals := 21 }) (va_Pc [.ref (a (6 + 4 * b))] (x_R D (tyP cI cB) (wB cI a χ b))) (vp_Si (fun r => bo r (χ (16 * b) = 0))) 0 0 (fun _ => False) := by
  refine Met.ofW (cc := cX0_isErased) (maxL := 1) (ret := (some .boolean)) (by decide) rfl ?_
  intro p e s m args below meth c s₁ B hml hv
  obtain ⟨rfl, hN, hP, hK⟩ := hv
  have hx := B.exec
  have hb := B.bytes
  have hr := B.returns
  have hts := atoms_spec (ws := wsX0_isErased) B.pre
  have hown : s.vm.findClass RX0 = some m.cls := findClass_of_methodNamed B.named
  have hlocks := B.notSynchronized
  have hl := lv_entry ([.ref (a (6 + 4 * b))]) (n := 1) (Nat.le_of_ble_eq_true rfl)
  rw [lg_entry_eq]
  generalize (lg_sl ([.ref (a (6 + 4 * b))]) ++ List.replicate (1 - (lg_sl ([.ref (a (6 + 4 * b))])).length) Slot.unset).toArray = ls at hl ⊢
  have hl : lv_has ls 1 [(0, .ref (a (6 + 4 * b)))] := hl
  have hpl := plc_le χ b
  refine lv_aload_n hx hb dX0_isErased_0 rfl (lv_at hl 0 rfl) ?_
  refine xc_Vi (ci := 0) (rest := []) (As := []) ⟨hx, hb, hml, hown, hts⟩ (c_X0_nextPlace l D a χ b hb6 hχ) (cwV 0 hts gX0_isErased_X0_nextPlace rfl rfl rfl (by decide +kernel) ⟨Nat.le_of_ble_eq_true rfl, Nat.le_of_ble_eq_true rfl⟩) hN hK (hP) rfl 0 rfl rfl hl.1 rfl (Nat.le_of_ble_eq_true rfl) dX0_isErased_1 ⟨Nat.le_of_ble_eq_true rfl, Nat.le_of_ble_eq_true rfl⟩ (fun r_1 hw_1 => ?_)
  subst hw_1
  refine xz_ne (tgt := 11) hx hb dX0_isErased_4 (by decide) (nI_toInt (by omega)) (fun c_4 => ?_) (fun c_4 => ?_)
  · refine lv_iconst (v := nI 0) hx hb dX0_isErased_11 (by decide) ?_
    exact xe_z hx hb hr hlocks rfl (bo.zero (fun h => by have h9 := plc_zero.mpr h; omega)) rfl rfl dX0_isErased_12
  · refine lv_iconst (v := nI 1) hx hb dX0_isErased_7 (by decide) ?_
    refine lv_goto (tgt := 12) hx hb dX0_isErased_8 (by decide) ?_
    exact xe_z hx hb hr hlocks rfl (bo.one (plc_zero.mp (by omega))) rfl rfl dX0_isErased_12

set_option maxHeartbeats 4000000 in
set_option maxRecDepth 100000 in
theorem c_X0_takesMore (l : Launch) (D : va_G) {cI cB : ClassId} (a χ : Nat → Nat) (b : Nat) (hb6 : b < 6) (hχ : ∀ i, χ i < 65536) : Met l yX0_takesMore wsX0_takesMore ({ frames := 1, cells := 0, slots := 0, locals := 21 }) (va_Pc [.ref (a (6 + 4 * b))] (x_R D (tyP cI cB) (wB cI a χ b))) (vp_Si (fun r => bo r (tk χ b))) 0 0 (fun _ => False) := by
  refine Met.ofW (cc := cX0_takesMore) (maxL := 2) (ret := (some .boolean)) (by decide) rfl ?_
  intro p e s m args below meth c s₁ B hml hv
  obtain ⟨rfl, hN, hP, hK⟩ := hv
  have hx := B.exec
  have hb := B.bytes
  have hr := B.returns
  have hts := atoms_spec (ws := wsX0_takesMore) B.pre
  have hown : s.vm.findClass RX0 = some m.cls := findClass_of_methodNamed B.named
  have hlocks := B.notSynchronized
  have hiX0 : ∀ w ∈ u_ws RX0 TX0 5, w ∈ wsX0_takesMore := by decide +kernel
  have hl := lv_entry ([.ref (a (6 + 4 * b))]) (n := 2) (Nat.le_of_ble_eq_true rfl)
  rw [lg_entry_eq]
  generalize (lg_sl ([.ref (a (6 + 4 * b))]) ++ List.replicate (2 - (lg_sl ([.ref (a (6 + 4 * b))])).length) Slot.unset).toArray = ls at hl ⊢
  have hl : lv_has ls 2 [(0, .ref (a (6 + 4 * b)))] := hl
  have hpl := plc_le χ b
  refine lv_bipush (v := nI 8) hx hb dX0_takesMore_0 (by decide) ?_
  refine lv_istore_n (lv' := [(1, .int (nI (8))), (0, .ref (a (6 + 4 * b)))]) hx hb dX0_takesMore_2 rfl hl (by decide) rfl (fun ls hl => ?_)
  refine lpR (α := Nat) (fun k => 8 ≤ k ∧ k ≤ 16 ∧ ∀ j, 8 ≤ j → j < k → χ (16 * b + j) ≠ 2) (fun k => [(0, .ref (a (6 + 4 * b))), (1, .int (nI (k)))]) 2 (fun k => 16 - k) 8 (⟨by omega, by omega, fun j h1 h2 => absurd h2 (by omega)⟩) (lv_sub hl [1, 0] rfl) (fun s9 ls hI9 hl9 ih_3 => ?_)
  obtain ⟨k, rfl⟩ : ∃ z, z = s9 := ⟨_, rfl⟩
  have hl : lv_has ls 2 [(0, .ref (a (6 + 4 * b))), (1, .int (nI (k)))] := hl9
  obtain ⟨h8, hk, hz⟩ : 8 ≤ k ∧ k ≤ 16 ∧ ∀ j, 8 ≤ j → j < k → χ (16 * b + j) ≠ 2 := hI9
  refine lv_iload_n hx hb dX0_takesMore_3 rfl (lv_at hl 1 rfl) ?_
  refine lv_bipush (v := nI 16) hx hb dX0_takesMore_4 (by decide) ?_
  refine xi_ge (tgt := 27) hx hb dX0_takesMore_6 (by decide) (nI_toInt (by omega)) (nI_toInt (by omega)) (fun c_6 => ?_) (fun c_6 => ?_)
  · refine lv_aload_n hx hb dX0_takesMore_27 rfl (lv_at hl 0 rfl) ?_
    refine xc_Vi (ci := 0) (rest := []) (As := []) ⟨hx, hb, hml, hown, hts⟩ (c_X0_nextPlace l D a χ b hb6 hχ) (cwV 0 hts gX0_takesMore_X0_nextPlace rfl rfl rfl (by decide +kernel) ⟨Nat.le_of_ble_eq_true rfl, Nat.le_of_ble_eq_true rfl⟩) hN hK (hP) rfl 0 rfl rfl hl.1 rfl (Nat.le_of_ble_eq_true rfl) dX0_takesMore_28 ⟨Nat.le_of_ble_eq_true rfl, Nat.le_of_ble_eq_true rfl⟩ (fun r_28 hw_28 => ?_)
    subst hw_28
    refine lv_bipush (v := nI 16) hx hb dX0_takesMore_31 (by decide) ?_
    refine xi_ge (tgt := 40) hx hb dX0_takesMore_33 (by decide) (nI_toInt (by omega)) (nI_toInt (by omega)) (fun c_33 => ?_) (fun c_33 => ?_)
    · refine lv_iconst (v := nI 0) hx hb dX0_takesMore_40 (by decide) ?_
      exact xe_z hx hb hr hlocks rfl (bo.zero (fun h => by have h9 := h.2; omega)) rfl rfl dX0_takesMore_41
    · refine lv_iconst (v := nI 1) hx hb dX0_takesMore_36 (by decide) ?_
      refine lv_goto (tgt := 41) hx hb dX0_takesMore_37 (by decide) ?_
      exact xe_z hx hb hr hlocks rfl (bo.one ⟨fun j h1 h2 => hz j h1 (by omega), by omega⟩) rfl rfl dX0_takesMore_41
  · refine lv_aload_n hx hb dX0_takesMore_9 rfl (lv_at hl 0 rfl) ?_
    refine va_get (D := D) (ci := 0) (v := .ref (a (7 + 4 * b))) (C := RX0) (T := TX0) (N := 5) hx hb hts hiX0 hown hK hP 0 rfl rfl 0 (by decide) (hts (.fieldLink RX0 9 "PairedCells$Block" "states" "[I") (by decide +kernel)) (fun _ h9 => h9) rfl dX0_takesMore_10 ?_
    refine lv_iload_n hx hb dX0_takesMore_13 rfl (lv_at hl 1 rfl) ?_
    refine xr_iald hx hb hK hP 1 0 rfl rfl (by omega) (by decide) dX0_takesMore_14 ?_
    have hb_14 := hχ (16 * b + k)
    refine lv_iconst (v := nI 2) hx hb dX0_takesMore_15 (by decide) ?_
    refine xi_ne (tgt := 21) hx hb dX0_takesMore_16 (by decide) (nI_toInt (by omega)) (nI_toInt (by omega)) (fun c_16 => ?_) (fun c_16 => ?_)
    · refine lv_iinc (v := nI (k + 1)) (lv' := [(1, .int (nI (k + 1))), (0, .ref (a (6 + 4 * b)))]) hx hb dX0_takesMore_21 hl (k := 1) rfl (nI_add _ _) (by decide) rfl (fun ls hl => ?_)
      refine lv_goto (tgt := 3) hx hb dX0_takesMore_24 (by decide) ?_
      exact ih_3 (k + 1) _ (⟨by omega, by omega, fun j h1 hj => by rcases Nat.lt_succ_iff_lt_or_eq.mp hj with h | h; exact hz j h1 h; subst h; omega⟩) (by first | omega | (dsimp only; omega)) (lv_sub hl [1, 0] rfl)
    · refine lv_iconst (v := nI 0) hx hb dX0_takesMore_19 (by decide) ?_
      exact xe_z hx hb hr hlocks rfl (bo.zero (fun h => h.1 k (by omega) (by omega) (by omega))) rfl rfl dX0_takesMore_20

set_option maxHeartbeats 4000000 in
set_option maxRecDepth 100000 in
theorem c_X0_erase (l : Launch) (D : va_G) {cI cB : ClassId} (a χ : Nat → Nat) (b : Nat) (hb6 : b < 6) (hχ : ∀ i, χ i < 65536) (sz : Nat) : Met l yX0_erase wsX0_erase ({ frames := 1, cells := 0, slots := 0, locals := 23 }) (va_Pc [.ref (a (6 + 4 * b))] (x_U D (tyP cI cB) (wB cI a χ b) sz)) (va_Qv (fun (_ : Unit) => True) (fun u t => x_E D (tyP cI cB) (va_A (wB cI a χ b) sz) (wB cI a (ers χ b) b) t) (va_A (wB cI a χ b) sz)) 0 0 (va_A (wB cI a χ b) sz) := by
  refine Met.ofW (cc := cX0_erase) (maxL := 1) (ret := none) (by decide) rfl ?_
  intro p e s m args below meth c s₁ B hml hv
  obtain ⟨rfl, hsz, hN, hP, hK, hD0⟩ := hv
  have hx := B.exec
  have hb := B.bytes
  have hr := B.returns
  have hts := atoms_spec (ws := wsX0_erase) B.pre
  have hown : s.vm.findClass RX0 = some m.cls := findClass_of_methodNamed B.named
  have hlocks := B.notSynchronized
  subst hsz
  have hD := hD0.self (sz := s.heap.size)
  generalize hAe : va_A (wB cI a χ b) s.heap.size = A at hD ⊢
  have hA : ∀ q : Nat, s.heap.size ≤ q → A q := fun q h => by rw [← hAe]; exact Or.inr h
  obtain ⟨H, hH⟩ : ∃ H : Heap, s.heap = H := ⟨_, rfl⟩
  obtain ⟨locs, hlo⟩ : ∃ L : List Loc, ([] : List Loc) = L := ⟨_, rfl⟩
  have hS : va_S A s.heap H locs := by rw [← hH, ← hlo]; exact va_S.rf
  have hP : va_P D vwCl (wB cI a χ b) H := hH ▸ hP
  rw [hH, hlo]
  have hiX0 : ∀ w ∈ u_ws RX0 TX0 5, w ∈ wsX0_erase := by decide +kernel
  have hl := lv_entry ([.ref (a (6 + 4 * b))]) (n := 1) (Nat.le_of_ble_eq_true rfl)
  rw [lg_entry_eq]
  generalize (lg_sl ([.ref (a (6 + 4 * b))]) ++ List.replicate (1 - (lg_sl ([.ref (a (6 + 4 * b))])).length) Slot.unset).toArray = ls at hl ⊢
  have hl : lv_has ls 1 [(0, .ref (a (6 + 4 * b)))] := hl
  refine lv_aload_n hx hb dX0_erase_0 rfl (lv_at hl 0 rfl) ?_
  refine va_get (D := D) (ci := 0) (v := .ref (a (7 + 4 * b))) (C := RX0) (T := TX0) (N := 5) hx hb hts hiX0 hown hK hP 0 rfl rfl 0 (by decide) (hts (.fieldLink RX0 9 "PairedCells$Block" "states" "[I") (by decide +kernel)) (fun _ h9 => h9) rfl dX0_erase_1 ?_
  refine lv_iconst (v := nI 0) hx hb dX0_erase_4 (by decide) ?_
  have hF9 := x_hF (hD.sub (ws' := [(a (7 + 4 * b), ar cI 16 (fun j => χ (16 * b + j)))]) [1] (by decide) rfl) hS hA
  refine xw_Sv (rest := []) (As := [.ref (a (7 + 4 * b)), .int (nI (0))]) ⟨hx, hb, hml, hown, hts⟩ (c_fill l D (a (7 + 4 * b)) 16 0 (fun j => χ (16 * b + j)) (by decide) H.size) (va_cwS 2 hts gX0_erase_J7_fill_53178 rfl rfl rfl (by decide +kernel) ⟨Nat.le_of_ble_eq_true rfl, Nat.le_of_ble_eq_true rfl⟩) hN hK (hP.sub (ws' := [(a (7 + 4 * b), ar cI 16 (fun j => χ (16 * b + j)))]) [1] rfl) (hD.sub (ws' := [(a (7 + 4 * b), ar cI 16 (fun j => χ (16 * b + j)))]) [1] (by decide) rfl) hS hA rfl hl.1 rfl (Nat.le_of_ble_eq_true rfl) dX0_erase_5 ⟨Nat.le_of_ble_eq_true rfl, Nat.le_of_ble_eq_true rfl⟩ (fun u_5 H1 locs hw_5 hP1 hD1 hDA hk9 hS => ?_)
  obtain ⟨hP, hD⟩ := va_join (wr := [(a (6 + 4 * b), .inr (0, [.ref (a (7 + 4 * b)), .ref (a (8 + 4 * b)), .ref (a (9 + 4 * b)), .int (nI (χ (100 + b))), .int (nI (χ (110 + b)))])), (a (8 + 4 * b), ar cI 256 (fun j => χ (1000 + 256 * b + j))), (a (9 + 4 * b), ar cI 17 (fun j => χ (200 + 17 * b + j)))]) hP hD [1] [0, 2, 3] rfl rfl (by decide) (by decide) hk9 hF9 hP1 hD1
  have hP := hP.sub (ws' := bX cI a b (fun _ => 0) (fun j => χ (1000 + 256 * b + j)) (fun j => χ (200 + 17 * b + j)) (χ (100 + b)) (χ (110 + b))) [0, 3, 1, 2] rfl
  have hD := hD.sub (ws' := bX cI a b (fun _ => 0) (fun j => χ (1000 + 256 * b + j)) (fun j => χ (200 + 17 * b + j)) (χ (100 + b)) (χ (110 + b))) [0, 3, 1, 2] (by decide) rfl
  generalize H1 = H at hP hS ⊢
  have hP : va_P D vwCl (bX cI a b (fun _ => 0) (fun j => χ (1000 + 256 * b + j)) (fun j => χ (200 + 17 * b + j)) (χ (100 + b)) (χ (110 + b))) H := hP
  have hD : va_D A (bX cI a b (fun _ => 0) (fun j => χ (1000 + 256 * b + j)) (fun j => χ (200 + 17 * b + j)) (χ (100 + b)) (χ (110 + b))) := hD
  refine lv_aload_n hx hb dX0_erase_8 rfl (lv_at hl 0 rfl) ?_
  refine lv_iconst (v := nI 0) hx hb dX0_erase_9 (by decide) ?_
  refine va_put (D := D) (ci := 0) (v := .int (nI (0))) (ty := .int) (C := RX0) (T := TX0) (N := 5) hx hb hts hiX0 tyX0 tyX0_ok nmX0 hown hK hP hD hS 0 rfl rfl 3 (by decide) (hts (.fieldLink RX0 21 "PairedCells$Block" "guardState" "I") (by decide +kernel)) (fun _ h9 => h9) rfl (by decide +kernel) rfl rfl (Nat.le_of_ble_eq_true rfl) dX0_erase_10 (fun H locs hP hD hS => ?_)
  have hP : va_P D vwCl (bX cI a b (fun _ => 0) (fun j => χ (1000 + 256 * b + j)) (fun j => χ (200 + 17 * b + j)) (0) (χ (110 + b))) H := hP
  have hD : va_D A (bX cI a b (fun _ => 0) (fun j => χ (1000 + 256 * b + j)) (fun j => χ (200 + 17 * b + j)) (0) (χ (110 + b))) := hD
  refine lv_aload_n hx hb dX0_erase_13 rfl (lv_at hl 0 rfl) ?_
  refine lv_dup hx hb dX0_erase_14 rfl ?_
  refine va_get (D := D) (ci := 0) (v := .int (nI (χ (110 + b)))) (C := RX0) (T := TX0) (N := 5) hx hb hts hiX0 hown hK hP 0 rfl rfl 4 (by decide) (hts (.fieldLink RX0 25 "PairedCells$Block" "erasures" "I") (by decide +kernel)) (fun _ h9 => h9) rfl dX0_erase_15 ?_
  refine lv_iconst (v := nI 1) hx hb dX0_erase_18 (by decide) ?_
  refine xr_add hx hb dX0_erase_19 ?_
  refine va_put (D := D) (ci := 0) (v := .int (nI (χ (110 + b) + 1))) (ty := .int) (C := RX0) (T := TX0) (N := 5) hx hb hts hiX0 tyX0 tyX0_ok nmX0 hown hK hP hD hS 0 rfl rfl 4 (by decide) (hts (.fieldLink RX0 25 "PairedCells$Block" "erasures" "I") (by decide +kernel)) (fun _ h9 => h9) rfl (by decide +kernel) rfl rfl (Nat.le_of_ble_eq_true rfl) dX0_erase_20 (fun H locs hP hD hS => ?_)
  have hP : va_P D vwCl (bX cI a b (fun _ => 0) (fun j => χ (1000 + 256 * b + j)) (fun j => χ (200 + 17 * b + j)) (0) (χ (110 + b) + 1)) H := hP
  have hD : va_D A (bX cI a b (fun _ => 0) (fun j => χ (1000 + 256 * b + j)) (fun j => χ (200 + 17 * b + j)) (0) (χ (110 + b) + 1)) := hD
  have hq9 : (bX cI a b (fun _ => 0) (fun j => χ (1000 + 256 * b + j)) (fun j => χ (200 + 17 * b + j)) (0) (χ (110 + b) + 1) : va_W) = wB cI a (ers χ b) b := (bX_eq (fun j hj => (by simp only [ers]; (repeat' split) <;> first | rfl | omega | (exfalso; omega) | (congr 1; omega))) (fun j hj => (by simp only [ers]; (repeat' split) <;> first | rfl | omega | (exfalso; omega) | (congr 1; omega))) (fun j hj => (by simp only [ers]; (repeat' split) <;> first | rfl | omega | (exfalso; omega) | (congr 1; omega))) (by simp only [ers]; (repeat' split) <;> first | rfl | omega | (exfalso; omega) | (congr 1; omega)) (by simp only [ers]; (repeat' split) <;> first | rfl | omega | (exfalso; omega) | (congr 1; omega)))
  exact xf_v (post := fun (_ : Unit) => True) (w1 := fun (_ : Unit) => wB cI a (ers χ b) b) () hx hb hr hlocks (trivial) (va_P.eqw hq9 hP) hK (va_D.eqw hq9 hD) hS dX0_erase_23

set_option maxHeartbeats 4000000 in
set_option maxRecDepth 100000 in
theorem c_X0_cutAt (l : Launch) (D : va_G) {cI cB : ClassId} (a χ : Nat → Nat) (b : Nat) (hb6 : b < 6) (hχ : ∀ i, χ i < 65536) (k : Nat) (hk : k < 16) (sz : Nat) : Met l yX0_cutAt wsX0_cutAt ({ frames := 0, cells := 0, slots := 0, locals := 0 }) (va_Pc [.ref (a (6 + 4 * b)), .int (nI (k))] (x_U D (tyP cI cB) (wB cI a χ b) sz)) (va_Qv (fun (_ : Unit) => True) (fun u t => x_E D (tyP cI cB) (va_A (wB cI a χ b) sz) (wB cI a (cuw χ b k) b) t) (va_A (wB cI a χ b) sz)) 0 0 (va_A (wB cI a χ b) sz) := by
  refine Met.ofW (cc := cX0_cutAt) (maxL := 2) (ret := none) (by decide) rfl ?_
  intro p e s m args below meth c s₁ B hml hv
  obtain ⟨rfl, hsz, hN, hP, hK, hD0⟩ := hv
  have hx := B.exec
  have hb := B.bytes
  have hr := B.returns
  have hts := atoms_spec (ws := wsX0_cutAt) B.pre
  have hown : s.vm.findClass RX0 = some m.cls := findClass_of_methodNamed B.named
  have hlocks := B.notSynchronized
  subst hsz
  have hD := hD0.self (sz := s.heap.size)
  generalize hAe : va_A (wB cI a χ b) s.heap.size = A at hD ⊢
  have hA : ∀ q : Nat, s.heap.size ≤ q → A q := fun q h => by rw [← hAe]; exact Or.inr h
  obtain ⟨H, hH⟩ : ∃ H : Heap, s.heap = H := ⟨_, rfl⟩
  obtain ⟨locs, hlo⟩ : ∃ L : List Loc, ([] : List Loc) = L := ⟨_, rfl⟩
  have hS : va_S A s.heap H locs := by rw [← hH, ← hlo]; exact va_S.rf
  have hP : va_P D vwCl (wB cI a χ b) H := hH ▸ hP
  rw [hH, hlo]
  have hiX0 : ∀ w ∈ u_ws RX0 TX0 5, w ∈ wsX0_cutAt := by decide +kernel
  have hl := lv_entry ([.ref (a (6 + 4 * b)), .int (nI (k))]) (n := 2) (Nat.le_of_ble_eq_true rfl)
  rw [lg_entry_eq]
  generalize (lg_sl ([.ref (a (6 + 4 * b)), .int (nI (k))]) ++ List.replicate (2 - (lg_sl ([.ref (a (6 + 4 * b)), .int (nI (k))])).length) Slot.unset).toArray = ls at hl ⊢
  have hl : lv_has ls 2 [(0, .ref (a (6 + 4 * b))), (1, .int (nI (k)))] := hl
  refine lv_aload_n hx hb dX0_cutAt_0 rfl (lv_at hl 0 rfl) ?_
  refine va_get (D := D) (ci := 0) (v := .ref (a (7 + 4 * b))) (C := RX0) (T := TX0) (N := 5) hx hb hts hiX0 hown hK hP 0 rfl rfl 0 (by decide) (hts (.fieldLink RX0 9 "PairedCells$Block" "states" "[I") (by decide +kernel)) (fun _ h9 => h9) rfl dX0_cutAt_1 ?_
  refine lv_iload_n hx hb dX0_cutAt_4 rfl (lv_at hl 1 rfl) ?_
  refine lv_iconst (v := nI 2) hx hb dX0_cutAt_5 (by decide) ?_
  refine xr_iast hx hb hK hP hD hS 1 0 rfl rfl (by omega) (by decide) dX0_cutAt_6 (fun H locs hP hD hS => ?_)
  have hP : va_P D vwCl (bX cI a b (up (fun j => χ (16 * b + j)) (k) (2)) (fun j => χ (1000 + 256 * b + j)) (fun j => χ (200 + 17 * b + j)) (χ (100 + b)) (χ (110 + b))) H := hP
  have hD : va_D A (bX cI a b (up (fun j => χ (16 * b + j)) (k) (2)) (fun j => χ (1000 + 256 * b + j)) (fun j => χ (200 + 17 * b + j)) (χ (100 + b)) (χ (110 + b))) := hD
  refine lv_iload_n hx hb dX0_cutAt_7 rfl (lv_at hl 1 rfl) ?_
  refine lv_bipush (v := nI 8) hx hb dX0_cutAt_8 (by decide) ?_
  refine xi_lt (tgt := 23) hx hb dX0_cutAt_10 (by decide) (nI_toInt (by omega)) (nI_toInt (by omega)) (fun c_10 => ?_) (fun c_10 => ?_)
  · have hq9 : (bX cI a b (up (fun j => χ (16 * b + j)) (k) (2)) (fun j => χ (1000 + 256 * b + j)) (fun j => χ (200 + 17 * b + j)) (χ (100 + b)) (χ (110 + b)) : va_W) = wB cI a (cuw χ b k) b := (bX_eq (fun j hj => (by simp only [cuw, up]; (repeat' split) <;> first | rfl | omega | (exfalso; omega) | (congr 1; omega))) (fun j hj => (by simp only [cuw, up]; (repeat' split) <;> first | rfl | omega | (exfalso; omega) | (congr 1; omega))) (fun j hj => (by simp only [cuw, up]; (repeat' split) <;> first | rfl | omega | (exfalso; omega) | (congr 1; omega))) (by simp only [cuw, up]; (repeat' split) <;> first | rfl | omega | (exfalso; omega) | (congr 1; omega)) (by simp only [cuw, up]; (repeat' split) <;> first | rfl | omega | (exfalso; omega) | (congr 1; omega)))
    exact xf_v (post := fun (_ : Unit) => True) (w1 := fun (_ : Unit) => wB cI a (cuw χ b k) b) () hx hb hr hlocks (trivial) (va_P.eqw hq9 hP) hK (va_D.eqw hq9 hD) hS dX0_cutAt_23
  · refine lv_aload_n hx hb dX0_cutAt_13 rfl (lv_at hl 0 rfl) ?_
    refine va_get (D := D) (ci := 0) (v := .ref (a (7 + 4 * b))) (C := RX0) (T := TX0) (N := 5) hx hb hts hiX0 hown hK hP 0 rfl rfl 0 (by decide) (hts (.fieldLink RX0 9 "PairedCells$Block" "states" "[I") (by decide +kernel)) (fun _ h9 => h9) rfl dX0_cutAt_14 ?_
    refine lv_iload_n hx hb dX0_cutAt_17 rfl (lv_at hl 1 rfl) ?_
    refine lv_bipush (v := nI 8) hx hb dX0_cutAt_18 (by decide) ?_
    refine xr_sub hx hb (by omega) dX0_cutAt_20 ?_
    refine lv_iconst (v := nI 2) hx hb dX0_cutAt_21 (by decide) ?_
    refine xr_iast hx hb hK hP hD hS 1 0 rfl rfl (by omega) (by decide) dX0_cutAt_22 (fun H locs hP hD hS => ?_)
    have hP : va_P D vwCl (bX cI a b (up (up (fun j => χ (16 * b + j)) (k) (2)) (k - 8) (2)) (fun j => χ (1000 + 256 * b + j)) (fun j => χ (200 + 17 * b + j)) (χ (100 + b)) (χ (110 + b))) H := hP
    have hD : va_D A (bX cI a b (up (up (fun j => χ (16 * b + j)) (k) (2)) (k - 8) (2)) (fun j => χ (1000 + 256 * b + j)) (fun j => χ (200 + 17 * b + j)) (χ (100 + b)) (χ (110 + b))) := hD
    have hq9 : (bX cI a b (up (up (fun j => χ (16 * b + j)) (k) (2)) (k - 8) (2)) (fun j => χ (1000 + 256 * b + j)) (fun j => χ (200 + 17 * b + j)) (χ (100 + b)) (χ (110 + b)) : va_W) = wB cI a (cuw χ b k) b := (bX_eq (fun j hj => (by simp only [cuw, up]; (repeat' split) <;> first | rfl | omega | (exfalso; omega) | (congr 1; omega))) (fun j hj => (by simp only [cuw, up]; (repeat' split) <;> first | rfl | omega | (exfalso; omega) | (congr 1; omega))) (fun j hj => (by simp only [cuw, up]; (repeat' split) <;> first | rfl | omega | (exfalso; omega) | (congr 1; omega))) (by simp only [cuw, up]; (repeat' split) <;> first | rfl | omega | (exfalso; omega) | (congr 1; omega)) (by simp only [cuw, up]; (repeat' split) <;> first | rfl | omega | (exfalso; omega) | (congr 1; omega)))
    exact xf_v (post := fun (_ : Unit) => True) (w1 := fun (_ : Unit) => wB cI a (cuw χ b k) b) () hx hb hr hlocks (trivial) (va_P.eqw hq9 hP) hK (va_D.eqw hq9 hD) hS dX0_cutAt_23

set_option maxHeartbeats 4000000 in
set_option maxRecDepth 100000 in
theorem c_X0_ruinWritten (l : Launch) (D : va_G) {cI cB : ClassId} (a χ : Nat → Nat) (b : Nat) (hb6 : b < 6) (hχ : ∀ i, χ i < 65536) (k : Nat) (hk : k < 16) (sz : Nat) : Met l yX0_ruinWritten wsX0_ruinWritten ({ frames := 0, cells := 0, slots := 0, locals := 0 }) (va_Pc [.ref (a (6 + 4 * b)), .int (nI (k))] (x_U D (tyP cI cB) (wB cI a χ b) sz)) (va_Qi (fun (r : Int32) (u : Nat → Nat) => (r = nI 1 ∧ χ (16 * b + k) = 1 ∧ u = up χ (16 * b + k) 2) ∨ (r = nI 0 ∧ χ (16 * b + k) ≠ 1 ∧ u = χ)) (fun u t => x_E D (tyP cI cB) (va_A (wB cI a χ b) sz) (wB cI a u b) t) (va_A (wB cI a χ b) sz)) 0 0 (va_A (wB cI a χ b) sz) := by
  refine Met.ofW (cc := cX0_ruinWritten) (maxL := 2) (ret := (some .boolean)) (by decide) rfl ?_
  intro p e s m args below meth c s₁ B hml hv
  obtain ⟨rfl, hsz, hN, hP, hK, hD0⟩ := hv
  have hx := B.exec
  have hb := B.bytes
  have hr := B.returns
  have hts := atoms_spec (ws := wsX0_ruinWritten) B.pre
  have hown : s.vm.findClass RX0 = some m.cls := findClass_of_methodNamed B.named
  have hlocks := B.notSynchronized
  subst hsz
  have hD := hD0.self (sz := s.heap.size)
  generalize hAe : va_A (wB cI a χ b) s.heap.size = A at hD ⊢
  have hA : ∀ q : Nat, s.heap.size ≤ q → A q := fun q h => by rw [← hAe]; exact Or.inr h
  obtain ⟨H, hH⟩ : ∃ H : Heap, s.heap = H := ⟨_, rfl⟩
  obtain ⟨locs, hlo⟩ : ∃ L : List Loc, ([] : List Loc) = L := ⟨_, rfl⟩
  have hS : va_S A s.heap H locs := by rw [← hH, ← hlo]; exact va_S.rf
  have hP : va_P D vwCl (wB cI a χ b) H := hH ▸ hP
  rw [hH, hlo]
  have hiX0 : ∀ w ∈ u_ws RX0 TX0 5, w ∈ wsX0_ruinWritten := by decide +kernel
  have hl := lv_entry ([.ref (a (6 + 4 * b)), .int (nI (k))]) (n := 2) (Nat.le_of_ble_eq_true rfl)
  rw [lg_entry_eq]
  generalize (lg_sl ([.ref (a (6 + 4 * b)), .int (nI (k))]) ++ List.replicate (2 - (lg_sl ([.ref (a (6 + 4 * b)), .int (nI (k))])).length) Slot.unset).toArray = ls at hl ⊢
  have hl : lv_has ls 2 [(0, .ref (a (6 + 4 * b))), (1, .int (nI (k)))] := hl
  refine lv_aload_n hx hb dX0_ruinWritten_0 rfl (lv_at hl 0 rfl) ?_
  refine va_get (D := D) (ci := 0) (v := .ref (a (7 + 4 * b))) (C := RX0) (T := TX0) (N := 5) hx hb hts hiX0 hown hK hP 0 rfl rfl 0 (by decide) (hts (.fieldLink RX0 9 "PairedCells$Block" "states" "[I") (by decide +kernel)) (fun _ h9 => h9) rfl dX0_ruinWritten_1 ?_
  refine lv_iload_n hx hb dX0_ruinWritten_4 rfl (lv_at hl 1 rfl) ?_
  refine xr_iald hx hb hK hP 1 0 rfl rfl (by omega) (by decide) dX0_ruinWritten_5 ?_
  have hb_5 := hχ (16 * b + k)
  refine lv_iconst (v := nI 1) hx hb dX0_ruinWritten_6 (by decide) ?_
  refine xi_eq (tgt := 12) hx hb dX0_ruinWritten_7 (by decide) (nI_toInt (by omega)) (nI_toInt (by omega)) (fun c_7 => ?_) (fun c_7 => ?_)
  · refine lv_aload_n hx hb dX0_ruinWritten_12 rfl (lv_at hl 0 rfl) ?_
    refine va_get (D := D) (ci := 0) (v := .ref (a (7 + 4 * b))) (C := RX0) (T := TX0) (N := 5) hx hb hts hiX0 hown hK hP 0 rfl rfl 0 (by decide) (hts (.fieldLink RX0 9 "PairedCells$Block" "states" "[I") (by decide +kernel)) (fun _ h9 => h9) rfl dX0_ruinWritten_13 ?_
    refine lv_iload_n hx hb dX0_ruinWritten_16 rfl (lv_at hl 1 rfl) ?_
    refine lv_iconst (v := nI 2) hx hb dX0_ruinWritten_17 (by decide) ?_
    refine xr_iast hx hb hK hP hD hS 1 0 rfl rfl (by omega) (by decide) dX0_ruinWritten_18 (fun H locs hP hD hS => ?_)
    have hP : va_P D vwCl (bX cI a b (up (fun j => χ (16 * b + j)) (k) (2)) (fun j => χ (1000 + 256 * b + j)) (fun j => χ (200 + 17 * b + j)) (χ (100 + b)) (χ (110 + b))) H := hP
    have hD : va_D A (bX cI a b (up (fun j => χ (16 * b + j)) (k) (2)) (fun j => χ (1000 + 256 * b + j)) (fun j => χ (200 + 17 * b + j)) (χ (100 + b)) (χ (110 + b))) := hD
    refine lv_iconst (v := nI 1) hx hb dX0_ruinWritten_19 (by decide) ?_
    have hq9 : (bX cI a b (up (fun j => χ (16 * b + j)) (k) (2)) (fun j => χ (1000 + 256 * b + j)) (fun j => χ (200 + 17 * b + j)) (χ (100 + b)) (χ (110 + b)) : va_W) = wB cI a (up χ (16 * b + k) 2) b := (bX_eq (fun j hj => (by simp only [up]; (repeat' split) <;> first | rfl | omega | (exfalso; omega) | (congr 1; omega))) (fun j hj => (by simp only [up]; (repeat' split) <;> first | rfl | omega | (exfalso; omega) | (congr 1; omega))) (fun j hj => (by simp only [up]; (repeat' split) <;> first | rfl | omega | (exfalso; omega) | (congr 1; omega))) (by simp only [up]; (repeat' split) <;> first | rfl | omega | (exfalso; omega) | (congr 1; omega)) (by simp only [up]; (repeat' split) <;> first | rfl | omega | (exfalso; omega) | (congr 1; omega)))
    exact xf_z (post := fun (r : Int32) (u : Nat → Nat) => (r = nI 1 ∧ χ (16 * b + k) = 1 ∧ u = up χ (16 * b + k) 2) ∨ (r = nI 0 ∧ χ (16 * b + k) ≠ 1 ∧ u = χ)) (w1 := fun (u : Nat → Nat) => wB cI a u b) (up χ (16 * b + k) 2) hx hb hr hlocks rfl (Or.inl ⟨rfl, by omega, rfl⟩) (va_P.eqw hq9 hP) hK (va_D.eqw hq9 hD) hS dX0_ruinWritten_20
  · refine lv_iconst (v := nI 0) hx hb dX0_ruinWritten_10 (by decide) ?_
    exact xf_z (post := fun (r : Int32) (u : Nat → Nat) => (r = nI 1 ∧ χ (16 * b + k) = 1 ∧ u = up χ (16 * b + k) 2) ∨ (r = nI 0 ∧ χ (16 * b + k) ≠ 1 ∧ u = χ)) (w1 := fun (u : Nat → Nat) => wB cI a u b) χ hx hb hr hlocks rfl (Or.inr ⟨rfl, by omega, rfl⟩) hP hK hD hS dX0_ruinWritten_11

set_option maxHeartbeats 4000000 in
set_option maxRecDepth 100000 in
theorem c_X0_covers (l : Launch) (D : va_G) {cI cB : ClassId} (a χ : Nat → Nat) (b : Nat) (hb6 : b < 6) (hχ : ∀ i, χ i < 65536) (k : Nat) (hk : k < 16) : Met l yX0_covers wsX0_covers ({ frames := 0, cells := 0, slots := 0, locals := 0 }) (va_Pc [.ref (a (6 + 4 * b)), .int (nI (k))] (x_R D (tyP cI cB) (wB cI a χ b))) (vp_Si (fun r => bo r (cvr χ b k))) 0 0 (fun _ => False) := by
  refine Met.ofW (cc := cX0_covers) (maxL := 2) (ret := (some .boolean)) (by decide) rfl ?_
  intro p e s m args below meth c s₁ B hml hv
  obtain ⟨rfl, hN, hP, hK⟩ := hv
  have hx := B.exec
  have hb := B.bytes
  have hr := B.returns
  have hts := atoms_spec (ws := wsX0_covers) B.pre
  have hown : s.vm.findClass RX0 = some m.cls := findClass_of_methodNamed B.named
  have hlocks := B.notSynchronized
  have hiX0 : ∀ w ∈ u_ws RX0 TX0 5, w ∈ wsX0_covers := by decide +kernel
  have hl := lv_entry ([.ref (a (6 + 4 * b)), .int (nI (k))]) (n := 2) (Nat.le_of_ble_eq_true rfl)
  rw [lg_entry_eq]
  generalize (lg_sl ([.ref (a (6 + 4 * b)), .int (nI (k))]) ++ List.replicate (2 - (lg_sl ([.ref (a (6 + 4 * b)), .int (nI (k))])).length) Slot.unset).toArray = ls at hl ⊢
  have hl : lv_has ls 2 [(0, .ref (a (6 + 4 * b))), (1, .int (nI (k)))] := hl
  have hg := hχ (100 + b)
  refine lv_aload_n hx hb dX0_covers_0 rfl (lv_at hl 0 rfl) ?_
  refine va_get (D := D) (ci := 0) (v := .int (nI (χ (100 + b)))) (C := RX0) (T := TX0) (N := 5) hx hb hts hiX0 hown hK hP 0 rfl rfl 3 (by decide) (hts (.fieldLink RX0 21 "PairedCells$Block" "guardState" "I") (by decide +kernel)) (fun _ h9 => h9) rfl dX0_covers_1 ?_
  refine lv_iconst (v := nI 1) hx hb dX0_covers_4 (by decide) ?_
  refine xi_ne (tgt := 33) hx hb dX0_covers_5 (by decide) (nI_toInt (by omega)) (nI_toInt (by omega)) (fun c_5 => ?_) (fun c_5 => ?_)
  · refine lv_iconst (v := nI 0) hx hb dX0_covers_33 (by decide) ?_
    exact xe_z hx hb hr hlocks rfl (bo.zero (fun h => by obtain ⟨h1, h2, h3⟩ := h; unfold cov at h3; omega)) rfl rfl dX0_covers_34
  · refine lv_iload_n hx hb dX0_covers_8 rfl (lv_at hl 1 rfl) ?_
    refine lv_bipush (v := nI 8) hx hb dX0_covers_9 (by decide) ?_
    refine xi_ge (tgt := 33) hx hb dX0_covers_11 (by decide) (nI_toInt (by omega)) (nI_toInt (by omega)) (fun c_11 => ?_) (fun c_11 => ?_)
    · refine lv_iconst (v := nI 0) hx hb dX0_covers_33 (by decide) ?_
      exact xe_z hx hb hr hlocks rfl (bo.zero (fun h => by obtain ⟨h1, h2, h3⟩ := h; unfold cov at h3; omega)) rfl rfl dX0_covers_34
    · refine lv_aload_n hx hb dX0_covers_14 rfl (lv_at hl 0 rfl) ?_
      refine va_get (D := D) (ci := 0) (v := .ref (a (9 + 4 * b))) (C := RX0) (T := TX0) (N := 5) hx hb hts hiX0 hown hK hP 0 rfl rfl 2 (by decide) (hts (.fieldLink RX0 18 "PairedCells$Block" "guardBytes" "[I") (by decide +kernel)) (fun _ h9 => h9) rfl dX0_covers_15 ?_
      refine lv_bipush (v := nI 16) hx hb dX0_covers_18 (by decide) ?_
      refine xr_iald hx hb hK hP 3 0 rfl rfl (by omega) (by decide) dX0_covers_20 ?_
      have hb_20 := hχ (200 + 17 * b + 16)
      refine lv_iload_n hx hb dX0_covers_21 rfl (lv_at hl 1 rfl) ?_
      refine xr_shr hx hb (by omega) (by omega) dX0_covers_22 ?_
      refine lv_iconst (v := nI 1) hx hb dX0_covers_23 (by decide) ?_
      refine xr_and1 hx hb (Nat.lt_of_le_of_lt (Nat.div_le_self _ _) (by omega)) dX0_covers_24 ?_
      refine lv_iconst (v := nI 1) hx hb dX0_covers_25 (by decide) ?_
      refine xi_ne (tgt := 33) hx hb dX0_covers_26 (by decide) (nI_toInt (by omega)) (nI_toInt (by omega)) (fun c_26 => ?_) (fun c_26 => ?_)
      · refine lv_iconst (v := nI 0) hx hb dX0_covers_33 (by decide) ?_
        exact xe_z hx hb hr hlocks rfl (bo.zero (fun h => by obtain ⟨h1, h2, h3⟩ := h; unfold cov at h3; omega)) rfl rfl dX0_covers_34
      · refine lv_iconst (v := nI 1) hx hb dX0_covers_29 (by decide) ?_
        refine lv_goto (tgt := 34) hx hb dX0_covers_30 (by decide) ?_
        exact xe_z hx hb hr hlocks rfl (bo.one ⟨by omega, by omega, by unfold cov; omega⟩) rfl rfl dX0_covers_34

set_option maxHeartbeats 4000000 in
set_option maxRecDepth 100000 in
theorem c_X0_isRebuilt (l : Launch) (D : va_G) {cI cB : ClassId} (a χ : Nat → Nat) (b : Nat) (hb6 : b < 6) (hχ : ∀ i, χ i < 65536) (k : Nat) (hk : k < 16) : Met l yX0_isRebuilt wsX0_isRebuilt ({ frames := 1, cells := 0, slots := 0, locals := 21 }) (va_Pc [.ref (a (6 + 4 * b)), .int (nI (k))] (x_R D (tyP cI cB) (wB cI a χ b))) (vp_Si (fun r => bo r (reb χ b k))) 0 0 (fun _ => False) := by
  refine Met.ofW (cc := cX0_isRebuilt) (maxL := 3) (ret := (some .boolean)) (by decide) rfl ?_
  intro p e s m args below meth c s₁ B hml hv
  obtain ⟨rfl, hN, hP, hK⟩ := hv
  have hx := B.exec
  have hb := B.bytes
  have hr := B.returns
  have hts := atoms_spec (ws := wsX0_isRebuilt) B.pre
  have hown : s.vm.findClass RX0 = some m.cls := findClass_of_methodNamed B.named
  have hlocks := B.notSynchronized
  have hiX0 : ∀ w ∈ u_ws RX0 TX0 5, w ∈ wsX0_isRebuilt := by decide +kernel
  have hl := lv_entry ([.ref (a (6 + 4 * b)), .int (nI (k))]) (n := 3) (Nat.le_of_ble_eq_true rfl)
  rw [lg_entry_eq]
  generalize (lg_sl ([.ref (a (6 + 4 * b)), .int (nI (k))]) ++ List.replicate (3 - (lg_sl ([.ref (a (6 + 4 * b)), .int (nI (k))])).length) Slot.unset).toArray = ls at hl ⊢
  have hl : lv_has ls 3 [(0, .ref (a (6 + 4 * b))), (1, .int (nI (k)))] := hl
  refine lv_aload_n hx hb dX0_isRebuilt_0 rfl (lv_at hl 0 rfl) ?_
  refine va_get (D := D) (ci := 0) (v := .ref (a (7 + 4 * b))) (C := RX0) (T := TX0) (N := 5) hx hb hts hiX0 hown hK hP 0 rfl rfl 0 (by decide) (hts (.fieldLink RX0 9 "PairedCells$Block" "states" "[I") (by decide +kernel)) (fun _ h9 => h9) rfl dX0_isRebuilt_1 ?_
  refine lv_iload_n hx hb dX0_isRebuilt_4 rfl (lv_at hl 1 rfl) ?_
  refine xr_iald hx hb hK hP 1 0 rfl rfl (by omega) (by decide) dX0_isRebuilt_5 ?_
  have hb_5 := hχ (16 * b + k)
  refine lv_iconst (v := nI 2) hx hb dX0_isRebuilt_6 (by decide) ?_
  refine xi_ne (tgt := 18) hx hb dX0_isRebuilt_7 (by decide) (nI_toInt (by omega)) (nI_toInt (by omega)) (fun c_7 => ?_) (fun c_7 => ?_)
  · refine lv_iconst (v := nI 0) hx hb dX0_isRebuilt_18 (by decide) ?_
    exact xe_z hx hb hr hlocks rfl (bo.zero (fun h => by first | exact h_15 h.2.1 | (have h9 := h.1; omega))) rfl rfl dX0_isRebuilt_19
  · refine lv_aload_n hx hb dX0_isRebuilt_10 rfl (lv_at hl 0 rfl) ?_
    refine lv_iload_n hx hb dX0_isRebuilt_11 rfl (lv_at hl 1 rfl) ?_
    refine xc_Vi (ci := 0) (rest := []) (As := [.int (nI (k))]) ⟨hx, hb, hml, hown, hts⟩ (c_X0_covers l D a χ b hb6 hχ (k) (hk)) (cwV 1 hts gX0_isRebuilt_X0_covers rfl rfl rfl (by decide +kernel) ⟨Nat.le_of_ble_eq_true rfl, Nat.le_of_ble_eq_true rfl⟩) hN hK (hP) rfl 0 rfl rfl hl.1 rfl (Nat.le_of_ble_eq_true rfl) dX0_isRebuilt_12 ⟨Nat.le_of_ble_eq_true rfl, Nat.le_of_ble_eq_true rfl⟩ (fun r_12 hw_12 => ?_)
    refine xz_ne (tgt := 20) hx hb dX0_isRebuilt_15 (by decide) rfl (fun c_15 => ?_) (fun c_15 => ?_)
    · have h_15 := bo.t hw_12 c_15
      refine lv_iconst (v := nI 0) hx hb dX0_isRebuilt_20 (by decide) ?_
      refine lv_istore_n (lv' := [(2, .int (nI (0))), (0, .ref (a (6 + 4 * b))), (1, .int (nI (k)))]) hx hb dX0_isRebuilt_21 rfl hl (by decide) rfl (fun ls hl => ?_)
      refine lpR (α := Nat) (fun j => j ≤ 8 ∧ ∀ i, i < j → i ≠ k → cov χ b i → χ (16 * b + i) = 1) (fun j => [(0, .ref (a (6 + 4 * b))), (1, .int (nI (k))), (2, .int (nI (j)))]) 3 (fun j => 8 - j) 0 (⟨by omega, fun i hi => absurd hi (Nat.not_lt_zero i)⟩) (lv_sub hl [1, 2, 0] rfl) (fun s9 ls hI9 hl9 ih_22 => ?_)
      obtain ⟨j, rfl⟩ : ∃ z, z = s9 := ⟨_, rfl⟩
      have hl : lv_has ls 3 [(0, .ref (a (6 + 4 * b))), (1, .int (nI (k))), (2, .int (nI (j)))] := hl9
      obtain ⟨hj, hz⟩ : j ≤ 8 ∧ ∀ i, i < j → i ≠ k → cov χ b i → χ (16 * b + i) = 1 := hI9
      refine lv_iload_n hx hb dX0_isRebuilt_22 rfl (lv_at hl 2 rfl) ?_
      refine lv_bipush (v := nI 8) hx hb dX0_isRebuilt_23 (by decide) ?_
      refine xi_ge (tgt := 59) hx hb dX0_isRebuilt_25 (by decide) (nI_toInt (by omega)) (nI_toInt (by omega)) (fun c_25 => ?_) (fun c_25 => ?_)
      · refine lv_iconst (v := nI 1) hx hb dX0_isRebuilt_59 (by decide) ?_
        exact xe_z hx hb hr hlocks rfl (bo.one ⟨by omega, h_15, fun i hi hik hc => hz i (by omega) hik hc⟩) rfl rfl dX0_isRebuilt_60
      · refine lv_iload_n hx hb dX0_isRebuilt_28 rfl (lv_at hl 2 rfl) ?_
        refine lv_iload_n hx hb dX0_isRebuilt_29 rfl (lv_at hl 1 rfl) ?_
        refine xi_eq (tgt := 53) hx hb dX0_isRebuilt_30 (by decide) (nI_toInt (by omega)) (nI_toInt (by omega)) (fun c_30 => ?_) (fun c_30 => ?_)
        · refine lv_iinc (v := nI (j + 1)) (lv' := [(2, .int (nI (j + 1))), (0, .ref (a (6 + 4 * b))), (1, .int (nI (k)))]) hx hb dX0_isRebuilt_53 hl (k := 2) rfl (nI_add _ _) (by decide) rfl (fun ls hl => ?_)
          refine lv_goto (tgt := 22) hx hb dX0_isRebuilt_56 (by decide) ?_
          exact ih_22 (j + 1) _ (⟨by omega, fun i hi hik hc => by (rcases Nat.lt_succ_iff_lt_or_eq.mp hi with h | h); exact hz i h hik hc; (subst h; first | omega | exact absurd ⟨h_15.1, by omega, hc⟩ h_38)⟩) (by first | omega | (dsimp only; omega)) (lv_sub hl [1, 2, 0] rfl)
        · refine lv_aload_n hx hb dX0_isRebuilt_33 rfl (lv_at hl 0 rfl) ?_
          refine lv_iload_n hx hb dX0_isRebuilt_34 rfl (lv_at hl 2 rfl) ?_
          refine xc_Vi (ci := 0) (rest := []) (As := [.int (nI (j))]) ⟨hx, hb, hml, hown, hts⟩ (c_X0_covers l D a χ b hb6 hχ (j) (by omega)) (cwV 1 hts gX0_isRebuilt_X0_covers rfl rfl rfl (by decide +kernel) ⟨Nat.le_of_ble_eq_true rfl, Nat.le_of_ble_eq_true rfl⟩) hN hK (hP) rfl 0 rfl rfl hl.1 rfl (Nat.le_of_ble_eq_true rfl) dX0_isRebuilt_35 ⟨Nat.le_of_ble_eq_true rfl, Nat.le_of_ble_eq_true rfl⟩ (fun r_35 hw_35 => ?_)
          refine xz_eq (tgt := 53) hx hb dX0_isRebuilt_38 (by decide) rfl (fun c_38 => ?_) (fun c_38 => ?_)
          · have h_38 := bo.f hw_35 c_38
            refine lv_iinc (v := nI (j + 1)) (lv' := [(2, .int (nI (j + 1))), (0, .ref (a (6 + 4 * b))), (1, .int (nI (k)))]) hx hb dX0_isRebuilt_53 hl (k := 2) rfl (nI_add _ _) (by decide) rfl (fun ls hl => ?_)
            refine lv_goto (tgt := 22) hx hb dX0_isRebuilt_56 (by decide) ?_
            exact ih_22 (j + 1) _ (⟨by omega, fun i hi hik hc => by (rcases Nat.lt_succ_iff_lt_or_eq.mp hi with h | h); exact hz i h hik hc; (subst h; first | omega | exact absurd ⟨h_15.1, by omega, hc⟩ h_38)⟩) (by first | omega | (dsimp only; omega)) (lv_sub hl [1, 2, 0] rfl)
          · have h_38 := bo.t hw_35 c_38
            refine lv_aload_n hx hb dX0_isRebuilt_41 rfl (lv_at hl 0 rfl) ?_
            refine va_get (D := D) (ci := 0) (v := .ref (a (7 + 4 * b))) (C := RX0) (T := TX0) (N := 5) hx hb hts hiX0 hown hK hP 0 rfl rfl 0 (by decide) (hts (.fieldLink RX0 9 "PairedCells$Block" "states" "[I") (by decide +kernel)) (fun _ h9 => h9) rfl dX0_isRebuilt_42 ?_
            refine lv_iload_n hx hb dX0_isRebuilt_45 rfl (lv_at hl 2 rfl) ?_
            refine xr_iald hx hb hK hP 1 0 rfl rfl (by omega) (by decide) dX0_isRebuilt_46 ?_
            have hb_46 := hχ (16 * b + j)
            refine lv_iconst (v := nI 1) hx hb dX0_isRebuilt_47 (by decide) ?_
            refine xi_eq (tgt := 53) hx hb dX0_isRebuilt_48 (by decide) (nI_toInt (by omega)) (nI_toInt (by omega)) (fun c_48 => ?_) (fun c_48 => ?_)
            · refine lv_iinc (v := nI (j + 1)) (lv' := [(2, .int (nI (j + 1))), (0, .ref (a (6 + 4 * b))), (1, .int (nI (k)))]) hx hb dX0_isRebuilt_53 hl (k := 2) rfl (nI_add _ _) (by decide) rfl (fun ls hl => ?_)
              refine lv_goto (tgt := 22) hx hb dX0_isRebuilt_56 (by decide) ?_
              exact ih_22 (j + 1) _ (⟨by omega, fun i hi hik hc => by (rcases Nat.lt_succ_iff_lt_or_eq.mp hi with h | h); exact hz i h hik hc; (subst h; first | omega | exact absurd ⟨h_15.1, by omega, hc⟩ h_38)⟩) (by first | omega | (dsimp only; omega)) (lv_sub hl [1, 2, 0] rfl)
            · refine lv_iconst (v := nI 0) hx hb dX0_isRebuilt_51 (by decide) ?_
              exact xe_z hx hb hr hlocks rfl (bo.zero (fun h => by have h9 := h.2.2 j (by omega) (by omega) h_38.2.2; omega)) rfl rfl dX0_isRebuilt_52
    · have h_15 := bo.f hw_12 c_15
      refine lv_iconst (v := nI 0) hx hb dX0_isRebuilt_18 (by decide) ?_
      exact xe_z hx hb hr hlocks rfl (bo.zero (fun h => by first | exact h_15 h.2.1 | (have h9 := h.1; omega))) rfl rfl dX0_isRebuilt_19

set_option maxHeartbeats 4000000 in
set_option maxRecDepth 100000 in
theorem c_X0_isReadable (l : Launch) (D : va_G) {cI cB : ClassId} (a χ : Nat → Nat) (b : Nat) (hb6 : b < 6) (hχ : ∀ i, χ i < 65536) (k : Nat) (hk : k < 16) : Met l yX0_isReadable wsX0_isReadable ({ frames := 2, cells := 0, slots := 0, locals := 43 }) (va_Pc [.ref (a (6 + 4 * b)), .int (nI (k))] (x_R D (tyP cI cB) (wB cI a χ b))) (vp_Si (fun r => bo r (rdb χ b k))) 0 0 (fun _ => False) := by
  refine Met.ofW (cc := cX0_isReadable) (maxL := 2) (ret := (some .boolean)) (by decide) rfl ?_
  intro p e s m args below meth c s₁ B hml hv
  obtain ⟨rfl, hN, hP, hK⟩ := hv
  have hx := B.exec
  have hb := B.bytes
  have hr := B.returns
  have hts := atoms_spec (ws := wsX0_isReadable) B.pre
  have hown : s.vm.findClass RX0 = some m.cls := findClass_of_methodNamed B.named
  have hlocks := B.notSynchronized
  have hiX0 : ∀ w ∈ u_ws RX0 TX0 5, w ∈ wsX0_isReadable := by decide +kernel
  have hl := lv_entry ([.ref (a (6 + 4 * b)), .int (nI (k))]) (n := 2) (Nat.le_of_ble_eq_true rfl)
  rw [lg_entry_eq]
  generalize (lg_sl ([.ref (a (6 + 4 * b)), .int (nI (k))]) ++ List.replicate (2 - (lg_sl ([.ref (a (6 + 4 * b)), .int (nI (k))])).length) Slot.unset).toArray = ls at hl ⊢
  have hl : lv_has ls 2 [(0, .ref (a (6 + 4 * b))), (1, .int (nI (k)))] := hl
  refine lv_aload_n hx hb dX0_isReadable_0 rfl (lv_at hl 0 rfl) ?_
  refine va_get (D := D) (ci := 0) (v := .ref (a (7 + 4 * b))) (C := RX0) (T := TX0) (N := 5) hx hb hts hiX0 hown hK hP 0 rfl rfl 0 (by decide) (hts (.fieldLink RX0 9 "PairedCells$Block" "states" "[I") (by decide +kernel)) (fun _ h9 => h9) rfl dX0_isReadable_1 ?_
  refine lv_iload_n hx hb dX0_isReadable_4 rfl (lv_at hl 1 rfl) ?_
  refine xr_iald hx hb hK hP 1 0 rfl rfl (by omega) (by decide) dX0_isReadable_5 ?_
  have hb_5 := hχ (16 * b + k)
  refine lv_iconst (v := nI 1) hx hb dX0_isReadable_6 (by decide) ?_
  refine xi_eq (tgt := 18) hx hb dX0_isReadable_7 (by decide) (nI_toInt (by omega)) (nI_toInt (by omega)) (fun c_7 => ?_) (fun c_7 => ?_)
  · refine lv_iconst (v := nI 1) hx hb dX0_isReadable_18 (by decide) ?_
    refine lv_goto (tgt := 23) hx hb dX0_isReadable_19 (by decide) ?_
    exact xe_z hx hb hr hlocks rfl (bo.one (by first | exact Or.inr h_15 | exact Or.inl (by omega))) rfl rfl dX0_isReadable_23
  · refine lv_aload_n hx hb dX0_isReadable_10 rfl (lv_at hl 0 rfl) ?_
    refine lv_iload_n hx hb dX0_isReadable_11 rfl (lv_at hl 1 rfl) ?_
    refine xc_Vi (ci := 0) (rest := []) (As := [.int (nI (k))]) ⟨hx, hb, hml, hown, hts⟩ (c_X0_isRebuilt l D a χ b hb6 hχ k hk) (cwV 1 hts gX0_isReadable_X0_isRebuilt rfl rfl rfl (by decide +kernel) ⟨Nat.le_of_ble_eq_true rfl, Nat.le_of_ble_eq_true rfl⟩) hN hK (hP) rfl 0 rfl rfl hl.1 rfl (Nat.le_of_ble_eq_true rfl) dX0_isReadable_12 ⟨Nat.le_of_ble_eq_true rfl, Nat.le_of_ble_eq_true rfl⟩ (fun r_12 hw_12 => ?_)
    refine xz_eq (tgt := 22) hx hb dX0_isReadable_15 (by decide) rfl (fun c_15 => ?_) (fun c_15 => ?_)
    · have h_15 := bo.f hw_12 c_15
      refine lv_iconst (v := nI 0) hx hb dX0_isReadable_22 (by decide) ?_
      exact xe_z hx hb hr hlocks rfl (bo.zero (fun h => h.elim (fun h => by omega) h_15)) rfl rfl dX0_isReadable_23
    · have h_15 := bo.t hw_12 c_15
      refine lv_iconst (v := nI 1) hx hb dX0_isReadable_18 (by decide) ?_
      refine lv_goto (tgt := 23) hx hb dX0_isReadable_19 (by decide) ?_
      exact xe_z hx hb hr hlocks rfl (bo.one (by first | exact Or.inr h_15 | exact Or.inl (by omega))) rfl rfl dX0_isReadable_23

set_option maxHeartbeats 4000000 in
set_option maxRecDepth 100000 in
theorem c_X0_stateAt (l : Launch) (D : va_G) {cI cB : ClassId} (a χ : Nat → Nat) (b : Nat) (hb6 : b < 6) (hχ : ∀ i, χ i < 65536) (k : Nat) (hk : k < 16) : Met l yX0_stateAt wsX0_stateAt ({ frames := 2, cells := 0, slots := 0, locals := 43 }) (va_Pc [.ref (a (6 + 4 * b)), .int (nI (k))] (x_R D (tyP cI cB) (wB cI a χ b))) (vp_Si (fun r => (reb χ b k ∧ r = nI 3) ∨ (¬ reb χ b k ∧ r = nI (χ (16 * b + k))))) 0 0 (fun _ => False) := by
  refine Met.ofW (cc := cX0_stateAt) (maxL := 2) (ret := (some .int)) (by decide) rfl ?_
  intro p e s m args below meth c s₁ B hml hv
  obtain ⟨rfl, hN, hP, hK⟩ := hv
  have hx := B.exec
  have hb := B.bytes
  have hr := B.returns
  have hts := atoms_spec (ws := wsX0_stateAt) B.pre
  have hown : s.vm.findClass RX0 = some m.cls := findClass_of_methodNamed B.named
  have hlocks := B.notSynchronized
  have hiX0 : ∀ w ∈ u_ws RX0 TX0 5, w ∈ wsX0_stateAt := by decide +kernel
  have hl := lv_entry ([.ref (a (6 + 4 * b)), .int (nI (k))]) (n := 2) (Nat.le_of_ble_eq_true rfl)
  rw [lg_entry_eq]
  generalize (lg_sl ([.ref (a (6 + 4 * b)), .int (nI (k))]) ++ List.replicate (2 - (lg_sl ([.ref (a (6 + 4 * b)), .int (nI (k))])).length) Slot.unset).toArray = ls at hl ⊢
  have hl : lv_has ls 2 [(0, .ref (a (6 + 4 * b))), (1, .int (nI (k)))] := hl
  refine lv_aload_n hx hb dX0_stateAt_0 rfl (lv_at hl 0 rfl) ?_
  refine lv_iload_n hx hb dX0_stateAt_1 rfl (lv_at hl 1 rfl) ?_
  refine xc_Vi (ci := 0) (rest := []) (As := [.int (nI (k))]) ⟨hx, hb, hml, hown, hts⟩ (c_X0_isRebuilt l D a χ b hb6 hχ k hk) (cwV 1 hts gX0_stateAt_X0_isRebuilt rfl rfl rfl (by decide +kernel) ⟨Nat.le_of_ble_eq_true rfl, Nat.le_of_ble_eq_true rfl⟩) hN hK (hP) rfl 0 rfl rfl hl.1 rfl (Nat.le_of_ble_eq_true rfl) dX0_stateAt_2 ⟨Nat.le_of_ble_eq_true rfl, Nat.le_of_ble_eq_true rfl⟩ (fun r_2 hw_2 => ?_)
  refine xz_eq (tgt := 12) hx hb dX0_stateAt_5 (by decide) rfl (fun c_5 => ?_) (fun c_5 => ?_)
  · have h_5 := bo.f hw_2 c_5
    refine lv_aload_n hx hb dX0_stateAt_12 rfl (lv_at hl 0 rfl) ?_
    refine va_get (D := D) (ci := 0) (v := .ref (a (7 + 4 * b))) (C := RX0) (T := TX0) (N := 5) hx hb hts hiX0 hown hK hP 0 rfl rfl 0 (by decide) (hts (.fieldLink RX0 9 "PairedCells$Block" "states" "[I") (by decide +kernel)) (fun _ h9 => h9) rfl dX0_stateAt_13 ?_
    refine lv_iload_n hx hb dX0_stateAt_16 rfl (lv_at hl 1 rfl) ?_
    refine xr_iald hx hb hK hP 1 0 rfl rfl (by omega) (by decide) dX0_stateAt_17 ?_
    have hb_17 := hχ (16 * b + k)
    exact xe_i hx hb hr hlocks (Or.inr ⟨h_5, rfl⟩) rfl rfl dX0_stateAt_18
  · have h_5 := bo.t hw_2 c_5
    refine lv_iconst (v := nI 3) hx hb dX0_stateAt_8 (by decide) ?_
    refine lv_goto (tgt := 18) hx hb dX0_stateAt_9 (by decide) ?_
    exact xe_i hx hb hr hlocks (Or.inl ⟨h_5, rfl⟩) rfl rfl dX0_stateAt_18

set_option maxHeartbeats 4000000 in
set_option maxRecDepth 100000 in
theorem c_X0_byteAt (l : Launch) (D : va_G) {cI cB : ClassId} (a χ : Nat → Nat) (b : Nat) (hb6 : b < 6) (hχ : ∀ i, χ i < 65536) (k : Nat) (hk : k < 16) (i : Nat) (hi : i < 16) (hrd : rdb χ b k) : Met l yX0_byteAt wsX0_byteAt ({ frames := 1, cells := 0, slots := 0, locals := 21 }) (va_Pc [.ref (a (6 + 4 * b)), .int (nI (k)), .int (nI (i))] (x_R D (tyP cI cB) (wB cI a χ b))) (vp_Si (fun r => r = nI (byt χ b k i))) 0 0 (fun _ => False) := by
  refine Met.ofW (cc := cX0_byteAt) (maxL := 5) (ret := (some .int)) (by decide) rfl ?_
  intro p e s m args below meth c s₁ B hml hv
  obtain ⟨rfl, hN, hP, hK⟩ := hv
  have hx := B.exec
  have hb := B.bytes
  have hr := B.returns
  have hts := atoms_spec (ws := wsX0_byteAt) B.pre
  have hown : s.vm.findClass RX0 = some m.cls := findClass_of_methodNamed B.named
  have hlocks := B.notSynchronized
  have hiX0 : ∀ w ∈ u_ws RX0 TX0 5, w ∈ wsX0_byteAt := by decide +kernel
  have hl := lv_entry ([.ref (a (6 + 4 * b)), .int (nI (k)), .int (nI (i))]) (n := 5) (Nat.le_of_ble_eq_true rfl)
  rw [lg_entry_eq]
  generalize (lg_sl ([.ref (a (6 + 4 * b)), .int (nI (k)), .int (nI (i))]) ++ List.replicate (5 - (lg_sl ([.ref (a (6 + 4 * b)), .int (nI (k)), .int (nI (i))])).length) Slot.unset).toArray = ls at hl ⊢
  have hl : lv_has ls 5 [(0, .ref (a (6 + 4 * b))), (1, .int (nI (k))), (2, .int (nI (i)))] := hl
  refine lv_aload_n hx hb dX0_byteAt_0 rfl (lv_at hl 0 rfl) ?_
  refine va_get (D := D) (ci := 0) (v := .ref (a (7 + 4 * b))) (C := RX0) (T := TX0) (N := 5) hx hb hts hiX0 hown hK hP 0 rfl rfl 0 (by decide) (hts (.fieldLink RX0 9 "PairedCells$Block" "states" "[I") (by decide +kernel)) (fun _ h9 => h9) rfl dX0_byteAt_1 ?_
  refine lv_iload_n hx hb dX0_byteAt_4 rfl (lv_at hl 1 rfl) ?_
  refine xr_iald hx hb hK hP 1 0 rfl rfl (by omega) (by decide) dX0_byteAt_5 ?_
  have hb_5 := hχ (16 * b + k)
  refine lv_iconst (v := nI 1) hx hb dX0_byteAt_6 (by decide) ?_
  refine xi_ne (tgt := 22) hx hb dX0_byteAt_7 (by decide) (nI_toInt (by omega)) (nI_toInt (by omega)) (fun c_7 => ?_) (fun c_7 => ?_)
  · have hre : reb χ b k := hrd.resolve_left (by omega)
    refine lv_aload_n hx hb dX0_byteAt_22 rfl (lv_at hl 0 rfl) ?_
    refine va_get (D := D) (ci := 0) (v := .ref (a (9 + 4 * b))) (C := RX0) (T := TX0) (N := 5) hx hb hts hiX0 hown hK hP 0 rfl rfl 2 (by decide) (hts (.fieldLink RX0 18 "PairedCells$Block" "guardBytes" "[I") (by decide +kernel)) (fun _ h9 => h9) rfl dX0_byteAt_23 ?_
    refine lv_iload_n hx hb dX0_byteAt_26 rfl (lv_at hl 2 rfl) ?_
    refine xr_iald hx hb hK hP 3 0 rfl rfl (by omega) (by decide) dX0_byteAt_27 ?_
    have hb_27 := hχ (200 + 17 * b + i)
    refine lv_istore_n (lv' := [(3, .int (nI (χ (200 + 17 * b + i)))), (0, .ref (a (6 + 4 * b))), (1, .int (nI (k))), (2, .int (nI (i)))]) hx hb dX0_byteAt_28 rfl hl (by decide) rfl (fun ls hl => ?_)
    refine lv_iconst (v := nI 0) hx hb dX0_byteAt_29 (by decide) ?_
    refine lv_istore (lv' := [(4, .int (nI (0))), (3, .int (nI (χ (200 + 17 * b + i)))), (0, .ref (a (6 + 4 * b))), (1, .int (nI (k))), (2, .int (nI (i)))]) hx hb dX0_byteAt_30 hl (by decide) rfl (fun ls hl => ?_)
    refine lpR (α := Nat) (fun j => j ≤ 8) (fun j => [(0, .ref (a (6 + 4 * b))), (1, .int (nI (k))), (2, .int (nI (i))), (3, .int (nI (xfo χ b k i j))), (4, .int (nI (j)))]) 5 (fun j => 8 - j) 0 (by omega) (lv_sub hl [2, 3, 4, 1, 0] rfl) (fun s9 ls hI9 hl9 ih_32 => ?_)
    obtain ⟨j, rfl⟩ : ∃ z, z = s9 := ⟨_, rfl⟩
    have hl : lv_has ls 5 [(0, .ref (a (6 + 4 * b))), (1, .int (nI (k))), (2, .int (nI (i))), (3, .int (nI (xfo χ b k i j))), (4, .int (nI (j)))] := hl9
    obtain hj : j ≤ 8 := hI9
    refine lv_iload hx hb dX0_byteAt_32 (lv_at hl 4 rfl) ?_
    refine lv_bipush (v := nI 8) hx hb dX0_byteAt_34 (by decide) ?_
    refine xi_ge (tgt := 75) hx hb dX0_byteAt_36 (by decide) (nI_toInt (by omega)) (nI_toInt (by omega)) (fun c_36 => ?_) (fun c_36 => ?_)
    · refine lv_iload_n hx hb dX0_byteAt_75 rfl (lv_at hl 3 rfl) ?_
      exact xe_i hx hb hr hlocks (by rw [show j = 8 by omega]; unfold byt; rw [if_neg (show ¬ χ (16 * b + k) = 1 by omega)]) rfl rfl dX0_byteAt_76
    · refine lv_iload hx hb dX0_byteAt_39 (lv_at hl 4 rfl) ?_
      refine lv_iload_n hx hb dX0_byteAt_41 rfl (lv_at hl 1 rfl) ?_
      refine xi_eq (tgt := 69) hx hb dX0_byteAt_42 (by decide) (nI_toInt (by omega)) (nI_toInt (by omega)) (fun c_42 => ?_) (fun c_42 => ?_)
      · refine lv_iinc (v := nI (j + 1)) (lv' := [(4, .int (nI (j + 1))), (0, .ref (a (6 + 4 * b))), (1, .int (nI (k))), (2, .int (nI (i))), (3, .int (nI (xfo χ b k i j)))]) hx hb dX0_byteAt_69 hl (k := 4) rfl (nI_add _ _) (by decide) rfl (fun ls hl => ?_)
        refine lv_goto (tgt := 32) hx hb dX0_byteAt_72 (by decide) ?_
        have e9 : xfo χ b k i j = xfo χ b k i (j + 1) := by first | rw [xfo_out (fun h => h.1 (by omega))] | rw [xfo_out (fun h => h_51 ⟨hre.2.1.1, by omega, h.2⟩)]
        rw [e9] at hl
        exact ih_32 (j + 1) _ (by omega) (by first | omega | (dsimp only; omega)) (lv_sub hl [1, 2, 3, 4, 0] rfl)
      · refine lv_aload_n hx hb dX0_byteAt_45 rfl (lv_at hl 0 rfl) ?_
        refine lv_iload hx hb dX0_byteAt_46 (lv_at hl 4 rfl) ?_
        refine xc_Vi (ci := 0) (rest := []) (As := [.int (nI (j))]) ⟨hx, hb, hml, hown, hts⟩ (c_X0_covers l D a χ b hb6 hχ (j) (by omega)) (cwV 1 hts gX0_byteAt_X0_covers rfl rfl rfl (by decide +kernel) ⟨Nat.le_of_ble_eq_true rfl, Nat.le_of_ble_eq_true rfl⟩) hN hK (hP) rfl 0 rfl rfl hl.1 rfl (Nat.le_of_ble_eq_true rfl) dX0_byteAt_48 ⟨Nat.le_of_ble_eq_true rfl, Nat.le_of_ble_eq_true rfl⟩ (fun r_48 hw_48 => ?_)
        refine xz_eq (tgt := 69) hx hb dX0_byteAt_51 (by decide) rfl (fun c_51 => ?_) (fun c_51 => ?_)
        · have h_51 := bo.f hw_48 c_51
          refine lv_iinc (v := nI (j + 1)) (lv' := [(4, .int (nI (j + 1))), (0, .ref (a (6 + 4 * b))), (1, .int (nI (k))), (2, .int (nI (i))), (3, .int (nI (xfo χ b k i j)))]) hx hb dX0_byteAt_69 hl (k := 4) rfl (nI_add _ _) (by decide) rfl (fun ls hl => ?_)
          refine lv_goto (tgt := 32) hx hb dX0_byteAt_72 (by decide) ?_
          have e9 : xfo χ b k i j = xfo χ b k i (j + 1) := by first | rw [xfo_out (fun h => h.1 (by omega))] | rw [xfo_out (fun h => h_51 ⟨hre.2.1.1, by omega, h.2⟩)]
          rw [e9] at hl
          exact ih_32 (j + 1) _ (by omega) (by first | omega | (dsimp only; omega)) (lv_sub hl [1, 2, 3, 4, 0] rfl)
        · have h_51 := bo.t hw_48 c_51
          refine lv_iload_n hx hb dX0_byteAt_54 rfl (lv_at hl 3 rfl) ?_
          refine lv_aload_n hx hb dX0_byteAt_55 rfl (lv_at hl 0 rfl) ?_
          refine va_get (D := D) (ci := 0) (v := .ref (a (8 + 4 * b))) (C := RX0) (T := TX0) (N := 5) hx hb hts hiX0 hown hK hP 0 rfl rfl 1 (by decide) (hts (.fieldLink RX0 15 "PairedCells$Block" "bytes" "[I") (by decide +kernel)) (fun _ h9 => h9) rfl dX0_byteAt_56 ?_
          refine lv_iload hx hb dX0_byteAt_59 (lv_at hl 4 rfl) ?_
          refine lv_bipush (v := nI 16) hx hb dX0_byteAt_61 (by decide) ?_
          refine xr_mul hx hb dX0_byteAt_63 ?_
          refine lv_iload_n hx hb dX0_byteAt_64 rfl (lv_at hl 2 rfl) ?_
          refine xr_add hx hb dX0_byteAt_65 ?_
          refine xr_iald hx hb hK hP 2 0 rfl rfl (by omega) (by decide) dX0_byteAt_66 ?_
          have hb_66 := hχ (1000 + 256 * b + (j * 16 + i))
          refine xr_xor hx hb dX0_byteAt_67 ?_
          refine lv_istore_n (lv' := [(3, .int (nI ((xfo χ b k i j) ^^^ (χ (1000 + 256 * b + (j * 16 + i)))))), (0, .ref (a (6 + 4 * b))), (1, .int (nI (k))), (2, .int (nI (i))), (4, .int (nI (j)))]) hx hb dX0_byteAt_68 rfl hl (by decide) rfl (fun ls hl => ?_)
          refine lv_iinc (v := nI (j + 1)) (lv' := [(4, .int (nI (j + 1))), (3, .int (nI ((xfo χ b k i j) ^^^ (χ (1000 + 256 * b + (j * 16 + i)))))), (0, .ref (a (6 + 4 * b))), (1, .int (nI (k))), (2, .int (nI (i)))]) hx hb dX0_byteAt_69 hl (k := 4) rfl (nI_add _ _) (by decide) rfl (fun ls hl => ?_)
          refine lv_goto (tgt := 32) hx hb dX0_byteAt_72 (by decide) ?_
          have e9 : (xfo χ b k i j) ^^^ (χ (1000 + 256 * b + (j * 16 + i))) = xfo χ b k i (j + 1) := by rw [xfo_in ⟨by omega, h_51.2.2⟩, show 16 * j + i = j * 16 + i by omega]
          rw [e9] at hl
          exact ih_32 (j + 1) _ (by omega) (by first | omega | (dsimp only; omega)) (lv_sub hl [2, 3, 4, 1, 0] rfl)
  · refine lv_aload_n hx hb dX0_byteAt_10 rfl (lv_at hl 0 rfl) ?_
    refine va_get (D := D) (ci := 0) (v := .ref (a (8 + 4 * b))) (C := RX0) (T := TX0) (N := 5) hx hb hts hiX0 hown hK hP 0 rfl rfl 1 (by decide) (hts (.fieldLink RX0 15 "PairedCells$Block" "bytes" "[I") (by decide +kernel)) (fun _ h9 => h9) rfl dX0_byteAt_11 ?_
    refine lv_iload_n hx hb dX0_byteAt_14 rfl (lv_at hl 1 rfl) ?_
    refine lv_bipush (v := nI 16) hx hb dX0_byteAt_15 (by decide) ?_
    refine xr_mul hx hb dX0_byteAt_17 ?_
    refine lv_iload_n hx hb dX0_byteAt_18 rfl (lv_at hl 2 rfl) ?_
    refine xr_add hx hb dX0_byteAt_19 ?_
    refine xr_iald hx hb hK hP 2 0 rfl rfl (by omega) (by decide) dX0_byteAt_20 ?_
    have hb_20 := hχ (1000 + 256 * b + (k * 16 + i))
    exact xe_i hx hb hr hlocks (by unfold byt; rw [if_pos (show χ (16 * b + k) = 1 by omega), show k * 16 + i = 16 * k + i by omega]) rfl rfl dX0_byteAt_21

/-- the guard page's row while line j is added: byte 16 is, the others are below i -/
def grI (χ : Nat → Nat) (b j i : Nat) : Nat → Nat := fun t => if t = 16 then gm χ b (j + 1) else if t < i then gx χ b t (j + 1) else if t < 16 then gx χ b t j else 0

theorem bX_ext {cI : ClassId} {a : Nat → Nat} {b : Nat} {S B G S' B' G' : Nat → Nat} {gs er gs' er' : Nat} (h1 : ∀ j, j < 16 → S j = S' j) (h2 : ∀ j, j < 256 → B j = B' j) (h3 : ∀ j, j < 17 → G j = G' j) (h4 : gs = gs') (h5 : er = er') : bX cI a b S B G gs er = bX cI a b S' B' G' gs' er' := by
  subst h4; subst h5
  simp only [bX, ar]
  rw [gd_congr h1, gd_congr h2, gd_congr h3]

set_option maxHeartbeats 4000000 in
set_option maxRecDepth 100000 in
theorem c_X0_writeGuard (l : Launch) (D : va_G) {cI cB : ClassId} (a χ : Nat → Nat) (b : Nat) (hb6 : b < 6) (hχ : ∀ i, χ i < 65536) (sz : Nat) : Met l yX0_writeGuard wsX0_writeGuard ({ frames := 1, cells := 0, slots := 0, locals := 23 }) (va_Pc [.ref (a (6 + 4 * b))] (x_U D (tyP cI cB) (wB cI a χ b) sz)) (va_Qv (fun (_ : Unit) => True) (fun u t => x_E D (tyP cI cB) (va_A (wB cI a χ b) sz) (wB cI a (wgd χ b) b) t) (va_A (wB cI a χ b) sz)) 0 0 (va_A (wB cI a χ b) sz) := by
  refine Met.ofW (cc := cX0_writeGuard) (maxL := 3) (ret := none) (by decide) rfl ?_
  intro p e s m args below meth c s₁ B hml hv
  obtain ⟨rfl, hsz, hN, hP, hK, hD0⟩ := hv
  have hx := B.exec
  have hb := B.bytes
  have hr := B.returns
  have hts := atoms_spec (ws := wsX0_writeGuard) B.pre
  have hown : s.vm.findClass RX0 = some m.cls := findClass_of_methodNamed B.named
  have hlocks := B.notSynchronized
  subst hsz
  have hD := hD0.self (sz := s.heap.size)
  generalize hAe : va_A (wB cI a χ b) s.heap.size = A at hD ⊢
  have hA : ∀ q : Nat, s.heap.size ≤ q → A q := fun q h => by rw [← hAe]; exact Or.inr h
  obtain ⟨H, hH⟩ : ∃ H : Heap, s.heap = H := ⟨_, rfl⟩
  obtain ⟨locs, hlo⟩ : ∃ L : List Loc, ([] : List Loc) = L := ⟨_, rfl⟩
  have hS : va_S A s.heap H locs := by rw [← hH, ← hlo]; exact va_S.rf
  have hP : va_P D vwCl (wB cI a χ b) H := hH ▸ hP
  rw [hH, hlo]
  have hiX0 : ∀ w ∈ u_ws RX0 TX0 5, w ∈ wsX0_writeGuard := by decide +kernel
  have hl := lv_entry ([.ref (a (6 + 4 * b))]) (n := 3) (Nat.le_of_ble_eq_true rfl)
  rw [lg_entry_eq]
  generalize (lg_sl ([.ref (a (6 + 4 * b))]) ++ List.replicate (3 - (lg_sl ([.ref (a (6 + 4 * b))])).length) Slot.unset).toArray = ls at hl ⊢
  have hl : lv_has ls 3 [(0, .ref (a (6 + 4 * b)))] := hl
  refine lv_aload_n hx hb dX0_writeGuard_0 rfl (lv_at hl 0 rfl) ?_
  refine va_get (D := D) (ci := 0) (v := .ref (a (9 + 4 * b))) (C := RX0) (T := TX0) (N := 5) hx hb hts hiX0 hown hK hP 0 rfl rfl 2 (by decide) (hts (.fieldLink RX0 18 "PairedCells$Block" "guardBytes" "[I") (by decide +kernel)) (fun _ h9 => h9) rfl dX0_writeGuard_1 ?_
  refine lv_iconst (v := nI 0) hx hb dX0_writeGuard_4 (by decide) ?_
  have hF9 := x_hF (hD.sub (ws' := [(a (9 + 4 * b), ar cI 17 (fun j => χ (200 + 17 * b + j)))]) [3] (by decide) rfl) hS hA
  refine xw_Sv (rest := []) (As := [.ref (a (9 + 4 * b)), .int (nI (0))]) ⟨hx, hb, hml, hown, hts⟩ (c_fill l D (a (9 + 4 * b)) 17 0 (fun j => χ (200 + 17 * b + j)) (by decide) H.size) (va_cwS 2 hts gX0_writeGuard_J7_fill_53178 rfl rfl rfl (by decide +kernel) ⟨Nat.le_of_ble_eq_true rfl, Nat.le_of_ble_eq_true rfl⟩) hN hK (hP.sub (ws' := [(a (9 + 4 * b), ar cI 17 (fun j => χ (200 + 17 * b + j)))]) [3] rfl) (hD.sub (ws' := [(a (9 + 4 * b), ar cI 17 (fun j => χ (200 + 17 * b + j)))]) [3] (by decide) rfl) hS hA rfl hl.1 rfl (Nat.le_of_ble_eq_true rfl) dX0_writeGuard_5 ⟨Nat.le_of_ble_eq_true rfl, Nat.le_of_ble_eq_true rfl⟩ (fun u_5 H1 locs hw_5 hP1 hD1 hDA hk9 hS => ?_)
  obtain ⟨hP, hD⟩ := va_join (wr := [(a (6 + 4 * b), .inr (0, [.ref (a (7 + 4 * b)), .ref (a (8 + 4 * b)), .ref (a (9 + 4 * b)), .int (nI (χ (100 + b))), .int (nI (χ (110 + b)))])), (a (7 + 4 * b), ar cI 16 (fun j => χ (16 * b + j))), (a (8 + 4 * b), ar cI 256 (fun j => χ (1000 + 256 * b + j)))]) hP hD [3] [0, 1, 2] rfl rfl (by decide) (by decide) hk9 hF9 hP1 hD1
  have hP := hP.sub (ws' := bX cI a b (fun j => χ (16 * b + j)) (fun j => χ (1000 + 256 * b + j)) (fun _ => 0) (χ (100 + b)) (χ (110 + b))) [0, 1, 2, 3] rfl
  have hD := hD.sub (ws' := bX cI a b (fun j => χ (16 * b + j)) (fun j => χ (1000 + 256 * b + j)) (fun _ => 0) (χ (100 + b)) (χ (110 + b))) [0, 1, 2, 3] (by decide) rfl
  generalize H1 = H at hP hS ⊢
  have hP : va_P D vwCl (bX cI a b (fun j => χ (16 * b + j)) (fun j => χ (1000 + 256 * b + j)) (fun _ => 0) (χ (100 + b)) (χ (110 + b))) H := hP
  have hD : va_D A (bX cI a b (fun j => χ (16 * b + j)) (fun j => χ (1000 + 256 * b + j)) (fun _ => 0) (χ (100 + b)) (χ (110 + b))) := hD
  refine lv_iconst (v := nI 0) hx hb dX0_writeGuard_8 (by decide) ?_
  refine lv_istore_n (lv' := [(1, .int (nI (0))), (0, .ref (a (6 + 4 * b)))]) hx hb dX0_writeGuard_9 rfl hl (by decide) rfl (fun ls hl => ?_)
  have hq9 : (bX cI a b (fun j => χ (16 * b + j)) (fun j => χ (1000 + 256 * b + j)) (fun _ => 0) (χ (100 + b)) (χ (110 + b)) : va_W) = bX cI a b (fun j => χ (16 * b + j)) (fun j => χ (1000 + 256 * b + j)) (gr χ b 0) (χ (100 + b)) (χ (110 + b)) := (bX_ext (fun _ _ => rfl) (fun _ _ => rfl) (fun t ht => by simp only [gr, gx, gm]; (repeat' split) <;> rfl) rfl rfl)
  refine lpW (α := Nat) (fun j H locs => (j ≤ 8) ∧ va_P D vwCl (bX cI a b (fun j => χ (16 * b + j)) (fun j => χ (1000 + 256 * b + j)) (gr χ b j) (χ (100 + b)) (χ (110 + b))) H ∧ va_D A (bX cI a b (fun j => χ (16 * b + j)) (fun j => χ (1000 + 256 * b + j)) (gr χ b j) (χ (100 + b)) (χ (110 + b))) ∧ va_S A s.heap H locs) (fun j => [(0, .ref (a (6 + 4 * b))), (1, .int (nI (j)))]) 3 (fun j => 8 - j) 0 (⟨by omega, va_P.eqw hq9 hP, va_D.eqw hq9 hD, hS⟩) (lv_sub hl [1, 0] rfl) (fun s9 H locs ls hI9 hl9 ih_10 => ?_)
  obtain ⟨j, rfl⟩ : ∃ z, z = s9 := ⟨_, rfl⟩
  have hl : lv_has ls 3 [(0, .ref (a (6 + 4 * b))), (1, .int (nI (j)))] := hl9
  obtain ⟨hj, hP, hD, hS⟩ : (j ≤ 8) ∧ va_P D vwCl (bX cI a b (fun j => χ (16 * b + j)) (fun j => χ (1000 + 256 * b + j)) (gr χ b j) (χ (100 + b)) (χ (110 + b))) H ∧ va_D A (bX cI a b (fun j => χ (16 * b + j)) (fun j => χ (1000 + 256 * b + j)) (gr χ b j) (χ (100 + b)) (χ (110 + b))) ∧ va_S A s.heap H locs := hI9
  refine lv_iload_n hx hb dX0_writeGuard_10 rfl (lv_at hl 1 rfl) ?_
  refine lv_bipush (v := nI 8) hx hb dX0_writeGuard_11 (by decide) ?_
  refine xi_ge (tgt := 79) hx hb dX0_writeGuard_13 (by decide) (nI_toInt (by omega)) (nI_toInt (by omega)) (fun c_13 => ?_) (fun c_13 => ?_)
  · refine lv_aload_n hx hb dX0_writeGuard_79 rfl (lv_at hl 0 rfl) ?_
    refine lv_iconst (v := nI 1) hx hb dX0_writeGuard_80 (by decide) ?_
    refine va_put (D := D) (ci := 0) (v := .int (nI (1))) (ty := .int) (C := RX0) (T := TX0) (N := 5) hx hb hts hiX0 tyX0 tyX0_ok nmX0 hown hK hP hD hS 0 rfl rfl 3 (by decide) (hts (.fieldLink RX0 21 "PairedCells$Block" "guardState" "I") (by decide +kernel)) (fun _ h9 => h9) rfl (by decide +kernel) rfl rfl (Nat.le_of_ble_eq_true rfl) dX0_writeGuard_81 (fun H locs hP hD hS => ?_)
    have hP : va_P D vwCl (bX cI a b (fun j => χ (16 * b + j)) (fun j => χ (1000 + 256 * b + j)) (gr χ b j) (1) (χ (110 + b))) H := hP
    have hD : va_D A (bX cI a b (fun j => χ (16 * b + j)) (fun j => χ (1000 + 256 * b + j)) (gr χ b j) (1) (χ (110 + b))) := hD
    have hq9 : (bX cI a b (fun j => χ (16 * b + j)) (fun j => χ (1000 + 256 * b + j)) (gr χ b j) (1) (χ (110 + b)) : va_W) = wB cI a (wgd χ b) b := (bX_eq (fun j9 hj9 => (by simp only [wgd]; (repeat' split) <;> first | rfl | omega | (exfalso; omega) | (congr 1; omega))) (fun j9 hj9 => (by simp only [wgd]; (repeat' split) <;> first | rfl | omega | (exfalso; omega) | (congr 1; omega))) (fun j9 hj9 => by rw [show j = 8 by omega]; simp only [wgd]; rw [if_neg (by omega), if_pos (by omega), show 200 + 17 * b + j9 - (200 + 17 * b) = j9 by omega]) (by simp only [wgd]; (repeat' split) <;> first | rfl | omega | (exfalso; omega) | (congr 1; omega)) (by simp only [wgd]; (repeat' split) <;> first | rfl | omega | (exfalso; omega) | (congr 1; omega)))
    exact xf_v (post := fun (_ : Unit) => True) (w1 := fun (_ : Unit) => wB cI a (wgd χ b) b) () hx hb hr hlocks (trivial) (va_P.eqw hq9 hP) hK (va_D.eqw hq9 hD) hS dX0_writeGuard_84
  · refine lv_aload_n hx hb dX0_writeGuard_16 rfl (lv_at hl 0 rfl) ?_
    refine va_get (D := D) (ci := 0) (v := .ref (a (7 + 4 * b))) (C := RX0) (T := TX0) (N := 5) hx hb hts hiX0 hown hK hP 0 rfl rfl 0 (by decide) (hts (.fieldLink RX0 9 "PairedCells$Block" "states" "[I") (by decide +kernel)) (fun _ h9 => h9) rfl dX0_writeGuard_17 ?_
    refine lv_iload_n hx hb dX0_writeGuard_20 rfl (lv_at hl 1 rfl) ?_
    refine xr_iald hx hb hK hP 1 0 rfl rfl (by omega) (by decide) dX0_writeGuard_21 ?_
    have hb_21 := hχ (16 * b + j)
    refine lv_iconst (v := nI 1) hx hb dX0_writeGuard_22 (by decide) ?_
    refine xi_ne (tgt := 73) hx hb dX0_writeGuard_23 (by decide) (nI_toInt (by omega)) (nI_toInt (by omega)) (fun c_23 => ?_) (fun c_23 => ?_)
    · refine lv_iinc (v := nI (j + 1)) (lv' := [(1, .int (nI (j + 1))), (0, .ref (a (6 + 4 * b)))]) hx hb dX0_writeGuard_73 hl (k := 1) rfl (nI_add _ _) (by decide) rfl (fun ls hl => ?_)
      refine lv_goto (tgt := 10) hx hb dX0_writeGuard_76 (by decide) ?_
      have hq9 : (bX cI a b (fun j => χ (16 * b + j)) (fun j => χ (1000 + 256 * b + j)) (gr χ b j) (χ (100 + b)) (χ (110 + b)) : va_W) = bX cI a b (fun j => χ (16 * b + j)) (fun j => χ (1000 + 256 * b + j)) (gr χ b (j + 1)) (χ (100 + b)) (χ (110 + b)) := (bX_ext (fun _ _ => rfl) (fun _ _ => rfl) (fun t ht => by first | (simp only [gr, gx, gm, if_neg (show ¬ χ (16 * b + j) = 1 by omega)]) | (simp only [grI, gr]; (repeat' split) <;> first | rfl | omega | (exfalso; omega))) rfl rfl)
      exact ih_10 (j + 1) _ _ _ (⟨by omega, va_P.eqw hq9 hP, va_D.eqw hq9 hD, hS⟩) (by first | omega | (dsimp only; omega)) (lv_sub hl [1, 0] rfl)
    · refine lv_aload_n hx hb dX0_writeGuard_26 rfl (lv_at hl 0 rfl) ?_
      refine va_get (D := D) (ci := 0) (v := .ref (a (9 + 4 * b))) (C := RX0) (T := TX0) (N := 5) hx hb hts hiX0 hown hK hP 0 rfl rfl 2 (by decide) (hts (.fieldLink RX0 18 "PairedCells$Block" "guardBytes" "[I") (by decide +kernel)) (fun _ h9 => h9) rfl dX0_writeGuard_27 ?_
      refine lv_bipush (v := nI 16) hx hb dX0_writeGuard_30 (by decide) ?_
      refine lv_dup2_11 hx hb dX0_writeGuard_32 rfl rfl ?_
      refine xr_iald hx hb hK hP 3 0 rfl rfl (by omega) (by decide) dX0_writeGuard_33 ?_
      refine xr_nat (x' := gm χ b j) (rfl) ?_
      refine lv_iconst (v := nI 1) hx hb dX0_writeGuard_34 (by decide) ?_
      refine lv_iload_n hx hb dX0_writeGuard_35 rfl (lv_at hl 1 rfl) ?_
      refine xr_shl hx hb (by omega) (by rw [Nat.one_mul]; exact Nat.lt_of_le_of_lt (Nat.pow_le_pow_right (by decide) (show j ≤ 7 by omega)) (by decide)) dX0_writeGuard_36 ?_
      refine xr_or hx hb dX0_writeGuard_37 ?_
      refine xr_nat (x' := gm χ b (j + 1)) (by rw [Nat.one_mul]; exact (if_pos (show χ (16 * b + j) = 1 by omega)).symm) ?_
      refine xr_iast hx hb hK hP hD hS 3 0 rfl rfl (by omega) (by decide) dX0_writeGuard_38 (fun H locs hP hD hS => ?_)
      have hP : va_P D vwCl (bX cI a b (fun j => χ (16 * b + j)) (fun j => χ (1000 + 256 * b + j)) (up (gr χ b j) (16) (gm χ b (j + 1))) (χ (100 + b)) (χ (110 + b))) H := hP
      have hD : va_D A (bX cI a b (fun j => χ (16 * b + j)) (fun j => χ (1000 + 256 * b + j)) (up (gr χ b j) (16) (gm χ b (j + 1))) (χ (100 + b)) (χ (110 + b))) := hD
      refine lv_iconst (v := nI 0) hx hb dX0_writeGuard_39 (by decide) ?_
      refine lv_istore_n (lv' := [(2, .int (nI (0))), (0, .ref (a (6 + 4 * b))), (1, .int (nI (j)))]) hx hb dX0_writeGuard_40 rfl hl (by decide) rfl (fun ls hl => ?_)
      have hq9 : (bX cI a b (fun j => χ (16 * b + j)) (fun j => χ (1000 + 256 * b + j)) (up (gr χ b j) (16) (gm χ b (j + 1))) (χ (100 + b)) (χ (110 + b)) : va_W) = bX cI a b (fun j => χ (16 * b + j)) (fun j => χ (1000 + 256 * b + j)) (grI χ b j 0) (χ (100 + b)) (χ (110 + b)) := (bX_ext (fun _ _ => rfl) (fun _ _ => rfl) (fun t ht => by simp only [up, gr, grI]; (repeat' split) <;> first | rfl | omega | (exfalso; omega)) rfl rfl)
      refine lpW (α := Nat) (fun i H locs => (i ≤ 16) ∧ va_P D vwCl (bX cI a b (fun j => χ (16 * b + j)) (fun j => χ (1000 + 256 * b + j)) (grI χ b j i) (χ (100 + b)) (χ (110 + b))) H ∧ va_D A (bX cI a b (fun j => χ (16 * b + j)) (fun j => χ (1000 + 256 * b + j)) (grI χ b j i) (χ (100 + b)) (χ (110 + b))) ∧ va_S A s.heap H locs) (fun i => [(0, .ref (a (6 + 4 * b))), (1, .int (nI (j))), (2, .int (nI (i)))]) 3 (fun i => 16 - i) 0 (⟨by omega, va_P.eqw hq9 hP, va_D.eqw hq9 hD, hS⟩) (lv_sub hl [1, 2, 0] rfl) (fun s9 H locs ls hI9 hl9 ih_41 => ?_)
      obtain ⟨i, rfl⟩ : ∃ z, z = s9 := ⟨_, rfl⟩
      have hl : lv_has ls 3 [(0, .ref (a (6 + 4 * b))), (1, .int (nI (j))), (2, .int (nI (i)))] := hl9
      obtain ⟨hi, hP, hD, hS⟩ : (i ≤ 16) ∧ va_P D vwCl (bX cI a b (fun j => χ (16 * b + j)) (fun j => χ (1000 + 256 * b + j)) (grI χ b j i) (χ (100 + b)) (χ (110 + b))) H ∧ va_D A (bX cI a b (fun j => χ (16 * b + j)) (fun j => χ (1000 + 256 * b + j)) (grI χ b j i) (χ (100 + b)) (χ (110 + b))) ∧ va_S A s.heap H locs := hI9
      refine lv_iload_n hx hb dX0_writeGuard_41 rfl (lv_at hl 2 rfl) ?_
      refine lv_bipush (v := nI 16) hx hb dX0_writeGuard_42 (by decide) ?_
      refine xi_ge (tgt := 73) hx hb dX0_writeGuard_44 (by decide) (nI_toInt (by omega)) (nI_toInt (by omega)) (fun c_44 => ?_) (fun c_44 => ?_)
      · refine lv_iinc (v := nI (j + 1)) (lv' := [(1, .int (nI (j + 1))), (0, .ref (a (6 + 4 * b))), (2, .int (nI (i)))]) hx hb dX0_writeGuard_73 hl (k := 1) rfl (nI_add _ _) (by decide) rfl (fun ls hl => ?_)
        refine lv_goto (tgt := 10) hx hb dX0_writeGuard_76 (by decide) ?_
        have hq9 : (bX cI a b (fun j => χ (16 * b + j)) (fun j => χ (1000 + 256 * b + j)) (grI χ b j i) (χ (100 + b)) (χ (110 + b)) : va_W) = bX cI a b (fun j => χ (16 * b + j)) (fun j => χ (1000 + 256 * b + j)) (gr χ b (j + 1)) (χ (100 + b)) (χ (110 + b)) := (bX_ext (fun _ _ => rfl) (fun _ _ => rfl) (fun t ht => by first | (simp only [gr, gx, gm, if_neg (show ¬ χ (16 * b + j) = 1 by omega)]) | (simp only [grI, gr]; (repeat' split) <;> first | rfl | omega | (exfalso; omega))) rfl rfl)
        exact ih_10 (j + 1) _ _ _ (⟨by omega, va_P.eqw hq9 hP, va_D.eqw hq9 hD, hS⟩) (by first | omega | (dsimp only; omega)) (lv_sub hl [1, 0] rfl)
      · refine lv_aload_n hx hb dX0_writeGuard_47 rfl (lv_at hl 0 rfl) ?_
        refine va_get (D := D) (ci := 0) (v := .ref (a (9 + 4 * b))) (C := RX0) (T := TX0) (N := 5) hx hb hts hiX0 hown hK hP 0 rfl rfl 2 (by decide) (hts (.fieldLink RX0 18 "PairedCells$Block" "guardBytes" "[I") (by decide +kernel)) (fun _ h9 => h9) rfl dX0_writeGuard_48 ?_
        refine lv_iload_n hx hb dX0_writeGuard_51 rfl (lv_at hl 2 rfl) ?_
        refine lv_dup2_11 hx hb dX0_writeGuard_52 rfl rfl ?_
        refine xr_iald hx hb hK hP 3 0 rfl rfl (by omega) (by decide) dX0_writeGuard_53 ?_
        refine xr_nat (x' := gx χ b i j) (by simp only [grI]; rw [if_neg (by omega), if_neg (by omega), if_pos (by omega)]) ?_
        refine lv_aload_n hx hb dX0_writeGuard_54 rfl (lv_at hl 0 rfl) ?_
        refine va_get (D := D) (ci := 0) (v := .ref (a (8 + 4 * b))) (C := RX0) (T := TX0) (N := 5) hx hb hts hiX0 hown hK hP 0 rfl rfl 1 (by decide) (hts (.fieldLink RX0 15 "PairedCells$Block" "bytes" "[I") (by decide +kernel)) (fun _ h9 => h9) rfl dX0_writeGuard_55 ?_
        refine lv_iload_n hx hb dX0_writeGuard_58 rfl (lv_at hl 1 rfl) ?_
        refine lv_bipush (v := nI 16) hx hb dX0_writeGuard_59 (by decide) ?_
        refine xr_mul hx hb dX0_writeGuard_61 ?_
        refine lv_iload_n hx hb dX0_writeGuard_62 rfl (lv_at hl 2 rfl) ?_
        refine xr_add hx hb dX0_writeGuard_63 ?_
        refine xr_iald hx hb hK hP 2 0 rfl rfl (by omega) (by decide) dX0_writeGuard_64 ?_
        have hb_64 := hχ (1000 + 256 * b + (j * 16 + i))
        refine xr_xor hx hb dX0_writeGuard_65 ?_
        refine xr_nat (x' := gx χ b i (j + 1)) (by rw [show j * 16 + i = 16 * j + i by omega]; exact (if_pos (show χ (16 * b + j) = 1 by omega)).symm) ?_
        refine xr_iast hx hb hK hP hD hS 3 0 rfl rfl (by omega) (by decide) dX0_writeGuard_66 (fun H locs hP hD hS => ?_)
        have hP : va_P D vwCl (bX cI a b (fun j => χ (16 * b + j)) (fun j => χ (1000 + 256 * b + j)) (up (grI χ b j i) (i) (gx χ b i (j + 1))) (χ (100 + b)) (χ (110 + b))) H := hP
        have hD : va_D A (bX cI a b (fun j => χ (16 * b + j)) (fun j => χ (1000 + 256 * b + j)) (up (grI χ b j i) (i) (gx χ b i (j + 1))) (χ (100 + b)) (χ (110 + b))) := hD
        refine lv_iinc (v := nI (i + 1)) (lv' := [(2, .int (nI (i + 1))), (0, .ref (a (6 + 4 * b))), (1, .int (nI (j)))]) hx hb dX0_writeGuard_67 hl (k := 2) rfl (nI_add _ _) (by decide) rfl (fun ls hl => ?_)
        refine lv_goto (tgt := 41) hx hb dX0_writeGuard_70 (by decide) ?_
        have hq9 : (bX cI a b (fun j => χ (16 * b + j)) (fun j => χ (1000 + 256 * b + j)) (up (grI χ b j i) (i) (gx χ b i (j + 1))) (χ (100 + b)) (χ (110 + b)) : va_W) = bX cI a b (fun j => χ (16 * b + j)) (fun j => χ (1000 + 256 * b + j)) (grI χ b j (i + 1)) (χ (100 + b)) (χ (110 + b)) := (bX_ext (fun _ _ => rfl) (fun _ _ => rfl) (fun t ht => by simp only [up, grI]; (repeat' split) <;> first | rfl | omega | (exfalso; omega) | (subst_vars; rfl)) rfl rfl)
        exact ih_41 (i + 1) _ _ _ (⟨by omega, va_P.eqw hq9 hP, va_D.eqw hq9 hD, hS⟩) (by first | omega | (dsimp only; omega)) (lv_sub hl [1, 2, 0] rfl)

set_option maxHeartbeats 4000000 in
set_option maxRecDepth 100000 in
theorem c_X0_write (l : Launch) (D : va_G) {cI cB : ClassId} (a χ : Nat → Nat) (b : Nat) (hb6 : b < 6) (hχ : ∀ i, χ i < 65536) (k : Nat) (hk : k < 16) (q0 q1 : Nat) (O : Nat → Nat) (sz : Nat) : Met l yX0_write wsX0_write ({ frames := 1, cells := 0, slots := 0, locals := 60 }) (va_Pc [.ref (a (6 + 4 * b)), .int (nI (k)), .ref (q0)] (x_U D (tyP cI cB) (wB cI a χ b ++ eW cI (q0) (q1) O) sz)) (va_Qv (fun (_ : Unit) => True) (fun u t => x_E D (tyP cI cB) (va_A (wB cI a χ b ++ eW cI (q0) (q1) O) sz) (wB cI a (wrt χ b k O) b ++ eW cI q0 q1 O) t) (va_A (wB cI a χ b ++ eW cI (q0) (q1) O) sz)) 0 0 (va_A (wB cI a χ b ++ eW cI (q0) (q1) O) sz) := by
  refine Met.ofW (cc := cX0_write) (maxL := 3) (ret := none) (by decide) rfl ?_
  intro p e s m args below meth c s₁ B hml hv
  obtain ⟨rfl, hsz, hN, hP, hK, hD0⟩ := hv
  have hx := B.exec
  have hb := B.bytes
  have hr := B.returns
  have hts := atoms_spec (ws := wsX0_write) B.pre
  have hown : s.vm.findClass RX0 = some m.cls := findClass_of_methodNamed B.named
  have hlocks := B.notSynchronized
  subst hsz
  have hD := hD0.self (sz := s.heap.size)
  generalize hAe : va_A (wB cI a χ b ++ eW cI (q0) (q1) O) s.heap.size = A at hD ⊢
  have hA : ∀ q : Nat, s.heap.size ≤ q → A q := fun q h => by rw [← hAe]; exact Or.inr h
  obtain ⟨H, hH⟩ : ∃ H : Heap, s.heap = H := ⟨_, rfl⟩
  obtain ⟨locs, hlo⟩ : ∃ L : List Loc, ([] : List Loc) = L := ⟨_, rfl⟩
  have hS : va_S A s.heap H locs := by rw [← hH, ← hlo]; exact va_S.rf
  have hP : va_P D vwCl (wB cI a χ b ++ eW cI (q0) (q1) O) H := hH ▸ hP
  rw [hH, hlo]
  have hiX0 : ∀ w ∈ u_ws RX0 TX0 5, w ∈ wsX0_write := by decide +kernel
  have hiX1 : ∀ w ∈ u_ws RX1 TX1 1, w ∈ wsX0_write := by decide +kernel
  have hl := lv_entry ([.ref (a (6 + 4 * b)), .int (nI (k)), .ref (q0)]) (n := 3) (Nat.le_of_ble_eq_true rfl)
  rw [lg_entry_eq]
  generalize (lg_sl ([.ref (a (6 + 4 * b)), .int (nI (k)), .ref (q0)]) ++ List.replicate (3 - (lg_sl ([.ref (a (6 + 4 * b)), .int (nI (k)), .ref (q0)])).length) Slot.unset).toArray = ls at hl ⊢
  have hl : lv_has ls 3 [(0, .ref (a (6 + 4 * b))), (1, .int (nI (k))), (2, .ref (q0))] := hl
  refine lv_aload_n hx hb dX0_write_0 rfl (lv_at hl 0 rfl) ?_
  refine va_get (D := D) (ci := 0) (v := .ref (a (7 + 4 * b))) (C := RX0) (T := TX0) (N := 5) hx hb hts hiX0 hown hK hP 0 rfl rfl 0 (by decide) (hts (.fieldLink RX0 9 "PairedCells$Block" "states" "[I") (by decide +kernel)) (fun _ h9 => h9) rfl dX0_write_1 ?_
  refine lv_iload_n hx hb dX0_write_4 rfl (lv_at hl 1 rfl) ?_
  refine lv_iconst (v := nI 1) hx hb dX0_write_5 (by decide) ?_
  refine xr_iast hx hb hK hP hD hS 1 0 rfl rfl (by omega) (by decide) dX0_write_6 (fun H locs hP hD hS => ?_)
  have hP : va_P D vwCl (bX cI a b (up (fun j => χ (16 * b + j)) (k) (1)) (fun j => χ (1000 + 256 * b + j)) (fun j => χ (200 + 17 * b + j)) (χ (100 + b)) (χ (110 + b)) ++ eW cI (q0) (q1) O) H := hP
  have hD : va_D A (bX cI a b (up (fun j => χ (16 * b + j)) (k) (1)) (fun j => χ (1000 + 256 * b + j)) (fun j => χ (200 + 17 * b + j)) (χ (100 + b)) (χ (110 + b)) ++ eW cI (q0) (q1) O) := hD
  refine lv_aload_n hx hb dX0_write_7 rfl (lv_at hl 2 rfl) ?_
  refine va_getN (D := D) (ci := 1) (v := .ref (q1)) (C := RX1) (T := TX1) (N := 1) hx hb hts hiX1 hown hK hP 4 rfl rfl 0 (by decide) (va_Nw.use rfl hN.1) (fun _ h9 => h9) rfl dX0_write_8 ?_
  refine lv_iconst (v := nI 0) hx hb dX0_write_11 (by decide) ?_
  refine lv_aload_n hx hb dX0_write_12 rfl (lv_at hl 0 rfl) ?_
  refine va_get (D := D) (ci := 0) (v := .ref (a (8 + 4 * b))) (C := RX0) (T := TX0) (N := 5) hx hb hts hiX0 hown hK hP 0 rfl rfl 1 (by decide) (hts (.fieldLink RX0 15 "PairedCells$Block" "bytes" "[I") (by decide +kernel)) (fun _ h9 => h9) rfl dX0_write_13 ?_
  refine lv_iload_n hx hb dX0_write_16 rfl (lv_at hl 1 rfl) ?_
  refine lv_bipush (v := nI 16) hx hb dX0_write_17 (by decide) ?_
  refine xr_mul hx hb dX0_write_19 ?_
  refine lv_bipush (v := nI 16) hx hb dX0_write_20 (by decide) ?_
  refine xr_copy hx hb (by rw [hml]; exact hl.1.symm) hown (hts (.methodLink RX0 41 arraycopyName) (by decide +kernel)) (hts (.native arraycopyName) (by decide +kernel)) (hts (.static arraycopyName) (by decide +kernel)) (hts (.initialized "java/lang/System") (by decide +kernel)) hK hP hD hS 5 2 0 rfl rfl rfl (by omega) (by omega) (by decide) (by decide) (Nat.le_of_ble_eq_true rfl) (Nat.le_of_ble_eq_true rfl) dX0_write_22 (fun H locs hP hD hS => ?_)
  have hP : va_P D vwCl (bX cI a b (up (fun j => χ (16 * b + j)) (k) (1)) (fun j => if k * 16 ≤ j ∧ j < k * 16 + 16 then O (0 + (j - (k * 16))) else χ (1000 + 256 * b + j)) (fun j => χ (200 + 17 * b + j)) (χ (100 + b)) (χ (110 + b)) ++ eW cI (q0) (q1) O) H := hP
  have hD : va_D A (bX cI a b (up (fun j => χ (16 * b + j)) (k) (1)) (fun j => if k * 16 ≤ j ∧ j < k * 16 + 16 then O (0 + (j - (k * 16))) else χ (1000 + 256 * b + j)) (fun j => χ (200 + 17 * b + j)) (χ (100 + b)) (χ (110 + b)) ++ eW cI (q0) (q1) O) := hD
  have hq9 : (bX cI a b (up (fun j => χ (16 * b + j)) (k) (1)) (fun j => if k * 16 ≤ j ∧ j < k * 16 + 16 then O (0 + (j - (k * 16))) else χ (1000 + 256 * b + j)) (fun j => χ (200 + 17 * b + j)) (χ (100 + b)) (χ (110 + b)) ++ eW cI (q0) (q1) O : va_W) = wB cI a (wrt χ b k O) b ++ eW cI q0 q1 O := (congrArg (fun z => z ++ eW cI q0 q1 O) (bX_eq (fun j hj => (by simp only [wrt, up]; (repeat' split) <;> first | rfl | omega | (exfalso; omega) | (congr 1; omega))) (fun j hj => (by simp only [wrt, up]; (repeat' split) <;> first | rfl | omega | (exfalso; omega) | (congr 1; omega))) (fun j hj => (by simp only [wrt, up]; (repeat' split) <;> first | rfl | omega | (exfalso; omega) | (congr 1; omega))) (by simp only [wrt, up]; (repeat' split) <;> first | rfl | omega | (exfalso; omega) | (congr 1; omega)) (by simp only [wrt, up]; (repeat' split) <;> first | rfl | omega | (exfalso; omega) | (congr 1; omega))))
  exact xf_v (post := fun (_ : Unit) => True) (w1 := fun (_ : Unit) => wB cI a (wrt χ b k O) b ++ eW cI q0 q1 O) () hx hb hr hlocks (trivial) (va_P.eqw hq9 hP) hK (va_D.eqw hq9 hD) hS dX0_write_25

set_option maxHeartbeats 4000000 in
set_option maxRecDepth 100000 in
theorem c_X0_show (l : Launch) (D : va_G) {cI cB : ClassId} (a χ : Nat → Nat) (b : Nat) (hb6 : b < 6) (hχ : ∀ i, χ i < 65536) (k : Nat) (hk : k < 16) (q0 q1 : Nat) (h : Nat → Nat) (sz : Nat) : Met l yX0_show wsX0_show ({ frames := 3, cells := 0, slots := 0, locals := 64 }) (va_Pc [.ref (a (6 + 4 * b)), .int (nI (k)), .ref (q0)] (x_U D (tyP cI cB) (wB cI a χ b ++ eW cI (q0) (q1) h) sz)) (va_Qi (fun (r : Int32) (u : Nat → Nat) => (r = nI 1 ∧ rdb χ b k ∧ u = byt χ b k) ∨ (r = nI 0 ∧ ¬ rdb χ b k ∧ u = h)) (fun u t => x_E D (tyP cI cB) (va_A (wB cI a χ b ++ eW cI (q0) (q1) h) sz) (wB cI a χ b ++ eW cI q0 q1 u) t) (va_A (wB cI a χ b ++ eW cI (q0) (q1) h) sz)) 0 0 (va_A (wB cI a χ b ++ eW cI (q0) (q1) h) sz) := by
  refine Met.ofW (cc := cX0_show) (maxL := 4) (ret := (some .boolean)) (by decide) rfl ?_
  intro p e s m args below meth c s₁ B hml hv
  obtain ⟨rfl, hsz, hN, hP, hK, hD0⟩ := hv
  have hx := B.exec
  have hb := B.bytes
  have hr := B.returns
  have hts := atoms_spec (ws := wsX0_show) B.pre
  have hown : s.vm.findClass RX0 = some m.cls := findClass_of_methodNamed B.named
  have hlocks := B.notSynchronized
  subst hsz
  have hD := hD0.self (sz := s.heap.size)
  generalize hAe : va_A (wB cI a χ b ++ eW cI (q0) (q1) h) s.heap.size = A at hD ⊢
  have hA : ∀ q : Nat, s.heap.size ≤ q → A q := fun q h => by rw [← hAe]; exact Or.inr h
  obtain ⟨H, hH⟩ : ∃ H : Heap, s.heap = H := ⟨_, rfl⟩
  obtain ⟨locs, hlo⟩ : ∃ L : List Loc, ([] : List Loc) = L := ⟨_, rfl⟩
  have hS : va_S A s.heap H locs := by rw [← hH, ← hlo]; exact va_S.rf
  have hP : va_P D vwCl (wB cI a χ b ++ eW cI (q0) (q1) h) H := hH ▸ hP
  rw [hH, hlo]
  have hiX1 : ∀ w ∈ u_ws RX1 TX1 1, w ∈ wsX0_show := by decide +kernel
  have hl := lv_entry ([.ref (a (6 + 4 * b)), .int (nI (k)), .ref (q0)]) (n := 4) (Nat.le_of_ble_eq_true rfl)
  rw [lg_entry_eq]
  generalize (lg_sl ([.ref (a (6 + 4 * b)), .int (nI (k)), .ref (q0)]) ++ List.replicate (4 - (lg_sl ([.ref (a (6 + 4 * b)), .int (nI (k)), .ref (q0)])).length) Slot.unset).toArray = ls at hl ⊢
  have hl : lv_has ls 4 [(0, .ref (a (6 + 4 * b))), (1, .int (nI (k))), (2, .ref (q0))] := hl
  refine lv_aload_n hx hb dX0_show_0 rfl (lv_at hl 0 rfl) ?_
  refine lv_iload_n hx hb dX0_show_1 rfl (lv_at hl 1 rfl) ?_
  refine xc_Vi (ci := 0) (rest := []) (As := [.int (nI (k))]) ⟨hx, hb, hml, hown, hts⟩ (c_X0_isReadable l D a χ b hb6 hχ k hk) (cwV 1 hts gX0_show_X0_isReadable rfl rfl rfl (by decide +kernel) ⟨Nat.le_of_ble_eq_true rfl, Nat.le_of_ble_eq_true rfl⟩) hN hK (wBE_blk hP) rfl 0 rfl rfl hl.1 rfl (Nat.le_of_ble_eq_true rfl) dX0_show_2 ⟨Nat.le_of_ble_eq_true rfl, Nat.le_of_ble_eq_true rfl⟩ (fun r_2 hw_2 => ?_)
  refine xz_ne (tgt := 10) hx hb dX0_show_5 (by decide) rfl (fun c_5 => ?_) (fun c_5 => ?_)
  · have h_5 := bo.t hw_2 c_5
    refine lv_iconst (v := nI 0) hx hb dX0_show_10 (by decide) ?_
    refine lv_istore_n (lv' := [(3, .int (nI (0))), (0, .ref (a (6 + 4 * b))), (1, .int (nI (k))), (2, .ref (q0))]) hx hb dX0_show_11 rfl hl (by decide) rfl (fun ls hl => ?_)
    have hq9 : (wB cI a χ b ++ eW cI (q0) (q1) h : va_W) = wB cI a χ b ++ eW cI (q0) (q1) (fun j => if j < 0 then byt χ b k j else h j) := (congrArg (fun z => wB cI a χ b ++ z) (eW_eq (fun j hj => (if_neg (Nat.not_lt_zero j)).symm)))
    refine lpW (α := Nat) (fun t H locs => (t ≤ 16) ∧ va_P D vwCl (wB cI a χ b ++ eW cI (q0) (q1) (fun j => if j < t then byt χ b k j else h j)) H ∧ va_D A (wB cI a χ b ++ eW cI (q0) (q1) (fun j => if j < t then byt χ b k j else h j)) ∧ va_S A s.heap H locs) (fun t => [(0, .ref (a (6 + 4 * b))), (1, .int (nI (k))), (2, .ref (q0)), (3, .int (nI (t)))]) 4 (fun t => 16 - t) 0 (⟨by omega, va_P.eqw hq9 hP, va_D.eqw hq9 hD, hS⟩) (lv_sub hl [1, 2, 3, 0] rfl) (fun s9 H locs ls hI9 hl9 ih_12 => ?_)
    obtain ⟨t, rfl⟩ : ∃ z, z = s9 := ⟨_, rfl⟩
    have hl : lv_has ls 4 [(0, .ref (a (6 + 4 * b))), (1, .int (nI (k))), (2, .ref (q0)), (3, .int (nI (t)))] := hl9
    obtain ⟨ht, hP, hD, hS⟩ : (t ≤ 16) ∧ va_P D vwCl (wB cI a χ b ++ eW cI (q0) (q1) (fun j => if j < t then byt χ b k j else h j)) H ∧ va_D A (wB cI a χ b ++ eW cI (q0) (q1) (fun j => if j < t then byt χ b k j else h j)) ∧ va_S A s.heap H locs := hI9
    refine lv_iload_n hx hb dX0_show_12 rfl (lv_at hl 3 rfl) ?_
    refine lv_bipush (v := nI 16) hx hb dX0_show_13 (by decide) ?_
    refine xi_ge (tgt := 36) hx hb dX0_show_15 (by decide) (nI_toInt (by omega)) (nI_toInt (by omega)) (fun c_15 => ?_) (fun c_15 => ?_)
    · refine lv_iconst (v := nI 1) hx hb dX0_show_36 (by decide) ?_
      have hq9 : (wB cI a χ b ++ eW cI (q0) (q1) (fun j => if j < t then byt χ b k j else h j) : va_W) = wB cI a χ b ++ eW cI q0 q1 (byt χ b k) := (congrArg (fun z => wB cI a χ b ++ z) (eW_eq (fun j hj => if_pos (by omega))))
      exact xf_z (post := fun (r : Int32) (u : Nat → Nat) => (r = nI 1 ∧ rdb χ b k ∧ u = byt χ b k) ∨ (r = nI 0 ∧ ¬ rdb χ b k ∧ u = h)) (w1 := fun (u : Nat → Nat) => wB cI a χ b ++ eW cI q0 q1 u) (byt χ b k) hx hb hr hlocks rfl (Or.inl ⟨rfl, h_5, rfl⟩) (va_P.eqw hq9 hP) hK (va_D.eqw hq9 hD) hS dX0_show_37
    · refine lv_aload_n hx hb dX0_show_18 rfl (lv_at hl 2 rfl) ?_
      refine va_getN (D := D) (ci := 1) (v := .ref (q1)) (C := RX1) (T := TX1) (N := 1) hx hb hts hiX1 hown hK hP 4 rfl rfl 0 (by decide) (va_Nw.use rfl hN.1) (fun _ h9 => h9) rfl dX0_show_19 ?_
      refine lv_iload_n hx hb dX0_show_22 rfl (lv_at hl 3 rfl) ?_
      refine lv_aload_n hx hb dX0_show_23 rfl (lv_at hl 0 rfl) ?_
      refine lv_iload_n hx hb dX0_show_24 rfl (lv_at hl 1 rfl) ?_
      refine lv_iload_n hx hb dX0_show_25 rfl (lv_at hl 3 rfl) ?_
      refine xc_Vi (ci := 0) (rest := [.int (nI (t)), .ref (q1)]) (As := [.int (nI (k)), .int (nI (t))]) ⟨hx, hb, hml, hown, hts⟩ (c_X0_byteAt l D a χ b hb6 hχ k hk t (by omega) h_5) (cwV 2 hts gX0_show_X0_byteAt rfl rfl rfl (by decide +kernel) ⟨Nat.le_of_ble_eq_true rfl, Nat.le_of_ble_eq_true rfl⟩) hN hK (wBE_blk hP) rfl 0 rfl rfl hl.1 rfl (Nat.le_of_ble_eq_true rfl) dX0_show_26 ⟨Nat.le_of_ble_eq_true rfl, Nat.le_of_ble_eq_true rfl⟩ (fun r_26 hw_26 => ?_)
      subst hw_26
      refine xr_iast hx hb hK hP hD hS 5 0 rfl rfl (by omega) (by decide) dX0_show_29 (fun H locs hP hD hS => ?_)
      have hP : va_P D vwCl (wB cI a χ b ++ eW cI (q0) (q1) (up (fun j => if j < t then byt χ b k j else h j) (t) (byt χ b k t))) H := hP
      have hD : va_D A (wB cI a χ b ++ eW cI (q0) (q1) (up (fun j => if j < t then byt χ b k j else h j) (t) (byt χ b k t))) := hD
      refine lv_iinc (v := nI (t + 1)) (lv' := [(3, .int (nI (t + 1))), (0, .ref (a (6 + 4 * b))), (1, .int (nI (k))), (2, .ref (q0))]) hx hb dX0_show_30 hl (k := 3) rfl (nI_add _ _) (by decide) rfl (fun ls hl => ?_)
      refine lv_goto (tgt := 12) hx hb dX0_show_33 (by decide) ?_
      have hq9 : (wB cI a χ b ++ eW cI (q0) (q1) (up (fun j => if j < t then byt χ b k j else h j) (t) (byt χ b k t)) : va_W) = wB cI a χ b ++ eW cI (q0) (q1) (fun j => if j < (t + 1) then byt χ b k j else h j) := (congrArg (fun z => wB cI a χ b ++ z) (eW_eq (fun j hj => by simp only [up]; (repeat' split) <;> first | rfl | omega | (exfalso; omega) | (subst_vars; rfl))))
      exact ih_12 (t + 1) _ _ _ (⟨by omega, va_P.eqw hq9 hP, va_D.eqw hq9 hD, hS⟩) (by first | omega | (dsimp only; omega)) (lv_sub hl [1, 2, 3, 0] rfl)
  · have h_5 := bo.f hw_2 c_5
    refine lv_iconst (v := nI 0) hx hb dX0_show_8 (by decide) ?_
    exact xf_z (post := fun (r : Int32) (u : Nat → Nat) => (r = nI 1 ∧ rdb χ b k ∧ u = byt χ b k) ∨ (r = nI 0 ∧ ¬ rdb χ b k ∧ u = h)) (w1 := fun (u : Nat → Nat) => wB cI a χ b ++ eW cI q0 q1 u) h hx hb hr hlocks rfl (Or.inr ⟨rfl, h_5, rfl⟩) hP hK hD hS dX0_show_9
