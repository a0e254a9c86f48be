set_option maxHeartbeats 4000000 in
set_option maxRecDepth 100000 in
theorem c_T_append3 (l : Launch) (hst : l.stackTraces = false) (D : va_G) {cI cB : ClassId} (a shw O χ : Nat → Nat) (cu fi ne ct on : Nat) (hon : on = 1) (hcu : cu < 6) (hχ : ∀ i, χ i < 65536) (hO0 : O 0 < 65536) (hfl : ful χ cu) (k : Nat) (w : Int64) (hwO : wf O) (hk1 : 1 ≤ k) (hk6 : k ≤ 6) (hnf : ¬ fit O k) (sz : Nat) : vx_Met l yX2_append wsX2_append ({ frames := 8, cells := 1, slots := 6, locals := 133 }) (va_Pc [.ref (a 0), .int (nI (k)), .long (w)] (x_Z D (tyP cI cB) (wP cI cB a shw O χ cu fi ne ct on) sz)) (va_Qi (fun _ (_ : Unit) => False) (fun _ _ => True) (va_A (wP cI cB a shw O χ cu fi ne ct on) sz)) (x_T D (tyP cI cB) (va_A (wP cI cB a shw O χ cu fi ne ct on) sz) (fun (_ : Unit) => True) (fun _ => wP cI cB a shw O χ cu fi ne ct on) "java/lang/UnsupportedOperationException") 1 6 (va_A (wP cI cB a shw O χ cu fi ne ct on) sz) := by
  refine vx_ofW (cc := cX2_append) (maxL := 4) (ret := (some .int)) (by decide) rfl ?_
  intro p e s m args below meth c s₁ B hml htab hv
  obtain ⟨rfl, ⟨hsz, hN, hP, hK, hD0⟩, hZ⟩ := hv
  have hx := B.exec
  have hb := B.bytes
  have hr := B.returns
  have hts := atoms_spec (ws := wsX2_append) B.pre
  have hown : s.vm.findClass RX2 = some m.cls := findClass_of_methodNamed B.named
  have hlocks := B.notSynchronized
  subst hsz
  have hD := hD0.self (sz := s.heap.size)
  generalize hAe : va_A (wP cI cB a shw O χ cu fi ne ct on) s.heap.size = A at hD hZ ⊢
  have hA : ∀ q : Nat, s.heap.size ≤ q → A q := fun q h => by rw [← hAe]; exact Or.inr h
  obtain ⟨H, hH⟩ : ∃ H : Heap, s.heap = H := ⟨_, rfl⟩
  obtain ⟨locs, hlo⟩ : ∃ L : List Loc, ([] : List Loc) = L := ⟨_, rfl⟩
  have hS : va_S A s.heap H locs := by rw [← hH, ← hlo]; exact va_S.rf
  have hP : va_P D vwCl (wP cI cB a shw O χ cu fi ne ct on) H := hH ▸ hP
  rw [hH, hlo]
  have hiX2 : ∀ w ∈ u_ws RX2 TX2 8, w ∈ wsX2_append := by decide +kernel
  have hl := lv_entry ([.ref (a 0), .int (nI (k)), .long (w)]) (n := 4) (Nat.le_of_ble_eq_true rfl)
  rw [lg_entry_eq]
  generalize (lg_sl ([.ref (a 0), .int (nI (k)), .long (w)]) ++ List.replicate (4 - (lg_sl ([.ref (a 0), .int (nI (k)), .long (w)])).length) Slot.unset).toArray = ls at hl ⊢
  have hl : lv_has ls 4 [(0, .ref (a 0)), (1, .int (nI (k))), (2, .long (w))] := hl
  refine lv_aload_n hx hb dX2_append_0 rfl (lv_at hl 0 rfl) ?_
  refine xc_Vv (ci := 2) (rest := []) (As := []) ⟨hx, hb, hml, hown, hts⟩ (c_X2_requirePower l D a shw O χ cu fi ne ct on hon) (cwV 0 hts gX2_append_X2_requirePower rfl rfl rfl (by decide +kernel) ⟨Nat.le_of_ble_eq_true rfl, Nat.le_of_ble_eq_true rfl⟩) hN hK (hP) rfl 0 rfl rfl hl.1 rfl (Nat.le_of_ble_eq_true rfl) dX2_append_1 ⟨Nat.le_of_ble_eq_true rfl, Nat.le_of_ble_eq_true rfl⟩ (fun hw_1 => ?_)
  refine lv_iload_n hx hb dX2_append_4 rfl (lv_at hl 1 rfl) ?_
  refine lv_iconst (v := nI 1) hx hb dX2_append_5 (by decide) ?_
  refine xi_lt (tgt := 15) hx hb dX2_append_6 (by decide) (nI_toInt (by omega)) (nI_toInt (by omega)) (fun c_6 => ?_) (fun c_6 => ?_)
  · exfalso; omega
  · refine lv_iload_n hx hb dX2_append_9 rfl (lv_at hl 1 rfl) ?_
    refine lv_bipush (v := nI 6) hx hb dX2_append_10 (by decide) ?_
    refine xi_le (tgt := 25) hx hb dX2_append_12 (by decide) (nI_toInt (by omega)) (nI_toInt (by omega)) (fun c_12 => ?_) (fun c_12 => ?_)
    · refine lv_aload_n hx hb dX2_append_25 rfl (lv_at hl 0 rfl) ?_
      refine va_get (D := D) (ci := 2) (v := .ref (a 2)) (C := RX2) (T := TX2) (N := 8) hx hb hts hiX2 hown hK hP 0 rfl rfl 1 (by decide) (hts (.fieldLink RX2 18 "PairedCells" "openPage" "LPairedCells$EventPage;") (by decide +kernel)) (fun _ h9 => h9) rfl dX2_append_26 ?_
      refine lv_iload_n hx hb dX2_append_29 rfl (lv_at hl 1 rfl) ?_
      refine xc_Vi (ci := 1) (rest := []) (As := [.int (nI (k))]) ⟨hx, hb, hml, hown, hts⟩ (c_X1_fits l D (a 2) (a 3) O hO0 hwO k (by omega)) (cwV 1 hts gX2_append_X1_fits rfl rfl rfl (by decide +kernel) ⟨Nat.le_of_ble_eq_true rfl, Nat.le_of_ble_eq_true rfl⟩) hN hK (wP_open hP) rfl 0 rfl rfl hl.1 rfl (Nat.le_of_ble_eq_true rfl) dX2_append_30 ⟨Nat.le_of_ble_eq_true rfl, Nat.le_of_ble_eq_true rfl⟩ (fun r_30 hw_30 => ?_)
      refine xz_ne (tgt := 46) hx hb dX2_append_33 (by decide) rfl (fun c_33 => ?_) (fun c_33 => ?_)
      · exact absurd (bo.t hw_30 c_33) hnf
      · have h_33 := bo.f hw_30 c_33
        refine lv_aload_n hx hb dX2_append_36 rfl (lv_at hl 0 rfl) ?_
        exact xt_Vi (ci := 2) (rest := []) (As := []) ⟨hx, hb, hml, hown, hts⟩ (c_T_flush l hst D a shw O χ cu fi ne ct on hcu hχ hfl H.size) (cwV 0 hts gX2_append_X2_flush rfl rfl rfl (by decide +kernel) ⟨Nat.le_of_ble_eq_true rfl, Nat.le_of_ble_eq_true rfl⟩) hN hK (hP) (hD) hS hA hZ rfl 0 rfl rfl hl.1 rfl (Nat.le_of_ble_eq_true rfl) dX2_append_37 ⟨Nat.le_of_ble_eq_true rfl, Nat.le_of_ble_eq_true rfl⟩ htab hlocks (Nat.le_of_ble_eq_true rfl) (Nat.le_of_ble_eq_true rfl) (fun u H1 hp h1 h2 h3 => ⟨u, hp, h1, h2.weaken (fun _ q _ h => x_hF hD hS hA q.1 h)⟩)
    · exfalso; omega
