set_option maxHeartbeats 4000000 in
set_option maxRecDepth 100000 in
theorem c_X2_event (l : Launch) (D : va_G) {cI cB : ClassId} (a shw O χ : Nat → Nat) (cu fi ne ct on : Nat) (hon : on = 1) (k : Nat) (h1 : fi ≤ k) (h2 : k < ne) (h3 : ne < 65536) (hχ : ∀ i, χ i < 65536) (hwf : wfs χ) (hwO : wf O) (hlost : ¬ lost O χ k) (sz : Nat) : Met l yX2_event wsX2_event ({ frames := 5, cells := 0, slots := 0, locals := 110 }) (va_Pc [.ref (a 0), .int (nI (k))] (x_U D (tyP cI cB) (wP cI cB a shw O χ cu fi ne ct on) sz)) (va_Ql (fun (r : Int64) (u : Nat → Nat) => r = evR (row O χ k) k) (fun u t => x_E D (tyP cI cB) (va_A (wP cI cB a shw O χ cu fi ne ct on) sz) (wP cI cB a u O χ cu fi ne ct on) t) (va_A (wP cI cB a shw O χ cu fi ne ct on) sz)) 0 0 (va_A (wP cI cB a shw O χ cu fi ne ct on) sz) := by
  refine Met.ofW (cc := cX2_event) (maxL := 3) (ret := (some .long)) (by decide) rfl ?_
  intro p e s m args below meth c s₁ B hml hv
  obtain ⟨rfl, hsz, hN, hP, hK, hD0⟩ := hv
  have hx := B.exec
  have hb := B.bytes
  have hr := B.returns
  have hts := atoms_spec (ws := wsX2_event) B.pre
  have hown : s.vm.findClass RX2 = some m.cls := findClass_of_methodNamed B.named
  have hlocks := B.notSynchronized
  subst hsz
  have hD := hD0.self (sz := s.heap.size)
  generalize hAe : va_A (wP cI cB a shw O χ cu fi ne ct on) s.heap.size = A at hD ⊢
  have hA : ∀ q : Nat, s.heap.size ≤ q → A q := fun q h => by rw [← hAe]; exact Or.inr h
  obtain ⟨H, hH⟩ : ∃ H : Heap, s.heap = H := ⟨_, rfl⟩
  obtain ⟨locs, hlo⟩ : ∃ L : List Loc, ([] : List Loc) = L := ⟨_, rfl⟩
  have hS : va_S A s.heap H locs := by rw [← hH, ← hlo]; exact va_S.rf
  have hP : va_P D vwCl (wP cI cB a shw O χ cu fi ne ct on) H := hH ▸ hP
  rw [hH, hlo]
  have hl := lv_entry ([.ref (a 0), .int (nI (k))]) (n := 3) (Nat.le_of_ble_eq_true rfl)
  rw [lg_entry_eq]
  generalize (lg_sl ([.ref (a 0), .int (nI (k))]) ++ List.replicate (3 - (lg_sl ([.ref (a 0), .int (nI (k))])).length) Slot.unset).toArray = ls at hl ⊢
  have hl : lv_has ls 3 [(0, .ref (a 0)), (1, .int (nI (k)))] := hl
  have hO9 := hwO.1
  refine lv_aload_n hx hb dX2_event_0 rfl (lv_at hl 0 rfl) ?_
  refine xc_Vv (ci := 2) (rest := []) (As := []) ⟨hx, hb, hml, hown, hts⟩ (c_X2_requirePower l D a shw O χ cu fi ne ct on hon) (cwV 0 hts gX2_event_X2_requirePower rfl rfl rfl (by decide +kernel) ⟨Nat.le_of_ble_eq_true rfl, Nat.le_of_ble_eq_true rfl⟩) hN hK (hP) rfl 0 rfl rfl hl.1 rfl (Nat.le_of_ble_eq_true rfl) dX2_event_1 ⟨Nat.le_of_ble_eq_true rfl, Nat.le_of_ble_eq_true rfl⟩ (fun hw_1 => ?_)
  refine lv_aload_n hx hb dX2_event_4 rfl (lv_at hl 0 rfl) ?_
  refine lv_iload_n hx hb dX2_event_5 rfl (lv_at hl 1 rfl) ?_
  refine xc_Vv (ci := 2) (rest := []) (As := [.int (nI (k))]) ⟨hx, hb, hml, hown, hts⟩ (c_X2_requireEvent l D a shw O χ cu fi ne ct on k h1 h2 (by omega)) (cwV 1 hts gX2_event_X2_requireEvent rfl rfl rfl (by decide +kernel) ⟨Nat.le_of_ble_eq_true rfl, Nat.le_of_ble_eq_true rfl⟩) hN hK (hP) rfl 0 rfl rfl hl.1 rfl (Nat.le_of_ble_eq_true rfl) dX2_event_6 ⟨Nat.le_of_ble_eq_true rfl, Nat.le_of_ble_eq_true rfl⟩ (fun hw_6 => ?_)
  refine lv_aload_n hx hb dX2_event_9 rfl (lv_at hl 0 rfl) ?_
  refine lv_iload_n hx hb dX2_event_10 rfl (lv_at hl 1 rfl) ?_
  have hF9 := x_hF (hD) hS hA
  refine xw_Vq (ci := 2) (rest := []) (As := [.int (nI (k))]) ⟨hx, hb, hml, hown, hts⟩ (c_X2_pageWith l D a shw O χ cu fi ne ct on k (by omega) hχ hwf (by omega) hwO.2.1 hwO.2.2.1 H.size) (cwV 1 hts gX2_event_X2_pageWith rfl rfl rfl (by decide +kernel) ⟨Nat.le_of_ble_eq_true rfl, Nat.le_of_ble_eq_true rfl⟩) hN hK (hP) (hD) hS hA rfl 0 rfl rfl hl.1 rfl (Nat.le_of_ble_eq_true rfl) dX2_event_11 ⟨Nat.le_of_ble_eq_true rfl, Nat.le_of_ble_eq_true rfl⟩ (fun r_11 u_11 H1 locs hw_11 hP1 hD1 hDA hk9 hS => ?_)
  rcases hw_11 with ⟨hh9, rfl, hu9⟩ | ⟨hn9, hp9, rfl, rfl⟩ | ⟨hn9, hp9, rfl⟩
  · rw [hu9] at hP1 hD1 hDA
    have hP := hP1
    have hD := hDA
    generalize H1 = H at hP hS ⊢
    have hP : va_P D vwCl (wP cI cB a shw O χ cu fi ne ct on) H := hP
    have hD : va_D A (wP cI cB a shw O χ cu fi ne ct on) := hD
    refine lv_astore_n (lv' := [(2, .ref (a 2)), (0, .ref (a 0)), (1, .int (nI (k)))]) hx hb dX2_event_14 rfl hl (by decide) rfl (fun ls hl => ?_)
    refine lv_aload_n hx hb dX2_event_15 rfl (lv_at hl 0 rfl) ?_
    refine lv_ifnonnull (tgt := 29) hx hb dX2_event_16 (by decide) ?_
    refine lv_aload_n hx hb dX2_event_29 rfl (lv_at hl 0 rfl) ?_
    refine lv_iload_n hx hb dX2_event_30 rfl (lv_at hl 2 rfl) ?_
    refine xc_Vl (ci := 1) (rest := []) (As := [.int (nI (k))]) ⟨hx, hb, hml, hown, hts⟩ (c_X1_bytesOf l D (a 2) (a 3) O (by omega) hwO hwO.2.1 hwO.2.2.1 k hh9.2.1 hh9.2.2) (cwV 1 hts gX2_event_X1_bytesOf rfl rfl rfl (by decide +kernel) ⟨Nat.le_of_ble_eq_true rfl, Nat.le_of_ble_eq_true rfl⟩) hN hK (wP_open hP) rfl 0 rfl rfl hl.1 rfl (Nat.le_of_ble_eq_true rfl) dX2_event_31 ⟨Nat.le_of_ble_eq_true rfl, Nat.le_of_ble_eq_true rfl⟩ (fun r_31 hw_31 => ?_)
    subst hw_31
    exact xf_l (post := fun (r : Int64) (u : Nat → Nat) => r = evR (row O χ k) k) (w1 := fun (u : Nat → Nat) => wP cI cB a u O χ cu fi ne ct on) shw hx hb hr hlocks (by rw [row, cif_t hh9]; rfl) hP hK hD hS dX2_event_34
  · have hP := hP1
    have hD := hDA
    have hr9 := ((hpg_spec χ k 96).2.2 hp9)
    have hq8 := hwf (hpg χ k 96 / 16) (hpg χ k 96 % 16) (by omega) (by omega) hr9.1
    generalize H1 = H at hP hS ⊢
    have hP : va_P D vwCl (wP cI cB a (byt χ (hpg χ k 96 / 16) (hpg χ k 96 % 16)) O χ cu fi ne ct on) H := hP
    have hD : va_D A (wP cI cB a (byt χ (hpg χ k 96 / 16) (hpg χ k 96 % 16)) O χ cu fi ne ct on) := hD
    refine lv_astore_n (lv' := [(2, .ref (a 4)), (0, .ref (a 0)), (1, .int (nI (k)))]) hx hb dX2_event_14 rfl hl (by decide) rfl (fun ls hl => ?_)
    refine lv_aload_n hx hb dX2_event_15 rfl (lv_at hl 0 rfl) ?_
    refine lv_ifnonnull (tgt := 29) hx hb dX2_event_16 (by decide) ?_
    refine lv_aload_n hx hb dX2_event_29 rfl (lv_at hl 0 rfl) ?_
    refine lv_iload_n hx hb dX2_event_30 rfl (lv_at hl 2 rfl) ?_
    refine xc_Vl (ci := 1) (rest := []) (As := [.int (nI (k))]) ⟨hx, hb, hml, hown, hts⟩ (c_X1_bytesOf l D (a 4) (a 5) (byt χ (hpg χ k 96 / 16) (hpg χ k 96 % 16)) (by have h7 := hq8.1; omega) hq8 hq8.2.1 hq8.2.2.1 k hr9.2.2.1 hr9.2.2.2) (cwV 1 hts gX2_event_X1_bytesOf rfl rfl rfl (by decide +kernel) ⟨Nat.le_of_ble_eq_true rfl, Nat.le_of_ble_eq_true rfl⟩) hN hK (wP_shown hP) rfl 0 rfl rfl hl.1 rfl (Nat.le_of_ble_eq_true rfl) dX2_event_31 ⟨Nat.le_of_ble_eq_true rfl, Nat.le_of_ble_eq_true rfl⟩ (fun r_31 hw_31 => ?_)
    subst hw_31
    exact xf_l (post := fun (r : Int64) (u : Nat → Nat) => r = evR (row O χ k) k) (w1 := fun (u : Nat → Nat) => wP cI cB a u O χ cu fi ne ct on) (byt χ (hpg χ k 96 / 16) (hpg χ k 96 % 16)) hx hb hr hlocks (by rw [row, cif_f hn9]; rfl) hP hK hD hS dX2_event_34
  · exact absurd ⟨hn9, hp9⟩ hlost
