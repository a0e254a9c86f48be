set_option maxHeartbeats 4000000 in
set_option maxRecDepth 100000 in
theorem c_T_event3 (l : Launch) (hst : l.stackTraces = false) (D : va_G) {cI cB : ClassId} (a shw O χ : Nat → Nat) (cu fi ne ct on : Nat) (hon : on = 1) (k : Nat) (h1 : fi ≤ k) (h2 : k < ne) (h3 : ne < 65536) (hχ : ∀ i, χ i < 65536) (hwf : wfs χ) (hwO : wf O) (hlost : lost O χ k) (sz : Nat) : vx_Met l yX2_event wsX2_event ({ frames := 6, cells := 1, slots := 6, locals := 110 }) (va_Pc [.ref (a 0), .int (nI (k))] (x_Z D (tyP cI cB) (wP cI cB a shw O χ cu fi ne ct on) sz)) (va_Ql (fun _ (_ : Unit) => False) (fun _ _ => True) (va_A (wP cI cB a shw O χ cu fi ne ct on) sz)) (x_T D (tyP cI cB) (va_A (wP cI cB a shw O χ cu fi ne ct on) sz) (fun (_ : Nat → Nat) => True) (fun u => wP cI cB a u O χ cu fi ne ct on) "java/util/NoSuchElementException") 1 6 (va_A (wP cI cB a shw O χ cu fi ne ct on) sz) := by
  refine vx_ofW (cc := cX2_event) (maxL := 3) (ret := (some .long)) (by decide) rfl ?_
  intro p e s m args below meth c s₁ B hml htab hv
  obtain ⟨rfl, ⟨hsz, hN, hP, hK, hD0⟩, hZ⟩ := hv
  have hx := B.exec
  have hb := B.bytes
  have hr := B.returns
  have hts := atoms_spec (ws := wsX2_event) B.pre
  have hown : s.vm.findClass RX2 = some m.cls := findClass_of_methodNamed B.named
  have hlocks := B.notSynchronized
  subst hsz
  have hD := hD0.self (sz := s.heap.size)
  generalize hAe : va_A (wP cI cB a shw O χ cu fi ne ct on) s.heap.size = A at hD hZ ⊢
  have hA : ∀ q : Nat, s.heap.size ≤ q → A q := fun q h => by rw [← hAe]; exact Or.inr h
  obtain ⟨H, hH⟩ : ∃ H : Heap, s.heap = H := ⟨_, rfl⟩
  obtain ⟨locs, hlo⟩ : ∃ L : List Loc, ([] : List Loc) = L := ⟨_, rfl⟩
  have hS : va_S A s.heap H locs := by rw [← hH, ← hlo]; exact va_S.rf
  have hP : va_P D vwCl (wP cI cB a shw O χ cu fi ne ct on) H := hH ▸ hP
  rw [hH, hlo]
  have hl := lv_entry ([.ref (a 0), .int (nI (k))]) (n := 3) (Nat.le_of_ble_eq_true rfl)
  rw [lg_entry_eq]
  generalize (lg_sl ([.ref (a 0), .int (nI (k))]) ++ List.replicate (3 - (lg_sl ([.ref (a 0), .int (nI (k))])).length) Slot.unset).toArray = ls at hl ⊢
  have hl : lv_has ls 3 [(0, .ref (a 0)), (1, .int (nI (k)))] := hl
  have hO9 := hwO.1
  refine lv_aload_n hx hb dX2_event_0 rfl (lv_at hl 0 rfl) ?_
  refine xc_Vv (ci := 2) (rest := []) (As := []) ⟨hx, hb, hml, hown, hts⟩ (c_X2_requirePower l D a shw O χ cu fi ne ct on hon) (cwV 0 hts gX2_event_X2_requirePower rfl rfl rfl (by decide +kernel) ⟨Nat.le_of_ble_eq_true rfl, Nat.le_of_ble_eq_true rfl⟩) hN hK (hP) rfl 0 rfl rfl hl.1 rfl (Nat.le_of_ble_eq_true rfl) dX2_event_1 ⟨Nat.le_of_ble_eq_true rfl, Nat.le_of_ble_eq_true rfl⟩ (fun hw_1 => ?_)
  refine lv_aload_n hx hb dX2_event_4 rfl (lv_at hl 0 rfl) ?_
  refine lv_iload_n hx hb dX2_event_5 rfl (lv_at hl 1 rfl) ?_
  refine xc_Vv (ci := 2) (rest := []) (As := [.int (nI (k))]) ⟨hx, hb, hml, hown, hts⟩ (c_X2_requireEvent l D a shw O χ cu fi ne ct on k h1 h2 (by omega)) (cwV 1 hts gX2_event_X2_requireEvent rfl rfl rfl (by decide +kernel) ⟨Nat.le_of_ble_eq_true rfl, Nat.le_of_ble_eq_true rfl⟩) hN hK (hP) rfl 0 rfl rfl hl.1 rfl (Nat.le_of_ble_eq_true rfl) dX2_event_6 ⟨Nat.le_of_ble_eq_true rfl, Nat.le_of_ble_eq_true rfl⟩ (fun hw_6 => ?_)
  refine lv_aload_n hx hb dX2_event_9 rfl (lv_at hl 0 rfl) ?_
  refine lv_iload_n hx hb dX2_event_10 rfl (lv_at hl 1 rfl) ?_
  have hF9 := x_hF (hD) hS hA
  refine xw_Vq (ci := 2) (rest := []) (As := [.int (nI (k))]) ⟨hx, hb, hml, hown, hts⟩ (c_X2_pageWith l D a shw O χ cu fi ne ct on k (by omega) hχ hwf (by omega) hwO.2.1 hwO.2.2.1 H.size) (cwV 1 hts gX2_event_X2_pageWith rfl rfl rfl (by decide +kernel) ⟨Nat.le_of_ble_eq_true rfl, Nat.le_of_ble_eq_true rfl⟩) hN hK (hP) (hD) hS hA rfl 0 rfl rfl hl.1 rfl (Nat.le_of_ble_eq_true rfl) dX2_event_11 ⟨Nat.le_of_ble_eq_true rfl, Nat.le_of_ble_eq_true rfl⟩ (fun r_11 u_11 H1 locs hw_11 hP1 hD1 hDA hk9 hS => ?_)
  rcases hw_11 with ⟨hh9, _⟩ | ⟨_, hp9, _⟩ | ⟨hn9, hp9, rfl⟩
  · exact absurd hh9 hlost.1
  · exact absurd hlost.2 (by omega)
  · have hP := hP1
    have hD := hDA
    generalize H1 = H at hP hS ⊢
    have hP : va_P D vwCl (wP cI cB a u_11 O χ cu fi ne ct on) H := hP
    have hD : va_D A (wP cI cB a u_11 O χ cu fi ne ct on) := hD
    refine lv_astore_nN (lv' := [(2, .null), (0, .ref (a 0)), (1, .int (nI (k)))]) hx hb dX2_event_14 rfl hl (by decide) rfl (fun ls hl => ?_)
    refine lv_aload_nN hx hb dX2_event_15 rfl (lv_at hl 0 rfl) ?_
    refine lv_ifnonnullN hx hb dX2_event_16 ?_
    exact xt_throwN (text := "the event is lost") (px := fun (_ : Nat → Nat) => True) (w1 := fun u => wP cI cB a u O χ cu fi ne ct on) u_11 hx hb hst hown (hts (.classLink RX2 112 "java/util/NoSuchElementException") (by decide +kernel)) (hts (.initialized "java/util/NoSuchElementException") (by decide +kernel)) (fun w hw => hts w ((by decide +kernel : ∀ w ∈ wsNS, w ∈ wsX2_event) w hw)) (by decide +kernel) hZ hS (by rw [hml]; exact hl.1) dX2_event_19 dX2_event_22 dX2_event_23 dX2_event_25 dX2_event_28 htab (Nat.le_of_ble_eq_true rfl) (Nat.le_of_ble_eq_true rfl) (Nat.le_of_ble_eq_true rfl) (Nat.le_of_ble_eq_true rfl) hlocks trivial hP hK hD (Nat.le_of_ble_eq_true rfl) (Nat.le_of_ble_eq_true rfl)
