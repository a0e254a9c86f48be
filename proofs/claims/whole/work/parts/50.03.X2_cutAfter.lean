set_option maxHeartbeats 4000000 in
set_option maxRecDepth 100000 in
theorem c_X2_cutAfter (l : Launch) (D : va_G) {cI cB : ClassId} (a shw O χ : Nat → Nat) (cu fi ne ct on : Nat) (k : Nat) (hk : k ≤ 60) (sz : Nat) : Met l yX2_cutAfter wsX2_cutAfter ({ frames := 0, cells := 0, slots := 0, locals := 0 }) (va_Pc [.ref (a 0), .int (nI (k))] (x_U D (tyP cI cB) (wP cI cB a shw O χ cu fi ne ct on) sz)) (va_Qv (fun (u : Unit) => True) (fun u t => x_E D (tyP cI cB) (va_A (wP cI cB a shw O χ cu fi ne ct on) sz) (wP cI cB a shw O χ cu fi ne k on) t) (va_A (wP cI cB a shw O χ cu fi ne ct on) sz)) 0 0 (va_A (wP cI cB a shw O χ cu fi ne ct on) sz) := by
  refine Met.ofW (cc := cX2_cutAfter) (maxL := 2) (ret := none) (by decide) rfl ?_
  intro p e s m args below meth c s₁ B hml hv
  obtain ⟨rfl, hsz, hN, hP, hK, hD0⟩ := hv
  have hx := B.exec
  have hb := B.bytes
  have hr := B.returns
  have hts := atoms_spec (ws := wsX2_cutAfter) B.pre
  have hown : s.vm.findClass RX2 = some m.cls := findClass_of_methodNamed B.named
  have hlocks := B.notSynchronized
  subst hsz
  have hD := hD0.self (sz := s.heap.size)
  generalize hAe : va_A (wP cI cB a shw O χ cu fi ne ct on) s.heap.size = A at hD ⊢
  have hA : ∀ q : Nat, s.heap.size ≤ q → A q := fun q h => by rw [← hAe]; exact Or.inr h
  obtain ⟨H, hH⟩ : ∃ H : Heap, s.heap = H := ⟨_, rfl⟩
  obtain ⟨locs, hlo⟩ : ∃ L : List Loc, ([] : List Loc) = L := ⟨_, rfl⟩
  have hS : va_S A s.heap H locs := by rw [← hH, ← hlo]; exact va_S.rf
  have hP : va_P D vwCl (wP cI cB a shw O χ cu fi ne ct on) H := hH ▸ hP
  rw [hH, hlo]
  have hiX2 : ∀ w ∈ u_ws RX2 TX2 8, w ∈ wsX2_cutAfter := by decide +kernel
  have hl := lv_entry ([.ref (a 0), .int (nI (k))]) (n := 2) (Nat.le_of_ble_eq_true rfl)
  rw [lg_entry_eq]
  generalize (lg_sl ([.ref (a 0), .int (nI (k))]) ++ List.replicate (2 - (lg_sl ([.ref (a 0), .int (nI (k))])).length) Slot.unset).toArray = ls at hl ⊢
  have hl : lv_has ls 2 [(0, .ref (a 0)), (1, .int (nI (k)))] := hl
  refine lv_iload_n hx hb dX2_cutAfter_0 rfl (lv_at hl 1 rfl) ?_
  refine xz_lt (tgt := 10) hx hb dX2_cutAfter_1 (by decide) (nI_toInt (by omega)) (fun c_1 => ?_) (fun c_1 => ?_)
  · exfalso; omega
  · refine lv_iload_n hx hb dX2_cutAfter_4 rfl (lv_at hl 1 rfl) ?_
    refine lv_bipush (v := nI 60) hx hb dX2_cutAfter_5 (by decide) ?_
    refine xi_le (tgt := 20) hx hb dX2_cutAfter_7 (by decide) (nI_toInt (by omega)) (nI_toInt (by omega)) (fun c_7 => ?_) (fun c_7 => ?_)
    · refine lv_aload_n hx hb dX2_cutAfter_20 rfl (lv_at hl 0 rfl) ?_
      refine lv_iload_n hx hb dX2_cutAfter_21 rfl (lv_at hl 1 rfl) ?_
      refine va_put (D := D) (ci := 2) (v := .int (nI (k))) (ty := .int) (C := RX2) (T := TX2) (N := 8) hx hb hts hiX2 tyX2 tyX2_ok nmX2 hown hK hP hD hS 0 rfl rfl 6 (by decide) (hts (.fieldLink RX2 35 "PairedCells" "cutIn" "I") (by decide +kernel)) (fun _ h9 => h9) rfl (by decide +kernel) rfl rfl (Nat.le_of_ble_eq_true rfl) dX2_cutAfter_22 (fun H locs hP hD hS => ?_)
      have hP : va_P D vwCl (wP cI cB a shw O χ cu fi ne k on) H := hP
      have hD : va_D A (wP cI cB a shw O χ cu fi ne k on) := hD
      exact xf_v (post := fun (u : Unit) => True) (w1 := fun (u : Unit) => wP cI cB a shw O χ cu fi ne k on) () hx hb hr hlocks (trivial) hP hK hD hS dX2_cutAfter_25
    · exfalso; omega
