set_option maxHeartbeats 4000000 in
set_option maxRecDepth 100000 in
theorem c_X3_sync_0e (l : Launch) (D : va_G) {cI : ClassId} (r : Nat → Nat) (th fp fa : Int32) (χ O : Nat → Nat) (cu fi ne ct on : Nat) (hon : on = 1) (hOz : O 0 = 0) (sz : Nat) : Met l yX3_sync wsX3_sync ({ frames := 0, cells := 0, slots := 0, locals := 0 }) (va_Pc [.ref (r 0)] (x_U D (tyM cI) (wM cI r th fp fa χ (opn O) (O 0) (pl O (O 0)) cu fi ne ct on) sz)) (va_Qi (fun (x : Int32) (u : Unit) => x = nI ne) (fun u t => x_E D (tyM cI) (va_A (wM cI r th fp fa χ (opn O) (O 0) (pl O (O 0)) cu fi ne ct on) sz) (wM cI r (nI (0)) fp fa χ (opn O) (O 0) (pl O (O 0)) cu fi ne ct on) t) (va_A (wM cI r th fp fa χ (opn O) (O 0) (pl O (O 0)) cu fi ne ct on) sz)) 0 0 (va_A (wM cI r th fp fa χ (opn O) (O 0) (pl O (O 0)) cu fi ne ct on) sz) := by
  refine Met.ofW (cc := cX3_sync) (maxL := 1) (ret := (some .int)) (by decide) rfl ?_
  intro p e s m args below meth c s₁ B hml hv
  obtain ⟨rfl, hsz, hN, hP, hK, hD0⟩ := hv
  have hx := B.exec
  have hb := B.bytes
  have hr := B.returns
  have hts := atoms_spec (ws := wsX3_sync) B.pre
  have hown : s.vm.findClass RX3 = some m.cls := findClass_of_methodNamed B.named
  have hlocks := B.notSynchronized
  subst hsz
  have hD := hD0.self (sz := s.heap.size)
  generalize hAe : va_A (wM cI r th fp fa χ (opn O) (O 0) (pl O (O 0)) cu fi ne ct on) s.heap.size = A at hD ⊢
  have hA : ∀ q : Nat, s.heap.size ≤ q → A q := fun q h => by rw [← hAe]; exact Or.inr h
  obtain ⟨H, hH⟩ : ∃ H : Heap, s.heap = H := ⟨_, rfl⟩
  obtain ⟨locs, hlo⟩ : ∃ L : List Loc, ([] : List Loc) = L := ⟨_, rfl⟩
  have hS : va_S A s.heap H locs := by rw [← hH, ← hlo]; exact va_S.rf
  have hP : va_P D vwCl (wM cI r th fp fa χ (opn O) (O 0) (pl O (O 0)) cu fi ne ct on) H := hH ▸ hP
  rw [hH, hlo]
  have hiX3 : ∀ w ∈ u_ws RX3 TX3 16, w ∈ wsX3_sync := by decide +kernel
  have hl := lv_entry ([.ref (r 0)]) (n := 1) (Nat.le_of_ble_eq_true rfl)
  rw [lg_entry_eq]
  generalize (lg_sl ([.ref (r 0)]) ++ List.replicate (1 - (lg_sl ([.ref (r 0)])).length) Slot.unset).toArray = ls at hl ⊢
  have hl : lv_has ls 1 [(0, .ref (r 0))] := hl
  refine lv_aload_n hx hb dX3_sync_0 rfl (lv_at hl 0 rfl) ?_
  refine lv_aload_n hx hb dX3_sync_1 rfl (lv_at hl 0 rfl) ?_
  refine va_get (D := D) (ci := 3) (v := .int (nI (on))) (C := RX3) (T := TX3) (N := 16) hx hb hts hiX3 hown hK hP 0 rfl rfl 6 (by decide) (hts (.fieldLink RX3 25 "PairedCellsModel" "on" "Z") (by decide +kernel)) (fun _ h9 => h9) rfl dX3_sync_2 ?_
  refine xz_ne (tgt := 12) hx hb dX3_sync_5 (by decide) (nI_toInt (by omega)) (fun c_5 => ?_) (fun c_5 => ?_)
  · refine lv_aload_n hx hb dX3_sync_12 rfl (lv_at hl 0 rfl) ?_
    refine va_get (D := D) (ci := 3) (v := .int (nI ((O 0)))) (C := RX3) (T := TX3) (N := 16) hx hb hts hiX3 hown hK hP 0 rfl rfl 11 (by decide) (hts (.fieldLink RX3 67 "PairedCellsModel" "held" "I") (by decide +kernel)) (fun _ h9 => h9) rfl dX3_sync_13 ?_
    refine xz_le (tgt := 30) hx hb dX3_sync_16 (by decide) (nI_toInt (by omega)) (fun c_16 => ?_) (fun c_16 => ?_)
    · refine lv_iconst (v := nI 0) hx hb dX3_sync_30 (by decide) ?_
      refine va_put (D := D) (ci := 3) (v := .int (nI (0))) (ty := .int) (C := RX3) (T := TX3) (N := 16) hx hb hts hiX3 tyX3 tyX3_ok nmX3 hown hK hP hD hS 0 rfl rfl 0 (by decide) (hts (.fieldLink RX3 36 "PairedCellsModel" "thrown" "I") (by decide +kernel)) (fun _ h9 => h9) rfl (by decide +kernel) rfl rfl (Nat.le_of_ble_eq_true rfl) dX3_sync_31 (fun H locs hP hD hS => ?_)
      have hP : va_P D vwCl (wM cI r (nI (0)) fp fa χ (opn O) (O 0) (pl O (O 0)) cu fi ne ct on) H := hP
      have hD : va_D A (wM cI r (nI (0)) fp fa χ (opn O) (O 0) (pl O (O 0)) cu fi ne ct on) := hD
      refine lv_aload_n hx hb dX3_sync_34 rfl (lv_at hl 0 rfl) ?_
      refine va_get (D := D) (ci := 3) (v := .int (nI (0))) (C := RX3) (T := TX3) (N := 16) hx hb hts hiX3 hown hK hP 0 rfl rfl 0 (by decide) (hts (.fieldLink RX3 36 "PairedCellsModel" "thrown" "I") (by decide +kernel)) (fun _ h9 => h9) rfl dX3_sync_35 ?_
      refine xz_eq (tgt := 43) hx hb dX3_sync_38 (by decide) (nI_toInt (by omega)) (fun c_38 => ?_) (fun c_38 => ?_)
      · refine lv_aload_n hx hb dX3_sync_43 rfl (lv_at hl 0 rfl) ?_
        refine va_get (D := D) (ci := 3) (v := .int (nI ((O 0)))) (C := RX3) (T := TX3) (N := 16) hx hb hts hiX3 hown hK hP 0 rfl rfl 11 (by decide) (hts (.fieldLink RX3 67 "PairedCellsModel" "held" "I") (by decide +kernel)) (fun _ h9 => h9) rfl dX3_sync_44 ?_
        refine xz_le (tgt := 60) hx hb dX3_sync_47 (by decide) (nI_toInt (by omega)) (fun c_47 => ?_) (fun c_47 => ?_)
        · refine lv_aload_n hx hb dX3_sync_60 rfl (lv_at hl 0 rfl) ?_
          refine va_get (D := D) (ci := 3) (v := .int (nI (ne))) (C := RX3) (T := TX3) (N := 16) hx hb hts hiX3 hown hK hP 0 rfl rfl 10 (by decide) (hts (.fieldLink RX3 73 "PairedCellsModel" "next" "I") (by decide +kernel)) (fun _ h9 => h9) rfl dX3_sync_61 ?_
          exact xf_i (post := fun (x : Int32) (u : Unit) => x = nI ne) (w1 := fun (u : Unit) => wM cI r (nI (0)) fp fa χ (opn O) (O 0) (pl O (O 0)) cu fi ne ct on) () hx hb hr hlocks (rfl) hP hK hD hS dX3_sync_64
        · exfalso; omega
      · exfalso; omega
    · exfalso; omega
  · exfalso; omega
