set_option maxHeartbeats 4000000 in
set_option maxRecDepth 100000 in
theorem c_X3_empty (l : Launch) (D : va_G) {cI : ClassId} (r : Nat → Nat) (th fp fa : Int32) (χ P : Nat → Nat) (hd tn cu fi ne ct on : Nat) (sz : Nat) : Met l yX3_empty wsX3_empty ({ frames := 0, cells := 0, slots := 0, locals := 0 }) (va_Pc [.ref (r 0)] (x_U D (tyM cI) (wM cI r th fp fa χ P hd tn cu fi ne ct on) sz)) (va_Qv (fun (u : Unit) => True) (fun u t => x_E D (tyM cI) (va_A (wM cI r th fp fa χ P hd tn cu fi ne ct on) sz) (wM cI r th fp fa χ (fun _ => 0) 0 3 cu fi ne ct on) t) (va_A (wM cI r th fp fa χ P hd tn cu fi ne ct on) sz)) 0 0 (va_A (wM cI r th fp fa χ P hd tn cu fi ne ct on) sz) := by
  refine Met.ofW (cc := cX3_empty) (maxL := 2) (ret := none) (by decide) rfl ?_
  intro p e s m args below meth c s₁ B hml hv
  obtain ⟨rfl, hsz, hN, hP, hK, hD0⟩ := hv
  have hx := B.exec
  have hb := B.bytes
  have hr := B.returns
  have hts := atoms_spec (ws := wsX3_empty) B.pre
  have hown : s.vm.findClass RX3 = some m.cls := findClass_of_methodNamed B.named
  have hlocks := B.notSynchronized
  subst hsz
  have hD := hD0.self (sz := s.heap.size)
  generalize hAe : va_A (wM cI r th fp fa χ P hd tn cu fi ne ct on) s.heap.size = A at hD ⊢
  have hA : ∀ q : Nat, s.heap.size ≤ q → A q := fun q h => by rw [← hAe]; exact Or.inr h
  obtain ⟨H, hH⟩ : ∃ H : Heap, s.heap = H := ⟨_, rfl⟩
  obtain ⟨locs, hlo⟩ : ∃ L : List Loc, ([] : List Loc) = L := ⟨_, rfl⟩
  have hS : va_S A s.heap H locs := by rw [← hH, ← hlo]; exact va_S.rf
  have hP : va_P D vwCl (wM cI r th fp fa χ P hd tn cu fi ne ct on) H := hH ▸ hP
  rw [hH, hlo]
  have hiX3 : ∀ w ∈ u_ws RX3 TX3 16, w ∈ wsX3_empty := by decide +kernel
  have hl := lv_entry ([.ref (r 0)]) (n := 2) (Nat.le_of_ble_eq_true rfl)
  rw [lg_entry_eq]
  generalize (lg_sl ([.ref (r 0)]) ++ List.replicate (2 - (lg_sl ([.ref (r 0)])).length) Slot.unset).toArray = ls at hl ⊢
  have hl : lv_has ls 2 [(0, .ref (r 0))] := hl
  refine lv_aload_n hx hb dX3_empty_0 rfl (lv_at hl 0 rfl) ?_
  refine lv_iconst (v := nI 0) hx hb dX3_empty_1 (by decide) ?_
  refine va_put (D := D) (ci := 3) (v := .int (nI (0))) (ty := .int) (C := RX3) (T := TX3) (N := 16) hx hb hts hiX3 tyX3 tyX3_ok nmX3 hown hK hP hD hS 0 rfl rfl 11 (by decide) (hts (.fieldLink RX3 67 "PairedCellsModel" "held" "I") (by decide +kernel)) (fun _ h9 => h9) rfl (by decide +kernel) rfl rfl (Nat.le_of_ble_eq_true rfl) dX3_empty_2 (fun H locs hP hD hS => ?_)
  have hP : va_P D vwCl (wM cI r th fp fa χ P 0 tn cu fi ne ct on) H := hP
  have hD : va_D A (wM cI r th fp fa χ P 0 tn cu fi ne ct on) := hD
  refine lv_aload_n hx hb dX3_empty_5 rfl (lv_at hl 0 rfl) ?_
  refine lv_iconst (v := nI 3) hx hb dX3_empty_6 (by decide) ?_
  refine va_put (D := D) (ci := 3) (v := .int (nI (3))) (ty := .int) (C := RX3) (T := TX3) (N := 16) hx hb hts hiX3 tyX3 tyX3_ok nmX3 hown hK hP hD hS 0 rfl rfl 12 (by decide) (hts (.fieldLink RX3 29 "PairedCellsModel" "taken" "I") (by decide +kernel)) (fun _ h9 => h9) rfl (by decide +kernel) rfl rfl (Nat.le_of_ble_eq_true rfl) dX3_empty_7 (fun H locs hP hD hS => ?_)
  have hP : va_P D vwCl (wM cI r th fp fa χ P 0 3 cu fi ne ct on) H := hP
  have hD : va_D A (wM cI r th fp fa χ P 0 3 cu fi ne ct on) := hD
  refine lv_iconst (v := nI 0) hx hb dX3_empty_10 (by decide) ?_
  refine lv_istore_n (lv' := [(1, .int (nI (0))), (0, .ref (r 0))]) hx hb dX3_empty_11 rfl hl (by decide) rfl (fun ls hl => ?_)
  have hq9 : (wM cI r th fp fa χ P 0 3 cu fi ne ct on : va_W) = wM cI r th fp fa χ (fun j => if j < 0 then 0 else P j) 0 3 cu fi ne ct on := (mX_eq (fun j hj => rfl) (fun j hj => rfl) (fun j hj => rfl) (fun j hj => rfl) (fun j hj => rfl) (fun j hj => (if_neg (Nat.not_lt_zero j)).symm))
  refine lpW (α := Nat) (fun k H locs => (k ≤ 16) ∧ va_P D vwCl (wM cI r th fp fa χ (fun j => if j < k then 0 else P j) 0 3 cu fi ne ct on) H ∧ va_D A (wM cI r th fp fa χ (fun j => if j < k then 0 else P j) 0 3 cu fi ne ct on) ∧ va_S A s.heap H locs) (fun k => [(0, .ref (r 0)), (1, .int (nI (k)))]) 2 (fun k => 16 - k) 0 (⟨by omega, va_P.eqw hq9 hP, va_D.eqw hq9 hD, hS⟩) (lv_sub hl [1, 0] rfl) (fun s9 H locs ls hI9 hl9 ih_12 => ?_)
  obtain ⟨k, rfl⟩ : ∃ z, z = s9 := ⟨_, rfl⟩
  have hl : lv_has ls 2 [(0, .ref (r 0)), (1, .int (nI (k)))] := hl9
  obtain ⟨hk, hP, hD, hS⟩ : (k ≤ 16) ∧ va_P D vwCl (wM cI r th fp fa χ (fun j => if j < k then 0 else P j) 0 3 cu fi ne ct on) H ∧ va_D A (wM cI r th fp fa χ (fun j => if j < k then 0 else P j) 0 3 cu fi ne ct on) ∧ va_S A s.heap H locs := hI9
  refine lv_iload_n hx hb dX3_empty_12 rfl (lv_at hl 1 rfl) ?_
  refine lv_bipush (v := nI 16) hx hb dX3_empty_13 (by decide) ?_
  refine xi_ge (tgt := 31) hx hb dX3_empty_15 (by decide) (nI_toInt (by omega)) (nI_toInt (by omega)) (fun c_15 => ?_) (fun c_15 => ?_)
  · have hq9 : (wM cI r th fp fa χ (fun j => if j < k then 0 else P j) 0 3 cu fi ne ct on : va_W) = wM cI r th fp fa χ (fun _ => 0) 0 3 cu fi ne ct on := (mX_eq (fun j hj => rfl) (fun j hj => rfl) (fun j hj => rfl) (fun j hj => rfl) (fun j hj => rfl) (fun j hj => if_pos (by omega)))
    exact xf_v (post := fun (u : Unit) => True) (w1 := fun (u : Unit) => wM cI r th fp fa χ (fun _ => 0) 0 3 cu fi ne ct on) () hx hb hr hlocks (trivial) (va_P.eqw hq9 hP) hK (va_D.eqw hq9 hD) hS dX3_empty_31
  · refine lv_aload_n hx hb dX3_empty_18 rfl (lv_at hl 0 rfl) ?_
    refine va_get (D := D) (ci := 3) (v := .ref (r 6)) (C := RX3) (T := TX3) (N := 16) hx hb hts hiX3 hown hK hP 0 rfl rfl 13 (by decide) (hts (.fieldLink RX3 33 "PairedCellsModel" "open" "[I") (by decide +kernel)) (fun _ h9 => h9) rfl dX3_empty_19 ?_
    refine lv_iload_n hx hb dX3_empty_22 rfl (lv_at hl 1 rfl) ?_
    refine lv_iconst (v := nI 0) hx hb dX3_empty_23 (by decide) ?_
    refine xr_iast hx hb hK hP hD hS 6 0 rfl rfl (by omega) (by decide) dX3_empty_24 (fun H locs hP hD hS => ?_)
    have hP : va_P D vwCl (wM cI r th fp fa χ (up (fun j => if j < k then 0 else P j) (k) (0)) 0 3 cu fi ne ct on) H := hP
    have hD : va_D A (wM cI r th fp fa χ (up (fun j => if j < k then 0 else P j) (k) (0)) 0 3 cu fi ne ct on) := hD
    refine lv_iinc (v := nI (k + 1)) (lv' := [(1, .int (nI (k + 1))), (0, .ref (r 0))]) hx hb dX3_empty_25 hl (k := 1) rfl (nI_add _ _) (by decide) rfl (fun ls hl => ?_)
    refine lv_goto (tgt := 12) hx hb dX3_empty_28 (by decide) ?_
    have hq9 : (wM cI r th fp fa χ (up (fun j => if j < k then 0 else P j) (k) (0)) 0 3 cu fi ne ct on : va_W) = wM cI r th fp fa χ (fun j => if j < (k + 1) then 0 else P j) 0 3 cu fi ne ct on := (mX_eq (fun j hj => rfl) (fun j hj => rfl) (fun j hj => rfl) (fun j hj => rfl) (fun j hj => rfl) (fun j hj => (by simp only [up]; (repeat' split) <;> first | rfl | omega | (exfalso; omega) | (subst_vars; rfl) | (congr 1 <;> omega) | (congr 2 <;> omega))))
    exact ih_12 (k + 1) _ _ _ (⟨by omega, va_P.eqw hq9 hP, va_D.eqw hq9 hD, hS⟩) (by first | omega | (dsimp only; omega)) (lv_sub hl [1, 0] rfl)
