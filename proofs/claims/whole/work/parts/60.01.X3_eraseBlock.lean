set_option maxHeartbeats 4000000 in
set_option maxRecDepth 100000 in
theorem c_X3_eraseBlock (l : Launch) (D : va_G) {cI : ClassId} (r : Nat → Nat) (th fp fa : Int32) (χ P : Nat → Nat) (hd tn cu fi ne ct on : Nat) (b : Nat) (hb6 : b < 6) (hχ : ∀ i, χ i < 65536) (sz : Nat) : Met l yX3_eraseBlock wsX3_eraseBlock ({ frames := 0, cells := 0, slots := 0, locals := 0 }) (va_Pc [.ref (r 0), .int (nI (b))] (x_U D (tyM cI) (wM cI r th fp fa χ P hd tn cu fi ne ct on) sz)) (va_Qv (fun (u : Unit) => True) (fun u t => x_E D (tyM cI) (va_A (wM cI r th fp fa χ P hd tn cu fi ne ct on) sz) (wM cI r th fp fa (ers χ b) P hd tn cu fi ne ct on) t) (va_A (wM cI r th fp fa χ P hd tn cu fi ne ct on) sz)) 0 0 (va_A (wM cI r th fp fa χ P hd tn cu fi ne ct on) sz) := by
  refine Met.ofW (cc := cX3_eraseBlock) (maxL := 3) (ret := none) (by decide) rfl ?_
  intro p e s m args below meth c s₁ B hml hv
  obtain ⟨rfl, hsz, hN, hP, hK, hD0⟩ := hv
  have hx := B.exec
  have hb := B.bytes
  have hr := B.returns
  have hts := atoms_spec (ws := wsX3_eraseBlock) B.pre
  have hown : s.vm.findClass RX3 = some m.cls := findClass_of_methodNamed B.named
  have hlocks := B.notSynchronized
  subst hsz
  have hD := hD0.self (sz := s.heap.size)
  generalize hAe : va_A (wM cI r th fp fa χ P hd tn cu fi ne ct on) s.heap.size = A at hD ⊢
  have hA : ∀ q : Nat, s.heap.size ≤ q → A q := fun q h => by rw [← hAe]; exact Or.inr h
  obtain ⟨H, hH⟩ : ∃ H : Heap, s.heap = H := ⟨_, rfl⟩
  obtain ⟨locs, hlo⟩ : ∃ L : List Loc, ([] : List Loc) = L := ⟨_, rfl⟩
  have hS : va_S A s.heap H locs := by rw [← hH, ← hlo]; exact va_S.rf
  have hP : va_P D vwCl (wM cI r th fp fa χ P hd tn cu fi ne ct on) H := hH ▸ hP
  rw [hH, hlo]
  have hiX3 : ∀ w ∈ u_ws RX3 TX3 16, w ∈ wsX3_eraseBlock := by decide +kernel
  have hl := lv_entry ([.ref (r 0), .int (nI (b))]) (n := 3) (Nat.le_of_ble_eq_true rfl)
  rw [lg_entry_eq]
  generalize (lg_sl ([.ref (r 0), .int (nI (b))]) ++ List.replicate (3 - (lg_sl ([.ref (r 0), .int (nI (b))])).length) Slot.unset).toArray = ls at hl ⊢
  have hl : lv_has ls 3 [(0, .ref (r 0)), (1, .int (nI (b)))] := hl
  refine lv_bipush (v := nI 16) hx hb dX3_eraseBlock_0 (by decide) ?_
  refine lv_iload_n hx hb dX3_eraseBlock_2 rfl (lv_at hl 1 rfl) ?_
  refine xr_mul hx hb dX3_eraseBlock_3 ?_
  refine lv_istore_n (lv' := [(2, .int (nI (16 * b))), (0, .ref (r 0)), (1, .int (nI (b)))]) hx hb dX3_eraseBlock_4 rfl hl (by decide) rfl (fun ls hl => ?_)
  have hq9 : (wM cI r th fp fa χ P hd tn cu fi ne ct on : va_W) = mX cI r th fp fa (fun j => if 16 * b ≤ j ∧ j < 16 * b + 0 then 0 else χ j) (fun j => χ (1000 + j)) (fun j => χ (100 + j)) (fun j => χ (200 + j)) (fun j => χ (110 + j)) P hd tn cu fi ne ct on := (mX_eq (fun j hj => (if_neg (by omega)).symm) (fun j hj => rfl) (fun j hj => rfl) (fun j hj => rfl) (fun j hj => rfl) (fun j hj => rfl))
  refine lpW (α := Nat) (fun k H locs => (k ≤ 16) ∧ va_P D vwCl (mX cI r th fp fa (fun j => if 16 * b ≤ j ∧ j < 16 * b + k then 0 else χ j) (fun j => χ (1000 + j)) (fun j => χ (100 + j)) (fun j => χ (200 + j)) (fun j => χ (110 + j)) P hd tn cu fi ne ct on) H ∧ va_D A (mX cI r th fp fa (fun j => if 16 * b ≤ j ∧ j < 16 * b + k then 0 else χ j) (fun j => χ (1000 + j)) (fun j => χ (100 + j)) (fun j => χ (200 + j)) (fun j => χ (110 + j)) P hd tn cu fi ne ct on) ∧ va_S A s.heap H locs) (fun k => [(0, .ref (r 0)), (1, .int (nI (b))), (2, .int (nI (16 * b + k)))]) 3 (fun k => 16 - k) 0 (⟨by omega, va_P.eqw hq9 hP, va_D.eqw hq9 hD, hS⟩) (lv_sub hl [1, 2, 0] rfl) (fun s9 H locs ls hI9 hl9 ih_5 => ?_)
  obtain ⟨k, rfl⟩ : ∃ z, z = s9 := ⟨_, rfl⟩
  have hl : lv_has ls 3 [(0, .ref (r 0)), (1, .int (nI (b))), (2, .int (nI (16 * b + k)))] := hl9
  obtain ⟨hk, hP, hD, hS⟩ : (k ≤ 16) ∧ va_P D vwCl (mX cI r th fp fa (fun j => if 16 * b ≤ j ∧ j < 16 * b + k then 0 else χ j) (fun j => χ (1000 + j)) (fun j => χ (100 + j)) (fun j => χ (200 + j)) (fun j => χ (110 + j)) P hd tn cu fi ne ct on) H ∧ va_D A (mX cI r th fp fa (fun j => if 16 * b ≤ j ∧ j < 16 * b + k then 0 else χ j) (fun j => χ (1000 + j)) (fun j => χ (100 + j)) (fun j => χ (200 + j)) (fun j => χ (110 + j)) P hd tn cu fi ne ct on) ∧ va_S A s.heap H locs := hI9
  refine lv_iload_n hx hb dX3_eraseBlock_5 rfl (lv_at hl 2 rfl) ?_
  refine lv_bipush (v := nI 16) hx hb dX3_eraseBlock_6 (by decide) ?_
  refine lv_iload_n hx hb dX3_eraseBlock_8 rfl (lv_at hl 1 rfl) ?_
  refine xr_mul hx hb dX3_eraseBlock_9 ?_
  refine lv_bipush (v := nI 16) hx hb dX3_eraseBlock_10 (by decide) ?_
  refine xr_add hx hb dX3_eraseBlock_12 ?_
  refine xi_ge (tgt := 29) hx hb dX3_eraseBlock_13 (by decide) (nI_toInt (by omega)) (nI_toInt (by omega)) (fun c_13 => ?_) (fun c_13 => ?_)
  · refine lv_aload_n hx hb dX3_eraseBlock_29 rfl (lv_at hl 0 rfl) ?_
    refine va_get (D := D) (ci := 3) (v := .ref (r 3)) (C := RX3) (T := TX3) (N := 16) hx hb hts hiX3 hown hK hP 0 rfl rfl 3 (by decide) (hts (.fieldLink RX3 16 "PairedCellsModel" "guards" "[I") (by decide +kernel)) (fun _ h9 => h9) rfl dX3_eraseBlock_30 ?_
    refine lv_iload_n hx hb dX3_eraseBlock_33 rfl (lv_at hl 1 rfl) ?_
    refine lv_iconst (v := nI 0) hx hb dX3_eraseBlock_34 (by decide) ?_
    refine xr_iast hx hb hK hP hD hS 3 0 rfl rfl (by omega) (by decide) dX3_eraseBlock_35 (fun H locs hP hD hS => ?_)
    have hP : va_P D vwCl (mX cI r th fp fa (fun j => if 16 * b ≤ j ∧ j < 16 * b + k then 0 else χ j) (fun j => χ (1000 + j)) (up (fun j => χ (100 + j)) (b) (0)) (fun j => χ (200 + j)) (fun j => χ (110 + j)) P hd tn cu fi ne ct on) H := hP
    have hD : va_D A (mX cI r th fp fa (fun j => if 16 * b ≤ j ∧ j < 16 * b + k then 0 else χ j) (fun j => χ (1000 + j)) (up (fun j => χ (100 + j)) (b) (0)) (fun j => χ (200 + j)) (fun j => χ (110 + j)) P hd tn cu fi ne ct on) := hD
    refine lv_aload_n hx hb dX3_eraseBlock_36 rfl (lv_at hl 0 rfl) ?_
    refine va_get (D := D) (ci := 3) (v := .ref (r 5)) (C := RX3) (T := TX3) (N := 16) hx hb hts hiX3 hown hK hP 0 rfl rfl 5 (by decide) (hts (.fieldLink RX3 22 "PairedCellsModel" "erased" "[I") (by decide +kernel)) (fun _ h9 => h9) rfl dX3_eraseBlock_37 ?_
    refine lv_iload_n hx hb dX3_eraseBlock_40 rfl (lv_at hl 1 rfl) ?_
    refine lv_dup2_11 hx hb dX3_eraseBlock_41 rfl rfl ?_
    refine xr_iald hx hb hK hP 5 0 rfl rfl (by omega) (by decide) dX3_eraseBlock_42 ?_
    have hb_42 := hχ (110 + b)
    refine lv_iconst (v := nI 1) hx hb dX3_eraseBlock_43 (by decide) ?_
    refine xr_add hx hb dX3_eraseBlock_44 ?_
    refine xr_iast hx hb hK hP hD hS 5 0 rfl rfl (by omega) (by decide) dX3_eraseBlock_45 (fun H locs hP hD hS => ?_)
    have hP : va_P D vwCl (mX cI r th fp fa (fun j => if 16 * b ≤ j ∧ j < 16 * b + k then 0 else χ j) (fun j => χ (1000 + j)) (up (fun j => χ (100 + j)) (b) (0)) (fun j => χ (200 + j)) (up (fun j => χ (110 + j)) (b) (χ (110 + b) + 1)) P hd tn cu fi ne ct on) H := hP
    have hD : va_D A (mX cI r th fp fa (fun j => if 16 * b ≤ j ∧ j < 16 * b + k then 0 else χ j) (fun j => χ (1000 + j)) (up (fun j => χ (100 + j)) (b) (0)) (fun j => χ (200 + j)) (up (fun j => χ (110 + j)) (b) (χ (110 + b) + 1)) P hd tn cu fi ne ct on) := hD
    have hq9 : (mX cI r th fp fa (fun j => if 16 * b ≤ j ∧ j < 16 * b + k then 0 else χ j) (fun j => χ (1000 + j)) (up (fun j => χ (100 + j)) (b) (0)) (fun j => χ (200 + j)) (up (fun j => χ (110 + j)) (b) (χ (110 + b) + 1)) P hd tn cu fi ne ct on : va_W) = wM cI r th fp fa (ers χ b) P hd tn cu fi ne ct on := (wM_eq (fun j hj => (by simp only [ers, up]; (repeat' split) <;> first | rfl | omega | (exfalso; omega) | (subst_vars; rfl) | (congr 1 <;> omega) | (congr 2 <;> omega))) (fun j hj => (by simp only [ers, up]; (repeat' split) <;> first | rfl | omega | (exfalso; omega) | (subst_vars; rfl) | (congr 1 <;> omega) | (congr 2 <;> omega))) (fun j hj => (by simp only [ers, up]; (repeat' split) <;> first | rfl | omega | (exfalso; omega) | (subst_vars; rfl) | (congr 1 <;> omega) | (congr 2 <;> omega))) (fun j hj => (by simp only [ers, up]; (repeat' split) <;> first | rfl | omega | (exfalso; omega) | (subst_vars; rfl) | (congr 1 <;> omega) | (congr 2 <;> omega))) (fun j hj => (by simp only [ers, up]; (repeat' split) <;> first | rfl | omega | (exfalso; omega) | (subst_vars; rfl) | (congr 1 <;> omega) | (congr 2 <;> omega))) (fun j hj => rfl))
    exact xf_v (post := fun (u : Unit) => True) (w1 := fun (u : Unit) => wM cI r th fp fa (ers χ b) P hd tn cu fi ne ct on) () hx hb hr hlocks (trivial) (va_P.eqw hq9 hP) hK (va_D.eqw hq9 hD) hS dX3_eraseBlock_46
  · refine lv_aload_n hx hb dX3_eraseBlock_16 rfl (lv_at hl 0 rfl) ?_
    refine va_get (D := D) (ci := 3) (v := .ref (r 1)) (C := RX3) (T := TX3) (N := 16) hx hb hts hiX3 hown hK hP 0 rfl rfl 1 (by decide) (hts (.fieldLink RX3 7 "PairedCellsModel" "states" "[I") (by decide +kernel)) (fun _ h9 => h9) rfl dX3_eraseBlock_17 ?_
    refine lv_iload_n hx hb dX3_eraseBlock_20 rfl (lv_at hl 2 rfl) ?_
    refine lv_iconst (v := nI 0) hx hb dX3_eraseBlock_21 (by decide) ?_
    refine xr_iast hx hb hK hP hD hS 1 0 rfl rfl (by omega) (by decide) dX3_eraseBlock_22 (fun H locs hP hD hS => ?_)
    have hP : va_P D vwCl (mX cI r th fp fa (up (fun j => if 16 * b ≤ j ∧ j < 16 * b + k then 0 else χ j) (16 * b + k) (0)) (fun j => χ (1000 + j)) (fun j => χ (100 + j)) (fun j => χ (200 + j)) (fun j => χ (110 + j)) P hd tn cu fi ne ct on) H := hP
    have hD : va_D A (mX cI r th fp fa (up (fun j => if 16 * b ≤ j ∧ j < 16 * b + k then 0 else χ j) (16 * b + k) (0)) (fun j => χ (1000 + j)) (fun j => χ (100 + j)) (fun j => χ (200 + j)) (fun j => χ (110 + j)) P hd tn cu fi ne ct on) := hD
    refine lv_iinc (v := nI (16 * b + k + 1)) (lv' := [(2, .int (nI (16 * b + k + 1))), (0, .ref (r 0)), (1, .int (nI (b)))]) hx hb dX3_eraseBlock_23 hl (k := 2) rfl (nI_add _ _) (by decide) rfl (fun ls hl => ?_)
    refine lv_goto (tgt := 5) hx hb dX3_eraseBlock_26 (by decide) ?_
    have hq9 : (mX cI r th fp fa (up (fun j => if 16 * b ≤ j ∧ j < 16 * b + k then 0 else χ j) (16 * b + k) (0)) (fun j => χ (1000 + j)) (fun j => χ (100 + j)) (fun j => χ (200 + j)) (fun j => χ (110 + j)) P hd tn cu fi ne ct on : va_W) = mX cI r th fp fa (fun j => if 16 * b ≤ j ∧ j < 16 * b + (k + 1) then 0 else χ j) (fun j => χ (1000 + j)) (fun j => χ (100 + j)) (fun j => χ (200 + j)) (fun j => χ (110 + j)) P hd tn cu fi ne ct on := (mX_eq (fun j hj => (by simp only [up]; (repeat' split) <;> first | rfl | omega | (exfalso; omega) | (subst_vars; rfl) | (congr 1 <;> omega) | (congr 2 <;> omega))) (fun j hj => rfl) (fun j hj => rfl) (fun j hj => rfl) (fun j hj => rfl) (fun j hj => rfl))
    exact ih_5 (k + 1) _ _ _ (⟨by omega, va_P.eqw hq9 hP, va_D.eqw hq9 hD, hS⟩) (by first | omega | (dsimp only; omega)) (lv_sub hl [1, 2, 0] rfl)
