theorem gr_16 (χ : Nat → Nat) (b n : Nat) : gr χ b n 16 = gm χ b n := rfl
theorem gr_lt {χ : Nat → Nat} {b n i : Nat} (h : i < 16) : gr χ b n i = gx χ b i n := if_pos h
/-- the guard page's row while line j is added, as the reference adds it: its bytes below i are, byte 16 isn't yet -/
def grK (χ : Nat → Nat) (b j i : Nat) : Nat → Nat := fun t => if t < i then gx χ b t (j + 1) else if t < 16 then gx χ b t j else if t = 16 then gm χ b j else 0

set_option maxHeartbeats 4000000 in
set_option maxRecDepth 100000 in
theorem c_X3_writeGuard (l : Launch) (D : va_G) {cI : ClassId} (r : Nat → Nat) (th fp fa : Int32) (χ P : Nat → Nat) (hd tn cu fi ne ct on : Nat) (hcu : cu < 6) (hχ : ∀ i, χ i < 65536) (hct : ct < 100) (sz : Nat) : Met l yX3_writeGuard wsX3_writeGuard ({ frames := 1, cells := 0, slots := 0, locals := 20 }) (va_Pc [.ref (r 0)] (x_U D (tyM cI) (wM cI r th fp fa χ P hd tn cu fi ne ct on) sz)) (va_Qi (fun (x : Int32) (u : (Nat → Nat) × Nat × Nat) => (ct = 1 ∧ x = nI 0 ∧ u = (up χ (100 + cu) 2, 0, 0)) ∨ (ct ≠ 1 ∧ x = nI 1 ∧ u = (wgd χ cu, ct - 1, on))) (fun u t => x_E D (tyM cI) (va_A (wM cI r th fp fa χ P hd tn cu fi ne ct on) sz) (wM cI r th fp fa (u.1) P hd tn cu fi ne (u.2.1) (u.2.2)) t) (va_A (wM cI r th fp fa χ P hd tn cu fi ne ct on) sz)) 0 0 (va_A (wM cI r th fp fa χ P hd tn cu fi ne ct on) sz) := by
  refine Met.ofW (cc := cX3_writeGuard) (maxL := 5) (ret := (some .boolean)) (by decide) rfl ?_
  intro p e s m args below meth c s₁ B hml hv
  obtain ⟨rfl, hsz, hN, hP, hK, hD0⟩ := hv
  have hx := B.exec
  have hb := B.bytes
  have hr := B.returns
  have hts := atoms_spec (ws := wsX3_writeGuard) B.pre
  have hown : s.vm.findClass RX3 = some m.cls := findClass_of_methodNamed B.named
  have hlocks := B.notSynchronized
  subst hsz
  have hD := hD0.self (sz := s.heap.size)
  generalize hAe : va_A (wM cI r th fp fa χ P hd tn cu fi ne ct on) s.heap.size = A at hD ⊢
  have hA : ∀ q : Nat, s.heap.size ≤ q → A q := fun q h => by rw [← hAe]; exact Or.inr h
  obtain ⟨H, hH⟩ : ∃ H : Heap, s.heap = H := ⟨_, rfl⟩
  obtain ⟨locs, hlo⟩ : ∃ L : List Loc, ([] : List Loc) = L := ⟨_, rfl⟩
  have hS : va_S A s.heap H locs := by rw [← hH, ← hlo]; exact va_S.rf
  have hP : va_P D vwCl (wM cI r th fp fa χ P hd tn cu fi ne ct on) H := hH ▸ hP
  rw [hH, hlo]
  have hiX3 : ∀ w ∈ u_ws RX3 TX3 16, w ∈ wsX3_writeGuard := by decide +kernel
  have hl := lv_entry ([.ref (r 0)]) (n := 5) (Nat.le_of_ble_eq_true rfl)
  rw [lg_entry_eq]
  generalize (lg_sl ([.ref (r 0)]) ++ List.replicate (5 - (lg_sl ([.ref (r 0)])).length) Slot.unset).toArray = ls at hl ⊢
  have hl : lv_has ls 5 [(0, .ref (r 0))] := hl
  refine lv_aload_n hx hb dX3_writeGuard_0 rfl (lv_at hl 0 rfl) ?_
  refine va_get (D := D) (ci := 3) (v := .int (nI (cu))) (C := RX3) (T := TX3) (N := 16) hx hb hts hiX3 hown hK hP 0 rfl rfl 8 (by decide) (hts (.fieldLink RX3 54 "PairedCellsModel" "current" "I") (by decide +kernel)) (fun _ h9 => h9) rfl dX3_writeGuard_1 ?_
  refine lv_istore_n (lv' := [(1, .int (nI (cu))), (0, .ref (r 0))]) hx hb dX3_writeGuard_4 rfl hl (by decide) rfl (fun ls hl => ?_)
  refine lv_aload_n hx hb dX3_writeGuard_5 rfl (lv_at hl 1 rfl) ?_
  refine va_get (D := D) (ci := 3) (v := .ref (r 3)) (C := RX3) (T := TX3) (N := 16) hx hb hts hiX3 hown hK hP 0 rfl rfl 3 (by decide) (hts (.fieldLink RX3 16 "PairedCellsModel" "guards" "[I") (by decide +kernel)) (fun _ h9 => h9) rfl dX3_writeGuard_6 ?_
  refine lv_iload_n hx hb dX3_writeGuard_9 rfl (lv_at hl 0 rfl) ?_
  refine lv_iconst (v := nI 0) hx hb dX3_writeGuard_10 (by decide) ?_
  refine xr_iast hx hb hK hP hD hS 3 0 rfl rfl (by omega) (by decide) dX3_writeGuard_11 (fun H locs hP hD hS => ?_)
  have hP : va_P D vwCl (mX cI r th fp fa (fun j => χ j) (fun j => χ (1000 + j)) (up (fun j => χ (100 + j)) (cu) (0)) (fun j => χ (200 + j)) (fun j => χ (110 + j)) P hd tn cu fi ne ct on) H := hP
  have hD : va_D A (mX cI r th fp fa (fun j => χ j) (fun j => χ (1000 + j)) (up (fun j => χ (100 + j)) (cu) (0)) (fun j => χ (200 + j)) (fun j => χ (110 + j)) P hd tn cu fi ne ct on) := hD
  have hq9 : (mX cI r th fp fa (fun j => χ j) (fun j => χ (1000 + j)) (up (fun j => χ (100 + j)) (cu) (0)) (fun j => χ (200 + j)) (fun j => χ (110 + j)) P hd tn cu fi ne ct on : va_W) = wM cI r th fp fa (up χ (100 + cu) 0) P hd tn cu fi ne ct on := wM_eq (fun j hj => (by simp only [up]; (repeat' split) <;> first | rfl | omega | (exfalso; omega) | (subst_vars; rfl) | (congr 1 <;> omega) | (congr 2 <;> omega))) (fun j hj => (by simp only [up]; (repeat' split) <;> first | rfl | omega | (exfalso; omega) | (subst_vars; rfl) | (congr 1 <;> omega) | (congr 2 <;> omega))) (fun j hj => (by simp only [up]; (repeat' split) <;> first | rfl | omega | (exfalso; omega) | (subst_vars; rfl) | (congr 1 <;> omega) | (congr 2 <;> omega))) (fun j hj => (by simp only [up]; (repeat' split) <;> first | rfl | omega | (exfalso; omega) | (subst_vars; rfl) | (congr 1 <;> omega) | (congr 2 <;> omega))) (fun j hj => (by simp only [up]; (repeat' split) <;> first | rfl | omega | (exfalso; omega) | (subst_vars; rfl) | (congr 1 <;> omega) | (congr 2 <;> omega))) (fun j hj => rfl)
  have hP := va_P.eqw hq9 hP
  have hD := va_D.eqw hq9 hD
  have hP : va_P D vwCl (wM cI r th fp fa (up χ (100 + cu) 0) P hd tn cu fi ne ct on) H := hP
  have hD : va_D A (wM cI r th fp fa (up χ (100 + cu) 0) P hd tn cu fi ne ct on) := hD
  refine lv_aload_n hx hb dX3_writeGuard_12 rfl (lv_at hl 1 rfl) ?_
  have hF9 := x_hF (hD) hS hA
  refine xw_Vi (ci := 3) (rest := []) (As := []) ⟨hx, hb, hml, hown, hts⟩ (c_X3_isCut l D r th fp fa (up χ (100 + cu) 0) P hd tn cu fi ne ct on hct H.size) (cwV 0 hts gX3_writeGuard_X3_isCut rfl rfl rfl (by decide +kernel) ⟨Nat.le_of_ble_eq_true rfl, Nat.le_of_ble_eq_true rfl⟩) hN hK (hP) (hD) hS hA rfl 0 rfl rfl hl.1 rfl (Nat.le_of_ble_eq_true rfl) dX3_writeGuard_13 ⟨Nat.le_of_ble_eq_true rfl, Nat.le_of_ble_eq_true rfl⟩ (fun r_13 u_13 H1 locs hw_13 hP1 hD1 hDA hk9 hS => ?_)
  rcases hw_13 with ⟨hc1, rfl, rfl⟩ | ⟨hc1, rfl, rfl⟩
  · have hP := hP1
    have hD := hDA
    generalize H1 = H at hP hS ⊢
    have hP : va_P D vwCl (wM cI r th fp fa (up χ (100 + cu) 0) P hd tn cu fi ne 0 0) H := hP
    have hD : va_D A (wM cI r th fp fa (up χ (100 + cu) 0) P hd tn cu fi ne 0 0) := hD
    refine xz_eq (tgt := 28) hx hb dX3_writeGuard_16 (by decide) (nI_toInt (by omega)) (fun c_16 => ?_) (fun c_16 => ?_)
    · exfalso; omega
    · refine lv_aload_n hx hb dX3_writeGuard_19 rfl (lv_at hl 1 rfl) ?_
      refine va_get (D := D) (ci := 3) (v := .ref (r 3)) (C := RX3) (T := TX3) (N := 16) hx hb hts hiX3 hown hK hP 0 rfl rfl 3 (by decide) (hts (.fieldLink RX3 16 "PairedCellsModel" "guards" "[I") (by decide +kernel)) (fun _ h9 => h9) rfl dX3_writeGuard_20 ?_
      refine lv_iload_n hx hb dX3_writeGuard_23 rfl (lv_at hl 0 rfl) ?_
      refine lv_iconst (v := nI 2) hx hb dX3_writeGuard_24 (by decide) ?_
      refine xr_iast hx hb hK hP hD hS 3 0 rfl rfl (by omega) (by decide) dX3_writeGuard_25 (fun H locs hP hD hS => ?_)
      have hP : va_P D vwCl (mX cI r th fp fa (fun j => (up χ (100 + cu) 0) j) (fun j => (up χ (100 + cu) 0) (1000 + j)) (up (fun j => (up χ (100 + cu) 0) (100 + j)) (cu) (2)) (fun j => (up χ (100 + cu) 0) (200 + j)) (fun j => (up χ (100 + cu) 0) (110 + j)) P hd tn cu fi ne 0 0) H := hP
      have hD : va_D A (mX cI r th fp fa (fun j => (up χ (100 + cu) 0) j) (fun j => (up χ (100 + cu) 0) (1000 + j)) (up (fun j => (up χ (100 + cu) 0) (100 + j)) (cu) (2)) (fun j => (up χ (100 + cu) 0) (200 + j)) (fun j => (up χ (100 + cu) 0) (110 + j)) P hd tn cu fi ne 0 0) := hD
      refine lv_iconst (v := nI 0) hx hb dX3_writeGuard_26 (by decide) ?_
      have hq9 : (mX cI r th fp fa (fun j => (up χ (100 + cu) 0) j) (fun j => (up χ (100 + cu) 0) (1000 + j)) (up (fun j => (up χ (100 + cu) 0) (100 + j)) (cu) (2)) (fun j => (up χ (100 + cu) 0) (200 + j)) (fun j => (up χ (100 + cu) 0) (110 + j)) P hd tn cu fi ne 0 0 : va_W) = wM cI r th fp fa (up χ (100 + cu) 2) P hd tn cu fi ne 0 0 := ((wM_eq (fun j hj => (by simp only [up]; (repeat' split) <;> first | rfl | omega | (exfalso; omega) | (subst_vars; rfl) | (congr 1 <;> omega) | (congr 2 <;> omega))) (fun j hj => (by simp only [up]; (repeat' split) <;> first | rfl | omega | (exfalso; omega) | (subst_vars; rfl) | (congr 1 <;> omega) | (congr 2 <;> omega))) (fun j hj => (by simp only [up]; (repeat' split) <;> first | rfl | omega | (exfalso; omega) | (subst_vars; rfl) | (congr 1 <;> omega) | (congr 2 <;> omega))) (fun j hj => (by simp only [up]; (repeat' split) <;> first | rfl | omega | (exfalso; omega) | (subst_vars; rfl) | (congr 1 <;> omega) | (congr 2 <;> omega))) (fun j hj => (by simp only [up]; (repeat' split) <;> first | rfl | omega | (exfalso; omega) | (subst_vars; rfl) | (congr 1 <;> omega) | (congr 2 <;> omega))) (fun j hj => rfl)))
      exact xf_z (post := fun (x : Int32) (u : (Nat → Nat) × Nat × Nat) => (ct = 1 ∧ x = nI 0 ∧ u = (up χ (100 + cu) 2, 0, 0)) ∨ (ct ≠ 1 ∧ x = nI 1 ∧ u = (wgd χ cu, ct - 1, on))) (w1 := fun (u : (Nat → Nat) × Nat × Nat) => wM cI r th fp fa (u.1) P hd tn cu fi ne (u.2.1) (u.2.2)) (up χ (100 + cu) 2, 0, 0) hx hb hr hlocks rfl (Or.inl ⟨hc1, rfl, rfl⟩) (va_P.eqw hq9 hP) hK (va_D.eqw hq9 hD) hS dX3_writeGuard_27
  · have hP := hP1
    have hD := hDA
    generalize H1 = H at hP hS ⊢
    have hP : va_P D vwCl (wM cI r th fp fa (up χ (100 + cu) 0) P hd tn cu fi ne (ct - 1) on) H := hP
    have hD : va_D A (wM cI r th fp fa (up χ (100 + cu) 0) P hd tn cu fi ne (ct - 1) on) := hD
    refine xz_eq (tgt := 28) hx hb dX3_writeGuard_16 (by decide) (nI_toInt (by omega)) (fun c_16 => ?_) (fun c_16 => ?_)
    · refine lv_iconst (v := nI 0) hx hb dX3_writeGuard_28 (by decide) ?_
      refine lv_istore_n (lv' := [(2, .int (nI (0))), (1, .int (nI (cu))), (0, .ref (r 0))]) hx hb dX3_writeGuard_29 rfl hl (by decide) rfl (fun ls hl => ?_)
      have hq9 : (wM cI r th fp fa (up χ (100 + cu) 0) P hd tn cu fi ne (ct - 1) on : va_W) = mX cI r th fp fa (fun j => χ j) (fun j => χ (1000 + j)) (fun j => up χ (100 + cu) 0 (100 + j)) (fun j => if 17 * cu ≤ j ∧ j < 17 * cu + 17 then (if j < 17 * cu + 0 then 0 else χ (200 + j)) else χ (200 + j)) (fun j => χ (110 + j)) P hd tn cu fi ne (ct - 1) on := (mX_eq (fun j hj => up_ne χ 0 (by omega)) (fun j hj => up_ne χ 0 (by omega)) (fun j hj => rfl) (fun j hj => by (by_cases hb9 : 17 * cu ≤ j ∧ j < 17 * cu + 17); (rw [if_pos hb9, if_neg (by omega)]; exact up_ne χ 0 (by omega)); (rw [if_neg hb9]; exact up_ne χ 0 (by omega))) (fun j hj => up_ne χ 0 (by omega)) (fun j hj => rfl))
      refine lpW (α := Nat) (fun k H locs => (k ≤ 17) ∧ va_P D vwCl (mX cI r th fp fa (fun j => χ j) (fun j => χ (1000 + j)) (fun j => up χ (100 + cu) 0 (100 + j)) (fun j => if 17 * cu ≤ j ∧ j < 17 * cu + 17 then (if j < 17 * cu + k then 0 else χ (200 + j)) else χ (200 + j)) (fun j => χ (110 + j)) P hd tn cu fi ne (ct - 1) on) H ∧ va_D A (mX cI r th fp fa (fun j => χ j) (fun j => χ (1000 + j)) (fun j => up χ (100 + cu) 0 (100 + j)) (fun j => if 17 * cu ≤ j ∧ j < 17 * cu + 17 then (if j < 17 * cu + k then 0 else χ (200 + j)) else χ (200 + j)) (fun j => χ (110 + j)) P hd tn cu fi ne (ct - 1) on) ∧ va_S A s.heap H locs) (fun k => [(0, .ref (r 0)), (1, .int (nI (cu))), (2, .int (nI (k)))]) 5 (fun k => 17 - k) 0 (⟨by omega, va_P.eqw hq9 hP, va_D.eqw hq9 hD, hS⟩) (lv_sub hl [2, 1, 0] rfl) (fun s9 H locs ls hI9 hl9 ih_30 => ?_)
      obtain ⟨k, rfl⟩ : ∃ z, z = s9 := ⟨_, rfl⟩
      have hl : lv_has ls 5 [(0, .ref (r 0)), (1, .int (nI (cu))), (2, .int (nI (k)))] := hl9
      obtain ⟨hk, hP, hD, hS⟩ : (k ≤ 17) ∧ va_P D vwCl (mX cI r th fp fa (fun j => χ j) (fun j => χ (1000 + j)) (fun j => up χ (100 + cu) 0 (100 + j)) (fun j => if 17 * cu ≤ j ∧ j < 17 * cu + 17 then (if j < 17 * cu + k then 0 else χ (200 + j)) else χ (200 + j)) (fun j => χ (110 + j)) P hd tn cu fi ne (ct - 1) on) H ∧ va_D A (mX cI r th fp fa (fun j => χ j) (fun j => χ (1000 + j)) (fun j => up χ (100 + cu) 0 (100 + j)) (fun j => if 17 * cu ≤ j ∧ j < 17 * cu + 17 then (if j < 17 * cu + k then 0 else χ (200 + j)) else χ (200 + j)) (fun j => χ (110 + j)) P hd tn cu fi ne (ct - 1) on) ∧ va_S A s.heap H locs := hI9
      refine lv_iload_n hx hb dX3_writeGuard_30 rfl (lv_at hl 2 rfl) ?_
      refine lv_bipush (v := nI 17) hx hb dX3_writeGuard_31 (by decide) ?_
      refine xi_ge (tgt := 54) hx hb dX3_writeGuard_33 (by decide) (nI_toInt (by omega)) (nI_toInt (by omega)) (fun c_33 => ?_) (fun c_33 => ?_)
      · refine lv_iconst (v := nI 0) hx hb dX3_writeGuard_54 (by decide) ?_
        refine lv_istore_n (lv' := [(2, .int (nI (0))), (0, .ref (r 0)), (1, .int (nI (cu)))]) hx hb dX3_writeGuard_55 rfl hl (by decide) rfl (fun ls hl => ?_)
        have hq9 : (mX cI r th fp fa (fun j => χ j) (fun j => χ (1000 + j)) (fun j => up χ (100 + cu) 0 (100 + j)) (fun j => if 17 * cu ≤ j ∧ j < 17 * cu + 17 then (if j < 17 * cu + k then 0 else χ (200 + j)) else χ (200 + j)) (fun j => χ (110 + j)) P hd tn cu fi ne (ct - 1) on : va_W) = mX cI r th fp fa (fun j => χ j) (fun j => χ (1000 + j)) (fun j => up χ (100 + cu) 0 (100 + j)) (fun j9 => if 17 * cu ≤ j9 ∧ j9 < 17 * cu + 17 then gr χ cu 0 (j9 - 17 * cu) else χ (200 + j9)) (fun j => χ (110 + j)) P hd tn cu fi ne (ct - 1) on := (mX_eq (fun j hj => rfl) (fun j hj => rfl) (fun j hj => rfl) (fun j9 hj9 => by (by_cases hb9 : 17 * cu ≤ j9 ∧ j9 < 17 * cu + 17); (rw [if_pos hb9, if_pos hb9, if_pos (by omega)]; simp only [gr, gx, gm]; (repeat' split) <;> rfl); (rw [if_neg hb9, if_neg hb9])) (fun j hj => rfl) (fun j hj => rfl))
        refine lpW (α := Nat) (fun j H locs => (j ≤ 8) ∧ va_P D vwCl (mX cI r th fp fa (fun j => χ j) (fun j => χ (1000 + j)) (fun j => up χ (100 + cu) 0 (100 + j)) (fun j9 => if 17 * cu ≤ j9 ∧ j9 < 17 * cu + 17 then gr χ cu j (j9 - 17 * cu) else χ (200 + j9)) (fun j => χ (110 + j)) P hd tn cu fi ne (ct - 1) on) H ∧ va_D A (mX cI r th fp fa (fun j => χ j) (fun j => χ (1000 + j)) (fun j => up χ (100 + cu) 0 (100 + j)) (fun j9 => if 17 * cu ≤ j9 ∧ j9 < 17 * cu + 17 then gr χ cu j (j9 - 17 * cu) else χ (200 + j9)) (fun j => χ (110 + j)) P hd tn cu fi ne (ct - 1) on) ∧ va_S A s.heap H locs) (fun j => [(0, .ref (r 0)), (1, .int (nI (cu))), (2, .int (nI (j)))]) 5 (fun j => 8 - j) 0 (⟨by omega, va_P.eqw hq9 hP, va_D.eqw hq9 hD, hS⟩) (lv_sub hl [1, 2, 0] rfl) (fun s9 H locs ls hI9 hl9 ih_56 => ?_)
        obtain ⟨j, rfl⟩ : ∃ z, z = s9 := ⟨_, rfl⟩
        have hl : lv_has ls 5 [(0, .ref (r 0)), (1, .int (nI (cu))), (2, .int (nI (j)))] := hl9
        obtain ⟨hj, hP, hD, hS⟩ : (j ≤ 8) ∧ va_P D vwCl (mX cI r th fp fa (fun j => χ j) (fun j => χ (1000 + j)) (fun j => up χ (100 + cu) 0 (100 + j)) (fun j9 => if 17 * cu ≤ j9 ∧ j9 < 17 * cu + 17 then gr χ cu j (j9 - 17 * cu) else χ (200 + j9)) (fun j => χ (110 + j)) P hd tn cu fi ne (ct - 1) on) H ∧ va_D A (mX cI r th fp fa (fun j => χ j) (fun j => χ (1000 + j)) (fun j => up χ (100 + cu) 0 (100 + j)) (fun j9 => if 17 * cu ≤ j9 ∧ j9 < 17 * cu + 17 then gr χ cu j (j9 - 17 * cu) else χ (200 + j9)) (fun j => χ (110 + j)) P hd tn cu fi ne (ct - 1) on) ∧ va_S A s.heap H locs := hI9
        have hS9 := hχ (16 * cu + j)
        refine lv_iload_n hx hb dX3_writeGuard_56 rfl (lv_at hl 2 rfl) ?_
        refine lv_bipush (v := nI 8) hx hb dX3_writeGuard_57 (by decide) ?_
        refine xi_ge (tgt := 149) hx hb dX3_writeGuard_59 (by decide) (nI_toInt (by omega)) (nI_toInt (by omega)) (fun c_59 => ?_) (fun c_59 => ?_)
        · refine lv_aload_n hx hb dX3_writeGuard_149 rfl (lv_at hl 0 rfl) ?_
          refine va_get (D := D) (ci := 3) (v := .ref (r 3)) (C := RX3) (T := TX3) (N := 16) hx hb hts hiX3 hown hK hP 0 rfl rfl 3 (by decide) (hts (.fieldLink RX3 16 "PairedCellsModel" "guards" "[I") (by decide +kernel)) (fun _ h9 => h9) rfl dX3_writeGuard_150 ?_
          refine lv_iload_n hx hb dX3_writeGuard_153 rfl (lv_at hl 1 rfl) ?_
          refine lv_iconst (v := nI 1) hx hb dX3_writeGuard_154 (by decide) ?_
          refine xr_iast hx hb hK hP hD hS 3 0 rfl rfl (by omega) (by decide) dX3_writeGuard_155 (fun H locs hP hD hS => ?_)
          have hP : va_P D vwCl (mX cI r th fp fa (fun j => χ j) (fun j => χ (1000 + j)) (up (fun j => up χ (100 + cu) 0 (100 + j)) (cu) (1)) (fun j9 => if 17 * cu ≤ j9 ∧ j9 < 17 * cu + 17 then gr χ cu j (j9 - 17 * cu) else χ (200 + j9)) (fun j => χ (110 + j)) P hd tn cu fi ne (ct - 1) on) H := hP
          have hD : va_D A (mX cI r th fp fa (fun j => χ j) (fun j => χ (1000 + j)) (up (fun j => up χ (100 + cu) 0 (100 + j)) (cu) (1)) (fun j9 => if 17 * cu ≤ j9 ∧ j9 < 17 * cu + 17 then gr χ cu j (j9 - 17 * cu) else χ (200 + j9)) (fun j => χ (110 + j)) P hd tn cu fi ne (ct - 1) on) := hD
          refine lv_iconst (v := nI 1) hx hb dX3_writeGuard_156 (by decide) ?_
          have hq9 : (mX cI r th fp fa (fun j => χ j) (fun j => χ (1000 + j)) (up (fun j => up χ (100 + cu) 0 (100 + j)) (cu) (1)) (fun j9 => if 17 * cu ≤ j9 ∧ j9 < 17 * cu + 17 then gr χ cu j (j9 - 17 * cu) else χ (200 + j9)) (fun j => χ (110 + j)) P hd tn cu fi ne (ct - 1) on : va_W) = wM cI r th fp fa (wgd χ cu) P hd tn cu fi ne (ct - 1) on := (wM_eq (fun j9 hj => (by simp only [wgd]; (repeat' split) <;> first | rfl | omega | (exfalso; omega) | (subst_vars; rfl) | (congr 1 <;> omega) | (congr 2 <;> omega))) (fun j9 hj => (by simp only [wgd]; (repeat' split) <;> first | rfl | omega | (exfalso; omega) | (subst_vars; rfl) | (congr 1 <;> omega) | (congr 2 <;> omega))) (fun j9 hj => (by simp only [wgd, up]; (repeat' split) <;> first | rfl | omega | (exfalso; omega) | (subst_vars; rfl) | (congr 1 <;> omega) | (congr 2 <;> omega))) (fun j9 hj => by (by_cases hb9 : 17 * cu ≤ j9 ∧ j9 < 17 * cu + 17); (rw [if_pos hb9]; simp only [wgd]; rw [if_neg (by omega), if_pos (by omega), show 200 + j9 - (200 + 17 * cu) = j9 - 17 * cu by omega, show j = 8 by omega]); (rw [if_neg hb9]; simp only [wgd]; rw [if_neg (by omega), if_neg (by omega)])) (fun j9 hj => (by simp only [wgd]; (repeat' split) <;> first | rfl | omega | (exfalso; omega) | (subst_vars; rfl) | (congr 1 <;> omega) | (congr 2 <;> omega))) (fun j9 hj => rfl))
          exact xf_z (post := fun (x : Int32) (u : (Nat → Nat) × Nat × Nat) => (ct = 1 ∧ x = nI 0 ∧ u = (up χ (100 + cu) 2, 0, 0)) ∨ (ct ≠ 1 ∧ x = nI 1 ∧ u = (wgd χ cu, ct - 1, on))) (w1 := fun (u : (Nat → Nat) × Nat × Nat) => wM cI r th fp fa (u.1) P hd tn cu fi ne (u.2.1) (u.2.2)) (wgd χ cu, ct - 1, on) hx hb hr hlocks rfl (Or.inr ⟨hc1, rfl, rfl⟩) (va_P.eqw hq9 hP) hK (va_D.eqw hq9 hD) hS dX3_writeGuard_157
        · refine lv_bipush (v := nI 16) hx hb dX3_writeGuard_62 (by decide) ?_
          refine lv_iload_n hx hb dX3_writeGuard_64 rfl (lv_at hl 1 rfl) ?_
          refine xr_mul hx hb dX3_writeGuard_65 ?_
          refine lv_iload_n hx hb dX3_writeGuard_66 rfl (lv_at hl 2 rfl) ?_
          refine xr_add hx hb dX3_writeGuard_67 ?_
          refine lv_istore_n (lv' := [(3, .int (nI (16 * cu + j))), (0, .ref (r 0)), (1, .int (nI (cu))), (2, .int (nI (j)))]) hx hb dX3_writeGuard_68 rfl hl (by decide) rfl (fun ls hl => ?_)
          refine lv_aload_n hx hb dX3_writeGuard_69 rfl (lv_at hl 1 rfl) ?_
          refine va_get (D := D) (ci := 3) (v := .ref (r 1)) (C := RX3) (T := TX3) (N := 16) hx hb hts hiX3 hown hK hP 0 rfl rfl 1 (by decide) (hts (.fieldLink RX3 7 "PairedCellsModel" "states" "[I") (by decide +kernel)) (fun _ h9 => h9) rfl dX3_writeGuard_70 ?_
          refine lv_iload_n hx hb dX3_writeGuard_73 rfl (lv_at hl 0 rfl) ?_
          refine xr_iald hx hb hK hP 1 0 rfl rfl (by omega) (by decide) dX3_writeGuard_74 ?_
          have hb_74 := hχ (16 * cu + j)
          refine lv_iconst (v := nI 1) hx hb dX3_writeGuard_75 (by decide) ?_
          refine xi_eq (tgt := 82) hx hb dX3_writeGuard_76 (by decide) (nI_toInt (by omega)) (nI_toInt (by omega)) (fun c_76 => ?_) (fun c_76 => ?_)
          · refine lv_iconst (v := nI 0) hx hb dX3_writeGuard_82 (by decide) ?_
            refine lv_istore (lv' := [(4, .int (nI (0))), (3, .int (nI (16 * cu + j))), (0, .ref (r 0)), (1, .int (nI (cu))), (2, .int (nI (j)))]) hx hb dX3_writeGuard_83 hl (by decide) rfl (fun ls hl => ?_)
            have hq9 : (mX cI r th fp fa (fun j => χ j) (fun j => χ (1000 + j)) (fun j => up χ (100 + cu) 0 (100 + j)) (fun j9 => if 17 * cu ≤ j9 ∧ j9 < 17 * cu + 17 then gr χ cu j (j9 - 17 * cu) else χ (200 + j9)) (fun j => χ (110 + j)) P hd tn cu fi ne (ct - 1) on : va_W) = mX cI r th fp fa (fun j => χ j) (fun j => χ (1000 + j)) (fun j => up χ (100 + cu) 0 (100 + j)) (fun j9 => if 17 * cu ≤ j9 ∧ j9 < 17 * cu + 17 then grK χ cu j 0 (j9 - 17 * cu) else χ (200 + j9)) (fun j => χ (110 + j)) P hd tn cu fi ne (ct - 1) on := (mX_eq (fun j hj => rfl) (fun j hj => rfl) (fun j hj => rfl) (fun j9 hj9 => by (by_cases hb9 : 17 * cu ≤ j9 ∧ j9 < 17 * cu + 17); (rw [if_pos hb9, if_pos hb9]; simp only [gr, grK]; (repeat' split) <;> first | rfl | omega | (exfalso; omega)); (rw [if_neg hb9, if_neg hb9])) (fun j hj => rfl) (fun j hj => rfl))
            refine lpW (α := Nat) (fun i H locs => (i ≤ 16) ∧ va_P D vwCl (mX cI r th fp fa (fun j => χ j) (fun j => χ (1000 + j)) (fun j => up χ (100 + cu) 0 (100 + j)) (fun j9 => if 17 * cu ≤ j9 ∧ j9 < 17 * cu + 17 then grK χ cu j i (j9 - 17 * cu) else χ (200 + j9)) (fun j => χ (110 + j)) P hd tn cu fi ne (ct - 1) on) H ∧ va_D A (mX cI r th fp fa (fun j => χ j) (fun j => χ (1000 + j)) (fun j => up χ (100 + cu) 0 (100 + j)) (fun j9 => if 17 * cu ≤ j9 ∧ j9 < 17 * cu + 17 then grK χ cu j i (j9 - 17 * cu) else χ (200 + j9)) (fun j => χ (110 + j)) P hd tn cu fi ne (ct - 1) on) ∧ va_S A s.heap H locs) (fun i => [(0, .ref (r 0)), (1, .int (nI (cu))), (2, .int (nI (j))), (3, .int (nI (16 * cu + j))), (4, .int (nI (i)))]) 5 (fun i => 16 - i) 0 (⟨by omega, va_P.eqw hq9 hP, va_D.eqw hq9 hD, hS⟩) (lv_sub hl [2, 3, 4, 1, 0] rfl) (fun s9 H locs ls hI9 hl9 ih_85 => ?_)
            obtain ⟨i, rfl⟩ : ∃ z, z = s9 := ⟨_, rfl⟩
            have hl : lv_has ls 5 [(0, .ref (r 0)), (1, .int (nI (cu))), (2, .int (nI (j))), (3, .int (nI (16 * cu + j))), (4, .int (nI (i)))] := hl9
            obtain ⟨hi, hP, hD, hS⟩ : (i ≤ 16) ∧ va_P D vwCl (mX cI r th fp fa (fun j => χ j) (fun j => χ (1000 + j)) (fun j => up χ (100 + cu) 0 (100 + j)) (fun j9 => if 17 * cu ≤ j9 ∧ j9 < 17 * cu + 17 then grK χ cu j i (j9 - 17 * cu) else χ (200 + j9)) (fun j => χ (110 + j)) P hd tn cu fi ne (ct - 1) on) H ∧ va_D A (mX cI r th fp fa (fun j => χ j) (fun j => χ (1000 + j)) (fun j => up χ (100 + cu) 0 (100 + j)) (fun j9 => if 17 * cu ≤ j9 ∧ j9 < 17 * cu + 17 then grK χ cu j i (j9 - 17 * cu) else χ (200 + j9)) (fun j => χ (110 + j)) P hd tn cu fi ne (ct - 1) on) ∧ va_S A s.heap H locs := hI9
            refine lv_iload hx hb dX3_writeGuard_85 (lv_at hl 4 rfl) ?_
            refine lv_bipush (v := nI 16) hx hb dX3_writeGuard_87 (by decide) ?_
            refine xi_ge (tgt := 125) hx hb dX3_writeGuard_89 (by decide) (nI_toInt (by omega)) (nI_toInt (by omega)) (fun c_89 => ?_) (fun c_89 => ?_)
            · refine lv_aload_n hx hb dX3_writeGuard_125 rfl (lv_at hl 0 rfl) ?_
              refine va_get (D := D) (ci := 3) (v := .ref (r 4)) (C := RX3) (T := TX3) (N := 16) hx hb hts hiX3 hown hK hP 0 rfl rfl 4 (by decide) (hts (.fieldLink RX3 19 "PairedCellsModel" "guardBytes" "[I") (by decide +kernel)) (fun _ h9 => h9) rfl dX3_writeGuard_126 ?_
              refine lv_bipush (v := nI 17) hx hb dX3_writeGuard_129 (by decide) ?_
              refine lv_iload_n hx hb dX3_writeGuard_131 rfl (lv_at hl 1 rfl) ?_
              refine xr_mul hx hb dX3_writeGuard_132 ?_
              refine lv_bipush (v := nI 16) hx hb dX3_writeGuard_133 (by decide) ?_
              refine xr_add hx hb dX3_writeGuard_135 ?_
              refine lv_dup2_11 hx hb dX3_writeGuard_136 rfl rfl ?_
              refine xr_iald hx hb hK hP 4 0 rfl rfl (by omega) (by decide) dX3_writeGuard_137 ?_
              refine xr_nat (x' := gm χ cu j) (by rw [if_pos (by omega), show 17 * cu + 16 - 17 * cu = 16 by omega]; unfold grK; rw [if_neg (by omega), if_neg (by omega), if_pos rfl]) ?_
              refine lv_iconst (v := nI 1) hx hb dX3_writeGuard_138 (by decide) ?_
              refine lv_iload_n hx hb dX3_writeGuard_139 rfl (lv_at hl 2 rfl) ?_
              refine xr_shl hx hb (by omega) (by rw [Nat.one_mul]; exact Nat.lt_of_le_of_lt (Nat.pow_le_pow_right (by decide) (show j ≤ 7 by omega)) (by decide)) dX3_writeGuard_140 ?_
              refine xr_or hx hb dX3_writeGuard_141 ?_
              refine xr_nat (x' := gm χ cu (j + 1)) (by rw [Nat.one_mul]; exact (if_pos (show χ (16 * cu + j) = 1 by omega)).symm) ?_
              refine xr_iast hx hb hK hP hD hS 4 0 rfl rfl (by omega) (by decide) dX3_writeGuard_142 (fun H locs hP hD hS => ?_)
              have hP : va_P D vwCl (mX cI r th fp fa (fun j => χ j) (fun j => χ (1000 + j)) (fun j => up χ (100 + cu) 0 (100 + j)) (up (fun j9 => if 17 * cu ≤ j9 ∧ j9 < 17 * cu + 17 then grK χ cu j i (j9 - 17 * cu) else χ (200 + j9)) (17 * cu + 16) (gm χ cu (j + 1))) (fun j => χ (110 + j)) P hd tn cu fi ne (ct - 1) on) H := hP
              have hD : va_D A (mX cI r th fp fa (fun j => χ j) (fun j => χ (1000 + j)) (fun j => up χ (100 + cu) 0 (100 + j)) (up (fun j9 => if 17 * cu ≤ j9 ∧ j9 < 17 * cu + 17 then grK χ cu j i (j9 - 17 * cu) else χ (200 + j9)) (17 * cu + 16) (gm χ cu (j + 1))) (fun j => χ (110 + j)) P hd tn cu fi ne (ct - 1) on) := hD
              refine lv_iinc (v := nI (j + 1)) (lv' := [(2, .int (nI (j + 1))), (0, .ref (r 0)), (1, .int (nI (cu))), (3, .int (nI (16 * cu + j))), (4, .int (nI (i)))]) hx hb dX3_writeGuard_143 hl (k := 2) rfl (nI_add _ _) (by decide) rfl (fun ls hl => ?_)
              refine lv_goto (tgt := 56) hx hb dX3_writeGuard_146 (by decide) ?_
              have hq9 : (mX cI r th fp fa (fun j => χ j) (fun j => χ (1000 + j)) (fun j => up χ (100 + cu) 0 (100 + j)) (up (fun j9 => if 17 * cu ≤ j9 ∧ j9 < 17 * cu + 17 then grK χ cu j i (j9 - 17 * cu) else χ (200 + j9)) (17 * cu + 16) (gm χ cu (j + 1))) (fun j => χ (110 + j)) P hd tn cu fi ne (ct - 1) on : va_W) = mX cI r th fp fa (fun j => χ j) (fun j => χ (1000 + j)) (fun j => up χ (100 + cu) 0 (100 + j)) (fun j9 => if 17 * cu ≤ j9 ∧ j9 < 17 * cu + 17 then gr χ cu (j + 1) (j9 - 17 * cu) else χ (200 + j9)) (fun j => χ (110 + j)) P hd tn cu fi ne (ct - 1) on := (mX_eq (fun j hj => rfl) (fun j hj => rfl) (fun j hj => rfl) (fun j9 hj9 => by (by_cases hb9 : 17 * cu ≤ j9 ∧ j9 < 17 * cu + 17); (simp only [up, if_pos hb9]; by_cases he : j9 = 17 * cu + 16; (rw [if_pos he, show j9 - 17 * cu = 16 by omega, gr_16]); (rw [if_neg he]; unfold grK; rw [if_pos (by omega), gr_lt (by omega)])); (simp only [up, if_neg hb9]; rw [if_neg (by omega)])) (fun j hj => rfl) (fun j hj => rfl))
              exact ih_56 (j + 1) _ _ _ (⟨by omega, va_P.eqw hq9 hP, va_D.eqw hq9 hD, hS⟩) (by first | omega | (dsimp only; omega)) (lv_sub hl [1, 2, 0] rfl)
            · refine lv_aload_n hx hb dX3_writeGuard_92 rfl (lv_at hl 0 rfl) ?_
              refine va_get (D := D) (ci := 3) (v := .ref (r 4)) (C := RX3) (T := TX3) (N := 16) hx hb hts hiX3 hown hK hP 0 rfl rfl 4 (by decide) (hts (.fieldLink RX3 19 "PairedCellsModel" "guardBytes" "[I") (by decide +kernel)) (fun _ h9 => h9) rfl dX3_writeGuard_93 ?_
              refine lv_bipush (v := nI 17) hx hb dX3_writeGuard_96 (by decide) ?_
              refine lv_iload_n hx hb dX3_writeGuard_98 rfl (lv_at hl 1 rfl) ?_
              refine xr_mul hx hb dX3_writeGuard_99 ?_
              refine lv_iload hx hb dX3_writeGuard_100 (lv_at hl 4 rfl) ?_
              refine xr_add hx hb dX3_writeGuard_102 ?_
              refine lv_dup2_11 hx hb dX3_writeGuard_103 rfl rfl ?_
              refine xr_iald hx hb hK hP 4 0 rfl rfl (by omega) (by decide) dX3_writeGuard_104 ?_
              refine xr_nat (x' := gx χ cu i j) (by rw [if_pos (by omega), show 17 * cu + i - 17 * cu = i by omega]; unfold grK; rw [if_neg (by omega), if_pos (by omega)]) ?_
              refine lv_aload_n hx hb dX3_writeGuard_105 rfl (lv_at hl 0 rfl) ?_
              refine va_get (D := D) (ci := 3) (v := .ref (r 2)) (C := RX3) (T := TX3) (N := 16) hx hb hts hiX3 hown hK hP 0 rfl rfl 2 (by decide) (hts (.fieldLink RX3 13 "PairedCellsModel" "bytes" "[I") (by decide +kernel)) (fun _ h9 => h9) rfl dX3_writeGuard_106 ?_
              refine lv_bipush (v := nI 16) hx hb dX3_writeGuard_109 (by decide) ?_
              refine lv_iload_n hx hb dX3_writeGuard_111 rfl (lv_at hl 3 rfl) ?_
              refine xr_mul hx hb dX3_writeGuard_112 ?_
              refine lv_iload hx hb dX3_writeGuard_113 (lv_at hl 4 rfl) ?_
              refine xr_add hx hb dX3_writeGuard_115 ?_
              refine xr_iald hx hb hK hP 2 0 rfl rfl (by omega) (by decide) dX3_writeGuard_116 ?_
              have hb_116 := hχ (1000 + (16 * (16 * cu + j) + i))
              refine xr_nat (x' := χ (1000 + 256 * cu + (16 * j + i))) (congrArg χ (by omega)) ?_
              refine xr_xor hx hb dX3_writeGuard_117 ?_
              refine xr_nat (x' := gx χ cu i (j + 1)) ((if_pos (show χ (16 * cu + j) = 1 by omega)).symm) ?_
              refine xr_iast hx hb hK hP hD hS 4 0 rfl rfl (by omega) (by decide) dX3_writeGuard_118 (fun H locs hP hD hS => ?_)
              have hP : va_P D vwCl (mX cI r th fp fa (fun j => χ j) (fun j => χ (1000 + j)) (fun j => up χ (100 + cu) 0 (100 + j)) (up (fun j9 => if 17 * cu ≤ j9 ∧ j9 < 17 * cu + 17 then grK χ cu j i (j9 - 17 * cu) else χ (200 + j9)) (17 * cu + i) (gx χ cu i (j + 1))) (fun j => χ (110 + j)) P hd tn cu fi ne (ct - 1) on) H := hP
              have hD : va_D A (mX cI r th fp fa (fun j => χ j) (fun j => χ (1000 + j)) (fun j => up χ (100 + cu) 0 (100 + j)) (up (fun j9 => if 17 * cu ≤ j9 ∧ j9 < 17 * cu + 17 then grK χ cu j i (j9 - 17 * cu) else χ (200 + j9)) (17 * cu + i) (gx χ cu i (j + 1))) (fun j => χ (110 + j)) P hd tn cu fi ne (ct - 1) on) := hD
              refine lv_iinc (v := nI (i + 1)) (lv' := [(4, .int (nI (i + 1))), (0, .ref (r 0)), (1, .int (nI (cu))), (2, .int (nI (j))), (3, .int (nI (16 * cu + j)))]) hx hb dX3_writeGuard_119 hl (k := 4) rfl (nI_add _ _) (by decide) rfl (fun ls hl => ?_)
              refine lv_goto (tgt := 85) hx hb dX3_writeGuard_122 (by decide) ?_
              have hq9 : (mX cI r th fp fa (fun j => χ j) (fun j => χ (1000 + j)) (fun j => up χ (100 + cu) 0 (100 + j)) (up (fun j9 => if 17 * cu ≤ j9 ∧ j9 < 17 * cu + 17 then grK χ cu j i (j9 - 17 * cu) else χ (200 + j9)) (17 * cu + i) (gx χ cu i (j + 1))) (fun j => χ (110 + j)) P hd tn cu fi ne (ct - 1) on : va_W) = mX cI r th fp fa (fun j => χ j) (fun j => χ (1000 + j)) (fun j => up χ (100 + cu) 0 (100 + j)) (fun j9 => if 17 * cu ≤ j9 ∧ j9 < 17 * cu + 17 then grK χ cu j (i + 1) (j9 - 17 * cu) else χ (200 + j9)) (fun j => χ (110 + j)) P hd tn cu fi ne (ct - 1) on := (mX_eq (fun j hj => rfl) (fun j hj => rfl) (fun j hj => rfl) (fun j9 hj9 => by (by_cases he : j9 = 17 * cu + i); (simp only [up]; rw [if_pos he, if_pos (by omega), show j9 - 17 * cu = i by omega]; unfold grK; rw [if_pos (by omega)]); (simp only [up]; rw [if_neg he]; by_cases hb9 : 17 * cu ≤ j9 ∧ j9 < 17 * cu + 17; (rw [if_pos hb9, if_pos hb9]; simp only [grK]; (repeat' split) <;> first | rfl | omega | (exfalso; omega)); (rw [if_neg hb9, if_neg hb9]))) (fun j hj => rfl) (fun j hj => rfl))
              exact ih_85 (i + 1) _ _ _ (⟨by omega, va_P.eqw hq9 hP, va_D.eqw hq9 hD, hS⟩) (by first | omega | (dsimp only; omega)) (lv_sub hl [1, 2, 3, 4, 0] rfl)
          · refine lv_goto (tgt := 143) hx hb dX3_writeGuard_79 (by decide) ?_
            refine lv_iinc (v := nI (j + 1)) (lv' := [(2, .int (nI (j + 1))), (3, .int (nI (16 * cu + j))), (0, .ref (r 0)), (1, .int (nI (cu)))]) hx hb dX3_writeGuard_143 hl (k := 3) rfl (nI_add _ _) (by decide) rfl (fun ls hl => ?_)
            refine lv_goto (tgt := 56) hx hb dX3_writeGuard_146 (by decide) ?_
            have hq9 : (mX cI r th fp fa (fun j => χ j) (fun j => χ (1000 + j)) (fun j => up χ (100 + cu) 0 (100 + j)) (fun j9 => if 17 * cu ≤ j9 ∧ j9 < 17 * cu + 17 then gr χ cu j (j9 - 17 * cu) else χ (200 + j9)) (fun j => χ (110 + j)) P hd tn cu fi ne (ct - 1) on : va_W) = mX cI r th fp fa (fun j => χ j) (fun j => χ (1000 + j)) (fun j => up χ (100 + cu) 0 (100 + j)) (fun j9 => if 17 * cu ≤ j9 ∧ j9 < 17 * cu + 17 then gr χ cu (j + 1) (j9 - 17 * cu) else χ (200 + j9)) (fun j => χ (110 + j)) P hd tn cu fi ne (ct - 1) on := (mX_eq (fun j hj => rfl) (fun j hj => rfl) (fun j hj => rfl) (fun j9 hj9 => by (by_cases hb9 : 17 * cu ≤ j9 ∧ j9 < 17 * cu + 17); (rw [if_pos hb9, if_pos hb9]; simp only [gr, gx, gm, if_neg (show ¬ χ (16 * cu + j) = 1 by omega)]); (rw [if_neg hb9, if_neg hb9])) (fun j hj => rfl) (fun j hj => rfl))
            exact ih_56 (j + 1) _ _ _ (⟨by omega, va_P.eqw hq9 hP, va_D.eqw hq9 hD, hS⟩) (by first | omega | (dsimp only; omega)) (lv_sub hl [2, 3, 0] rfl)
      · refine lv_aload_n hx hb dX3_writeGuard_36 rfl (lv_at hl 0 rfl) ?_
        refine va_get (D := D) (ci := 3) (v := .ref (r 4)) (C := RX3) (T := TX3) (N := 16) hx hb hts hiX3 hown hK hP 0 rfl rfl 4 (by decide) (hts (.fieldLink RX3 19 "PairedCellsModel" "guardBytes" "[I") (by decide +kernel)) (fun _ h9 => h9) rfl dX3_writeGuard_37 ?_
        refine lv_bipush (v := nI 17) hx hb dX3_writeGuard_40 (by decide) ?_
        refine lv_iload_n hx hb dX3_writeGuard_42 rfl (lv_at hl 1 rfl) ?_
        refine xr_mul hx hb dX3_writeGuard_43 ?_
        refine lv_iload_n hx hb dX3_writeGuard_44 rfl (lv_at hl 2 rfl) ?_
        refine xr_add hx hb dX3_writeGuard_45 ?_
        refine lv_iconst (v := nI 0) hx hb dX3_writeGuard_46 (by decide) ?_
        refine xr_iast hx hb hK hP hD hS 4 0 rfl rfl (by omega) (by decide) dX3_writeGuard_47 (fun H locs hP hD hS => ?_)
        have hP : va_P D vwCl (mX cI r th fp fa (fun j => χ j) (fun j => χ (1000 + j)) (fun j => up χ (100 + cu) 0 (100 + j)) (up (fun j => if 17 * cu ≤ j ∧ j < 17 * cu + 17 then (if j < 17 * cu + k then 0 else χ (200 + j)) else χ (200 + j)) (17 * cu + k) (0)) (fun j => χ (110 + j)) P hd tn cu fi ne (ct - 1) on) H := hP
        have hD : va_D A (mX cI r th fp fa (fun j => χ j) (fun j => χ (1000 + j)) (fun j => up χ (100 + cu) 0 (100 + j)) (up (fun j => if 17 * cu ≤ j ∧ j < 17 * cu + 17 then (if j < 17 * cu + k then 0 else χ (200 + j)) else χ (200 + j)) (17 * cu + k) (0)) (fun j => χ (110 + j)) P hd tn cu fi ne (ct - 1) on) := hD
        refine lv_iinc (v := nI (k + 1)) (lv' := [(2, .int (nI (k + 1))), (0, .ref (r 0)), (1, .int (nI (cu)))]) hx hb dX3_writeGuard_48 hl (k := 2) rfl (nI_add _ _) (by decide) rfl (fun ls hl => ?_)
        refine lv_goto (tgt := 30) hx hb dX3_writeGuard_51 (by decide) ?_
        have hq9 : (mX cI r th fp fa (fun j => χ j) (fun j => χ (1000 + j)) (fun j => up χ (100 + cu) 0 (100 + j)) (up (fun j => if 17 * cu ≤ j ∧ j < 17 * cu + 17 then (if j < 17 * cu + k then 0 else χ (200 + j)) else χ (200 + j)) (17 * cu + k) (0)) (fun j => χ (110 + j)) P hd tn cu fi ne (ct - 1) on : va_W) = mX cI r th fp fa (fun j => χ j) (fun j => χ (1000 + j)) (fun j => up χ (100 + cu) 0 (100 + j)) (fun j => if 17 * cu ≤ j ∧ j < 17 * cu + 17 then (if j < 17 * cu + (k + 1) then 0 else χ (200 + j)) else χ (200 + j)) (fun j => χ (110 + j)) P hd tn cu fi ne (ct - 1) on := (mX_eq (fun j hj => rfl) (fun j hj => rfl) (fun j hj => rfl) (fun j hj => (by simp only [up, gr, grK, gx, gm]; (repeat' split) <;> first | rfl | omega | (exfalso; omega) | (congr 1; omega) | (subst_vars; rfl))) (fun j hj => rfl) (fun j hj => rfl))
        exact ih_30 (k + 1) _ _ _ (⟨by omega, va_P.eqw hq9 hP, va_D.eqw hq9 hD, hS⟩) (by first | omega | (dsimp only; omega)) (lv_sub hl [1, 2, 0] rfl)
    · exfalso; omega
