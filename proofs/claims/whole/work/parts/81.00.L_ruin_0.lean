set_option maxHeartbeats 4000000 in
set_option maxRecDepth 100000 in
theorem c_L_ruin_0 (l : Launch) (hst : l.stackTraces = false) (D : va_G) {cI cB : ClassId} (a shw O χ : Nat → Nat) (cu fi ne ct on : Nat) (b k u9 : Nat) (hb6 : b < 6) (hk8 : k < 8) (hu : u9 < 2) (hχ : ∀ i, χ i < 65536) (cL : ClassId) (o : Nat) (f : Nat → Int64) (sz : Nat) : vx_Met l yL_ruin wsL_ruin ({ frames := 3, cells := 0, slots := 0, locals := 64 }) (va_Pc [.ref (a 0), .int (nI (b)), .int (nI (k)), .int (nI (u9)), .ref (o)] (x_Y D (tyP cI cB ++ [(cL, .long)]) (wP cI cB a shw O χ cu fi ne ct on ++ [(o, lr cL (f))]) sz)) (va_Qi (fun (z : Int32) (u : (Nat → Nat) × Int64) => z = nI 0 ∧ ((χ (16 * b + plo k u9) = 1 ∧ u = ((up χ (16 * b + plo k u9) 2), 1)) ∨ (χ (16 * b + plo k u9) ≠ 1 ∧ u = (χ, 0)))) (fun u t => x_E D (tyP cI cB ++ [(cL, .long)]) (va_A (wP cI cB a shw O χ cu fi ne ct on ++ [(o, lr cL (f))]) sz) ((fun (u : Nat → Nat) => wP cI cB a shw O u cu fi ne ct on) u.1 ++ [(o, lr cL (vp_updL f (nI 0).toNatClampNeg u.2))]) t) (va_A (wP cI cB a shw O χ cu fi ne ct on ++ [(o, lr cL (f))]) sz)) (fun _ _ _ => False) 0 0 (va_A (wP cI cB a shw O χ cu fi ne ct on ++ [(o, lr cL (f))]) sz) := by
  refine vx_ofWH (cc := cL_ruin) (maxL := 6) (ret := (some .int)) (hh := [(0, 19, 22, 46)]) (by decide) rfl ?_
  intro p e s m args below meth c s₁ B hml hv
  obtain ⟨rfl, ⟨⟨hsz, hN, hP, hK, hD0⟩, hZ⟩, hY⟩ := hv
  have hx := B.exec
  have hb := B.bytes
  have hr := B.returns
  have hts := atoms_spec (ws := wsL_ruin) B.pre
  have hown : s.vm.findClass RL = some m.cls := findClass_of_methodNamed B.named
  have hlocks := B.notSynchronized
  subst hsz
  have hD := hD0.self (sz := s.heap.size)
  generalize hAe : va_A (wP cI cB a shw O χ cu fi ne ct on ++ [(o, lr cL (f))]) s.heap.size = A at hD hZ ⊢
  have hA : ∀ q : Nat, s.heap.size ≤ q → A q := fun q h => by rw [← hAe]; exact Or.inr h
  obtain ⟨H, hH⟩ : ∃ H : Heap, s.heap = H := ⟨_, rfl⟩
  obtain ⟨locs, hlo⟩ : ∃ L : List Loc, ([] : List Loc) = L := ⟨_, rfl⟩
  have hS : va_S A s.heap H locs := by rw [← hH, ← hlo]; exact va_S.rf
  have hP : va_P D vwCl (wP cI cB a shw O χ cu fi ne ct on ++ [(o, lr cL (f))]) H := hH ▸ hP
  rw [hH, hlo]
  have hl := lv_entry ([.ref (a 0), .int (nI (b)), .int (nI (k)), .int (nI (u9)), .ref (o)]) (n := 6) (Nat.le_of_ble_eq_true rfl)
  rw [lg_entry_eq]
  generalize (lg_sl ([.ref (a 0), .int (nI (b)), .int (nI (k)), .int (nI (u9)), .ref (o)]) ++ List.replicate (6 - (lg_sl ([.ref (a 0), .int (nI (b)), .int (nI (k)), .int (nI (u9)), .ref (o)])).length) Slot.unset).toArray = ls at hl ⊢
  have hl : lv_has ls 6 [(0, .ref (a 0)), (1, .int (nI (b))), (2, .int (nI (k))), (3, .int (nI (u9))), (4, .ref (o))] := hl
  have htb : c.exceptionTable.toList = tableOf [(0, 19, 22, 46)] := vx_table (x := yL_ruin) B (hts (.codeWith yL_ruin cL_ruin 6 (some .int) [(0, 19, 22, 46)]) (by decide +kernel))
  refine lv_aload hx hb dL_ruin_0 (lv_at hl 4 rfl) ?_
  refine lv_iconst (v := nI 0) hx hb dL_ruin_2 (by decide) ?_
  refine lv_aload_n hx hb dL_ruin_3 rfl (lv_at hl 0 rfl) ?_
  refine lv_iload_n hx hb dL_ruin_4 rfl (lv_at hl 1 rfl) ?_
  refine lv_iload_n hx hb dL_ruin_5 rfl (lv_at hl 2 rfl) ?_
  refine lv_iload_n hx hb dL_ruin_6 rfl (lv_at hl 3 rfl) ?_
  have hF8 := x_hF (x_dpl hD) hS hA
  have hF9 := x_hF (x_dpl hD) hS hA
  refine xw_Vi (ci := 2) (rest := [.int (nI (0)), .ref (o)]) (As := [.int (nI (b)), .int (nI (k)), .int (nI (u9))]) ⟨hx, hb, hml, hown, hts⟩ (c_X2_ruin l D a shw O χ cu fi ne ct on b k u9 hb6 hk8 hu hχ H.size) (cwV 3 hts gL_ruin_X2_ruin rfl rfl rfl (by decide +kernel) ⟨Nat.le_of_ble_eq_true rfl, Nat.le_of_ble_eq_true rfl⟩) hN (x_kl hK) (x_apl hP) (x_dpl hD) hS hA rfl 0 rfl rfl hl.1 rfl (Nat.le_of_ble_eq_true rfl) dL_ruin_7 ⟨Nat.le_of_ble_eq_true rfl, Nat.le_of_ble_eq_true rfl⟩ (fun r_7 u_7 H1 locs hw_7 hP1 hD1 hDA hk9 hS => ?_)
  rcases hw_7 with ⟨rfl, h7, rfl⟩ | ⟨rfl, h7, hu9⟩
  · obtain ⟨hP, hD⟩ := x_joinL hP hD hF8 hk9 hP1 hD1
    generalize H1 = H at hP hS ⊢
    have hP : va_P D vwCl (((fun (u : Nat → Nat) => wP cI cB a shw O u cu fi ne ct on) (up χ (16 * b + plo k u9) 2)) ++ [(o, lr cL (f))]) H := hP
    have hD : va_D A (((fun (u : Nat → Nat) => wP cI cB a shw O u cu fi ne ct on) (up χ (16 * b + plo k u9) 2)) ++ [(o, lr cL (f))]) := hD
    refine xz_eq (tgt := 17) hx hb dL_ruin_10 (by decide) (nI_toInt (by omega)) (fun c_10 => ?_) (fun c_10 => ?_)
    · exfalso; omega
    · refine lv_lconst (v := 1) hx hb dL_ruin_13 (by decide) ?_
      refine lv_goto (tgt := 18) hx hb dL_ruin_14 (by decide) ?_
      refine va_last hx hb hK hP hD hS 30 2 rfl rfl (by unfold vp_in; decide) dL_ruin_18 (fun H locs hP hD hS => ?_)
      have hP : va_P D vwCl (((fun (u : Nat → Nat) => wP cI cB a shw O u cu fi ne ct on) (up χ (16 * b + plo k u9) 2)) ++ [(o, lr cL (vp_updL f (nI 0).toNatClampNeg 1))]) H := hP
      have hD : va_D A (((fun (u : Nat → Nat) => wP cI cB a shw O u cu fi ne ct on) (up χ (16 * b + plo k u9) 2)) ++ [(o, lr cL (vp_updL f (nI 0).toNatClampNeg 1))]) := hD
      refine lv_goto (tgt := 26) hx hb dL_ruin_19 (by decide) ?_
      refine lv_iconst (v := nI 0) hx hb dL_ruin_26 (by decide) ?_
      exact vx_ret (xf_i (post := fun (z : Int32) (u : (Nat → Nat) × Int64) => z = nI 0 ∧ ((χ (16 * b + plo k u9) = 1 ∧ u = ((up χ (16 * b + plo k u9) 2), 1)) ∨ (χ (16 * b + plo k u9) ≠ 1 ∧ u = (χ, 0)))) (w1 := fun (u : (Nat → Nat) × Int64) => (fun (u : Nat → Nat) => wP cI cB a shw O u cu fi ne ct on) u.1 ++ [(o, lr cL (vp_updL f (nI 0).toNatClampNeg u.2))]) ((up χ (16 * b + plo k u9) 2), 1) hx hb hr hlocks (⟨rfl, Or.inl ⟨h7, rfl⟩⟩) hP hK hD hS dL_ruin_27)
  · rw [hu9] at hP1 hD1
    obtain ⟨hP, hD⟩ := x_joinL hP hD hF8 hk9 hP1 hD1
    generalize H1 = H at hP hS ⊢
    have hP : va_P D vwCl (((fun (u : Nat → Nat) => wP cI cB a shw O u cu fi ne ct on) χ) ++ [(o, lr cL (f))]) H := hP
    have hD : va_D A (((fun (u : Nat → Nat) => wP cI cB a shw O u cu fi ne ct on) χ) ++ [(o, lr cL (f))]) := hD
    refine xz_eq (tgt := 17) hx hb dL_ruin_10 (by decide) (nI_toInt (by omega)) (fun c_10 => ?_) (fun c_10 => ?_)
    · refine lv_lconst (v := 0) hx hb dL_ruin_17 (by decide) ?_
      refine va_last hx hb hK hP hD hS 30 2 rfl rfl (by unfold vp_in; decide) dL_ruin_18 (fun H locs hP hD hS => ?_)
      have hP : va_P D vwCl (((fun (u : Nat → Nat) => wP cI cB a shw O u cu fi ne ct on) χ) ++ [(o, lr cL (vp_updL f (nI 0).toNatClampNeg 0))]) H := hP
      have hD : va_D A (((fun (u : Nat → Nat) => wP cI cB a shw O u cu fi ne ct on) χ) ++ [(o, lr cL (vp_updL f (nI 0).toNatClampNeg 0))]) := hD
      refine lv_goto (tgt := 26) hx hb dL_ruin_19 (by decide) ?_
      refine lv_iconst (v := nI 0) hx hb dL_ruin_26 (by decide) ?_
      exact vx_ret (xf_i (post := fun (z : Int32) (u : (Nat → Nat) × Int64) => z = nI 0 ∧ ((χ (16 * b + plo k u9) = 1 ∧ u = ((up χ (16 * b + plo k u9) 2), 1)) ∨ (χ (16 * b + plo k u9) ≠ 1 ∧ u = (χ, 0)))) (w1 := fun (u : (Nat → Nat) × Int64) => (fun (u : Nat → Nat) => wP cI cB a shw O u cu fi ne ct on) u.1 ++ [(o, lr cL (vp_updL f (nI 0).toNatClampNeg u.2))]) (χ, 0) hx hb hr hlocks (⟨rfl, Or.inr ⟨h7, rfl⟩⟩) hP hK hD hS dL_ruin_27)
    · exfalso; omega
