set_option maxHeartbeats 4000000 in
set_option maxRecDepth 100000 in
theorem c_L_sync_0e (l : Launch) (hst : l.stackTraces = false) (D : va_G) {cI cB : ClassId} (a shw O χ : Nat → Nat) (cu fi ne ct on : Nat) (hon : on = 1) (hO0 : O 0 < 65536) (hOz : O 0 = 0) (cL : ClassId) (o : Nat) (f : Nat → Int64) (sz : Nat) : vx_Met l yL_sync wsL_sync ({ frames := 3, cells := 0, slots := 0, locals := 60 }) (va_Pc [.ref (a 0), .ref (o)] (x_Y D (tyP cI cB ++ [(cL, .long)]) (wP cI cB a shw O χ cu fi ne ct on ++ [(o, lr cL (f))]) sz)) (va_Qi (fun (z : Int32) (u : Unit × Int32) => z = nI 0 ∧ (fun (r : Int32) (u : Unit) => r = nI ne) u.2 u.1) (fun u t => x_E D (tyP cI cB ++ [(cL, .long)]) (va_A (wP cI cB a shw O χ cu fi ne ct on ++ [(o, lr cL (f))]) sz) ((fun (u : Unit) => wP cI cB a shw O χ cu fi ne ct on) u.1 ++ [(o, lr cL (vp_updL f (nI 0).toNatClampNeg (u.2).toInt64))]) t) (va_A (wP cI cB a shw O χ cu fi ne ct on ++ [(o, lr cL (f))]) sz)) (fun _ _ _ => False) 0 0 (va_A (wP cI cB a shw O χ cu fi ne ct on ++ [(o, lr cL (f))]) sz) := by
  refine vx_ofWH (cc := cL_sync) (maxL := 3) (ret := (some .int)) (hh := [(0, 8, 11, 13), (0, 8, 14, 17)]) (by decide) rfl ?_
  intro p e s m args below meth c s₁ B hml hv
  obtain ⟨rfl, ⟨⟨hsz, hN, hP, hK, hD0⟩, hZ⟩, hY⟩ := hv
  have hx := B.exec
  have hb := B.bytes
  have hr := B.returns
  have hts := atoms_spec (ws := wsL_sync) B.pre
  have hown : s.vm.findClass RL = some m.cls := findClass_of_methodNamed B.named
  have hlocks := B.notSynchronized
  subst hsz
  have hD := hD0.self (sz := s.heap.size)
  generalize hAe : va_A (wP cI cB a shw O χ cu fi ne ct on ++ [(o, lr cL (f))]) s.heap.size = A at hD hZ ⊢
  have hA : ∀ q : Nat, s.heap.size ≤ q → A q := fun q h => by rw [← hAe]; exact Or.inr h
  obtain ⟨H, hH⟩ : ∃ H : Heap, s.heap = H := ⟨_, rfl⟩
  obtain ⟨locs, hlo⟩ : ∃ L : List Loc, ([] : List Loc) = L := ⟨_, rfl⟩
  have hS : va_S A s.heap H locs := by rw [← hH, ← hlo]; exact va_S.rf
  have hP : va_P D vwCl (wP cI cB a shw O χ cu fi ne ct on ++ [(o, lr cL (f))]) H := hH ▸ hP
  rw [hH, hlo]
  have hl := lv_entry ([.ref (a 0), .ref (o)]) (n := 3) (Nat.le_of_ble_eq_true rfl)
  rw [lg_entry_eq]
  generalize (lg_sl ([.ref (a 0), .ref (o)]) ++ List.replicate (3 - (lg_sl ([.ref (a 0), .ref (o)])).length) Slot.unset).toArray = ls at hl ⊢
  have hl : lv_has ls 3 [(0, .ref (a 0)), (1, .ref (o))] := hl
  have htb : c.exceptionTable.toList = tableOf [(0, 8, 11, 13), (0, 8, 14, 17)] := vx_table (x := yL_sync) B (hts (.codeWith yL_sync cL_sync 3 (some .int) [(0, 8, 11, 13), (0, 8, 14, 17)]) (by decide +kernel))
  refine lv_aload_n hx hb dL_sync_0 rfl (lv_at hl 1 rfl) ?_
  refine lv_iconst (v := nI 0) hx hb dL_sync_1 (by decide) ?_
  refine lv_aload_n hx hb dL_sync_2 rfl (lv_at hl 0 rfl) ?_
  have hF8 := x_hF (x_dpl hD) hS hA
  have hF9 := x_hF (x_dpl hD) hS hA
  refine xw_Vi (ci := 2) (rest := [.int (nI (0)), .ref (o)]) (As := []) ⟨hx, hb, hml, hown, hts⟩ (c_X2_sync_e l D a shw O χ cu fi ne ct on hon hO0 hOz H.size) (cwV 0 hts gL_sync_X2_sync rfl rfl rfl (by decide +kernel) ⟨Nat.le_of_ble_eq_true rfl, Nat.le_of_ble_eq_true rfl⟩) hN (x_kl hK) (x_apl hP) (x_dpl hD) hS hA rfl 0 rfl rfl hl.1 rfl (Nat.le_of_ble_eq_true rfl) dL_sync_3 ⟨Nat.le_of_ble_eq_true rfl, Nat.le_of_ble_eq_true rfl⟩ (fun r_3 u_3 H1 locs hw_3 hP1 hD1 hDA hk9 hS => ?_)
  obtain ⟨hP, hD⟩ := x_joinL hP hD hF8 hk9 hP1 hD1
  generalize H1 = H at hP hS ⊢
  have hP : va_P D vwCl (((fun (u : Unit) => wP cI cB a shw O χ cu fi ne ct on) u_3) ++ [(o, lr cL (f))]) H := hP
  have hD : va_D A (((fun (u : Unit) => wP cI cB a shw O χ cu fi ne ct on) u_3) ++ [(o, lr cL (f))]) := hD
  refine lv_i2l hx hb dL_sync_6 rfl ?_
  refine va_last hx hb hK hP hD hS 30 2 rfl rfl (by unfold vp_in; decide) dL_sync_7 (fun H locs hP hD hS => ?_)
  have hP : va_P D vwCl (((fun (u : Unit) => wP cI cB a shw O χ cu fi ne ct on) u_3) ++ [(o, lr cL (vp_updL f (nI 0).toNatClampNeg ((r_3).toInt64)))]) H := hP
  have hD : va_D A (((fun (u : Unit) => wP cI cB a shw O χ cu fi ne ct on) u_3) ++ [(o, lr cL (vp_updL f (nI 0).toNatClampNeg ((r_3).toInt64)))]) := hD
  refine lv_goto (tgt := 17) hx hb dL_sync_8 (by decide) ?_
  refine lv_iconst (v := nI 0) hx hb dL_sync_17 (by decide) ?_
  exact vx_ret (xf_i (post := fun (z : Int32) (u : Unit × Int32) => z = nI 0 ∧ (fun (r : Int32) (u : Unit) => r = nI ne) u.2 u.1) (w1 := fun (u : Unit × Int32) => (fun (u : Unit) => wP cI cB a shw O χ cu fi ne ct on) u.1 ++ [(o, lr cL (vp_updL f (nI 0).toNatClampNeg (u.2).toInt64))]) (u_3, r_3) hx hb hr hlocks (⟨rfl, hw_3⟩) hP hK hD hS dL_sync_18)
