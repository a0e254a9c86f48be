set_option maxHeartbeats 4000000 in
set_option maxRecDepth 100000 in
theorem c_L_append_0f (l : Launch) (hst : l.stackTraces = false) (D : va_G) {cI cB : ClassId} (a shw O χ : Nat → Nat) (cu fi ne ct on : Nat) (hon : on = 1) (hO0 : O 0 < 65536) (k : Nat) (w : Int64) (hwO : wf O) (hne : ne < 65536) (hk1 : 1 ≤ k) (hk6 : k ≤ 6) (hft : fit O k) (cL : ClassId) (o : Nat) (f : Nat → Int64) (sz : Nat) : vx_Met l yL_append wsL_append ({ frames := 4, cells := 0, slots := 0, locals := 89 }) (va_Pc [.ref (a 0), .int (nI (k)), .long (w), .ref (o)] (x_Y D (tyP cI cB ++ [(cL, .long)]) (wP cI cB a shw O χ cu fi ne ct on ++ [(o, lr cL (f))]) sz)) (va_Qi (fun (z : Int32) (u : Unit × Int32) => z = nI 0 ∧ (fun (r : Int32) (u : Unit) => r = nI ne) u.2 u.1) (fun u t => x_E D (tyP cI cB ++ [(cL, .long)]) (va_A (wP cI cB a shw O χ cu fi ne ct on ++ [(o, lr cL (f))]) sz) ((fun (u : Unit) => wP cI cB a shw (adO O ne k w) χ cu fi (ne + 1) ct on) u.1 ++ [(o, lr cL (vp_updL f (nI 0).toNatClampNeg (u.2).toInt64))]) t) (va_A (wP cI cB a shw O χ cu fi ne ct on ++ [(o, lr cL (f))]) sz)) (fun _ _ _ => False) 0 0 (va_A (wP cI cB a shw O χ cu fi ne ct on ++ [(o, lr cL (f))]) sz) := by
  refine vx_ofWH (cc := cL_append) (maxL := 6) (ret := (some .int)) (hh := [(0, 11, 14, 13), (0, 11, 18, 15), (0, 11, 22, 17)]) (by decide) rfl ?_
  intro p e s m args below meth c s₁ B hml hv
  obtain ⟨rfl, ⟨⟨hsz, hN, hP, hK, hD0⟩, hZ⟩, hY⟩ := hv
  have hx := B.exec
  have hb := B.bytes
  have hr := B.returns
  have hts := atoms_spec (ws := wsL_append) B.pre
  have hown : s.vm.findClass RL = some m.cls := findClass_of_methodNamed B.named
  have hlocks := B.notSynchronized
  subst hsz
  have hD := hD0.self (sz := s.heap.size)
  generalize hAe : va_A (wP cI cB a shw O χ cu fi ne ct on ++ [(o, lr cL (f))]) s.heap.size = A at hD hZ ⊢
  have hA : ∀ q : Nat, s.heap.size ≤ q → A q := fun q h => by rw [← hAe]; exact Or.inr h
  obtain ⟨H, hH⟩ : ∃ H : Heap, s.heap = H := ⟨_, rfl⟩
  obtain ⟨locs, hlo⟩ : ∃ L : List Loc, ([] : List Loc) = L := ⟨_, rfl⟩
  have hS : va_S A s.heap H locs := by rw [← hH, ← hlo]; exact va_S.rf
  have hP : va_P D vwCl (wP cI cB a shw O χ cu fi ne ct on ++ [(o, lr cL (f))]) H := hH ▸ hP
  rw [hH, hlo]
  have hl := lv_entry ([.ref (a 0), .int (nI (k)), .long (w), .ref (o)]) (n := 6) (Nat.le_of_ble_eq_true rfl)
  rw [lg_entry_eq]
  generalize (lg_sl ([.ref (a 0), .int (nI (k)), .long (w), .ref (o)]) ++ List.replicate (6 - (lg_sl ([.ref (a 0), .int (nI (k)), .long (w), .ref (o)])).length) Slot.unset).toArray = ls at hl ⊢
  have hl : lv_has ls 6 [(0, .ref (a 0)), (1, .int (nI (k))), (2, .long (w)), (4, .ref (o))] := hl
  have htb : c.exceptionTable.toList = tableOf [(0, 11, 14, 13), (0, 11, 18, 15), (0, 11, 22, 17)] := vx_table (x := yL_append) B (hts (.codeWith yL_append cL_append 6 (some .int) [(0, 11, 14, 13), (0, 11, 18, 15), (0, 11, 22, 17)]) (by decide +kernel))
  refine lv_aload hx hb dL_append_0 (lv_at hl 3 rfl) ?_
  refine lv_iconst (v := nI 0) hx hb dL_append_2 (by decide) ?_
  refine lv_aload_n hx hb dL_append_3 rfl (lv_at hl 0 rfl) ?_
  refine lv_iload_n hx hb dL_append_4 rfl (lv_at hl 1 rfl) ?_
  refine lv_lload_n hx hb dL_append_5 rfl (lv_at hl 2 rfl) ?_
  have hF8 := x_hF (x_dpl hD) hS hA
  have hF9 := x_hF (x_dpl hD) hS hA
  refine xw_Vi (ci := 2) (rest := [.int (nI (0)), .ref (o)]) (As := [.int (nI (k)), .long (w)]) ⟨hx, hb, hml, hown, hts⟩ (c_X2_append_f l D a shw O χ cu fi ne ct on hon hO0 k w hwO hne hk1 hk6 hft H.size) (cwV 2 hts gL_append_X2_append rfl rfl rfl (by decide +kernel) ⟨Nat.le_of_ble_eq_true rfl, Nat.le_of_ble_eq_true rfl⟩) hN (x_kl hK) (x_apl hP) (x_dpl hD) hS hA rfl 0 rfl rfl hl.1 rfl (Nat.le_of_ble_eq_true rfl) dL_append_6 ⟨Nat.le_of_ble_eq_true rfl, Nat.le_of_ble_eq_true rfl⟩ (fun r_6 u_6 H1 locs hw_6 hP1 hD1 hDA hk9 hS => ?_)
  obtain ⟨hP, hD⟩ := x_joinL hP hD hF8 hk9 hP1 hD1
  generalize H1 = H at hP hS ⊢
  have hP : va_P D vwCl (((fun (u : Unit) => wP cI cB a shw (adO O ne k w) χ cu fi (ne + 1) ct on) u_6) ++ [(o, lr cL (f))]) H := hP
  have hD : va_D A (((fun (u : Unit) => wP cI cB a shw (adO O ne k w) χ cu fi (ne + 1) ct on) u_6) ++ [(o, lr cL (f))]) := hD
  refine lv_i2l hx hb dL_append_9 rfl ?_
  refine va_last hx hb hK hP hD hS 30 2 rfl rfl (by unfold vp_in; decide) dL_append_10 (fun H locs hP hD hS => ?_)
  have hP : va_P D vwCl (((fun (u : Unit) => wP cI cB a shw (adO O ne k w) χ cu fi (ne + 1) ct on) u_6) ++ [(o, lr cL (vp_updL f (nI 0).toNatClampNeg ((r_6).toInt64)))]) H := hP
  have hD : va_D A (((fun (u : Unit) => wP cI cB a shw (adO O ne k w) χ cu fi (ne + 1) ct on) u_6) ++ [(o, lr cL (vp_updL f (nI 0).toNatClampNeg ((r_6).toInt64)))]) := hD
  refine lv_goto (tgt := 26) hx hb dL_append_11 (by decide) ?_
  refine lv_iconst (v := nI 0) hx hb dL_append_26 (by decide) ?_
  exact vx_ret (xf_i (post := fun (z : Int32) (u : Unit × Int32) => z = nI 0 ∧ (fun (r : Int32) (u : Unit) => r = nI ne) u.2 u.1) (w1 := fun (u : Unit × Int32) => (fun (u : Unit) => wP cI cB a shw (adO O ne k w) χ cu fi (ne + 1) ct on) u.1 ++ [(o, lr cL (vp_updL f (nI 0).toNatClampNeg (u.2).toInt64))]) (u_6, r_6) hx hb hr hlocks (⟨rfl, hw_6⟩) hP hK hD hS dL_append_27)
