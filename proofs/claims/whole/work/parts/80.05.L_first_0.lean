set_option maxHeartbeats 4000000 in
set_option maxRecDepth 100000 in
theorem c_L_first_0 (l : Launch) (hst : l.stackTraces = false) (D : va_G) {cI cB : ClassId} (a shw O χ : Nat → Nat) (cu fi ne ct on : Nat) (hon : on = 1) (cL : ClassId) (o : Nat) (f : Nat → Int64) (sz : Nat) : vx_Met l yL_first wsL_first ({ frames := 2, cells := 0, slots := 0, locals := 40 }) (va_Pc [.ref (a 0), .ref (o)] (x_Y D (tyP cI cB ++ [(cL, .long)]) (wP cI cB a shw O χ cu fi ne ct on ++ [(o, lr cL (f))]) sz)) (va_Qi (fun (z : Int32) (u : Int32) => z = nI 0 ∧ (fun r => r = nI fi) u) (fun u t => x_E D (tyP cI cB ++ [(cL, .long)]) (va_A (wP cI cB a shw O χ cu fi ne ct on ++ [(o, lr cL (f))]) sz) (wP cI cB a shw O χ cu fi ne ct on ++ [(o, lr cL (vp_updL f (nI 0).toNatClampNeg (u).toInt64))]) t) (va_A (wP cI cB a shw O χ cu fi ne ct on ++ [(o, lr cL (f))]) sz)) (fun _ _ _ => False) 0 0 (va_A (wP cI cB a shw O χ cu fi ne ct on ++ [(o, lr cL (f))]) sz) := by
  refine vx_ofWH (cc := cL_first) (maxL := 3) (ret := (some .int)) (hh := [(0, 8, 11, 13)]) (by decide) rfl ?_
  intro p e s m args below meth c s₁ B hml hv
  obtain ⟨rfl, ⟨⟨hsz, hN, hP, hK, hD0⟩, hZ⟩, hY⟩ := hv
  have hx := B.exec
  have hb := B.bytes
  have hr := B.returns
  have hts := atoms_spec (ws := wsL_first) B.pre
  have hown : s.vm.findClass RL = some m.cls := findClass_of_methodNamed B.named
  have hlocks := B.notSynchronized
  subst hsz
  have hD := hD0.self (sz := s.heap.size)
  generalize hAe : va_A (wP cI cB a shw O χ cu fi ne ct on ++ [(o, lr cL (f))]) s.heap.size = A at hD hZ ⊢
  have hA : ∀ q : Nat, s.heap.size ≤ q → A q := fun q h => by rw [← hAe]; exact Or.inr h
  obtain ⟨H, hH⟩ : ∃ H : Heap, s.heap = H := ⟨_, rfl⟩
  obtain ⟨locs, hlo⟩ : ∃ L : List Loc, ([] : List Loc) = L := ⟨_, rfl⟩
  have hS : va_S A s.heap H locs := by rw [← hH, ← hlo]; exact va_S.rf
  have hP : va_P D vwCl (wP cI cB a shw O χ cu fi ne ct on ++ [(o, lr cL (f))]) H := hH ▸ hP
  rw [hH, hlo]
  have hl := lv_entry ([.ref (a 0), .ref (o)]) (n := 3) (Nat.le_of_ble_eq_true rfl)
  rw [lg_entry_eq]
  generalize (lg_sl ([.ref (a 0), .ref (o)]) ++ List.replicate (3 - (lg_sl ([.ref (a 0), .ref (o)])).length) Slot.unset).toArray = ls at hl ⊢
  have hl : lv_has ls 3 [(0, .ref (a 0)), (1, .ref (o))] := hl
  have htb : c.exceptionTable.toList = tableOf [(0, 8, 11, 13)] := vx_table (x := yL_first) B (hts (.codeWith yL_first cL_first 3 (some .int) [(0, 8, 11, 13)]) (by decide +kernel))
  refine lv_aload_n hx hb dL_first_0 rfl (lv_at hl 1 rfl) ?_
  refine lv_iconst (v := nI 0) hx hb dL_first_1 (by decide) ?_
  refine lv_aload_n hx hb dL_first_2 rfl (lv_at hl 0 rfl) ?_
  refine xc_Vi (ci := 2) (rest := [.int (nI (0)), .ref (o)]) (As := []) ⟨hx, hb, hml, hown, hts⟩ (c_X2_first l D a shw O χ cu fi ne ct on hon) (cwV 0 hts gL_first_X2_first rfl rfl rfl (by decide +kernel) ⟨Nat.le_of_ble_eq_true rfl, Nat.le_of_ble_eq_true rfl⟩) hN (x_kl hK) (x_apl hP) rfl 0 rfl rfl hl.1 rfl (Nat.le_of_ble_eq_true rfl) dL_first_3 ⟨Nat.le_of_ble_eq_true rfl, Nat.le_of_ble_eq_true rfl⟩ (fun r_3 hw_3 => ?_)
  refine lv_i2l hx hb dL_first_6 rfl ?_
  refine va_last hx hb hK hP hD hS 30 2 rfl rfl (by unfold vp_in; decide) dL_first_7 (fun H locs hP hD hS => ?_)
  have hP : va_P D vwCl (wP cI cB a shw O χ cu fi ne ct on ++ [(o, lr cL (vp_updL f (nI 0).toNatClampNeg ((r_3).toInt64)))]) H := hP
  have hD : va_D A (wP cI cB a shw O χ cu fi ne ct on ++ [(o, lr cL (vp_updL f (nI 0).toNatClampNeg ((r_3).toInt64)))]) := hD
  refine lv_goto (tgt := 14) hx hb dL_first_8 (by decide) ?_
  refine lv_iconst (v := nI 0) hx hb dL_first_14 (by decide) ?_
  exact vx_ret (xf_i (post := fun (z : Int32) (u : Int32) => z = nI 0 ∧ (fun r => r = nI fi) u) (w1 := fun (u : Int32) => wP cI cB a shw O χ cu fi ne ct on ++ [(o, lr cL (vp_updL f (nI 0).toNatClampNeg (u).toInt64))]) r_3 hx hb hr hlocks (⟨rfl, hw_3⟩) hP hK hD hS dL_first_15)
