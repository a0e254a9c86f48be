set_option maxHeartbeats 4000000 in
set_option maxRecDepth 100000 in
theorem c_L_cutAfter_0 (l : Launch) (hst : l.stackTraces = false) (D : va_G) {cI cB : ClassId} (a shw O χ : Nat → Nat) (cu fi ne ct on : Nat) (k : Nat) (hk : k ≤ 60) (cL : ClassId) (o : Nat) (f : Nat → Int64) (sz : Nat) : vx_Met l yL_cutAfter wsL_cutAfter ({ frames := 1, cells := 0, slots := 0, locals := 21 }) (va_Pc [.ref (a 0), .int (nI (k))] (x_Y D (tyP cI cB ++ [(cL, .long)]) (wP cI cB a shw O χ cu fi ne ct on ++ [(o, lr cL (f))]) sz)) (va_Qi (fun (z : Int32) (u : Unit) => z = nI 0) (fun u t => x_E D (tyP cI cB ++ [(cL, .long)]) (va_A (wP cI cB a shw O χ cu fi ne ct on ++ [(o, lr cL (f))]) sz) ((fun (u : Unit) => wP cI cB a shw O χ cu fi ne k on) u ++ [(o, lr cL f)]) t) (va_A (wP cI cB a shw O χ cu fi ne ct on ++ [(o, lr cL (f))]) sz)) (fun _ _ _ => False) 0 0 (va_A (wP cI cB a shw O χ cu fi ne ct on ++ [(o, lr cL (f))]) sz) := by
  refine vx_ofWH (cc := cL_cutAfter) (maxL := 3) (ret := (some .int)) (hh := [(0, 5, 8, 15)]) (by decide) rfl ?_
  intro p e s m args below meth c s₁ B hml hv
  obtain ⟨rfl, ⟨⟨hsz, hN, hP, hK, hD0⟩, hZ⟩, hY⟩ := hv
  have hx := B.exec
  have hb := B.bytes
  have hr := B.returns
  have hts := atoms_spec (ws := wsL_cutAfter) B.pre
  have hown : s.vm.findClass RL = some m.cls := findClass_of_methodNamed B.named
  have hlocks := B.notSynchronized
  subst hsz
  have hD := hD0.self (sz := s.heap.size)
  generalize hAe : va_A (wP cI cB a shw O χ cu fi ne ct on ++ [(o, lr cL (f))]) s.heap.size = A at hD hZ ⊢
  have hA : ∀ q : Nat, s.heap.size ≤ q → A q := fun q h => by rw [← hAe]; exact Or.inr h
  obtain ⟨H, hH⟩ : ∃ H : Heap, s.heap = H := ⟨_, rfl⟩
  obtain ⟨locs, hlo⟩ : ∃ L : List Loc, ([] : List Loc) = L := ⟨_, rfl⟩
  have hS : va_S A s.heap H locs := by rw [← hH, ← hlo]; exact va_S.rf
  have hP : va_P D vwCl (wP cI cB a shw O χ cu fi ne ct on ++ [(o, lr cL (f))]) H := hH ▸ hP
  rw [hH, hlo]
  have hl := lv_entry ([.ref (a 0), .int (nI (k))]) (n := 3) (Nat.le_of_ble_eq_true rfl)
  rw [lg_entry_eq]
  generalize (lg_sl ([.ref (a 0), .int (nI (k))]) ++ List.replicate (3 - (lg_sl ([.ref (a 0), .int (nI (k))])).length) Slot.unset).toArray = ls at hl ⊢
  have hl : lv_has ls 3 [(0, .ref (a 0)), (1, .int (nI (k)))] := hl
  have htb : c.exceptionTable.toList = tableOf [(0, 5, 8, 15)] := vx_table (x := yL_cutAfter) B (hts (.codeWith yL_cutAfter cL_cutAfter 3 (some .int) [(0, 5, 8, 15)]) (by decide +kernel))
  refine lv_aload_n hx hb dL_cutAfter_0 rfl (lv_at hl 0 rfl) ?_
  refine lv_iload_n hx hb dL_cutAfter_1 rfl (lv_at hl 1 rfl) ?_
  have hF8 := x_hF (x_dpl hD) hS hA
  have hF9 := x_hF (x_dpl hD) hS hA
  refine xw_Vv (ci := 2) (rest := []) (As := [.int (nI (k))]) ⟨hx, hb, hml, hown, hts⟩ (c_X2_cutAfter l D a shw O χ cu fi ne ct on k hk H.size) (cwV 1 hts gL_cutAfter_X2_cutAfter rfl rfl rfl (by decide +kernel) ⟨Nat.le_of_ble_eq_true rfl, Nat.le_of_ble_eq_true rfl⟩) hN (x_kl hK) (x_apl hP) (x_dpl hD) hS hA rfl 0 rfl rfl hl.1 rfl (Nat.le_of_ble_eq_true rfl) dL_cutAfter_2 ⟨Nat.le_of_ble_eq_true rfl, Nat.le_of_ble_eq_true rfl⟩ (fun u_2 H1 locs hw_2 hP1 hD1 hDA hk9 hS => ?_)
  obtain ⟨hP, hD⟩ := x_joinL hP hD hF8 hk9 hP1 hD1
  generalize H1 = H at hP hS ⊢
  have hP : va_P D vwCl (((fun (u : Unit) => wP cI cB a shw O χ cu fi ne k on) u_2) ++ [(o, lr cL (f))]) H := hP
  have hD : va_D A (((fun (u : Unit) => wP cI cB a shw O χ cu fi ne k on) u_2) ++ [(o, lr cL (f))]) := hD
  refine lv_goto (tgt := 11) hx hb dL_cutAfter_5 (by decide) ?_
  refine lv_iconst (v := nI 0) hx hb dL_cutAfter_11 (by decide) ?_
  exact vx_ret (xf_i (post := fun (z : Int32) (u : Unit) => z = nI 0) (w1 := fun (u : Unit) => (fun (u : Unit) => wP cI cB a shw O χ cu fi ne k on) u ++ [(o, lr cL f)]) () hx hb hr hlocks (rfl) hP hK hD hS dL_cutAfter_12)
