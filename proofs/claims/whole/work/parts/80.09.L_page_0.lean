set_option maxHeartbeats 4000000 in
set_option maxRecDepth 100000 in
theorem c_L_page_0 (l : Launch) (hst : l.stackTraces = false) (D : va_G) {cI cB : ClassId} (a shw O χ : Nat → Nat) (cu fi ne ct on : Nat) (b k u9 : Nat) (hb6 : b < 6) (hk8 : k < 8) (hu : u9 < 2) (hχ : ∀ i, χ i < 65536) (cL : ClassId) (o : Nat) (f : Nat → Int64) (sz : Nat) : vx_Met l yL_page wsL_page ({ frames := 4, cells := 0, slots := 0, locals := 87 }) (va_Pc [.ref (a 0), .int (nI (b)), .int (nI (k)), .int (nI (u9)), .ref (o)] (x_Y D (tyP cI cB ++ [(cL, .long)]) (wP cI cB a shw O χ cu fi ne ct on ++ [(o, lr cL (f))]) sz)) (va_Qi (fun (z : Int32) (u : Int32) => z = nI 0 ∧ (fun r => (reb χ b (plo k u9) ∧ r = nI 3) ∨ (¬ reb χ b (plo k u9) ∧ r = nI (χ (16 * b + plo k u9)))) u) (fun u t => x_E D (tyP cI cB ++ [(cL, .long)]) (va_A (wP cI cB a shw O χ cu fi ne ct on ++ [(o, lr cL (f))]) sz) (wP cI cB a shw O χ cu fi ne ct on ++ [(o, lr cL (vp_updL f (nI 0).toNatClampNeg (u).toInt64))]) t) (va_A (wP cI cB a shw O χ cu fi ne ct on ++ [(o, lr cL (f))]) sz)) (fun _ _ _ => False) 0 0 (va_A (wP cI cB a shw O χ cu fi ne ct on ++ [(o, lr cL (f))]) sz) := by
  refine vx_ofWH (cc := cL_page) (maxL := 6) (ret := (some .int)) (hh := [(0, 12, 15, 46)]) (by decide) rfl ?_
  intro p e s m args below meth c s₁ B hml hv
  obtain ⟨rfl, ⟨⟨hsz, hN, hP, hK, hD0⟩, hZ⟩, hY⟩ := hv
  have hx := B.exec
  have hb := B.bytes
  have hr := B.returns
  have hts := atoms_spec (ws := wsL_page) B.pre
  have hown : s.vm.findClass RL = some m.cls := findClass_of_methodNamed B.named
  have hlocks := B.notSynchronized
  subst hsz
  have hD := hD0.self (sz := s.heap.size)
  generalize hAe : va_A (wP cI cB a shw O χ cu fi ne ct on ++ [(o, lr cL (f))]) s.heap.size = A at hD hZ ⊢
  have hA : ∀ q : Nat, s.heap.size ≤ q → A q := fun q h => by rw [← hAe]; exact Or.inr h
  obtain ⟨H, hH⟩ : ∃ H : Heap, s.heap = H := ⟨_, rfl⟩
  obtain ⟨locs, hlo⟩ : ∃ L : List Loc, ([] : List Loc) = L := ⟨_, rfl⟩
  have hS : va_S A s.heap H locs := by rw [← hH, ← hlo]; exact va_S.rf
  have hP : va_P D vwCl (wP cI cB a shw O χ cu fi ne ct on ++ [(o, lr cL (f))]) H := hH ▸ hP
  rw [hH, hlo]
  have hl := lv_entry ([.ref (a 0), .int (nI (b)), .int (nI (k)), .int (nI (u9)), .ref (o)]) (n := 6) (Nat.le_of_ble_eq_true rfl)
  rw [lg_entry_eq]
  generalize (lg_sl ([.ref (a 0), .int (nI (b)), .int (nI (k)), .int (nI (u9)), .ref (o)]) ++ List.replicate (6 - (lg_sl ([.ref (a 0), .int (nI (b)), .int (nI (k)), .int (nI (u9)), .ref (o)])).length) Slot.unset).toArray = ls at hl ⊢
  have hl : lv_has ls 6 [(0, .ref (a 0)), (1, .int (nI (b))), (2, .int (nI (k))), (3, .int (nI (u9))), (4, .ref (o))] := hl
  have htb : c.exceptionTable.toList = tableOf [(0, 12, 15, 46)] := vx_table (x := yL_page) B (hts (.codeWith yL_page cL_page 6 (some .int) [(0, 12, 15, 46)]) (by decide +kernel))
  refine lv_aload hx hb dL_page_0 (lv_at hl 4 rfl) ?_
  refine lv_iconst (v := nI 0) hx hb dL_page_2 (by decide) ?_
  refine lv_aload_n hx hb dL_page_3 rfl (lv_at hl 0 rfl) ?_
  refine lv_iload_n hx hb dL_page_4 rfl (lv_at hl 1 rfl) ?_
  refine lv_iload_n hx hb dL_page_5 rfl (lv_at hl 2 rfl) ?_
  refine lv_iload_n hx hb dL_page_6 rfl (lv_at hl 3 rfl) ?_
  refine xc_Vi (ci := 2) (rest := [.int (nI (0)), .ref (o)]) (As := [.int (nI (b)), .int (nI (k)), .int (nI (u9))]) ⟨hx, hb, hml, hown, hts⟩ (c_X2_page l D a shw O χ cu fi ne ct on b k u9 hb6 hk8 hu hχ) (cwV 3 hts gL_page_X2_page rfl rfl rfl (by decide +kernel) ⟨Nat.le_of_ble_eq_true rfl, Nat.le_of_ble_eq_true rfl⟩) hN (x_kl hK) (x_apl hP) rfl 0 rfl rfl hl.1 rfl (Nat.le_of_ble_eq_true rfl) dL_page_7 ⟨Nat.le_of_ble_eq_true rfl, Nat.le_of_ble_eq_true rfl⟩ (fun r_7 hw_7 => ?_)
  refine lv_i2l hx hb dL_page_10 rfl ?_
  refine va_last hx hb hK hP hD hS 30 2 rfl rfl (by unfold vp_in; decide) dL_page_11 (fun H locs hP hD hS => ?_)
  have hP : va_P D vwCl (wP cI cB a shw O χ cu fi ne ct on ++ [(o, lr cL (vp_updL f (nI 0).toNatClampNeg ((r_7).toInt64)))]) H := hP
  have hD : va_D A (wP cI cB a shw O χ cu fi ne ct on ++ [(o, lr cL (vp_updL f (nI 0).toNatClampNeg ((r_7).toInt64)))]) := hD
  refine lv_goto (tgt := 19) hx hb dL_page_12 (by decide) ?_
  refine lv_iconst (v := nI 0) hx hb dL_page_19 (by decide) ?_
  exact vx_ret (xf_i (post := fun (z : Int32) (u : Int32) => z = nI 0 ∧ (fun r => (reb χ b (plo k u9) ∧ r = nI 3) ∨ (¬ reb χ b (plo k u9) ∧ r = nI (χ (16 * b + plo k u9)))) u) (w1 := fun (u : Int32) => wP cI cB a shw O χ cu fi ne ct on ++ [(o, lr cL (vp_updL f (nI 0).toNatClampNeg (u).toInt64))]) r_7 hx hb hr hlocks (⟨rfl, hw_7⟩) hP hK hD hS dL_page_20)
