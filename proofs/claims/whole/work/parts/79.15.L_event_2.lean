set_option maxHeartbeats 4000000 in
set_option maxRecDepth 100000 in
theorem c_L_event_2 (l : Launch) (hst : l.stackTraces = false) (D : va_G) {cI cB : ClassId} (a shw O χ : Nat → Nat) (cu fi ne ct on : Nat) (hon : on = 1) (x : Int32) (hx7 : x.toInt < fi ∨ (ne : Int) ≤ x.toInt) (hfi : fi < 65536) (hne : ne < 65536) (cL : ClassId) (o : Nat) (f : Nat → Int64) (sz : Nat) : vx_Met l yL_event wsL_event ({ frames := 8, cells := 1, slots := 6, locals := 133 }) (va_Pc [.ref (a 0), .int (x), .ref (o)] (x_Y D (tyP cI cB ++ [(cL, .long)]) (wP cI cB a shw O χ cu fi ne ct on ++ [(o, lr cL (f))]) sz)) (va_Qi (fun (z : Int32) (u : Unit) => z = nI 2) (fun u t => x_E D (tyP cI cB ++ [(cL, .long)]) (va_A (wP cI cB a shw O χ cu fi ne ct on ++ [(o, lr cL (f))]) sz) (wP cI cB a shw O χ cu fi ne ct on ++ [(o, lr cL (f))]) t) (va_A (wP cI cB a shw O χ cu fi ne ct on ++ [(o, lr cL (f))]) sz)) (fun _ _ _ => False) 1 6 (va_A (wP cI cB a shw O χ cu fi ne ct on ++ [(o, lr cL (f))]) sz) := by
  refine vx_ofWH (cc := cL_event) (maxL := 4) (ret := (some .int)) (hh := [(0, 8, 11, 13), (0, 8, 14, 46), (0, 8, 17, 52)]) (by decide) rfl ?_
  intro p e s m args below meth c s₁ B hml hv
  obtain ⟨rfl, ⟨⟨hsz, hN, hP, hK, hD0⟩, hZ⟩, hY⟩ := hv
  have hx := B.exec
  have hb := B.bytes
  have hr := B.returns
  have hts := atoms_spec (ws := wsL_event) B.pre
  have hown : s.vm.findClass RL = some m.cls := findClass_of_methodNamed B.named
  have hlocks := B.notSynchronized
  subst hsz
  have hD := hD0.self (sz := s.heap.size)
  generalize hAe : va_A (wP cI cB a shw O χ cu fi ne ct on ++ [(o, lr cL (f))]) s.heap.size = A at hD hZ ⊢
  have hA : ∀ q : Nat, s.heap.size ≤ q → A q := fun q h => by rw [← hAe]; exact Or.inr h
  obtain ⟨H, hH⟩ : ∃ H : Heap, s.heap = H := ⟨_, rfl⟩
  obtain ⟨locs, hlo⟩ : ∃ L : List Loc, ([] : List Loc) = L := ⟨_, rfl⟩
  have hS : va_S A s.heap H locs := by rw [← hH, ← hlo]; exact va_S.rf
  have hP : va_P D vwCl (wP cI cB a shw O χ cu fi ne ct on ++ [(o, lr cL (f))]) H := hH ▸ hP
  rw [hH, hlo]
  have hl := lv_entry ([.ref (a 0), .int (x), .ref (o)]) (n := 4) (Nat.le_of_ble_eq_true rfl)
  rw [lg_entry_eq]
  generalize (lg_sl ([.ref (a 0), .int (x), .ref (o)]) ++ List.replicate (4 - (lg_sl ([.ref (a 0), .int (x), .ref (o)])).length) Slot.unset).toArray = ls at hl ⊢
  have hl : lv_has ls 4 [(0, .ref (a 0)), (1, .int (x)), (2, .ref (o))] := hl
  have htb : c.exceptionTable.toList = tableOf [(0, 8, 11, 13), (0, 8, 14, 46), (0, 8, 17, 52)] := vx_table (x := yL_event) B (hts (.codeWith yL_event cL_event 4 (some .int) [(0, 8, 11, 13), (0, 8, 14, 46), (0, 8, 17, 52)]) (by decide +kernel))
  refine lv_aload_n hx hb dL_event_0 rfl (lv_at hl 2 rfl) ?_
  refine lv_iconst (v := nI 0) hx hb dL_event_1 (by decide) ?_
  refine lv_aload_n hx hb dL_event_2 rfl (lv_at hl 0 rfl) ?_
  refine lv_iload_n hx hb dL_event_3 rfl (lv_at hl 1 rfl) ?_
  have hF9 := x_hF (x_dpl hD) hS hA
  refine xl_Vl (ci := 2) (rest := [.int (nI (0)), .ref (o)]) (As := [.int (x)]) ⟨hx, hb, hml, hown, hts⟩ (c_T_event2 l hst D a shw O χ cu fi ne ct on hon x hx7 hfi hne H.size) (cwV 1 hts gL_event_X2_event rfl rfl rfl (by decide +kernel) ⟨Nat.le_of_ble_eq_true rfl, Nat.le_of_ble_eq_true rfl⟩) hN (x_kl hK) (x_apl hP) (x_dpl hD) hS hA hZ rfl 0 rfl rfl hl.1 rfl (Nat.le_of_ble_eq_true rfl) dL_event_4 ⟨Nat.le_of_ble_eq_true rfl, Nat.le_of_ble_eq_true rfl⟩ hown [⟨0, 8, 11, 13⟩] ⟨0, 8, 14, 46⟩ [⟨0, 8, 17, 52⟩] (htb.trans rfl) (fun z hz => by simp only [List.mem_cons, List.not_mem_nil, or_false] at hz; subst hz; exact ⟨by decide, "java/lang/IllegalStateException", hts (.classLink RL 13 "java/lang/IllegalStateException") (by decide +kernel), hY ("java/lang/IndexOutOfBoundsException", "java/lang/IllegalStateException") (by decide)⟩) rfl (by decide) (hts (.classLink RL 46 "java/lang/IndexOutOfBoundsException") (by decide +kernel)) (hZ.2.2.2.1 "java/lang/IndexOutOfBoundsException" (by decide)) (fun u_4 H1 locs q9 hu9 hP1 hD1 hk9 hS => ?_)
  obtain ⟨hP, hD⟩ := x_joinL hP hD hF9 hk9 hP1 hD1
  generalize H1 = H at hP hS ⊢
  have hP : va_P D vwCl (wP cI cB a shw O χ cu fi ne ct on ++ [(o, lr cL (f))]) H := hP
  have hD : va_D A (wP cI cB a shw O χ cu fi ne ct on ++ [(o, lr cL (f))]) := hD
  refine lv_astore_n (lv' := [(3, .ref (q9)), (0, .ref (a 0)), (1, .int (x)), (2, .ref (o))]) hx hb dL_event_14 rfl hl (by decide) rfl (fun ls hl => ?_)
  refine lv_iconst (v := nI 2) hx hb dL_event_15 (by decide) ?_
  exact vx_ret (xf_i (post := fun (z : Int32) (u : Unit) => z = nI 2) (w1 := fun (u : Unit) => wP cI cB a shw O χ cu fi ne ct on ++ [(o, lr cL (f))]) () hx hb hr hlocks (rfl) hP hK hD hS dL_event_16)
