set_option maxHeartbeats 4000000 in
set_option maxRecDepth 100000 in
theorem c_T_requireLineb (l : Launch) (hst : l.stackTraces = false) (D : va_G) {cI cB : ClassId} (x y : Int32) (hx7 : x.toInt < 0 ∨ 5 < x.toInt) (sz : Nat) : vx_Met l yX2_requireLine wsX2_requireLine ({ frames := 7, cells := 1, slots := 6, locals := 110 }) (va_Pc [.int (x), .int (y)] (x_Z D (tyP cI cB) (([] : va_W)) sz)) (va_Qv (fun (_ : Unit) => False) (fun _ _ => True) (va_A (([] : va_W)) sz)) (x_T D (tyP cI cB) (va_A (([] : va_W)) sz) (fun (_ : Unit) => True) (fun _ => ([] : va_W)) "java/lang/IndexOutOfBoundsException") 1 6 (va_A (([] : va_W)) sz) := by
  refine vx_ofW (cc := cX2_requireLine) (maxL := 2) (ret := none) (by decide) rfl ?_
  intro p e s m args below meth c s₁ B hml htab hv
  obtain ⟨rfl, ⟨hsz, hN, hP, hK, hD0⟩, hZ⟩ := hv
  have hx := B.exec
  have hb := B.bytes
  have hr := B.returns
  have hts := atoms_spec (ws := wsX2_requireLine) B.pre
  have hown : s.vm.findClass RX2 = some m.cls := findClass_of_methodNamed B.named
  have hlocks := B.notSynchronized
  subst hsz
  have hD := hD0.self (sz := s.heap.size)
  generalize hAe : va_A (([] : va_W)) s.heap.size = A at hD hZ ⊢
  have hA : ∀ q : Nat, s.heap.size ≤ q → A q := fun q h => by rw [← hAe]; exact Or.inr h
  obtain ⟨H, hH⟩ : ∃ H : Heap, s.heap = H := ⟨_, rfl⟩
  obtain ⟨locs, hlo⟩ : ∃ L : List Loc, ([] : List Loc) = L := ⟨_, rfl⟩
  have hS : va_S A s.heap H locs := by rw [← hH, ← hlo]; exact va_S.rf
  have hP : va_P D vwCl (([] : va_W)) H := hH ▸ hP
  rw [hH, hlo]
  have hl := lv_entry ([.int (x), .int (y)]) (n := 2) (Nat.le_of_ble_eq_true rfl)
  rw [lg_entry_eq]
  generalize (lg_sl ([.int (x), .int (y)]) ++ List.replicate (2 - (lg_sl ([.int (x), .int (y)])).length) Slot.unset).toArray = ls at hl ⊢
  have hl : lv_has ls 2 [(0, .int (x)), (1, .int (y))] := hl
  refine lv_iload_n hx hb dX2_requireLine_0 rfl (lv_at hl 0 rfl) ?_
  exact xt_Sv (rest := []) (As := [.int (x)]) ⟨hx, hb, hml, hown, hts⟩ (c_T_requireBlock l hst D x hx7 H.size) (va_cwS 1 hts gX2_requireLine_X2_requireBlock rfl rfl rfl (by decide +kernel) ⟨Nat.le_of_ble_eq_true rfl, Nat.le_of_ble_eq_true rfl⟩) hN hK (va_P_nil) (va_D_nil) hS hA hZ rfl hl.1 rfl (Nat.le_of_ble_eq_true rfl) dX2_requireLine_1 ⟨Nat.le_of_ble_eq_true rfl, Nat.le_of_ble_eq_true rfl⟩ htab hlocks (Nat.le_of_ble_eq_true rfl) (Nat.le_of_ble_eq_true rfl) (fun u H1 hp h1 h2 h3 => ⟨u, hp, h1, h2.weaken (fun _ q _ h => x_hF hD hS hA q.1 h)⟩)
