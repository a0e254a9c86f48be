set_option maxHeartbeats 4000000 in
set_option maxRecDepth 100000 in
theorem lc_guard {p : Program} {l : Launch} {e : Env} {s : State} {m : MethodId} {below : List Frame} {meth : Method} {c : Code} {b L : Nat} {xs : Nat → Int32} {D : va_G} {cI cB cL : ClassId} (F9 : lwF p l s m meth c b L xs D cI cB cL) {i n : Nat} (hi : i + 5 ≤ L) (hn : n ≤ 512) {a r sh O χ : Nat → Nat} {o cu fi ne ct on : Nat} {th fp fa : Int32} {f : Nat → Int64} (h9 : iv n χ O cu fi ne ct on) {H : Heap} {locs : List Loc} {ls : Array Slot} {cells slots : Nat} {Q : State → Prop} (hP : va_P D vwCl (wL cI cB cL a r o sh O χ cu fi ne ct on th fp fa f) H) (hD : va_D (lwA s) (wL cI cB cL a r o sh O χ cu fi ne ct on th fp fa f)) (hS : va_S (lwA s) s.heap H locs) (hl : lv_has ls 8 [(4, .int (nI i)), (0, .ref b), (1, .ref (a 0)), (2, .ref (r 0)), (3, .ref o)]) (hc9 : cells + 1 ≤ 601024) (hs9 : slots + 6 ≤ 7293034) (KK : lwK p l e s m below meth c b D cI cB cL a r o i n cells slots Q) :
    W p l e room_1 s m #[Value.ref b] below meth c H locs cells slots Q (F0 m 946 ls []) := by
  have hst := F9.2.2.1
  obtain ⟨iC, iO, iW, iH, icu, ifi, ine, ict, ion⟩ := id h9
  have hχ5 : ∀ j, χ j < 65000 := ivC_lt iC (by omega)
  have hχ : ∀ j, χ j < 65536 := fun j => Nat.lt_trans (hχ5 j) (by decide)
  have hpx := ivC_pfx iC
  have hwf := ivC_wfs iC
  have hO6 := iW.1
  have hO0 : O 0 < 65536 := by omega
  have hO1 := iO 1
  have hO2 := iO 2
  have hne : ne < 65536 := by omega
  have hfi : fi < 65536 := by omega
  have hct : ct < 100 := by omega
  by_cases hx1 : (xs (i + 1)).toInt < 0 ∨ 5 < (xs (i + 1)).toInt
  · refine lo_guard F9 hi rfl (fun sz => c_L_guard_1 l hst D a sh O χ cu fi ne ct on _ hx1 cL o f sz) (fun sz => c_X3_guard_1 l D r th fp fa χ O cu fi ne ct on _ hx1 sz) ⟨Nat.le_of_ble_eq_true rfl, Nat.le_of_ble_eq_true rfl⟩ ⟨Nat.le_of_ble_eq_true rfl, Nat.le_of_ble_eq_true rfl⟩ ⟨_, rfl⟩ (fun u => ⟨_, rfl⟩) (fun u => c_X3_thrown l D r _ _ _ _ _ _ _ _ _ _ _ _) (fun u => rfl) (fun r1 u1 r2 u2 g1 g2 => ⟨Eq.symm g1, fun g3 => absurd g3 (by rw [show r1 = nI 1 from g1]; decide)⟩) hP hD hS hl hc9 hs9 (fun r1 u1 r2 u2 H1 locs1 ls1 g1 g2 hP hD hS hl => ?_)
    exact KK _ _ _ _ _ _ _ _ _ _ _ _ H1 locs1 ls1 (iv_mono (Nat.le_succ n) h9) hP hD hS hl
  · obtain ⟨b9, eb9, fb9⟩ := x_nat (x := xs (i + 1)) (by omega)
    have hb6 : b9 < 6 := by omega
    refine lo_guard F9 hi eb9 (fun sz => c_L_guard_0 l hst D a sh O χ cu fi ne ct on b9 hb6 hχ cL o f sz) (fun sz => c_X3_guard_0 l D r th fp fa χ O cu fi ne ct on b9 hb6 hχ sz) ⟨Nat.le_of_ble_eq_true rfl, Nat.le_of_ble_eq_true rfl⟩ ⟨Nat.le_of_ble_eq_true rfl, Nat.le_of_ble_eq_true rfl⟩ ⟨_, rfl⟩ (fun u => ⟨_, rfl⟩) (fun u => c_X3_thrown l D r _ _ _ _ _ _ _ _ _ _ _ _) (fun u => rfl) (fun r1 u1 r2 u2 g1 g2 => ⟨Eq.symm (show r1 = nI 0 from g1.1), fun _ => (upL_at _ _ _).trans (congrArg Int32.toInt64 (Eq.trans (show _ = nI (χ (100 + b9)) from g1.2) (Eq.symm (show _ = nI (χ (100 + b9)) from g2))))⟩) hP hD hS hl (Nat.le_of_succ_le hc9) (by omega) (fun r1 u1 r2 u2 H1 locs1 ls1 g1 g2 hP hD hS hl => ?_)
    exact W.widen (k := cells + 1) (n := slots + 6) (by omega) (by omega) (KK _ _ _ _ _ _ _ _ _ _ _ _ H1 locs1 ls1 (iv_mono (Nat.le_succ n) h9) hP hD hS hl)
