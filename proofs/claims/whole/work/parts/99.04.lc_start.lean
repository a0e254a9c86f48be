set_option maxHeartbeats 4000000 in
set_option maxRecDepth 100000 in
theorem lc_start {p : Program} {l : Launch} {e : Env} {s : State} {m : MethodId} {below : List Frame} {meth : Method} {c : Code} {b L : Nat} {xs : Nat → Int32} {D : va_G} {cI cB cL : ClassId} (F9 : lwF p l s m meth c b L xs D cI cB cL) {i n : Nat} (hi : i + 5 ≤ L) (hn : n ≤ 512) {a r sh O χ : Nat → Nat} {o cu fi ne ct on : Nat} {th fp fa : Int32} {f : Nat → Int64} (h9 : iv n χ O cu fi ne ct on) {H : Heap} {locs : List Loc} {ls : Array Slot} {cells slots : Nat} {Q : State → Prop} (hP : va_P D vwCl (wL cI cB cL a r o sh O χ cu fi ne ct on th fp fa f) H) (hD : va_D (lwA s) (wL cI cB cL a r o sh O χ cu fi ne ct on th fp fa f)) (hS : va_S (lwA s) s.heap H locs) (hl : lv_has ls 8 [(4, .int (nI i)), (0, .ref b), (1, .ref (a 0)), (2, .ref (r 0)), (3, .ref o)]) (hc9 : cells + 1 ≤ 601024) (hs9 : slots + 6 ≤ 7293034) (KK : lwK p l e s m below meth c b D cI cB cL a r o i n cells slots Q) :
    W p l e room_1 s m #[Value.ref b] below meth c H locs cells slots Q (F0 m 340 ls []) := by
  have hst := F9.2.2.1
  obtain ⟨iC, iO, iW, iH, icu, ifi, ine, ict, ion⟩ := id h9
  have hχ5 : ∀ j, χ j < 65000 := ivC_lt iC (by omega)
  have hχ : ∀ j, χ j < 65536 := fun j => Nat.lt_trans (hχ5 j) (by decide)
  have hpx := ivC_pfx iC
  have hwf := ivC_wfs iC
  have hO6 := iW.1
  have hO0 : O 0 < 65536 := by omega
  have hO1 := iO 1
  have hO2 := iO 2
  have hne : ne < 65536 := by omega
  have hfi : fi < 65536 := by omega
  have hct : ct < 100 := by omega
  rcases (show on = 0 ∨ on = 1 by omega) with hon | hon
  · refine lo_start F9 hi  (fun sz => c_L_start_0 l hst D a sh O χ cu fi ne ct on hon hO0 hχ5 hwf cL o f sz) (fun sz => c_X3_start_0 l D r th fp fa χ O cu fi ne ct on hon hχ5 hpx hwf sz) ⟨Nat.le_of_ble_eq_true rfl, Nat.le_of_ble_eq_true rfl⟩ ⟨Nat.le_of_ble_eq_true rfl, Nat.le_of_ble_eq_true rfl⟩ ⟨_, rfl⟩ (fun u => ⟨_, rfl⟩) (fun u => c_X3_thrown l D r _ _ _ _ _ _ _ _ _ _ _ _) (fun u => rfl) (fun r1 u1 r2 u2 g1 g2 => ⟨Eq.symm (show r1 = nI 0 from g1.1), fun _ => (upL_at _ _ _).trans (congrArg Int32.toInt64 (Eq.trans (show _ = nI (grA (eu χ 6) 6) from g1.2) (Eq.symm (show _ = nI (grA (eu χ 6) 6) from g2))))⟩) hP hD hS hl (Nat.le_of_succ_le hc9) (by omega) (fun r1 u1 r2 u2 H1 locs1 ls1 g1 g2 hP hD hS hl => ?_)
    exact W.widen (k := cells + 1) (n := slots + 6) (by omega) (by omega) (KK _ _ _ _ _ _ _ _ _ _ _ _ H1 locs1 ls1 (iv_start h9) hP hD hS hl)
  · refine lo_start F9 hi  (fun sz => c_L_start_1 l hst D a sh O χ cu fi ne ct on hon cL o f sz) (fun sz => c_X3_start_1 l D r th fp fa χ O cu fi ne ct on hon sz) ⟨Nat.le_of_ble_eq_true rfl, Nat.le_of_ble_eq_true rfl⟩ ⟨Nat.le_of_ble_eq_true rfl, Nat.le_of_ble_eq_true rfl⟩ ⟨_, rfl⟩ (fun u => ⟨_, rfl⟩) (fun u => c_X3_thrown l D r _ _ _ _ _ _ _ _ _ _ _ _) (fun u => rfl) (fun r1 u1 r2 u2 g1 g2 => ⟨Eq.symm g1, fun g3 => absurd g3 (by rw [show r1 = nI 1 from g1]; decide)⟩) hP hD hS hl hc9 hs9 (fun r1 u1 r2 u2 H1 locs1 ls1 g1 g2 hP hD hS hl => ?_)
    exact KK _ _ _ _ _ _ _ _ _ _ _ _ H1 locs1 ls1 (iv_mono (Nat.le_succ n) h9) hP hD hS hl
