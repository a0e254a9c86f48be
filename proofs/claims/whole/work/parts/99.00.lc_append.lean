set_option maxHeartbeats 4000000 in
set_option maxRecDepth 100000 in
theorem lc_append {p : Program} {l : Launch} {e : Env} {s : State} {m : MethodId} {below : List Frame} {meth : Method} {c : Code} {b L : Nat} {xs : Nat → Int32} {D : va_G} {cI cB cL : ClassId} (F9 : lwF p l s m meth c b L xs D cI cB cL) {i n : Nat} (hi : i + 5 ≤ L) (hn : n ≤ 512) {a r sh O χ : Nat → Nat} {o cu fi ne ct on : Nat} {th fp fa : Int32} {f : Nat → Int64} (h9 : iv n χ O cu fi ne ct on) {H : Heap} {locs : List Loc} {ls : Array Slot} {cells slots : Nat} {Q : State → Prop} (hP : va_P D vwCl (wL cI cB cL a r o sh O χ cu fi ne ct on th fp fa f) H) (hD : va_D (lwA s) (wL cI cB cL a r o sh O χ cu fi ne ct on th fp fa f)) (hS : va_S (lwA s) s.heap H locs) (hl : lv_has ls 8 [(4, .int (nI i)), (0, .ref b), (1, .ref (a 0)), (2, .ref (r 0)), (3, .ref o)]) (hc9 : cells + 1 ≤ 601024) (hs9 : slots + 6 ≤ 7293034) (KK : lwK p l e s m below meth c b D cI cB cL a r o i n cells slots Q) :
    W p l e room_1 s m #[Value.ref b] below meth c H locs cells slots Q (F0 m 116 ls []) := by
  have hst := F9.2.2.1
  obtain ⟨iC, iO, iW, iH, icu, ifi, ine, ict, ion⟩ := id h9
  have hχ5 : ∀ j, χ j < 65000 := ivC_lt iC (by omega)
  have hχ : ∀ j, χ j < 65536 := fun j => Nat.lt_trans (hχ5 j) (by decide)
  have hpx := ivC_pfx iC
  have hwf := ivC_wfs iC
  have hO6 := iW.1
  have hO0 : O 0 < 65536 := by omega
  have hO1 := iO 1
  have hO2 := iO 2
  have hne : ne < 65536 := by omega
  have hfi : fi < 65536 := by omega
  have hct : ct < 100 := by omega
  rcases (show on = 0 ∨ on = 1 by omega) with hon | hon
  · refine lo_append F9 hi rfl rfl (fun sz => c_L_append_1 l hst D a sh O χ cu fi ne ct on hon _ _ cL o f sz) (fun sz => c_X3_append_1 l D r th fp fa χ O cu fi ne ct on hon _ _ sz) ⟨Nat.le_of_ble_eq_true rfl, Nat.le_of_ble_eq_true rfl⟩ ⟨Nat.le_of_ble_eq_true rfl, Nat.le_of_ble_eq_true rfl⟩ ⟨_, rfl⟩ (fun u => ⟨_, rfl⟩) (fun u => c_X3_thrown l D r _ _ _ _ _ _ _ _ _ _ _ _) (fun u => rfl) (fun r1 u1 r2 u2 g1 g2 => ⟨Eq.symm g1, fun g3 => absurd g3 (by rw [show r1 = nI 1 from g1]; decide)⟩) hP hD hS hl hc9 hs9 (fun r1 u1 r2 u2 H1 locs1 ls1 g1 g2 hP hD hS hl => ?_)
    exact KK _ _ _ _ _ _ _ _ _ _ _ _ H1 locs1 ls1 (iv_mono (Nat.le_succ n) h9) hP hD hS hl
  · by_cases hx7 : (xs (i + 1)).toInt < 1 ∨ 6 < (xs (i + 1)).toInt
    · refine lo_append F9 hi rfl rfl (fun sz => c_L_append_2 l hst D a sh O χ cu fi ne ct on hon _ _ hx7 cL o f sz) (fun sz => c_X3_append_2 l D r th fp fa χ O cu fi ne ct on hon _ _ hx7 sz) ⟨Nat.le_of_ble_eq_true rfl, Nat.le_of_ble_eq_true rfl⟩ ⟨Nat.le_of_ble_eq_true rfl, Nat.le_of_ble_eq_true rfl⟩ ⟨_, rfl⟩ (fun u => ⟨_, rfl⟩) (fun u => c_X3_thrown l D r _ _ _ _ _ _ _ _ _ _ _ _) (fun u => rfl) (fun r1 u1 r2 u2 g1 g2 => ⟨Eq.symm g1, fun g3 => absurd g3 (by rw [show r1 = nI 2 from g1]; decide)⟩) hP hD hS hl hc9 hs9 (fun r1 u1 r2 u2 H1 locs1 ls1 g1 g2 hP hD hS hl => ?_)
      exact KK _ _ _ _ _ _ _ _ _ _ _ _ H1 locs1 ls1 (iv_mono (Nat.le_succ n) h9) hP hD hS hl
    · obtain ⟨k, ek, fk⟩ := x_nat (x := xs (i + 1)) (by omega)
      have hk1 : 1 ≤ k := by omega
      have hk6 : k ≤ 6 := by omega
      obtain ⟨w9, ew9⟩ : ∃ z, lw2 (xs (i + 2)) (xs (i + 3)) = z := ⟨_, rfl⟩
      by_cases hft : fit O k
      · refine lo_append F9 hi ek ew9 (fun sz => c_L_append_0f l hst D a sh O χ cu fi ne ct on hon hO0 k w9 iW hne hk1 hk6 hft cL o f sz) (fun sz => c_X3_append_0f l D r th fp fa χ O cu fi ne ct on hon hO6 hne k w9 hk1 hk6 iW hft sz) ⟨Nat.le_of_ble_eq_true rfl, Nat.le_of_ble_eq_true rfl⟩ ⟨Nat.le_of_ble_eq_true rfl, Nat.le_of_ble_eq_true rfl⟩ ⟨_, rfl⟩ (fun u => ⟨_, rfl⟩) (fun u => c_X3_thrown l D r _ _ _ _ _ _ _ _ _ _ _ _) (fun u => rfl) (fun r1 u1 r2 u2 g1 g2 => ⟨Eq.symm (show r1 = nI 0 from g1.1), fun _ => (upL_at _ _ _).trans (congrArg Int32.toInt64 (Eq.trans (show _ = nI ne from g1.2) (Eq.symm (show _ = nI ne from g2))))⟩) hP hD hS hl (Nat.le_of_succ_le hc9) (by omega) (fun r1 u1 r2 u2 H1 locs1 ls1 g1 g2 hP hD hS hl => ?_)
        exact W.widen (k := cells + 1) (n := slots + 6) (by omega) (by omega) (KK _ _ _ _ _ _ _ _ _ _ _ _ H1 locs1 ls1 (iv_add h9 hne hft hk1 hk6) hP hD hS hl)
      · by_cases hfl : ful χ cu
        · refine lo_append F9 hi ek ew9 (fun sz => c_L_append_3 l hst D a sh O χ cu fi ne ct on hon icu hχ hO0 hfl k w9 iW hk1 hk6 hft cL o f sz) (fun sz => c_X3_append_3 l D r th fp fa χ O cu fi ne ct on hon k w9 hk1 hk6 iW icu hχ hpx hft hfl sz) ⟨Nat.le_of_ble_eq_true rfl, Nat.le_of_ble_eq_true rfl⟩ ⟨Nat.le_of_ble_eq_true rfl, Nat.le_of_ble_eq_true rfl⟩ ⟨_, rfl⟩ (fun u => ⟨_, rfl⟩) (fun u => c_X3_thrown l D r _ _ _ _ _ _ _ _ _ _ _ _) (fun u => rfl) (fun r1 u1 r2 u2 g1 g2 => ⟨Eq.symm g1, fun g3 => absurd g3 (by rw [show r1 = nI 3 from g1]; decide)⟩) hP hD hS hl hc9 hs9 (fun r1 u1 r2 u2 H1 locs1 ls1 g1 g2 hP hD hS hl => ?_)
          exact KK _ _ _ _ _ _ _ _ _ _ _ _ H1 locs1 ls1 (iv_mono (Nat.le_succ n) h9) hP hD hS hl
        · obtain ⟨hb6, hp16⟩ := nxb_ok icu hfl
          have hOz : O 0 ≠ 0 := fun q9 => hft (by unfold fit; rw [q9]; show 3 + 1 + k ≤ 16; omega)
          have i9 := iv_flush h9 hOz hfl
          have hf0 : fit (fun _ => 0) k := by show 3 + 1 + k ≤ 16; omega
          by_cases hok : fOk χ (nxb χ cu) ct
          · have eap : apS O χ cu ne ct on k w9 = (adO (fun _ => 0) ne k w9, fX χ (nxb χ cu) ct O, nxb χ cu, ne + 1, fCt χ (nxb χ cu) ct, on) := (cif_f hft).trans (cif_t hok)
            rw [fO_ok hok, fOn_ok hok] at i9
            refine lo_append F9 hi ek ew9 (fun sz => c_L_append_0 l hst D a sh O χ cu fi ne ct on hon icu hχ hct hO0 hb6 hp16 (wgd_lt hχ _) k w9 iW hne hk1 hk6 (fun _ => hfl) cL o f sz) (fun sz => c_X3_append_0 l D r th fp fa χ O cu fi ne ct on hon icu hχ hpx hct hb6 hp16 iH hO6 hO1 hO2 hne k w9 hk1 hk6 iW (fun _ => hfl) sz) ⟨Nat.le_of_ble_eq_true rfl, Nat.le_of_ble_eq_true rfl⟩ ⟨Nat.le_of_ble_eq_true rfl, Nat.le_of_ble_eq_true rfl⟩ ⟨_, rfl⟩ (fun u => ⟨_, rfl⟩) (fun u => c_X3_thrown l D r _ _ _ _ _ _ _ _ _ _ _ _) (fun u => rfl) (fun r1 u1 r2 u2 g1 g2 => ⟨Eq.symm (show r1 = nI 0 from g1.1), fun _ => (upL_at _ _ _).trans (congrArg Int32.toInt64 (dj_eq g1.2.2 g2.2))⟩) hP hD hS hl (Nat.le_of_succ_le hc9) (by omega) (fun r1 u1 r2 u2 H1 locs1 ls1 g1 g2 hP hD hS hl => ?_)
            obtain ⟨u1, v1⟩ := u1
            have g4 : u1 = _ := g1.2.1.trans eap
            have g5 : u2 = _ := g2.1.trans eap
            subst g4
            subst g5
            exact W.widen (k := cells + 1) (n := slots + 6) (by omega) (by omega) (KK _ _ _ _ _ _ _ _ _ _ _ _ H1 locs1 ls1 (iv_add i9 hne hf0 hk1 hk6) hP hD hS hl)
          · have eap : apS O χ cu ne ct on k w9 = (O, fX χ (nxb χ cu) ct O, nxb χ cu, ne, fCt χ (nxb χ cu) ct, 0) := (cif_f hft).trans (cif_f hok)
            rw [fO_no hok, fOn_no hok] at i9
            refine lo_append F9 hi ek ew9 (fun sz => c_L_append_0 l hst D a sh O χ cu fi ne ct on hon icu hχ hct hO0 hb6 hp16 (wgd_lt hχ _) k w9 iW hne hk1 hk6 (fun _ => hfl) cL o f sz) (fun sz => c_X3_append_0 l D r th fp fa χ O cu fi ne ct on hon icu hχ hpx hct hb6 hp16 iH hO6 hO1 hO2 hne k w9 hk1 hk6 iW (fun _ => hfl) sz) ⟨Nat.le_of_ble_eq_true rfl, Nat.le_of_ble_eq_true rfl⟩ ⟨Nat.le_of_ble_eq_true rfl, Nat.le_of_ble_eq_true rfl⟩ ⟨_, rfl⟩ (fun u => ⟨_, rfl⟩) (fun u => c_X3_thrown l D r _ _ _ _ _ _ _ _ _ _ _ _) (fun u => rfl) (fun r1 u1 r2 u2 g1 g2 => ⟨Eq.symm (show r1 = nI 0 from g1.1), fun _ => (upL_at _ _ _).trans (congrArg Int32.toInt64 (dj_eq g1.2.2 g2.2))⟩) hP hD hS hl (Nat.le_of_succ_le hc9) (by omega) (fun r1 u1 r2 u2 H1 locs1 ls1 g1 g2 hP hD hS hl => ?_)
            obtain ⟨u1, v1⟩ := u1
            have g4 : u1 = _ := g1.2.1.trans eap
            have g5 : u2 = _ := g2.1.trans eap
            subst g4
            subst g5
            exact W.widen (k := cells + 1) (n := slots + 6) (by omega) (by omega) (KK _ _ _ _ _ _ _ _ _ _ _ _ H1 locs1 ls1 (iv_mono (Nat.le_succ n) i9) hP hD hS hl)
