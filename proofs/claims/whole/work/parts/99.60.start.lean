set_option maxHeartbeats 4000000 in
set_option maxRecDepth 100000 in
/-- what the law needs of the tables and of the start's words -/
theorem law_known {p : Program} {s : State} {m : MethodId} {meth : Method} {c : Code} (l : Launch) (hflags : l.flags = flags0) {b L : Nat} {xs : Nat → Int32} (hL : L ≤ 2560) (C0 : lw_At p s m meth c b L xs) : ∃ (D : va_G) (cI cB cL : ClassId), lwF p l s m meth c b L xs D cI cB cL ∧ va_Nw (.methodLinkNest RX2 17 yX1_init RX2) s ∧ va_Nw (.methodLinkNest RX2 42 yX0_init RX2) s ∧ va_AO RX0 s := by
  obtain ⟨hx, hb0, hr, hml, hown, hts0, hX, hbl, hlocks, hgv⟩ := id C0
  have hgs := flat_of_before _ hgv
  have hst : l.stackTraces = false := by unfold Launch.stackTraces; rw [hflags]; decide +kernel
  obtain ⟨c0, i0, k0⟩ := u_known (C := RX0) (T := TX0) (N := 5) (n := 5) hts0 inX0 (hts0 (.instantiable RX0 5) (by decide +kernel))
  obtain ⟨c1, i1, k1⟩ := u_known (C := RX1) (T := TX1) (N := 1) (n := 1) hts0 inX1 (hts0 (.instantiable RX1 1) (by decide +kernel))
  obtain ⟨c2, i2, k2⟩ := u_known (C := RX2) (T := TX2) (N := 8) (n := 8) hts0 inX2 (hts0 (.instantiable RX2 8) (by decide +kernel))
  obtain ⟨c3, i3, k3⟩ := u_known (C := RX3) (T := TX3) (N := 16) (n := 16) hts0 inX3 (hts0 (.instantiable RX3 16) (by decide +kernel))
  obtain ⟨D, hKc⟩ : ∃ D : va_G, ∀ (k : Nat) (q : vw_C), vwCl[k]? = some q → u_Kn s q.1 q.2.1 q.2.2 (D.1 k) (D.2 k) := by
    refine ⟨(fun k => if k = 0 then c0 else if k = 1 then c1 else if k = 2 then c2 else c3, fun k => if k = 0 then i0 else if k = 1 then i1 else if k = 2 then i2 else i3), ?_⟩
    intro k q hq
    match k, hq with
    | 0, hq => cases hq; exact k0
    | 1, hq => cases hq; exact k1
    | 2, hq => cases hq; exact k2
    | 3, hq => cases hq; exact k3
    | k + 4, hq => simp [vwCl] at hq
  obtain ⟨cI, aI, rI⟩ := xm_kI (hts0 (.arrayClass .int) (by decide +kernel))
  obtain ⟨cL, aL, rL⟩ := xm_kL (hts0 (.arrayClass .long) (by decide +kernel))
  have hAO : va_AO RX0 s := va_AO.of (hts0 (.arrayOver (.object RX0)) (by decide +kernel))
  obtain ⟨cB, aB, rB⟩ := xm_kB (C := "PairedCells$Block") (args := #[]) (s := s) hAO
  have hK : va_K D vwCl (tyL cI cB cL) s := by
    refine ⟨hKc, fun k q hq => ?_⟩
    have hq : ([(cI, .int), (cB, .object "PairedCells$Block"), (cL, .long)] : List (ClassId × FieldType))[k]? = some q := hq
    match k, hq with
    | 0, hq => cases hq; exact ⟨aI, rI⟩
    | 1, hq => cases hq; exact ⟨aB, rB⟩
    | 2, hq => cases hq; exact ⟨aL, rL⟩
    | k + 3, hq => simp at hq
  have hN : xN s := ⟨va_Nw.of rfl (hts0 _ (by decide +kernel)), va_Nw.of rfl (hts0 _ (by decide +kernel)), va_Nw.of rfl (hts0 _ (by decide +kernel)), va_Nw.of rfl (hts0 _ (by decide +kernel))⟩
  have hZ : xZ (lwA s) s s.heap := by
    refine ⟨vx_Zqof (hts0 _ (by decide +kernel)) (hts0 _ (by decide +kernel)) (hgs _ (by decide +kernel)) (fun q9 h9 => Nat.not_le.mpr h9), vx_Zqof (hts0 _ (by decide +kernel)) (hts0 _ (by decide +kernel)) (hgs _ (by decide +kernel)) (fun q9 h9 => Nat.not_le.mpr h9), fun q hq => ?_, fun E hE => ?_, fun E hE => ?_⟩
    · have h1 := hts0 _ ((by decide +kernel : ∀ q ∈ xTx, Cond.stringRef RX2 q.1 q.2 ∈ lw_tbl) q hq)
      have h2 := hgs _ ((by decide +kernel : ∀ q ∈ xTx, Cond.exactly (.string RX2 q.1) "java/lang/String" ∈ flatC (Jvm.Cond.and given_1 narrow_1)) q hq)
      obtain ⟨sa, -, -, -, g1, -⟩ := Cond.exactly_spec h2
      exact ⟨sa, vk_R.of h1 g1⟩
    · exact va_Nw.of rfl (hts0 _ ((by decide +kernel : ∀ E ∈ xEx, Cond.castable E E ∈ lw_tbl) E hE))
    · exact va_Nw.of rfl (hts0 _ ((by decide +kernel : ∀ E ∈ xDx, Cond.declares (Bundle.initS E) ∈ lw_tbl) E hE))
  have hY : xY s := fun q hq => va_Nc.of (hgs _ ((by decide +kernel : ∀ q ∈ xPr, Cond.not (.castable q.1 q.2) ∈ flatC (Jvm.Cond.and given_1 narrow_1)) q hq))
  exact ⟨D, cI, cB, cL, ⟨C0, hL, hst, hN, hK, hZ, hY⟩, va_Nw.of rfl (hts0 _ (by decide +kernel)), va_Nw.of rfl (hts0 _ (by decide +kernel)), hAO⟩
set_option maxHeartbeats 4000000 in
set_option maxRecDepth 100000 in
/-- THE LAW, from its entry -/
theorem whole_start {p : Program} {e : Env} {s : State} {m : MethodId} {below : List Frame} {meth : Method} {c : Code} (l : Launch) (hflags : l.flags = flags0) {b L : Nat} {xs : Nat → Int32} (hL : L ≤ 2560) (C0 : lw_At p s m meth c b L xs) : W p l e room_1 s m #[Value.ref b] below meth c s.heap [] 0 0 (lw_Z below #[Value.ref b] s) (entryFrame m ([Value.ref b] : List Value).toArray 8) := by
  obtain ⟨D, cI, cB, cL, F9, hM1, hM2, hM3⟩ := law_known l hflags hL C0
  obtain ⟨-, -, hst, hN, hK, hZ, hY⟩ := id F9
  obtain ⟨hx, hb0, hr, hml, hown, hts0, hX, hbl, hlocks, hgv⟩ := id C0
  have hb : c.code = cL_law := hb0
  have hown : s.vm.findClass RL = some m.cls := hown
  have hts : ∀ w ∈ wsL_law, w.before #[Value.ref b] s = true := fun w h => hts0 w (wsL_law_in w h)
  have hA : ∀ q : Nat, s.heap.size ≤ q → lwA s q := fun _ h => h
  have hS : va_S (lwA s) s.heap s.heap [] := va_S.rf
  have hP : va_P D vwCl ([] : va_W) s.heap := va_P_nil
  have hD : va_D (lwA s) ([] : va_W) := ⟨fun i j p q h => by simp at h, fun k q h => by simp at h⟩
  have hl := lv_entry ([.ref b]) (n := 8) (Nat.le_of_ble_eq_true rfl)
  rw [lg_entry_eq]
  generalize (lg_sl ([.ref b]) ++ List.replicate (8 - (lg_sl ([.ref b])).length) Slot.unset).toArray = ls at hl ⊢
  have hl : lv_has ls 8 [(0, .ref b)] := hl
  refine va_new (ci := 2) (fs := [.null, .null, .null, .int (nI 0), .int (nI 0), .int (nI 0), .int (nI 0), .int (nI 0)]) (C := RX2) (T := TX2) (N := 8) hx hb hts0 inX2 tyX2 tyX2_ok hown (hts (.classLink RL 8 RX2) (by decide +kernel)) (hts (.instantiable RX2 8) (by decide +kernel)) (hts (.initialized RX2) (by decide +kernel)) hK hP hD hS hA rfl (fun j hj => by rcases (show j = 0 ∨ j = 1 ∨ j = 2 ∨ j = 3 ∨ j = 4 ∨ j = 5 ∨ j = 6 ∨ j = 7 by omega) with rfl | rfl | rfl | rfl | rfl | rfl | rfl | rfl <;> rfl) (Nat.le_of_ble_eq_true rfl) (Nat.le_of_ble_eq_true rfl) dL_law_0 (fun q0 H hP hD hS => ?_)
  have hP : va_P D vwCl ([(q0, .inr (2, [.null, .null, .null, .int (nI 0), .int (nI 0), .int (nI 0), .int (nI 0), .int (nI 0)]))]) H := hP
  have hD : va_D (lwA s) ([(q0, .inr (2, [.null, .null, .null, .int (nI 0), .int (nI 0), .int (nI 0), .int (nI 0), .int (nI 0)]))]) := hD
  refine W.widen (k := 1) (n := 8) (Nat.le_of_ble_eq_true rfl) (Nat.le_of_ble_eq_true rfl) ?_
  refine lv_dup hx hb dL_law_3 rfl ?_
  have hF9 := x_hF hD hS hA
  refine va_callv (va_runI (As := []) (rest := [.ref q0]) ⟨hx, hb, hml, hown, hts⟩ (c_X2_init (cI := cI) (cB := cB) l D q0 H.size) (cwI 0 hts gL_law_X2_init rfl rfl rfl (hts (.initialized RX2) (by decide +kernel)) (hts (.methodLink RL 73 yX2_init) (by decide +kernel)) (hts (.instanceMethod yX2_init) (by decide +kernel)) rfl (by decide +kernel) ⟨Nat.le_of_ble_eq_true rfl, Nat.le_of_ble_eq_true rfl⟩) ⟨x_UM.blind, fun U hU hW9 => ⟨rfl, ⟨by rw [hU], hN.warm hW9, by rw [hU]; exact hP, va_K.moved hW9.alike (x_kl hK), hD.weaken (fun _ _ _ _ => trivial)⟩, va_Nw.warmM hW9 hM1, va_Nw.warmM hW9 hM2, va_AO.moved hW9.alike hM3⟩⟩ rfl rfl hl.1 rfl (lv_room (Nat.le_of_ble_eq_true rfl)) dL_law_4 ⟨Nat.le_of_ble_eq_true rfl, Nat.le_of_ble_eq_true rfl⟩) hS (fun q _ h => hF9 q h) hF9 (fun a t H1 locs ht hvm hw9 hB hz1 hk1 hS => ?_)
  obtain ⟨hP1, hK1, hD1⟩ := hB
  rw [ht] at hP1
  have hw9 : a 0 = q0 := hw9
  subst hw9
  have hP : va_P D vwCl (wP cI cB a (fun _ => 0) (fun _ => 0) (fun _ => 0) 0 0 0 0 1) H1 := hP1
  have hD : va_D (lwA s) (wP cI cB a (fun _ => 0) (fun _ => 0) (fun _ => 0) 0 0 0 0 1) := hD1.weaken (fun _ q _ h => hF9 q.1 h)
  generalize H1 = H at hP hS ⊢
  refine W.widen (k := 30) (n := 1812) (Nat.le_of_ble_eq_true rfl) (Nat.le_of_ble_eq_true rfl) ?_
  refine lv_astore_n (lv' := [(1, .ref (a 0)), (0, .ref b)]) hx hb dL_law_7 rfl hl (by decide) rfl (fun ls hl => ?_)
  refine va_new (ci := 3) (fs := [.int (nI 0), .null, .null, .null, .null, .null, .int (nI 0), .int (nI 0), .int (nI 0), .int (nI 0), .int (nI 0), .int (nI 0), .int (nI 0), .null, .int (nI 0), .int (nI 0)]) (C := RX3) (T := TX3) (N := 16) hx hb hts0 inX3 tyX3 tyX3_ok hown (hts (.classLink RL 74 RX3) (by decide +kernel)) (hts (.instantiable RX3 16) (by decide +kernel)) (hts (.initialized RX3) (by decide +kernel)) hK hP hD hS hA rfl (fun j hj => by rcases (show j = 0 ∨ j = 1 ∨ j = 2 ∨ j = 3 ∨ j = 4 ∨ j = 5 ∨ j = 6 ∨ j = 7 ∨ j = 8 ∨ j = 9 ∨ j = 10 ∨ j = 11 ∨ j = 12 ∨ j = 13 ∨ j = 14 ∨ j = 15 by omega) with rfl | rfl | rfl | rfl | rfl | rfl | rfl | rfl | rfl | rfl | rfl | rfl | rfl | rfl | rfl | rfl <;> rfl) (Nat.le_of_ble_eq_true rfl) (Nat.le_of_ble_eq_true rfl) dL_law_8 (fun q1 H hP hD hS => ?_)
  have hP : va_P D vwCl (wP cI cB a (fun _ => 0) (fun _ => 0) (fun _ => 0) 0 0 0 0 1 ++ [(q1, .inr (3, [.int (nI 0), .null, .null, .null, .null, .null, .int (nI 0), .int (nI 0), .int (nI 0), .int (nI 0), .int (nI 0), .int (nI 0), .int (nI 0), .null, .int (nI 0), .int (nI 0)]))]) H := hP
  have hD : va_D (lwA s) (wP cI cB a (fun _ => 0) (fun _ => 0) (fun _ => 0) 0 0 0 0 1 ++ [(q1, .inr (3, [.int (nI 0), .null, .null, .null, .null, .null, .int (nI 0), .int (nI 0), .int (nI 0), .int (nI 0), .int (nI 0), .int (nI 0), .int (nI 0), .null, .int (nI 0), .int (nI 0)]))]) := hD
  refine W.widen (k := 31) (n := 1828) (Nat.le_of_ble_eq_true rfl) (Nat.le_of_ble_eq_true rfl) ?_
  refine lv_dup hx hb dL_law_11 rfl ?_
  have hF8 := x_hF (x_dpr hD) hS hA
  refine va_callv (va_runI (As := []) (rest := [.ref q1]) ⟨hx, hb, hml, hown, hts⟩ (c_X3_init (cI := cI) l D q1 H.size) (cwI 0 hts gL_law_X3_init rfl rfl rfl (hts (.initialized RX3) (by decide +kernel)) (hts (.methodLink RL 76 yX3_init) (by decide +kernel)) (hts (.instanceMethod yX3_init) (by decide +kernel)) rfl (by decide +kernel) ⟨Nat.le_of_ble_eq_true rfl, Nat.le_of_ble_eq_true rfl⟩) ⟨x_U.blind, fun U hU hW9 => ⟨rfl, by rw [hU], hN.warm hW9, by rw [hU]; exact x_apr hP, va_K.moved hW9.alike (hK.sub [0] rfl), (x_dpr hD).weaken (fun _ _ _ _ => trivial)⟩⟩ rfl rfl hl.1 rfl (lv_room (Nat.le_of_ble_eq_true rfl)) dL_law_12 ⟨Nat.le_of_ble_eq_true rfl, Nat.le_of_ble_eq_true rfl⟩) hS (fun q _ h => hF8 q h) hF8 (fun r t H1 locs ht hvm hw8 hB hz1 hk1 hS => ?_)
  obtain ⟨hP1, hK1, hD1⟩ := hB
  rw [ht] at hP1
  have hw8 : r 0 = q1 := hw8
  subst hw8
  obtain ⟨hP, hD⟩ := x_joinR (u := wP cI cB a (fun _ => 0) (fun _ => 0) (fun _ => 0) 0 0 0 0 1) (v := [(r 0, .inr (3, [.int (nI 0), .null, .null, .null, .null, .null, .int (nI 0), .int (nI 0), .int (nI 0), .int (nI 0), .int (nI 0), .int (nI 0), .int (nI 0), .null, .int (nI 0), .int (nI 0)]))]) hP hD hF8 hk1 hP1 hD1
  have hP : va_P D vwCl (wP cI cB a (fun _ => 0) (fun _ => 0) (fun _ => 0) 0 0 0 0 1 ++ wM cI r (nI 0) (nI 0) (nI 0) (fun _ => 0) (opn (fun _ => 0)) 0 3 0 0 0 0 1) H1 := hP
  have hD : va_D (lwA s) (wP cI cB a (fun _ => 0) (fun _ => 0) (fun _ => 0) 0 0 0 0 1 ++ wM cI r (nI 0) (nI 0) (nI 0) (fun _ => 0) (opn (fun _ => 0)) 0 3 0 0 0 0 1) := hD
  generalize H1 = H at hP hS ⊢
  refine W.widen (k := 37) (n := 3590) (Nat.le_of_ble_eq_true rfl) (Nat.le_of_ble_eq_true rfl) ?_
  refine lv_astore_n (lv' := [(2, .ref (r 0)), (1, .ref (a 0)), (0, .ref b)]) hx hb dL_law_15 rfl hl (by decide) rfl (fun ls hl => ?_)
  refine lv_iconst (v := nI 1) hx hb dL_law_16 (by decide) ?_
  refine xm_newl hx hb (hts (.arrayClass .long) (by decide +kernel)) hK hP hD hS hA 2 rfl (Nat.le_of_ble_eq_true rfl) (Nat.le_of_ble_eq_true rfl) dL_law_17 (fun o H hP hD hS => ?_)
  refine W.widen (k := 38) (n := 3591) (Nat.le_of_ble_eq_true rfl) (Nat.le_of_ble_eq_true rfl) ?_
  refine lv_astore_n (lv' := [(3, .ref o), (2, .ref (r 0)), (1, .ref (a 0)), (0, .ref b)]) hx hb dL_law_19 rfl hl (by decide) rfl (fun ls hl => ?_)
  refine lv_iconst (v := nI 0) hx hb dL_law_20 (by decide) ?_
  refine lv_istore (lv' := [(4, .int (nI 0)), (3, .ref o), (2, .ref (r 0)), (1, .ref (a 0)), (0, .ref b)]) hx hb dL_law_21 hl (by decide) rfl (fun ls hl => ?_)
  have hP := hP.sub (ws' := wL cI cB cL a r o (fun _ => 0) (fun _ => 0) (fun _ => 0) 0 0 0 0 1 (nI 0) (nI 0) (nI 0) (fun _ => 0)) [0, 1, 2, 3, 4, 5, 6, 7, 8, 9, 10, 11, 12, 13, 14, 15, 16, 17, 18, 19, 20, 21, 22, 23, 24, 25, 26, 27, 28, 29, 37, 30, 31, 32, 33, 34, 35, 36] rfl
  have hD := hD.sub (ws' := wL cI cB cL a r o (fun _ => 0) (fun _ => 0) (fun _ => 0) 0 0 0 0 1 (nI 0) (nI 0) (nI 0) (fun _ => 0)) [0, 1, 2, 3, 4, 5, 6, 7, 8, 9, 10, 11, 12, 13, 14, 15, 16, 17, 18, 19, 20, 21, 22, 23, 24, 25, 26, 27, 28, 29, 37, 30, 31, 32, 33, 34, 35, 36] (by decide) rfl
  exact law_loop F9 (L + 1) 0 0 (fun _ => 0) (fun _ => 0) (fun _ => 0) 0 0 0 0 1 (nI 0) (nI 0) (nI 0) (fun _ => 0) H _ ls rfl (Nat.zero_le L) (by omega) iv_new hP hD hS (lv_sub hl [0, 4, 3, 2, 1] rfl)
