set_option maxHeartbeats 4000000 in
set_option maxRecDepth 100000 in
theorem lo_trim {p : Program} {l : Launch} {e : Env} {s : State} {m : MethodId} {below : List Frame} {meth : Method} {c : Code} {b L : Nat} {xs : Nat → Int32} {D : va_G} {cI cB cL : ClassId} (F9 : lwF p l s m meth c b L xs D cI cB cL) {i : Nat} (hi : i + 5 ≤ L) {x1 : Int32} (e1 : xs (i + 1) = x1) {q1 q2 o : Nat} {wc wm : va_W} {S1 S2 : Type} {post1 : Int32 → S1 → Prop} {lw1 : S1 → va_W} {f1 : S1 → Nat → Int64} {post2 : Int32 → S2 → Prop} {w2 : S2 → va_W} {th2 : S2 → Int32} {fr1 lo1 mc ms fr2 lo2 : Nat}
    (hM1 : ∀ sz, vx_Met l yL_trim wsL_trim ({ frames := fr1, cells := mc, slots := ms, locals := lo1 }) (va_Pc [.ref q1, .int x1, .ref o] (x_Y D (tyL cI cB cL) wc sz)) (va_Qi post1 (fun u t => x_E D (tyL cI cB cL) (va_A wc sz) (lw1 u ++ [(o, lr cL (f1 u))]) t) (va_A wc sz)) (fun _ _ _ => False) mc ms (va_A wc sz))
    (hM2 : ∀ sz, Met l yX3_trim wsX3_trim ({ frames := fr2, cells := 0, slots := 0, locals := lo2 }) (va_Pc [.ref q2, .int x1] (x_U D (tyM cI) wm sz)) (va_Qi post2 (fun u t => x_E D (tyM cI) (va_A wm sz) (w2 u) t) (va_A wm sz)) 0 0 (va_A wm sz))
    (hR1 : fr1 + 1 ≤ 12 ∧ 8 + (4 + 11) + lo1 ≤ 434) (hR2 : fr2 + 1 ≤ 12 ∧ 8 + (4 + 11) + lo2 ≤ 434) (hm0 : ∃ fs, wm[0]? = some (q2, .inr (3, fs))) (hw0 : ∀ u, ∃ fs, (w2 u)[0]? = some (q2, .inr (3, fs)))
    (hT : ∀ u, Met l yX3_thrown wsX3_thrown ({ frames := 0, cells := 0, slots := 0, locals := 0 }) (va_Pc [.ref q2] (x_R D (tyM cI) (w2 u))) (vp_Si (fun x => x = th2 u)) 0 0 (fun _ => False)) (hlen : ∀ u, (lw1 u).length = 30)
    (hlog : ∀ r1 u1 r2 u2, post1 r1 u1 → post2 r2 u2 → th2 u2 = r1 ∧ (r1.toInt = 0 → f1 u1 (nI 0).toNatClampNeg = r2.toInt64))
    {H : Heap} {locs : List Loc} {ls : Array Slot} {cells slots : Nat} {Q : State → Prop} (hP : va_P D vwCl (wc ++ wm) H) (hD : va_D (lwA s) (wc ++ wm)) (hS : va_S (lwA s) s.heap H locs) (hl : lv_has ls 8 [(4, .int (nI i)), (0, .ref b), (1, .ref q1), (2, .ref q2), (3, .ref o)]) (hc9 : cells + mc ≤ 601024) (hs9 : slots + ms ≤ 7293034)
    (KK : ∀ r1 u1 r2 u2 (H1 : Heap) (locs1 : List Loc) (ls1 : Array Slot), post1 r1 u1 → post2 r2 u2 → va_P D vwCl ((lw1 u1 ++ [(o, lr cL (f1 u1))]) ++ w2 u2) H1 → va_D (lwA s) ((lw1 u1 ++ [(o, lr cL (f1 u1))]) ++ w2 u2) → va_S (lwA s) s.heap H1 locs1 → lv_has ls1 8 [(4, .int (nI i)), (0, .ref b), (1, .ref q1), (2, .ref q2), (3, .ref o)] → W p l e room_1 s m #[Value.ref b] below meth c H1 locs1 (cells + mc) (slots + ms) Q (F0 m 1095 ls1 [])) :
    W p l e room_1 s m #[Value.ref b] below meth c H locs cells slots Q (F0 m 384 ls []) := by
  subst e1
  obtain ⟨C0, hL, hst, hN, hK, hZ, hY⟩ := F9
  obtain ⟨hx, hb0, hr, hml, hown, hts0, hX, hbl, hlocks, hgv⟩ := C0
  have hb : c.code = cL_law := hb0
  have hown : s.vm.findClass RL = some m.cls := hown
  have hts : ∀ w ∈ wsL_law, w.before #[Value.ref b] s = true := fun w h => hts0 w (wsL_law_in w h)
  have hA : ∀ q : Nat, s.heap.size ≤ q → lwA s q := fun _ h => h
  have hbA : ¬ lwA s b := Nat.not_le.mpr hbl
  refine lv_aload_n hx hb dL_law_384 rfl (lv_at hl 2 rfl) ?_
  refine xs_arg (j := 1) hx hb hX hbl hbA hS (lv_at hl 1 rfl) (lv_at hl 0 rfl) (by omega) hL dL_law_385 dL_law_386 dL_law_388 (by decide) dL_law_389 dL_law_390 ?_
  refine lv_aload_n hx hb dL_law_391 rfl (lv_at hl 4 rfl) ?_
  have hF1 := x_hF (x_dpl hD) hS hA
  refine xs_i (rest := []) (As := [.ref q1, .int (xs (i + 1)), .ref o]) ⟨hx, hb, hml, hown, hts⟩ (hM1 H.size) (vx_cwSW 3 hts gL_law_L_trim rfl rfl rfl (by decide +kernel) ⟨hR1.1, hR1.2⟩) hN hK (x_apl hP) (x_dpl hD) hS hA hZ hY rfl hl.1 rfl (Nat.le_of_ble_eq_true rfl) dL_law_392 ⟨hc9, hs9⟩ (fun r1 u1 H1 locs hw1 hP1 hD1 hk1 hS => ?_)
  obtain ⟨hP, hD⟩ := x_joinL hP hD hF1 hk1 hP1 hD1
  generalize H1 = H at hP hS ⊢
  refine lv_istore (lv' := [(5, .int r1), (4, .int (nI i)), (0, .ref b), (1, .ref q1), (2, .ref q2), (3, .ref o)]) hx hb dL_law_395 hl (by decide) rfl (fun ls hl => ?_)
  refine lv_aload_n hx hb dL_law_397 rfl (lv_at hl 4 rfl) ?_
  refine xs_arg (j := 1) hx hb hX hbl hbA hS (lv_at hl 2 rfl) (lv_at hl 1 rfl) (by omega) hL dL_law_398 dL_law_399 dL_law_401 (by decide) dL_law_402 dL_law_403 ?_
  have hF2 := x_hF (x_dpr hD) hS hA
  obtain ⟨fs2, hfs2⟩ := hm0
  refine xw_Vi (ci := 3) (rest := []) (As := [.int (xs (i + 1))]) ⟨hx, hb, hml, hown, hts⟩ (hM2 H.size) (cwV 1 hts gL_law_X3_trim rfl rfl rfl (by decide +kernel) ⟨hR2.1, hR2.2⟩) hN (hK.sub [0] rfl) (x_apr hP) (x_dpr hD) hS hA rfl 0 hfs2 rfl hl.1 rfl (Nat.le_of_ble_eq_true rfl) dL_law_404 ⟨hc9, hs9⟩ (fun r2 u2 H1 locs hw2 hP1 hD1 hDA hk2 hS => ?_)
  obtain ⟨hP, hD⟩ := x_joinR hP hD hF2 hk2 hP1 hD1
  generalize H1 = H at hP hS ⊢
  refine lv_istore (lv' := [(6, .int r2), (5, .int r1), (4, .int (nI i)), (0, .ref b), (1, .ref q1), (2, .ref q2), (3, .ref o)]) hx hb dL_law_407 hl (by decide) rfl (fun ls hl => ?_)
  refine lv_aload_n hx hb dL_law_409 rfl (lv_at hl 5 rfl) ?_
  obtain ⟨fs3, hfs3⟩ := hw0 u2
  refine xc_Vi (ci := 3) (rest := []) (As := []) ⟨hx, hb, hml, hown, hts⟩ (hT u2) (cwV 0 hts gL_law_X3_thrown rfl rfl rfl (by decide +kernel) ⟨Nat.le_of_ble_eq_true rfl, Nat.le_of_ble_eq_true rfl⟩) hN (hK.sub [0] rfl) (x_apr hP) rfl 0 hfs3 rfl hl.1 rfl (Nat.le_of_ble_eq_true rfl) dL_law_410 ⟨hc9, hs9⟩ (fun r3 hw3 => ?_)
  obtain ⟨g1, g2⟩ := hlog r1 u1 r2 u2 hw1 hw2
  refine lv_iload hx hb dL_law_413 (lv_at hl 1 rfl) ?_
  refine lv_icmp_eq (tgt := 420) hx hb dL_law_415 (by decide) (fun c1 => ?_) (fun c1 => absurd (hw3.trans g1) c1)
  refine lv_iload hx hb dL_law_420 (lv_at hl 1 rfl) ?_
  refine xz_ne (tgt := 437) hx hb dL_law_422 (by decide) rfl (fun c2 => ?_) (fun c2 => ?_)
  · skip
    refine lv_goto (tgt := 1095) hx hb dL_law_437 (by decide) ?_
    exact KK r1 u1 r2 u2 H _ ls hw1 hw2 hP hD hS (lv_sub hl [2, 3, 4, 5, 6] rfl)
  · refine lv_aload_n hx hb dL_law_425 rfl (lv_at hl 6 rfl) ?_
    refine lv_iconst (v := nI 0) hx hb dL_law_426 (by decide) ?_
    refine va_lald hx hb hK hP 30 2 (xs_ats (hlen u1)) rfl (by unfold vp_in; decide) dL_law_427 ?_
    refine lv_iload hx hb dL_law_428 (lv_at hl 0 rfl) ?_
    refine lv_i2l hx hb dL_law_430 rfl ?_
    refine W.lcmp hx hb dL_law_431 ?_
    refine xr_same (x' := 0) (by rw [g2 c2]; exact lg_same _) ?_
    refine lv_if_eq (tgt := 437) hx hb dL_law_432 (by decide) (fun c3 => ?_) (fun c3 => absurd rfl c3)
    refine lv_goto (tgt := 1095) hx hb dL_law_437 (by decide) ?_
    exact KK r1 u1 r2 u2 H _ ls hw1 hw2 hP hD hS (lv_sub hl [2, 3, 4, 5, 6] rfl)
