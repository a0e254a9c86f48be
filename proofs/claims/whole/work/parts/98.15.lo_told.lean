set_option maxHeartbeats 4000000 in
set_option maxRecDepth 100000 in
theorem lo_told {p : Program} {l : Launch} {e : Env} {s : State} {m : MethodId} {below : List Frame} {meth : Method} {c : Code} {b L : Nat} {xs : Nat → Int32} {D : va_G} {cI cB cL : ClassId} (F9 : lwF p l s m meth c b L xs D cI cB cL) {i : Nat} (hi : i + 5 ≤ L) {x1 : Int32} (e1 : xs (i + 1) = x1) {q1 q2 o : Nat} {wc wm : va_W} {S2 : Type} {f : Nat → Int64} {post1 : Int32 → Prop} {post2 : Int32 → S2 → Prop} {w2 : S2 → va_W} {fr1 lo1 fr2 lo2 : Nat}
    (hM1 : Met l yX2_told wsX2_told ({ frames := fr1, cells := 0, slots := 0, locals := lo1 }) (va_Pc [.ref q1, .int x1] (x_R D (tyP cI cB) wc)) (vp_Si post1) 0 0 (fun _ => False))
    (hM2 : ∀ sz, Met l yX3_told wsX3_told ({ frames := fr2, cells := 0, slots := 0, locals := lo2 }) (va_Pc [.ref q2, .int x1] (x_U D (tyM cI) wm sz)) (va_Qi post2 (fun u t => x_E D (tyM cI) (va_A wm sz) (w2 u) t) (va_A wm sz)) 0 0 (va_A wm sz))
    (hR1 : fr1 + 1 ≤ 12 ∧ 8 + (2 + 11) + lo1 ≤ 434) (hR2 : fr2 + 1 ≤ 12 ∧ 8 + (4 + 11) + lo2 ≤ 434) (hc0 : ∃ fs, wc[0]? = some (q1, .inr (2, fs))) (hm0 : ∃ fs, wm[0]? = some (q2, .inr (3, fs)))
    (hlog : ∀ r1 r2 u2, post1 r1 → post2 r2 u2 → r1 = r2)
    {H : Heap} {locs : List Loc} {ls : Array Slot} {cells slots : Nat} {Q : State → Prop} (hP : va_P D vwCl ((wc ++ [(o, lr cL f)]) ++ wm) H) (hD : va_D (lwA s) ((wc ++ [(o, lr cL f)]) ++ wm)) (hS : va_S (lwA s) s.heap H locs) (hl : lv_has ls 8 [(4, .int (nI i)), (0, .ref b), (1, .ref q1), (2, .ref q2), (3, .ref o)]) (hc9 : cells ≤ 601024) (hs9 : slots ≤ 7293034)
    (KK : ∀ r1 r2 u2 (H1 : Heap) (locs1 : List Loc) (ls1 : Array Slot), post1 r1 → post2 r2 u2 → va_P D vwCl ((wc ++ [(o, lr cL f)]) ++ w2 u2) H1 → va_D (lwA s) ((wc ++ [(o, lr cL f)]) ++ w2 u2) → va_S (lwA s) s.heap H1 locs1 → lv_has ls1 8 [(4, .int (nI i)), (0, .ref b), (1, .ref q1), (2, .ref q2), (3, .ref o)] → W p l e room_1 s m #[Value.ref b] below meth c H1 locs1 cells slots Q (F0 m 1095 ls1 [])) :
    W p l e room_1 s m #[Value.ref b] below meth c H locs cells slots Q (F0 m 1070 ls []) := by
  subst e1
  obtain ⟨C0, hL, hst, hN, hK, hZ, hY⟩ := F9
  obtain ⟨hx, hb0, hr, hml, hown, hts0, hX, hbl, hlocks, hgv⟩ := C0
  have hb : c.code = cL_law := hb0
  have hown : s.vm.findClass RL = some m.cls := hown
  have hts : ∀ w ∈ wsL_law, w.before #[Value.ref b] s = true := fun w h => hts0 w (wsL_law_in w h)
  have hA : ∀ q : Nat, s.heap.size ≤ q → lwA s q := fun _ h => h
  have hbA : ¬ lwA s b := Nat.not_le.mpr hbl
  obtain ⟨fs1, hfs1⟩ := hc0
  obtain ⟨fs2, hfs2⟩ := hm0
  refine lv_aload_n hx hb dL_law_1070 rfl (lv_at hl 2 rfl) ?_
  refine xs_arg (j := 1) hx hb hX hbl hbA hS (lv_at hl 1 rfl) (lv_at hl 0 rfl) (by omega) hL dL_law_1071 dL_law_1072 dL_law_1074 (by decide) dL_law_1075 dL_law_1076 ?_
  refine xc_Vi (ci := 2) (rest := []) (As := [.int (xs (i + 1))]) ⟨hx, hb, hml, hown, hts⟩ hM1 (cwV 1 hts gL_law_X2_told rfl rfl rfl (by decide +kernel) ⟨hR1.1, hR1.2⟩) hN (x_kl hK) (x_apl (x_apl hP)) rfl 0 hfs1 rfl hl.1 rfl (Nat.le_of_ble_eq_true rfl) dL_law_1077 ⟨hc9, hs9⟩ (fun r1 hw1 => ?_)
  refine lv_aload_n hx hb dL_law_1080 rfl (lv_at hl 3 rfl) ?_
  refine xs_arg (j := 1) hx hb hX hbl hbA hS (lv_at hl 1 rfl) (lv_at hl 0 rfl) (by omega) hL dL_law_1081 dL_law_1082 dL_law_1084 (by decide) dL_law_1085 dL_law_1086 ?_
  have hF2 := x_hF (x_dpr hD) hS hA
  refine xw_Vi (ci := 3) (rest := [.int r1]) (As := [.int (xs (i + 1))]) ⟨hx, hb, hml, hown, hts⟩ (hM2 H.size) (cwV 1 hts gL_law_X3_told rfl rfl rfl (by decide +kernel) ⟨hR2.1, hR2.2⟩) hN (hK.sub [0] rfl) (x_apr hP) (x_dpr hD) hS hA rfl 0 hfs2 rfl hl.1 rfl (Nat.le_of_ble_eq_true rfl) dL_law_1087 ⟨hc9, hs9⟩ (fun r2 u2 H1 locs hw2 hP1 hD1 hDA hk2 hS => ?_)
  obtain ⟨hP, hD⟩ := x_joinR hP hD hF2 hk2 hP1 hD1
  generalize H1 = H at hP hS ⊢
  refine lv_icmp_eq (tgt := 1095) hx hb dL_law_1090 (by decide) (fun c1 => ?_) (fun c1 => absurd (hlog r1 r2 u2 hw1 hw2) c1)
  exact KK r1 r2 u2 H _ ls hw1 hw2 hP hD hS hl
