set_option maxHeartbeats 4000000 in
set_option maxRecDepth 100000 in
theorem law_loop {p : Program} {l : Launch} {e : Env} {s : State} {m : MethodId} {below : List Frame} {meth : Method} {c : Code} {b L : Nat} {xs : Nat → Int32} {D : va_G} {cI cB cL : ClassId} (F9 : lwF p l s m meth c b L xs D cI cB cL) {a r : Nat → Nat} {o : Nat} : ∀ (t n i : Nat) (sh O χ : Nat → Nat) (cu fi ne ct on : Nat) (th fp fa : Int32) (f : Nat → Int64) (H : Heap) (locs : List Loc) (ls : Array Slot), i = 5 * n → i ≤ L → L < i + t → iv n χ O cu fi ne ct on → va_P D vwCl (wL cI cB cL a r o sh O χ cu fi ne ct on th fp fa f) H → va_D (lwA s) (wL cI cB cL a r o sh O χ cu fi ne ct on th fp fa f) → va_S (lwA s) s.heap H locs → lv_has ls 8 [(4, .int (nI i)), (0, .ref b), (1, .ref (a 0)), (2, .ref (r 0)), (3, .ref o)] → W p l e room_1 s m #[Value.ref b] below meth c H locs (38 + n) (3591 + 6 * n) (lw_Z below #[Value.ref b] s) (F0 m 23 ls []) := by
  obtain ⟨C0, hL, hst, hN, hK, hZ, hY⟩ := id F9
  obtain ⟨hx, hb0, hr, hml, hown, hts0, hX, hbl, hlocks, hgv⟩ := C0
  have hb : c.code = cL_law := hb0
  have hbA : ¬ lwA s b := Nat.not_le.mpr hbl
  intro t
  induction t with
  | zero => intro n i sh O χ cu fi ne ct on th fp fa f H locs ls h1 h2 h3; omega
  | succ t ih =>
    intro n i sh O χ cu fi ne ct on th fp fa f H locs ls hin hiL hit h9 hP hD hS hl
    refine lv_iload hx hb dL_law_23 (lv_at hl 0 rfl) ?_
    refine lv_aload_n hx hb dL_law_25 rfl (lv_at hl 1 rfl) ?_
    refine va_slen hx hb hX hbl hbA hS dL_law_26 ?_
    refine lv_iconst (v := nI 5) hx hb dL_law_27 (by decide) ?_
    refine lv_isub hx hb dL_law_28 ?_
    refine xi_gt (tgt := 1101) hx hb dL_law_29 (by decide) (nI_toInt (by omega)) (pk_sub_toInt (a := L) (b := 5) (by omega) (by decide)) (fun c1 => ?_) (fun c1 => ?_)
    · refine lv_iconst (v := 1) hx hb dL_law_1101 (by decide) ?_
      refine va_forget (fun q9 hq9 => hS.2.2 q9 hq9) ?_
      refine W.widen (k := 601024) (n := 7293034) (by omega) (by omega) ?_
      exact lw_ret hx hb0 hr hlocks dL_law_1102
    · have hi5 : i + 5 ≤ L := by omega
      have hn9 : n ≤ 512 := by omega
      refine lv_aload_n hx hb dL_law_32 rfl (lv_at hl 1 rfl) ?_
      refine lv_iload hx hb dL_law_33 (lv_at hl 0 rfl) ?_
      refine xs_ld hx hb hX hbl hbA hS (by omega) hL dL_law_35 ?_
      refine lv_bipush (v := nI 15) hx hb dL_law_36 (by decide) ?_
      refine lv_iand hx hb dL_law_38 ?_
      obtain ⟨k9, hk9, ek9⟩ := x_and15 (xs i)
      refine xr_same (x' := nI k9) ek9 ?_
      have KK : lwK p l e s m below meth c b D cI cB cL a r o i n (38 + n) (3591 + 6 * n) (lw_Z below #[Value.ref b] s) := by
        intro sh O χ cu fi ne ct on th fp fa f H1 locs1 ls1 j9 hP hD hS hl
        refine lv_iinc (v := nI (i + 5)) (lv' := [(4, .int (nI (i + 5))), (0, .ref b), (1, .ref (a 0)), (2, .ref (r 0)), (3, .ref o)]) hx hb dL_law_1095 hl (k := 0) rfl (nI_add _ _) (by decide) rfl (fun ls hl => ?_)
        refine lv_goto (tgt := 23) hx hb dL_law_1098 (by decide) ?_
        refine W.widen (k := 38 + (n + 1)) (n := 3591 + 6 * (n + 1)) (by omega) (by omega) ?_
        exact ih (n + 1) (i + 5) sh O χ cu fi ne ct on th fp fa f H1 locs1 ls (by omega) hi5 (by omega) j9 hP hD hS hl
      rcases (show k9 = 0 ∨ k9 = 1 ∨ k9 = 2 ∨ k9 = 3 ∨ k9 = 4 ∨ k9 = 5 ∨ k9 = 6 ∨ k9 = 7 ∨ k9 = 8 ∨ k9 = 9 ∨ k9 = 10 ∨ k9 = 11 ∨ k9 = 12 ∨ k9 = 13 ∨ k9 = 14 ∨ k9 = 15 by omega) with rfl | rfl | rfl | rfl | rfl | rfl | rfl | rfl | rfl | rfl | rfl | rfl | rfl | rfl | rfl | rfl
      · refine lv_tableIn (off := 77) (tgt := 116) hx hb dL_law_39 (by decide) (by decide) (by first | decide | rfl | decide +kernel) (by decide) ?_
        exact lc_append F9 hi5 hn9 h9 hP hD hS hl (by omega) (by omega) KK
      · refine lv_tableIn (off := 177) (tgt := 216) hx hb dL_law_39 (by decide) (by decide) (by first | decide | rfl | decide +kernel) (by decide) ?_
        exact lc_sync F9 hi5 hn9 h9 hP hD hS hl (by omega) (by omega) KK
      · refine lv_tableIn (off := 221) (tgt := 260) hx hb dL_law_39 (by decide) (by decide) (by first | decide | rfl | decide +kernel) (by decide) ?_
        exact lc_cutAfter F9 hi5 hn9 h9 hP hD hS hl (by omega) (by omega) KK
      · refine lv_tableIn (off := 257) (tgt := 296) hx hb dL_law_39 (by decide) (by decide) (by first | decide | rfl | decide +kernel) (by decide) ?_
        exact lc_off F9 hi5 hn9 h9 hP hD hS hl (by omega) (by omega) KK
      · refine lv_tableIn (off := 301) (tgt := 340) hx hb dL_law_39 (by decide) (by decide) (by first | decide | rfl | decide +kernel) (by decide) ?_
        exact lc_start F9 hi5 hn9 h9 hP hD hS hl (by omega) (by omega) KK
      · refine lv_tableIn (off := 345) (tgt := 384) hx hb dL_law_39 (by decide) (by decide) (by first | decide | rfl | decide +kernel) (by decide) ?_
        exact lc_trim F9 hi5 hn9 h9 hP hD hS hl (by omega) (by omega) KK
      · refine lv_tableIn (off := 401) (tgt := 440) hx hb dL_law_39 (by decide) (by decide) (by first | decide | rfl | decide +kernel) (by decide) ?_
        exact lc_first F9 hi5 hn9 h9 hP hD hS hl (by omega) (by omega) KK
      · refine lv_tableIn (off := 445) (tgt := 484) hx hb dL_law_39 (by decide) (by decide) (by first | decide | rfl | decide +kernel) (by decide) ?_
        exact lc_count F9 hi5 hn9 h9 hP hD hS hl (by omega) (by omega) KK
      · refine lv_tableIn (off := 489) (tgt := 528) hx hb dL_law_39 (by decide) (by decide) (by first | decide | rfl | decide +kernel) (by decide) ?_
        exact lc_length F9 hi5 hn9 h9 hP hD hS hl (by omega) (by omega) KK
      · refine lv_tableIn (off := 545) (tgt := 584) hx hb dL_law_39 (by decide) (by decide) (by first | decide | rfl | decide +kernel) (by decide) ?_
        exact lc_event F9 hi5 hn9 h9 hP hD hS hl (by omega) (by omega) KK
      · refine lv_tableIn (off := 600) (tgt := 639) hx hb dL_law_39 (by decide) (by decide) (by first | decide | rfl | decide +kernel) (by decide) ?_
        exact lc_ruin F9 hi5 hn9 h9 hP hD hS hl (by omega) (by omega) KK
      · refine lv_tableIn (off := 703) (tgt := 742) hx hb dL_law_39 (by decide) (by decide) (by first | decide | rfl | decide +kernel) (by decide) ?_
        exact lc_page F9 hi5 hn9 h9 hP hD hS hl (by omega) (by omega) KK
      · refine lv_tableIn (off := 799) (tgt := 838) hx hb dL_law_39 (by decide) (by decide) (by first | decide | rfl | decide +kernel) (by decide) ?_
        exact lc_at F9 hi5 hn9 h9 hP hD hS hl (by omega) (by omega) KK
      · refine lv_tableIn (off := 907) (tgt := 946) hx hb dL_law_39 (by decide) (by decide) (by first | decide | rfl | decide +kernel) (by decide) ?_
        exact lc_guard F9 hi5 hn9 h9 hP hD hS hl (by omega) (by omega) KK
      · refine lv_tableIn (off := 963) (tgt := 1002) hx hb dL_law_39 (by decide) (by decide) (by first | decide | rfl | decide +kernel) (by decide) ?_
        exact lc_guarded F9 hi5 hn9 h9 hP hD hS hl (by omega) (by omega) KK
      · refine lv_tableIn (off := 1031) (tgt := 1070) hx hb dL_law_39 (by decide) (by decide) (by first | decide | rfl | decide +kernel) (by decide) ?_
        exact lc_told F9 hi5 hn9 h9 hP hD hS hl (by omega) (by omega) KK
