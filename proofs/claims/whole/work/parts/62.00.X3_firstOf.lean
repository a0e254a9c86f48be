/-- the reference keeps the head of the open row apart -/
def opn (O : Nat → Nat) : Nat → Nat := fun j => if j < 3 then 0 else O j
/-- the open row's head: its number of events, the first one's number -/
def hdo (O : Nat → Nat) (ne : Nat) : Prop := O 0 ≤ ne ∧ (O 0 ≠ 0 → 256 * O 1 + O 2 + O 0 = ne)
theorem eu_keep {χ : Nat → Nat} {b i : Nat} (hb : b < 6) (hi : inb b i) : ∀ n, b < n → n ≤ 6 → eu χ n i = eu χ (b + 1) i := by
  intro n
  induction n with
  | zero => intro q9 _; exact absurd q9 (Nat.not_lt_zero b)
  | succ n ih =>
    intro q9 q8
    by_cases q7 : b = n
    · subst q7; rfl
    · rw [← ih (by omega) (by omega)]
      by_cases q6 : eu χ n (16 * n) ≠ 0 ∧ grt (eu χ n) n 16 = 0
      · rw [eu_in q6]; exact ers_out i (inb_apart (by omega) hb q7 hi)
      · rw [eu_out q6]
theorem grt_ers {χ : Nat → Nat} {b : Nat} : ∀ n, n ≤ 16 → grt (ers χ b) b n = 0 := by
  intro n
  induction n with
  | zero => intro _; rfl
  | succ n ih => intro q9; rw [grt_out (ers_rdb (by omega)), ih (by omega)]
theorem lst_ers {χ : Nat → Nat} {b : Nat} : ∀ n, n ≤ 16 → lst (ers χ b) b n = 0 := by
  intro n
  induction n with
  | zero => intro _; rfl
  | succ n ih => intro q9; rw [lst_out (ers_rdb (by omega)), ih (by omega)]
theorem eu_grt {χ : Nat → Nat} {b : Nat} (hb : b < 6) : grt (eu χ b) b 16 = grt (eu χ 6) b 16 := by
  rw [grt_congr (fun i hi => eu_keep hb hi 6 hb (Nat.le_refl 6)) 16 (Nat.le_refl 16)]
  by_cases q6 : eu χ b (16 * b) ≠ 0 ∧ grt (eu χ b) b 16 = 0
  · rw [eu_in q6, grt_ers 16 (Nat.le_refl 16)]; exact q6.2
  · rw [eu_out q6]
theorem eu_lst {χ : Nat → Nat} {b : Nat} (hb : b < 6) : lst (eu χ (b + 1)) b 16 = lst (eu χ 6) b 16 :=
  (lst_congr (fun i hi => eu_keep hb hi 6 hb (Nat.le_refl 6)) 16 (Nat.le_refl 16)).symm
theorem plc_ers {χ : Nat → Nat} {b : Nat} : plc (ers χ b) b = 0 := plc_zero.mpr (if_pos ⟨by omega, by omega⟩)
theorem pfx_ers {χ : Nat → Nat} {b : Nat} (hb : b < 6) (hx : pfx χ) : pfx (ers χ b) := by
  intro b' hb'
  by_cases he : b' = b
  · subst he
    refine ⟨fun j _ hj => if_pos ⟨by omega, by omega⟩, fun _ => ?_⟩
    simp only [ers]
    rw [if_neg (by omega), if_pos trivial]
  · have q9 : ∀ i, inb b' i → ers χ b i = χ i := fun i hi => ers_out i (inb_apart hb hb' he hi)
    obtain ⟨q1, q2⟩ := hx b' hb'
    rw [show plc (ers χ b) b' = plc χ b' from plc_congr q9 16 (Nat.le_refl 16)]
    exact ⟨fun j q3 hj => by rw [q9 _ (by unfold inb; omega)]; exact q1 j q3 hj, fun q3 => by rw [q9 _ (by unfold inb; omega)]; exact q2 q3⟩
theorem pfx_eu {χ : Nat → Nat} (hx : pfx χ) : ∀ n, n ≤ 6 → pfx (eu χ n) := by
  intro n
  induction n with
  | zero => intro _; exact hx
  | succ n ih =>
    intro hn
    by_cases q6 : eu χ n (16 * n) ≠ 0 ∧ grt (eu χ n) n 16 = 0
    · rw [eu_in q6]; exact pfx_ers (by omega) (ih (by omega))
    · rw [eu_out q6]; exact ih (by omega)
theorem pfx_tr {χ : Nat → Nat} {cu m : Nat} (hx : pfx χ) : ∀ n, n ≤ 6 → pfx (tr χ cu m n) := by
  intro n
  induction n with
  | zero => intro _; exact hx
  | succ n ih =>
    intro hn
    by_cases q6 : n ≠ cu ∧ tr χ cu m n (16 * n) ≠ 0 ∧ grt (tr χ cu m n) n 16 ≤ m
    · rw [(tr_in q6).1]; exact pfx_ers (by omega) (ih (by omega))
    · rw [(tr_out q6).1]; exact ih (by omega)
theorem xl_skip {x y z : Nat} (q1 : y ≤ x + z) : nI x - nI y + nI z = nI (x + z - y) := by
  rw [← pk_sub q1, ← nI_add, Int32.sub_eq_add_neg, Int32.sub_eq_add_neg, Int32.add_assoc, Int32.add_comm (-nI y) (nI z), ← Int32.add_assoc]
theorem mn_assoc (x y z : Nat) : mn (mn x y) z = mn x (mn y z) := by
  unfold mn
  (repeat' split) <;> omega

set_option maxHeartbeats 4000000 in
set_option maxRecDepth 100000 in
theorem c_X3_firstOf (l : Launch) (D : va_G) {cI : ClassId} (r : Nat → Nat) (th fp fa : Int32) (χ P : Nat → Nat) (hd tn cu fi ne ct on : Nat) (b : Nat) (hb6 : b < 6) (k : Nat) (hk : k < 16) (hχ : ∀ i, χ i < 65536) (hwf : wfs χ) (hrd : rdb χ b k) : Met l yX3_firstOf wsX3_firstOf ({ frames := 2, cells := 0, slots := 0, locals := 47 }) (va_Pc [.ref (r 0), .int (nI (16 * b + k))] (x_R D (tyM cI) (wM cI r th fp fa χ P hd tn cu fi ne ct on))) (vp_Si (fun x => x = nI (256 * byt χ b k 1 + byt χ b k 2))) 0 0 (fun _ => False) := by
  refine Met.ofW (cc := cX3_firstOf) (maxL := 2) (ret := (some .int)) (by decide) rfl ?_
  intro p e s m args below meth c s₁ B hml hv
  obtain ⟨rfl, hN, hP, hK⟩ := hv
  have hx := B.exec
  have hb := B.bytes
  have hr := B.returns
  have hts := atoms_spec (ws := wsX3_firstOf) B.pre
  have hown : s.vm.findClass RX3 = some m.cls := findClass_of_methodNamed B.named
  have hlocks := B.notSynchronized
  have hl := lv_entry ([.ref (r 0), .int (nI (16 * b + k))]) (n := 2) (Nat.le_of_ble_eq_true rfl)
  rw [lg_entry_eq]
  generalize (lg_sl ([.ref (r 0), .int (nI (16 * b + k))]) ++ List.replicate (2 - (lg_sl ([.ref (r 0), .int (nI (16 * b + k))])).length) Slot.unset).toArray = ls at hl ⊢
  have hl : lv_has ls 2 [(0, .ref (r 0)), (1, .int (nI (16 * b + k)))] := hl
  refine lv_sipush (v := nI 256) hx hb dX3_firstOf_0 (by decide) ?_
  refine lv_aload_n hx hb dX3_firstOf_3 rfl (lv_at hl 0 rfl) ?_
  refine lv_iload_n hx hb dX3_firstOf_4 rfl (lv_at hl 1 rfl) ?_
  refine lv_iconst (v := nI 1) hx hb dX3_firstOf_5 (by decide) ?_
  refine xc_Vi (ci := 3) (rest := [.int (nI (256))]) (As := [.int (nI (16 * b + k)), .int (nI (1))]) ⟨hx, hb, hml, hown, hts⟩ (c_X3_byteOf l D r th fp fa χ P hd tn cu fi ne ct on b hb6 k hk hχ 1 (by decide) hrd) (cwV 2 hts gX3_firstOf_X3_byteOf rfl rfl rfl (by decide +kernel) ⟨Nat.le_of_ble_eq_true rfl, Nat.le_of_ble_eq_true rfl⟩) hN hK (hP) rfl 0 rfl rfl hl.1 rfl (Nat.le_of_ble_eq_true rfl) dX3_firstOf_6 ⟨Nat.le_of_ble_eq_true rfl, Nat.le_of_ble_eq_true rfl⟩ (fun r_6 hw_6 => ?_)
  subst hw_6
  refine xr_mul hx hb dX3_firstOf_9 ?_
  refine lv_aload_n hx hb dX3_firstOf_10 rfl (lv_at hl 0 rfl) ?_
  refine lv_iload_n hx hb dX3_firstOf_11 rfl (lv_at hl 1 rfl) ?_
  refine lv_iconst (v := nI 2) hx hb dX3_firstOf_12 (by decide) ?_
  refine xc_Vi (ci := 3) (rest := [.int (nI (256 * (byt χ b k 1)))]) (As := [.int (nI (16 * b + k)), .int (nI (2))]) ⟨hx, hb, hml, hown, hts⟩ (c_X3_byteOf l D r th fp fa χ P hd tn cu fi ne ct on b hb6 k hk hχ 2 (by decide) hrd) (cwV 2 hts gX3_firstOf_X3_byteOf rfl rfl rfl (by decide +kernel) ⟨Nat.le_of_ble_eq_true rfl, Nat.le_of_ble_eq_true rfl⟩) hN hK (hP) rfl 0 rfl rfl hl.1 rfl (Nat.le_of_ble_eq_true rfl) dX3_firstOf_13 ⟨Nat.le_of_ble_eq_true rfl, Nat.le_of_ble_eq_true rfl⟩ (fun r_13 hw_13 => ?_)
  subst hw_13
  refine xr_add hx hb dX3_firstOf_16 ?_
  exact xe_i hx hb hr hlocks (rfl) rfl rfl dX3_firstOf_17
