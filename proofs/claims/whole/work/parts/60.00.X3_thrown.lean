/-! ===== the reference: its world over the same numbers ===== -/
def wM (cI : ClassId) (r : Nat → Nat) (t fp fa : Int32) (χ P : Nat → Nat) (hd tn cu fi ne ct on : Nat) : va_W := mX cI r t fp fa (fun j => χ j) (fun j => χ (1000 + j)) (fun j => χ (100 + j)) (fun j => χ (200 + j)) (fun j => χ (110 + j)) P hd tn cu fi ne ct on
theorem wM_eq {cI : ClassId} {r : Nat → Nat} {t fp fa : Int32} {S B GS GB ER χ P P' : Nat → Nat} {hd tn cu fi ne ct on : Nat} (h1 : ∀ j, j < 96 → S j = χ j) (h2 : ∀ j, j < 1536 → B j = χ (1000 + j)) (h3 : ∀ j, j < 6 → GS j = χ (100 + j)) (h4 : ∀ j, j < 102 → GB j = χ (200 + j)) (h5 : ∀ j, j < 6 → ER j = χ (110 + j)) (h6 : ∀ j, j < 16 → P j = P' j) : mX cI r t fp fa S B GS GB ER P hd tn cu fi ne ct on = wM cI r t fp fa χ P' hd tn cu fi ne ct on :=
  mX_eq h1 h2 h3 h4 h5 h6
/-- a block's pages are programmed in their order, and its guard page behind the lower ones -/
def pfx (χ : Nat → Nat) : Prop := ∀ b, b < 6 → (∀ j, plc χ b ≤ j → j < 16 → χ (16 * b + j) = 0) ∧ (plc χ b < 8 → χ (100 + b) = 0)
theorem nar_lt {v : Nat} (h : v < 2) : narrow .boolean (.int (nI v)) = .int (nI v) := by
  rcases (show v = 0 ∨ v = 1 by omega) with rfl | rfl <;> rfl

set_option maxHeartbeats 4000000 in
set_option maxRecDepth 100000 in
theorem c_X3_thrown (l : Launch) (D : va_G) {cI : ClassId} (r : Nat → Nat) (th fp fa : Int32) (χ P : Nat → Nat) (hd tn cu fi ne ct on : Nat) : Met l yX3_thrown wsX3_thrown ({ frames := 0, cells := 0, slots := 0, locals := 0 }) (va_Pc [.ref (r 0)] (x_R D (tyM cI) (wM cI r th fp fa χ P hd tn cu fi ne ct on))) (vp_Si (fun x => x = th)) 0 0 (fun _ => False) := by
  refine Met.ofW (cc := cX3_thrown) (maxL := 1) (ret := (some .int)) (by decide) rfl ?_
  intro p e s m args below meth c s₁ B hml hv
  obtain ⟨rfl, hN, hP, hK⟩ := hv
  have hx := B.exec
  have hb := B.bytes
  have hr := B.returns
  have hts := atoms_spec (ws := wsX3_thrown) B.pre
  have hown : s.vm.findClass RX3 = some m.cls := findClass_of_methodNamed B.named
  have hlocks := B.notSynchronized
  have hiX3 : ∀ w ∈ u_ws RX3 TX3 16, w ∈ wsX3_thrown := by decide +kernel
  have hl := lv_entry ([.ref (r 0)]) (n := 1) (Nat.le_of_ble_eq_true rfl)
  rw [lg_entry_eq]
  generalize (lg_sl ([.ref (r 0)]) ++ List.replicate (1 - (lg_sl ([.ref (r 0)])).length) Slot.unset).toArray = ls at hl ⊢
  have hl : lv_has ls 1 [(0, .ref (r 0))] := hl
  refine lv_aload_n hx hb dX3_thrown_0 rfl (lv_at hl 0 rfl) ?_
  refine va_get (D := D) (ci := 3) (v := .int (th)) (C := RX3) (T := TX3) (N := 16) hx hb hts hiX3 hown hK hP 0 rfl rfl 0 (by decide) (hts (.fieldLink RX3 36 "PairedCellsModel" "thrown" "I") (by decide +kernel)) (fun _ h9 => h9) rfl dX3_thrown_1 ?_
  exact xe_i hx hb hr hlocks (rfl) rfl rfl dX3_thrown_4
