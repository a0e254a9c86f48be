set_option maxHeartbeats 4000000 in
set_option maxRecDepth 100000 in
theorem c_X3_find (l : Launch) (D : va_G) {cI : ClassId} (r : Nat → Nat) (th fp fa : Int32) (χ O : Nat → Nat) (cu fi ne ct on : Nat) (k : Nat) (hk2 : k < ne) (hne : ne < 65536) (hχ : ∀ i, χ i < 65536) (hwf : wfs χ) (hwO : wf O) (hh : hdo O ne) (sz : Nat) : Met l yX3_find wsX3_find ({ frames := 4, cells := 0, slots := 0, locals := 89 }) (va_Pc [.ref (r 0), .int (nI (k))] (x_U D (tyM cI) (wM cI r th fp fa χ (opn O) (O 0) (pl O (O 0)) cu fi ne ct on) sz)) (va_Qv (fun (u : Int32 × Int32) => (hits O k ∧ u = (nI 96, nI (pl O (k - (256 * O 1 + O 2))))) ∨ (¬ hits O k ∧ hpg χ k 96 < 96 ∧ u = (nI (hpg χ k 96), nI (pl (byt χ (hpg χ k 96 / 16) (hpg χ k 96 % 16)) (k - (256 * byt χ (hpg χ k 96 / 16) (hpg χ k 96 % 16) 1 + byt χ (hpg χ k 96 / 16) (hpg χ k 96 % 16) 2))))) ∨ (¬ hits O k ∧ hpg χ k 96 = 96 ∧ u = (mI 0, nI 3))) (fun u t => x_E D (tyM cI) (va_A (wM cI r th fp fa χ (opn O) (O 0) (pl O (O 0)) cu fi ne ct on) sz) (wM cI r th u.1 u.2 χ (opn O) (O 0) (pl O (O 0)) cu fi ne ct on) t) (va_A (wM cI r th fp fa χ (opn O) (O 0) (pl O (O 0)) cu fi ne ct on) sz)) 0 0 (va_A (wM cI r th fp fa χ (opn O) (O 0) (pl O (O 0)) cu fi ne ct on) sz) := by
  refine Met.ofW (cc := cX3_find) (maxL := 4) (ret := none) (by decide) rfl ?_
  intro p e s m args below meth c s₁ B hml hv
  obtain ⟨rfl, hsz, hN, hP, hK, hD0⟩ := hv
  have hx := B.exec
  have hb := B.bytes
  have hr := B.returns
  have hts := atoms_spec (ws := wsX3_find) B.pre
  have hown : s.vm.findClass RX3 = some m.cls := findClass_of_methodNamed B.named
  have hlocks := B.notSynchronized
  subst hsz
  have hD := hD0.self (sz := s.heap.size)
  generalize hAe : va_A (wM cI r th fp fa χ (opn O) (O 0) (pl O (O 0)) cu fi ne ct on) s.heap.size = A at hD ⊢
  have hA : ∀ q : Nat, s.heap.size ≤ q → A q := fun q h => by rw [← hAe]; exact Or.inr h
  obtain ⟨H, hH⟩ : ∃ H : Heap, s.heap = H := ⟨_, rfl⟩
  obtain ⟨locs, hlo⟩ : ∃ L : List Loc, ([] : List Loc) = L := ⟨_, rfl⟩
  have hS : va_S A s.heap H locs := by rw [← hH, ← hlo]; exact va_S.rf
  have hP : va_P D vwCl (wM cI r th fp fa χ (opn O) (O 0) (pl O (O 0)) cu fi ne ct on) H := hH ▸ hP
  rw [hH, hlo]
  have hiX3 : ∀ w ∈ u_ws RX3 TX3 16, w ∈ wsX3_find := by decide +kernel
  have hl := lv_entry ([.ref (r 0), .int (nI (k))]) (n := 4) (Nat.le_of_ble_eq_true rfl)
  rw [lg_entry_eq]
  generalize (lg_sl ([.ref (r 0), .int (nI (k))]) ++ List.replicate (4 - (lg_sl ([.ref (r 0), .int (nI (k))])).length) Slot.unset).toArray = ls at hl ⊢
  have hl : lv_has ls 4 [(0, .ref (r 0)), (1, .int (nI (k)))] := hl
  have hO9 := hwO.1
  have hh1 := hh.1
  refine lv_aload_n hx hb dX3_find_0 rfl (lv_at hl 0 rfl) ?_
  refine lv_iconst (v := mI 0) hx hb dX3_find_1 (by decide) ?_
  refine va_put (D := D) (ci := 3) (v := .int (mI (0))) (ty := .int) (C := RX3) (T := TX3) (N := 16) hx hb hts hiX3 tyX3 tyX3_ok nmX3 hown hK hP hD hS 0 rfl rfl 14 (by decide) (hts (.fieldLink RX3 110 "PairedCellsModel" "foundPage" "I") (by decide +kernel)) (fun _ h9 => h9) rfl (by decide +kernel) rfl rfl (Nat.le_of_ble_eq_true rfl) dX3_find_2 (fun H locs hP hD hS => ?_)
  have hP : va_P D vwCl (wM cI r th (mI (0)) fa χ (opn O) (O 0) (pl O (O 0)) cu fi ne ct on) H := hP
  have hD : va_D A (wM cI r th (mI (0)) fa χ (opn O) (O 0) (pl O (O 0)) cu fi ne ct on) := hD
  refine lv_aload_n hx hb dX3_find_5 rfl (lv_at hl 0 rfl) ?_
  refine lv_iconst (v := nI 3) hx hb dX3_find_6 (by decide) ?_
  refine va_put (D := D) (ci := 3) (v := .int (nI (3))) (ty := .int) (C := RX3) (T := TX3) (N := 16) hx hb hts hiX3 tyX3 tyX3_ok nmX3 hown hK hP hD hS 0 rfl rfl 15 (by decide) (hts (.fieldLink RX3 113 "PairedCellsModel" "foundAt" "I") (by decide +kernel)) (fun _ h9 => h9) rfl (by decide +kernel) rfl rfl (Nat.le_of_ble_eq_true rfl) dX3_find_7 (fun H locs hP hD hS => ?_)
  have hP : va_P D vwCl (wM cI r th (mI (0)) (nI (3)) χ (opn O) (O 0) (pl O (O 0)) cu fi ne ct on) H := hP
  have hD : va_D A (wM cI r th (mI (0)) (nI (3)) χ (opn O) (O 0) (pl O (O 0)) cu fi ne ct on) := hD
  refine lv_iconst (v := nI 0) hx hb dX3_find_10 (by decide) ?_
  refine lv_istore_n (lv' := [(2, .int (nI (0))), (0, .ref (r 0)), (1, .int (nI (k)))]) hx hb dX3_find_11 rfl hl (by decide) rfl (fun ls hl => ?_)
  refine lv_iload_n hx hb dX3_find_12 rfl (lv_at hl 2 rfl) ?_
  refine lv_aload_n hx hb dX3_find_13 rfl (lv_at hl 1 rfl) ?_
  refine va_get (D := D) (ci := 3) (v := .int (nI (ne))) (C := RX3) (T := TX3) (N := 16) hx hb hts hiX3 hown hK hP 0 rfl rfl 10 (by decide) (hts (.fieldLink RX3 73 "PairedCellsModel" "next" "I") (by decide +kernel)) (fun _ h9 => h9) rfl dX3_find_14 ?_
  refine lv_aload_n hx hb dX3_find_17 rfl (lv_at hl 1 rfl) ?_
  refine va_get (D := D) (ci := 3) (v := .int (nI ((O 0)))) (C := RX3) (T := TX3) (N := 16) hx hb hts hiX3 hown hK hP 0 rfl rfl 11 (by decide) (hts (.fieldLink RX3 67 "PairedCellsModel" "held" "I") (by decide +kernel)) (fun _ h9 => h9) rfl dX3_find_18 ?_
  refine xr_sub hx hb (by omega) dX3_find_21 ?_
  refine xi_lt (tgt := 43) hx hb dX3_find_22 (by decide) (nI_toInt (by omega)) (nI_toInt (by omega)) (fun c_22 => ?_) (fun c_22 => ?_)
  · have hno : ¬ hits O k := fun ⟨h7, h8, h9⟩ => by have h6 := hh.2 h7; omega
    refine lv_iconst (v := nI 0) hx hb dX3_find_43 (by decide) ?_
    refine lv_istore_n (lv' := [(3, .int (nI (0))), (2, .int (nI (0))), (0, .ref (r 0)), (1, .int (nI (k)))]) hx hb dX3_find_44 rfl hl (by decide) rfl (fun ls hl => ?_)
    refine lpW (α := Nat × Nat × Nat) (fun (j, f, s5) H locs => (j ≤ 96 ∧ ((f = 0 ∧ s5 = 0 ∧ ∀ i, i < j → ¬ hit χ k i) ∨ ∃ b9 k9, b9 < 6 ∧ k9 < 16 ∧ f = 16 * b9 + k9 + 1 ∧ rdb χ b9 k9 ∧ hits (byt χ b9 k9) k ∧ s5 = k - (256 * byt χ b9 k9 1 + byt χ b9 k9 2) ∧ ∀ i, i < 16 * b9 + k9 → ¬ hit χ k i)) ∧ va_P D vwCl (wM cI r th (mI (f)) (nI (3)) χ (opn O) (O 0) (pl O (O 0)) cu fi ne ct on) H ∧ va_D A (wM cI r th (mI (f)) (nI (3)) χ (opn O) (O 0) (pl O (O 0)) cu fi ne ct on) ∧ va_S A s.heap H locs) (fun (j, f, s5) => [(0, .ref (r 0)), (1, .int (nI (k))), (2, .int (nI (s5))), (3, .int (nI (j)))]) 4 (fun (j, f, s5) => 96 - j) (0, 0, 0) (⟨⟨by omega, Or.inl ⟨rfl, rfl, fun i hi => absurd hi (Nat.not_lt_zero i)⟩⟩, hP, hD, hS⟩) (lv_sub hl [2, 3, 1, 0] rfl) (fun s9 H locs ls hI9 hl9 ih_45 => ?_)
    obtain ⟨j, f, s5⟩ := s9
    have hl : lv_has ls 4 [(0, .ref (r 0)), (1, .int (nI (k))), (2, .int (nI (s5))), (3, .int (nI (j)))] := hl9
    obtain ⟨⟨hj, hv⟩, hP, hD, hS⟩ : (j ≤ 96 ∧ ((f = 0 ∧ s5 = 0 ∧ ∀ i, i < j → ¬ hit χ k i) ∨ ∃ b9 k9, b9 < 6 ∧ k9 < 16 ∧ f = 16 * b9 + k9 + 1 ∧ rdb χ b9 k9 ∧ hits (byt χ b9 k9) k ∧ s5 = k - (256 * byt χ b9 k9 1 + byt χ b9 k9 2) ∧ ∀ i, i < 16 * b9 + k9 → ¬ hit χ k i)) ∧ va_P D vwCl (wM cI r th (mI (f)) (nI (3)) χ (opn O) (O 0) (pl O (O 0)) cu fi ne ct on) H ∧ va_D A (wM cI r th (mI (f)) (nI (3)) χ (opn O) (O 0) (pl O (O 0)) cu fi ne ct on) ∧ va_S A s.heap H locs := hI9
    refine lv_iload_n hx hb dX3_find_45 rfl (lv_at hl 3 rfl) ?_
    refine lv_bipush (v := nI 96) hx hb dX3_find_46 (by decide) ?_
    refine xi_ge (tgt := 103) hx hb dX3_find_48 (by decide) (nI_toInt (by omega)) (nI_toInt (by omega)) (fun c_48 => ?_) (fun c_48 => ?_)
    · rcases hv with ⟨hf1, hf2, hf3⟩ | ⟨b9, k9, hb9, hk9, hf1, hrd, hht, hf2, hf3⟩
      · rw [hf1] at hP hD
        rw [hf2] at hl
        have hP : va_P D vwCl (wM cI r th (mI (0)) (nI (3)) χ (opn O) (O 0) (pl O (O 0)) cu fi ne ct on) H := hP
        have hD : va_D A (wM cI r th (mI (0)) (nI (3)) χ (opn O) (O 0) (pl O (O 0)) cu fi ne ct on) := hD
        have hlo : hpg χ k 96 = 96 := (hpg_eq (Nat.le_refl 96) (fun i hi => hf3 i (by omega)) (fun h7 => absurd h7 (Nat.lt_irrefl 96))).symm
        refine lv_iconst (v := nI 0) hx hb dX3_find_103 (by decide) ?_
        refine lv_istore_n (lv' := [(3, .int (nI (0))), (0, .ref (r 0)), (1, .int (nI (k))), (2, .int (nI (0)))]) hx hb dX3_find_104 rfl hl (by decide) rfl (fun ls hl => ?_)
        refine lv_iload_n hx hb dX3_find_105 rfl (lv_at hl 0 rfl) ?_
        refine lv_iload_n hx hb dX3_find_106 rfl (lv_at hl 3 rfl) ?_
        refine xi_ge (tgt := 135) hx hb dX3_find_107 (by decide) (nI_toInt (by omega)) (nI_toInt (by omega)) (fun c_107 => ?_) (fun c_107 => ?_)
        · exact xf_v (post := fun (u : Int32 × Int32) => (hits O k ∧ u = (nI 96, nI (pl O (k - (256 * O 1 + O 2))))) ∨ (¬ hits O k ∧ hpg χ k 96 < 96 ∧ u = (nI (hpg χ k 96), nI (pl (byt χ (hpg χ k 96 / 16) (hpg χ k 96 % 16)) (k - (256 * byt χ (hpg χ k 96 / 16) (hpg χ k 96 % 16) 1 + byt χ (hpg χ k 96 / 16) (hpg χ k 96 % 16) 2))))) ∨ (¬ hits O k ∧ hpg χ k 96 = 96 ∧ u = (mI 0, nI 3))) (w1 := fun (u : Int32 × Int32) => wM cI r th u.1 u.2 χ (opn O) (O 0) (pl O (O 0)) cu fi ne ct on) (mI 0, nI 3) hx hb hr hlocks (Or.inr (Or.inr ⟨hno, hlo, rfl⟩)) hP hK hD hS dX3_find_135
        · exfalso; omega
      · have hnw : mI f = nI (16 * b9 + k9) := by rw [hf1]; exact (nI_mI _).symm
        rw [hnw] at hP hD
        rw [hf2] at hl
        have hP : va_P D vwCl (wM cI r th (nI (16 * b9 + k9)) (nI (3)) χ (opn O) (O 0) (pl O (O 0)) cu fi ne ct on) H := hP
        have hD : va_D A (wM cI r th (nI (16 * b9 + k9)) (nI (3)) χ (opn O) (O 0) (pl O (O 0)) cu fi ne ct on) := hD
        have hpe : 16 * b9 + k9 = hpg χ k 96 := hpg_eq (by omega) hf3 (fun _ => by unfold hit; rw [show (16 * b9 + k9) / 16 = b9 by omega, show (16 * b9 + k9) % 16 = k9 by omega]; exact ⟨hrd, hht⟩)
        have hw9 := hwf b9 k9 hb9 hk9 hrd
        obtain ⟨hh0, hh1, hh2⟩ := hht
        refine lv_iconst (v := nI 0) hx hb dX3_find_103 (by decide) ?_
        refine lv_istore_n (lv' := [(3, .int (nI (0))), (0, .ref (r 0)), (1, .int (nI (k))), (2, .int (nI (k - (256 * byt χ b9 k9 1 + byt χ b9 k9 2))))]) hx hb dX3_find_104 rfl hl (by decide) rfl (fun ls hl => ?_)
        refine lpW (α := Nat) (fun z H locs => (z ≤ k - (256 * byt χ b9 k9 1 + byt χ b9 k9 2)) ∧ va_P D vwCl (wM cI r th (nI (16 * b9 + k9)) (nI (pl (byt χ b9 k9) z)) χ (opn O) (O 0) (pl O (O 0)) cu fi ne ct on) H ∧ va_D A (wM cI r th (nI (16 * b9 + k9)) (nI (pl (byt χ b9 k9) z)) χ (opn O) (O 0) (pl O (O 0)) cu fi ne ct on) ∧ va_S A s.heap H locs) (fun z => [(0, .ref (r 0)), (1, .int (nI (k))), (2, .int (nI (k - (256 * byt χ b9 k9 1 + byt χ b9 k9 2)))), (3, .int (nI (z)))]) 4 (fun z => k - (256 * byt χ b9 k9 1 + byt χ b9 k9 2) - z) 0 (⟨Nat.zero_le _, hP, hD, hS⟩) (lv_sub hl [1, 2, 3, 0] rfl) (fun s9 H locs ls hI9 hl9 ih_105 => ?_)
        obtain ⟨z, rfl⟩ : ∃ z, z = s9 := ⟨_, rfl⟩
        have hl : lv_has ls 4 [(0, .ref (r 0)), (1, .int (nI (k))), (2, .int (nI (k - (256 * byt χ b9 k9 1 + byt χ b9 k9 2)))), (3, .int (nI (z)))] := hl9
        obtain ⟨hz, hP, hD, hS⟩ : (z ≤ k - (256 * byt χ b9 k9 1 + byt χ b9 k9 2)) ∧ va_P D vwCl (wM cI r th (nI (16 * b9 + k9)) (nI (pl (byt χ b9 k9) z)) χ (opn O) (O 0) (pl O (O 0)) cu fi ne ct on) H ∧ va_D A (wM cI r th (nI (16 * b9 + k9)) (nI (pl (byt χ b9 k9) z)) χ (opn O) (O 0) (pl O (O 0)) cu fi ne ct on) ∧ va_S A s.heap H locs := hI9
        refine lv_iload_n hx hb dX3_find_105 rfl (lv_at hl 3 rfl) ?_
        refine lv_iload_n hx hb dX3_find_106 rfl (lv_at hl 2 rfl) ?_
        refine xi_ge (tgt := 135) hx hb dX3_find_107 (by decide) (nI_toInt (by omega)) (nI_toInt (by omega)) (fun c_107 => ?_) (fun c_107 => ?_)
        · have hz9 : z = k - (256 * byt χ b9 k9 1 + byt χ b9 k9 2) := by omega
          have hb8 : hpg χ k 96 / 16 = b9 := by omega
          have hk8 : hpg χ k 96 % 16 = k9 := by omega
          have hq9 : (wM cI r th (nI (16 * b9 + k9)) (nI (pl (byt χ b9 k9) z)) χ (opn O) (O 0) (pl O (O 0)) cu fi ne ct on : va_W) = wM cI r th (nI (16 * b9 + k9)) (nI (pl (byt χ b9 k9) (k - (256 * byt χ b9 k9 1 + byt χ b9 k9 2)))) χ (opn O) (O 0) (pl O (O 0)) cu fi ne ct on := (by rw [hz9])
          exact xf_v (post := fun (u : Int32 × Int32) => (hits O k ∧ u = (nI 96, nI (pl O (k - (256 * O 1 + O 2))))) ∨ (¬ hits O k ∧ hpg χ k 96 < 96 ∧ u = (nI (hpg χ k 96), nI (pl (byt χ (hpg χ k 96 / 16) (hpg χ k 96 % 16)) (k - (256 * byt χ (hpg χ k 96 / 16) (hpg χ k 96 % 16) 1 + byt χ (hpg χ k 96 / 16) (hpg χ k 96 % 16) 2))))) ∨ (¬ hits O k ∧ hpg χ k 96 = 96 ∧ u = (mI 0, nI 3))) (w1 := fun (u : Int32 × Int32) => wM cI r th u.1 u.2 χ (opn O) (O 0) (pl O (O 0)) cu fi ne ct on) (nI (16 * b9 + k9), nI (pl (byt χ b9 k9) (k - (256 * byt χ b9 k9 1 + byt χ b9 k9 2)))) hx hb hr hlocks (Or.inr (Or.inl ⟨hno, by omega, by rw [hb8, hk8, ← hpe]⟩)) (va_P.eqw hq9 hP) hK (va_D.eqw hq9 hD) hS dX3_find_135
        · refine lv_aload_n hx hb dX3_find_110 rfl (lv_at hl 0 rfl) ?_
          refine lv_dup hx hb dX3_find_111 rfl ?_
          refine va_get (D := D) (ci := 3) (v := .int (nI (pl (byt χ b9 k9) z))) (C := RX3) (T := TX3) (N := 16) hx hb hts hiX3 hown hK hP 0 rfl rfl 15 (by decide) (hts (.fieldLink RX3 113 "PairedCellsModel" "foundAt" "I") (by decide +kernel)) (fun _ h9 => h9) rfl dX3_find_112 ?_
          refine lv_iconst (v := nI 1) hx hb dX3_find_115 (by decide) ?_
          refine lv_aload_n hx hb dX3_find_116 rfl (lv_at hl 0 rfl) ?_
          refine lv_aload_n hx hb dX3_find_117 rfl (lv_at hl 0 rfl) ?_
          refine va_get (D := D) (ci := 3) (v := .int (nI (pl (byt χ b9 k9) z))) (C := RX3) (T := TX3) (N := 16) hx hb hts hiX3 hown hK hP 0 rfl rfl 15 (by decide) (hts (.fieldLink RX3 113 "PairedCellsModel" "foundAt" "I") (by decide +kernel)) (fun _ h9 => h9) rfl dX3_find_118 ?_
          have hp9 := pl_lt hw9 (show z < (byt χ b9 k9) 0 by omega)
          have hp3 := pl_three (O := (byt χ b9 k9)) z
          refine xc_Vi (ci := 3) (rest := [.int (nI (1)), .int (nI (pl (byt χ b9 k9) z)), .ref (r 0)]) (As := [.int (nI (pl (byt χ b9 k9) z))]) ⟨hx, hb, hml, hown, hts⟩ (c_X3_foundByte_p l D r th (nI (pl (byt χ b9 k9) z)) χ O cu fi ne ct on b9 k9 hb9 hk9 hχ (pl (byt χ b9 k9) z) (by omega) hrd) (cwV 1 hts gX3_find_X3_foundByte rfl rfl rfl (by decide +kernel) ⟨Nat.le_of_ble_eq_true rfl, Nat.le_of_ble_eq_true rfl⟩) hN hK (hP) rfl 0 rfl rfl hl.1 rfl (Nat.le_of_ble_eq_true rfl) dX3_find_121 ⟨Nat.le_of_ble_eq_true rfl, Nat.le_of_ble_eq_true rfl⟩ (fun r_121 hw_121 => ?_)
          subst hw_121
          refine xr_add hx hb dX3_find_124 ?_
          refine xr_add hx hb dX3_find_125 ?_
          refine xr_nat (x' := pl (byt χ b9 k9) (z + 1)) (by show _ = pl (byt χ b9 k9) z + 1 + (byt χ b9 k9) (pl (byt χ b9 k9) z); omega) ?_
          refine va_put (D := D) (ci := 3) (v := .int (nI (pl (byt χ b9 k9) (z + 1)))) (ty := .int) (C := RX3) (T := TX3) (N := 16) hx hb hts hiX3 tyX3 tyX3_ok nmX3 hown hK hP hD hS 0 rfl rfl 15 (by decide) (hts (.fieldLink RX3 113 "PairedCellsModel" "foundAt" "I") (by decide +kernel)) (fun _ h9 => h9) rfl (by decide +kernel) rfl rfl (Nat.le_of_ble_eq_true rfl) dX3_find_126 (fun H locs hP hD hS => ?_)
          have hP : va_P D vwCl (wM cI r th (nI (16 * b9 + k9)) (nI (pl (byt χ b9 k9) (z + 1))) χ (opn O) (O 0) (pl O (O 0)) cu fi ne ct on) H := hP
          have hD : va_D A (wM cI r th (nI (16 * b9 + k9)) (nI (pl (byt χ b9 k9) (z + 1))) χ (opn O) (O 0) (pl O (O 0)) cu fi ne ct on) := hD
          refine lv_iinc (v := nI (z + 1)) (lv' := [(3, .int (nI (z + 1))), (0, .ref (r 0)), (1, .int (nI (k))), (2, .int (nI (k - (256 * byt χ b9 k9 1 + byt χ b9 k9 2))))]) hx hb dX3_find_129 hl (k := 3) rfl (nI_add _ _) (by decide) rfl (fun ls hl => ?_)
          refine lv_goto (tgt := 105) hx hb dX3_find_132 (by decide) ?_
          exact ih_105 (z + 1) _ _ _ (⟨by omega, hP, hD, hS⟩) (by first | omega | (dsimp only; omega)) (lv_sub hl [1, 2, 3, 0] rfl)
    · refine lv_aload_n hx hb dX3_find_51 rfl (lv_at hl 0 rfl) ?_
      refine va_get (D := D) (ci := 3) (v := .int (mI (f))) (C := RX3) (T := TX3) (N := 16) hx hb hts hiX3 hown hK hP 0 rfl rfl 14 (by decide) (hts (.fieldLink RX3 110 "PairedCellsModel" "foundPage" "I") (by decide +kernel)) (fun _ h9 => h9) rfl dX3_find_52 ?_
      refine xz_ge (tgt := 103) hx hb dX3_find_55 (by decide) (mI_toInt (by omega)) (fun c_55 => ?_) (fun c_55 => ?_)
      · rcases hv with ⟨hf1, hf2, hf3⟩ | ⟨b9, k9, hb9, hk9, hf1, hrd, hht, hf2, hf3⟩
        · rw [hf1] at hP hD
          rw [hf2] at hl
          have hP : va_P D vwCl (wM cI r th (mI (0)) (nI (3)) χ (opn O) (O 0) (pl O (O 0)) cu fi ne ct on) H := hP
          have hD : va_D A (wM cI r th (mI (0)) (nI (3)) χ (opn O) (O 0) (pl O (O 0)) cu fi ne ct on) := hD
          have hlo : hpg χ k 96 = 96 := (hpg_eq (Nat.le_refl 96) (fun i hi => hf3 i (by omega)) (fun h7 => absurd h7 (Nat.lt_irrefl 96))).symm
          refine lv_iconst (v := nI 0) hx hb dX3_find_103 (by decide) ?_
          refine lv_istore_n (lv' := [(3, .int (nI (0))), (0, .ref (r 0)), (1, .int (nI (k))), (2, .int (nI (0)))]) hx hb dX3_find_104 rfl hl (by decide) rfl (fun ls hl => ?_)
          refine lv_iload_n hx hb dX3_find_105 rfl (lv_at hl 0 rfl) ?_
          refine lv_iload_n hx hb dX3_find_106 rfl (lv_at hl 3 rfl) ?_
          refine xi_ge (tgt := 135) hx hb dX3_find_107 (by decide) (nI_toInt (by omega)) (nI_toInt (by omega)) (fun c_107 => ?_) (fun c_107 => ?_)
          · exact xf_v (post := fun (u : Int32 × Int32) => (hits O k ∧ u = (nI 96, nI (pl O (k - (256 * O 1 + O 2))))) ∨ (¬ hits O k ∧ hpg χ k 96 < 96 ∧ u = (nI (hpg χ k 96), nI (pl (byt χ (hpg χ k 96 / 16) (hpg χ k 96 % 16)) (k - (256 * byt χ (hpg χ k 96 / 16) (hpg χ k 96 % 16) 1 + byt χ (hpg χ k 96 / 16) (hpg χ k 96 % 16) 2))))) ∨ (¬ hits O k ∧ hpg χ k 96 = 96 ∧ u = (mI 0, nI 3))) (w1 := fun (u : Int32 × Int32) => wM cI r th u.1 u.2 χ (opn O) (O 0) (pl O (O 0)) cu fi ne ct on) (mI 0, nI 3) hx hb hr hlocks (Or.inr (Or.inr ⟨hno, hlo, rfl⟩)) hP hK hD hS dX3_find_135
          · exfalso; omega
        · have hnw : mI f = nI (16 * b9 + k9) := by rw [hf1]; exact (nI_mI _).symm
          rw [hnw] at hP hD
          rw [hf2] at hl
          have hP : va_P D vwCl (wM cI r th (nI (16 * b9 + k9)) (nI (3)) χ (opn O) (O 0) (pl O (O 0)) cu fi ne ct on) H := hP
          have hD : va_D A (wM cI r th (nI (16 * b9 + k9)) (nI (3)) χ (opn O) (O 0) (pl O (O 0)) cu fi ne ct on) := hD
          have hpe : 16 * b9 + k9 = hpg χ k 96 := hpg_eq (by omega) hf3 (fun _ => by unfold hit; rw [show (16 * b9 + k9) / 16 = b9 by omega, show (16 * b9 + k9) % 16 = k9 by omega]; exact ⟨hrd, hht⟩)
          have hw9 := hwf b9 k9 hb9 hk9 hrd
          obtain ⟨hh0, hh1, hh2⟩ := hht
          refine lv_iconst (v := nI 0) hx hb dX3_find_103 (by decide) ?_
          refine lv_istore_n (lv' := [(3, .int (nI (0))), (0, .ref (r 0)), (1, .int (nI (k))), (2, .int (nI (k - (256 * byt χ b9 k9 1 + byt χ b9 k9 2))))]) hx hb dX3_find_104 rfl hl (by decide) rfl (fun ls hl => ?_)
          refine lpW (α := Nat) (fun z H locs => (z ≤ k - (256 * byt χ b9 k9 1 + byt χ b9 k9 2)) ∧ va_P D vwCl (wM cI r th (nI (16 * b9 + k9)) (nI (pl (byt χ b9 k9) z)) χ (opn O) (O 0) (pl O (O 0)) cu fi ne ct on) H ∧ va_D A (wM cI r th (nI (16 * b9 + k9)) (nI (pl (byt χ b9 k9) z)) χ (opn O) (O 0) (pl O (O 0)) cu fi ne ct on) ∧ va_S A s.heap H locs) (fun z => [(0, .ref (r 0)), (1, .int (nI (k))), (2, .int (nI (k - (256 * byt χ b9 k9 1 + byt χ b9 k9 2)))), (3, .int (nI (z)))]) 4 (fun z => k - (256 * byt χ b9 k9 1 + byt χ b9 k9 2) - z) 0 (⟨Nat.zero_le _, hP, hD, hS⟩) (lv_sub hl [1, 2, 3, 0] rfl) (fun s9 H locs ls hI9 hl9 ih_105 => ?_)
          obtain ⟨z, rfl⟩ : ∃ z, z = s9 := ⟨_, rfl⟩
          have hl : lv_has ls 4 [(0, .ref (r 0)), (1, .int (nI (k))), (2, .int (nI (k - (256 * byt χ b9 k9 1 + byt χ b9 k9 2)))), (3, .int (nI (z)))] := hl9
          obtain ⟨hz, hP, hD, hS⟩ : (z ≤ k - (256 * byt χ b9 k9 1 + byt χ b9 k9 2)) ∧ va_P D vwCl (wM cI r th (nI (16 * b9 + k9)) (nI (pl (byt χ b9 k9) z)) χ (opn O) (O 0) (pl O (O 0)) cu fi ne ct on) H ∧ va_D A (wM cI r th (nI (16 * b9 + k9)) (nI (pl (byt χ b9 k9) z)) χ (opn O) (O 0) (pl O (O 0)) cu fi ne ct on) ∧ va_S A s.heap H locs := hI9
          refine lv_iload_n hx hb dX3_find_105 rfl (lv_at hl 3 rfl) ?_
          refine lv_iload_n hx hb dX3_find_106 rfl (lv_at hl 2 rfl) ?_
          refine xi_ge (tgt := 135) hx hb dX3_find_107 (by decide) (nI_toInt (by omega)) (nI_toInt (by omega)) (fun c_107 => ?_) (fun c_107 => ?_)
          · have hz9 : z = k - (256 * byt χ b9 k9 1 + byt χ b9 k9 2) := by omega
            have hb8 : hpg χ k 96 / 16 = b9 := by omega
            have hk8 : hpg χ k 96 % 16 = k9 := by omega
            have hq9 : (wM cI r th (nI (16 * b9 + k9)) (nI (pl (byt χ b9 k9) z)) χ (opn O) (O 0) (pl O (O 0)) cu fi ne ct on : va_W) = wM cI r th (nI (16 * b9 + k9)) (nI (pl (byt χ b9 k9) (k - (256 * byt χ b9 k9 1 + byt χ b9 k9 2)))) χ (opn O) (O 0) (pl O (O 0)) cu fi ne ct on := (by rw [hz9])
            exact xf_v (post := fun (u : Int32 × Int32) => (hits O k ∧ u = (nI 96, nI (pl O (k - (256 * O 1 + O 2))))) ∨ (¬ hits O k ∧ hpg χ k 96 < 96 ∧ u = (nI (hpg χ k 96), nI (pl (byt χ (hpg χ k 96 / 16) (hpg χ k 96 % 16)) (k - (256 * byt χ (hpg χ k 96 / 16) (hpg χ k 96 % 16) 1 + byt χ (hpg χ k 96 / 16) (hpg χ k 96 % 16) 2))))) ∨ (¬ hits O k ∧ hpg χ k 96 = 96 ∧ u = (mI 0, nI 3))) (w1 := fun (u : Int32 × Int32) => wM cI r th u.1 u.2 χ (opn O) (O 0) (pl O (O 0)) cu fi ne ct on) (nI (16 * b9 + k9), nI (pl (byt χ b9 k9) (k - (256 * byt χ b9 k9 1 + byt χ b9 k9 2)))) hx hb hr hlocks (Or.inr (Or.inl ⟨hno, by omega, by rw [hb8, hk8, ← hpe]⟩)) (va_P.eqw hq9 hP) hK (va_D.eqw hq9 hD) hS dX3_find_135
          · refine lv_aload_n hx hb dX3_find_110 rfl (lv_at hl 0 rfl) ?_
            refine lv_dup hx hb dX3_find_111 rfl ?_
            refine va_get (D := D) (ci := 3) (v := .int (nI (pl (byt χ b9 k9) z))) (C := RX3) (T := TX3) (N := 16) hx hb hts hiX3 hown hK hP 0 rfl rfl 15 (by decide) (hts (.fieldLink RX3 113 "PairedCellsModel" "foundAt" "I") (by decide +kernel)) (fun _ h9 => h9) rfl dX3_find_112 ?_
            refine lv_iconst (v := nI 1) hx hb dX3_find_115 (by decide) ?_
            refine lv_aload_n hx hb dX3_find_116 rfl (lv_at hl 0 rfl) ?_
            refine lv_aload_n hx hb dX3_find_117 rfl (lv_at hl 0 rfl) ?_
            refine va_get (D := D) (ci := 3) (v := .int (nI (pl (byt χ b9 k9) z))) (C := RX3) (T := TX3) (N := 16) hx hb hts hiX3 hown hK hP 0 rfl rfl 15 (by decide) (hts (.fieldLink RX3 113 "PairedCellsModel" "foundAt" "I") (by decide +kernel)) (fun _ h9 => h9) rfl dX3_find_118 ?_
            have hp9 := pl_lt hw9 (show z < (byt χ b9 k9) 0 by omega)
            have hp3 := pl_three (O := (byt χ b9 k9)) z
            refine xc_Vi (ci := 3) (rest := [.int (nI (1)), .int (nI (pl (byt χ b9 k9) z)), .ref (r 0)]) (As := [.int (nI (pl (byt χ b9 k9) z))]) ⟨hx, hb, hml, hown, hts⟩ (c_X3_foundByte_p l D r th (nI (pl (byt χ b9 k9) z)) χ O cu fi ne ct on b9 k9 hb9 hk9 hχ (pl (byt χ b9 k9) z) (by omega) hrd) (cwV 1 hts gX3_find_X3_foundByte rfl rfl rfl (by decide +kernel) ⟨Nat.le_of_ble_eq_true rfl, Nat.le_of_ble_eq_true rfl⟩) hN hK (hP) rfl 0 rfl rfl hl.1 rfl (Nat.le_of_ble_eq_true rfl) dX3_find_121 ⟨Nat.le_of_ble_eq_true rfl, Nat.le_of_ble_eq_true rfl⟩ (fun r_121 hw_121 => ?_)
            subst hw_121
            refine xr_add hx hb dX3_find_124 ?_
            refine xr_add hx hb dX3_find_125 ?_
            refine xr_nat (x' := pl (byt χ b9 k9) (z + 1)) (by show _ = pl (byt χ b9 k9) z + 1 + (byt χ b9 k9) (pl (byt χ b9 k9) z); omega) ?_
            refine va_put (D := D) (ci := 3) (v := .int (nI (pl (byt χ b9 k9) (z + 1)))) (ty := .int) (C := RX3) (T := TX3) (N := 16) hx hb hts hiX3 tyX3 tyX3_ok nmX3 hown hK hP hD hS 0 rfl rfl 15 (by decide) (hts (.fieldLink RX3 113 "PairedCellsModel" "foundAt" "I") (by decide +kernel)) (fun _ h9 => h9) rfl (by decide +kernel) rfl rfl (Nat.le_of_ble_eq_true rfl) dX3_find_126 (fun H locs hP hD hS => ?_)
            have hP : va_P D vwCl (wM cI r th (nI (16 * b9 + k9)) (nI (pl (byt χ b9 k9) (z + 1))) χ (opn O) (O 0) (pl O (O 0)) cu fi ne ct on) H := hP
            have hD : va_D A (wM cI r th (nI (16 * b9 + k9)) (nI (pl (byt χ b9 k9) (z + 1))) χ (opn O) (O 0) (pl O (O 0)) cu fi ne ct on) := hD
            refine lv_iinc (v := nI (z + 1)) (lv' := [(3, .int (nI (z + 1))), (0, .ref (r 0)), (1, .int (nI (k))), (2, .int (nI (k - (256 * byt χ b9 k9 1 + byt χ b9 k9 2))))]) hx hb dX3_find_129 hl (k := 3) rfl (nI_add _ _) (by decide) rfl (fun ls hl => ?_)
            refine lv_goto (tgt := 105) hx hb dX3_find_132 (by decide) ?_
            exact ih_105 (z + 1) _ _ _ (⟨by omega, hP, hD, hS⟩) (by first | omega | (dsimp only; omega)) (lv_sub hl [1, 2, 3, 0] rfl)
      · obtain ⟨hf1, hf2, hf3⟩ := hv.resolve_right (fun ⟨b9, k9, _, _, h7, _⟩ => by omega)
        obtain ⟨b9, k9, hk9, hj9⟩ : ∃ b9 k9, k9 < 16 ∧ j = 16 * b9 + k9 := ⟨j / 16, j % 16, by omega, by omega⟩
        subst hj9
        have hb6 : b9 < 6 := by omega
        refine lv_aload_n hx hb dX3_find_58 rfl (lv_at hl 0 rfl) ?_
        refine lv_iload_n hx hb dX3_find_59 rfl (lv_at hl 3 rfl) ?_
        refine xc_Vi (ci := 3) (rest := []) (As := [.int (nI (16 * b9 + k9))]) ⟨hx, hb, hml, hown, hts⟩ (c_X3_isReadable l D r th (mI f) (nI 3) χ (opn O) (O 0) (pl O (O 0)) cu fi ne ct on b9 hb6 k9 hk9 hχ) (cwV 1 hts gX3_find_X3_isReadable rfl rfl rfl (by decide +kernel) ⟨Nat.le_of_ble_eq_true rfl, Nat.le_of_ble_eq_true rfl⟩) hN hK (hP) rfl 0 rfl rfl hl.1 rfl (Nat.le_of_ble_eq_true rfl) dX3_find_60 ⟨Nat.le_of_ble_eq_true rfl, Nat.le_of_ble_eq_true rfl⟩ (fun r_60 hw_60 => ?_)
        refine xz_eq (tgt := 97) hx hb dX3_find_63 (by decide) rfl (fun c_63 => ?_) (fun c_63 => ?_)
        · have h_63 := bo.f hw_60 c_63
          refine lv_iinc (v := nI (16 * b9 + k9 + 1)) (lv' := [(3, .int (nI (16 * b9 + k9 + 1))), (0, .ref (r 0)), (1, .int (nI (k))), (2, .int (nI (s5)))]) hx hb dX3_find_97 hl (k := 3) rfl (nI_add _ _) (by decide) rfl (fun ls hl => ?_)
          refine lv_goto (tgt := 45) hx hb dX3_find_100 (by decide) ?_
          exact ih_45 (16 * b9 + k9 + 1, f, s5) _ _ _ (⟨⟨by omega, Or.inl ⟨hf1, hf2, fun i hi => by (rcases Nat.lt_succ_iff_lt_or_eq.mp hi with h7 | h7); exact hf3 i h7; (subst h7; intro h8; unfold hit hits at h8; rw [show (16 * b9 + k9) / 16 = b9 by omega, show (16 * b9 + k9) % 16 = k9 by omega] at h8; first | exact h_63 h8.1 | omega)⟩⟩, hP, hD, hS⟩) (by first | omega | (dsimp only; omega)) (lv_sub hl [1, 2, 3, 0] rfl)
        · have h_63 := bo.t hw_60 c_63
          obtain ⟨hw0, hw1, hw2, -⟩ := hwf b9 k9 hb6 hk9 h_63
          refine lv_aload_n hx hb dX3_find_66 rfl (lv_at hl 0 rfl) ?_
          refine lv_iload_n hx hb dX3_find_67 rfl (lv_at hl 3 rfl) ?_
          refine xc_Vi (ci := 3) (rest := []) (As := [.int (nI (16 * b9 + k9))]) ⟨hx, hb, hml, hown, hts⟩ (c_X3_firstOf l D r th (mI f) (nI 3) χ (opn O) (O 0) (pl O (O 0)) cu fi ne ct on b9 hb6 k9 hk9 hχ hwf h_63) (cwV 1 hts gX3_find_X3_firstOf rfl rfl rfl (by decide +kernel) ⟨Nat.le_of_ble_eq_true rfl, Nat.le_of_ble_eq_true rfl⟩) hN hK (hP) rfl 0 rfl rfl hl.1 rfl (Nat.le_of_ble_eq_true rfl) dX3_find_68 ⟨Nat.le_of_ble_eq_true rfl, Nat.le_of_ble_eq_true rfl⟩ (fun r_68 hw_68 => ?_)
          subst hw_68
          refine lv_iload_n hx hb dX3_find_71 rfl (lv_at hl 1 rfl) ?_
          refine xi_gt (tgt := 97) hx hb dX3_find_72 (by decide) (nI_toInt (by omega)) (nI_toInt (by omega)) (fun c_72 => ?_) (fun c_72 => ?_)
          · refine lv_iinc (v := nI (16 * b9 + k9 + 1)) (lv' := [(3, .int (nI (16 * b9 + k9 + 1))), (0, .ref (r 0)), (1, .int (nI (k))), (2, .int (nI (s5)))]) hx hb dX3_find_97 hl (k := 3) rfl (nI_add _ _) (by decide) rfl (fun ls hl => ?_)
            refine lv_goto (tgt := 45) hx hb dX3_find_100 (by decide) ?_
            exact ih_45 (16 * b9 + k9 + 1, f, s5) _ _ _ (⟨⟨by omega, Or.inl ⟨hf1, hf2, fun i hi => by (rcases Nat.lt_succ_iff_lt_or_eq.mp hi with h7 | h7); exact hf3 i h7; (subst h7; intro h8; unfold hit hits at h8; rw [show (16 * b9 + k9) / 16 = b9 by omega, show (16 * b9 + k9) % 16 = k9 by omega] at h8; first | exact h_63 h8.1 | omega)⟩⟩, hP, hD, hS⟩) (by first | omega | (dsimp only; omega)) (lv_sub hl [1, 2, 3, 0] rfl)
          · refine lv_aload_n hx hb dX3_find_75 rfl (lv_at hl 0 rfl) ?_
            refine lv_iload_n hx hb dX3_find_76 rfl (lv_at hl 3 rfl) ?_
            refine xc_Vi (ci := 3) (rest := []) (As := [.int (nI (16 * b9 + k9))]) ⟨hx, hb, hml, hown, hts⟩ (c_X3_lastOf l D r th (mI f) (nI 3) χ (opn O) (O 0) (pl O (O 0)) cu fi ne ct on b9 hb6 k9 hk9 hχ hwf h_63) (cwV 1 hts gX3_find_X3_lastOf rfl rfl rfl (by decide +kernel) ⟨Nat.le_of_ble_eq_true rfl, Nat.le_of_ble_eq_true rfl⟩) hN hK (hP) rfl 0 rfl rfl hl.1 rfl (Nat.le_of_ble_eq_true rfl) dX3_find_77 ⟨Nat.le_of_ble_eq_true rfl, Nat.le_of_ble_eq_true rfl⟩ (fun r_77 hw_77 => ?_)
            subst hw_77
            refine lv_iload_n hx hb dX3_find_80 rfl (lv_at hl 1 rfl) ?_
            refine xi_lt (tgt := 97) hx hb dX3_find_81 (by decide) (mI_toInt (by omega)) (nI_toInt (by omega)) (fun c_81 => ?_) (fun c_81 => ?_)
            · refine lv_iinc (v := nI (16 * b9 + k9 + 1)) (lv' := [(3, .int (nI (16 * b9 + k9 + 1))), (0, .ref (r 0)), (1, .int (nI (k))), (2, .int (nI (s5)))]) hx hb dX3_find_97 hl (k := 3) rfl (nI_add _ _) (by decide) rfl (fun ls hl => ?_)
              refine lv_goto (tgt := 45) hx hb dX3_find_100 (by decide) ?_
              exact ih_45 (16 * b9 + k9 + 1, f, s5) _ _ _ (⟨⟨by omega, Or.inl ⟨hf1, hf2, fun i hi => by (rcases Nat.lt_succ_iff_lt_or_eq.mp hi with h7 | h7); exact hf3 i h7; (subst h7; intro h8; unfold hit hits at h8; rw [show (16 * b9 + k9) / 16 = b9 by omega, show (16 * b9 + k9) % 16 = k9 by omega] at h8; first | exact h_63 h8.1 | omega)⟩⟩, hP, hD, hS⟩) (by first | omega | (dsimp only; omega)) (lv_sub hl [1, 2, 3, 0] rfl)
            · refine lv_aload_n hx hb dX3_find_84 rfl (lv_at hl 0 rfl) ?_
              refine lv_iload_n hx hb dX3_find_85 rfl (lv_at hl 3 rfl) ?_
              refine va_put (D := D) (ci := 3) (v := .int (nI (16 * b9 + k9))) (ty := .int) (C := RX3) (T := TX3) (N := 16) hx hb hts hiX3 tyX3 tyX3_ok nmX3 hown hK hP hD hS 0 rfl rfl 14 (by decide) (hts (.fieldLink RX3 110 "PairedCellsModel" "foundPage" "I") (by decide +kernel)) (fun _ h9 => h9) rfl (by decide +kernel) rfl rfl (Nat.le_of_ble_eq_true rfl) dX3_find_86 (fun H locs hP hD hS => ?_)
              have hP : va_P D vwCl (wM cI r th (nI (16 * b9 + k9)) (nI (3)) χ (opn O) (O 0) (pl O (O 0)) cu fi ne ct on) H := hP
              have hD : va_D A (wM cI r th (nI (16 * b9 + k9)) (nI (3)) χ (opn O) (O 0) (pl O (O 0)) cu fi ne ct on) := hD
              refine lv_iload_n hx hb dX3_find_89 rfl (lv_at hl 1 rfl) ?_
              refine lv_aload_n hx hb dX3_find_90 rfl (lv_at hl 0 rfl) ?_
              refine lv_iload_n hx hb dX3_find_91 rfl (lv_at hl 3 rfl) ?_
              refine xc_Vi (ci := 3) (rest := [.int (nI (k))]) (As := [.int (nI (16 * b9 + k9))]) ⟨hx, hb, hml, hown, hts⟩ (c_X3_firstOf l D r th (nI (16 * b9 + k9)) (nI 3) χ (opn O) (O 0) (pl O (O 0)) cu fi ne ct on b9 hb6 k9 hk9 hχ hwf h_63) (cwV 1 hts gX3_find_X3_firstOf rfl rfl rfl (by decide +kernel) ⟨Nat.le_of_ble_eq_true rfl, Nat.le_of_ble_eq_true rfl⟩) hN hK (hP) rfl 0 rfl rfl hl.1 rfl (Nat.le_of_ble_eq_true rfl) dX3_find_92 ⟨Nat.le_of_ble_eq_true rfl, Nat.le_of_ble_eq_true rfl⟩ (fun r_92 hw_92 => ?_)
              subst hw_92
              refine xr_sub hx hb (by omega) dX3_find_95 ?_
              refine lv_istore_n (lv' := [(2, .int (nI (k - (256 * byt χ b9 k9 1 + byt χ b9 k9 2)))), (0, .ref (r 0)), (1, .int (nI (k))), (3, .int (nI (16 * b9 + k9)))]) hx hb dX3_find_96 rfl hl (by decide) rfl (fun ls hl => ?_)
              have hq9 : (wM cI r th (nI (16 * b9 + k9)) (nI (3)) χ (opn O) (O 0) (pl O (O 0)) cu fi ne ct on : va_W) = wM cI r th (mI (16 * b9 + k9 + 1)) (nI (3)) χ (opn O) (O 0) (pl O (O 0)) cu fi ne ct on := by rw [nI_mI]
              have hP := va_P.eqw hq9 hP
              have hD := va_D.eqw hq9 hD
              have hP : va_P D vwCl (wM cI r th (mI (16 * b9 + k9 + 1)) (nI (3)) χ (opn O) (O 0) (pl O (O 0)) cu fi ne ct on) H := hP
              have hD : va_D A (wM cI r th (mI (16 * b9 + k9 + 1)) (nI (3)) χ (opn O) (O 0) (pl O (O 0)) cu fi ne ct on) := hD
              refine lv_iinc (v := nI (16 * b9 + k9 + 1)) (lv' := [(3, .int (nI (16 * b9 + k9 + 1))), (2, .int (nI (k - (256 * byt χ b9 k9 1 + byt χ b9 k9 2)))), (0, .ref (r 0)), (1, .int (nI (k)))]) hx hb dX3_find_97 hl (k := 3) rfl (nI_add _ _) (by decide) rfl (fun ls hl => ?_)
              refine lv_goto (tgt := 45) hx hb dX3_find_100 (by decide) ?_
              exact ih_45 (16 * b9 + k9 + 1, 16 * b9 + k9 + 1, k - (256 * byt χ b9 k9 1 + byt χ b9 k9 2)) _ _ _ (⟨⟨by omega, Or.inr ⟨b9, k9, hb6, hk9, rfl, h_63, ⟨by omega, by omega, by omega⟩, rfl, hf3⟩⟩, hP, hD, hS⟩) (by first | omega | (dsimp only; omega)) (lv_sub hl [2, 3, 1, 0] rfl)
  · have hO9 := hwO.1
    have hh1 := hh.1
    have hO8 : O 0 ≠ 0 := by omega
    have hh2 := hh.2 hO8
    have hye : hits O k := ⟨hO8, by omega, by omega⟩
    refine lv_aload_n hx hb dX3_find_25 rfl (lv_at hl 1 rfl) ?_
    refine lv_bipush (v := nI 96) hx hb dX3_find_26 (by decide) ?_
    refine va_put (D := D) (ci := 3) (v := .int (nI (96))) (ty := .int) (C := RX3) (T := TX3) (N := 16) hx hb hts hiX3 tyX3 tyX3_ok nmX3 hown hK hP hD hS 0 rfl rfl 14 (by decide) (hts (.fieldLink RX3 110 "PairedCellsModel" "foundPage" "I") (by decide +kernel)) (fun _ h9 => h9) rfl (by decide +kernel) rfl rfl (Nat.le_of_ble_eq_true rfl) dX3_find_28 (fun H locs hP hD hS => ?_)
    have hP : va_P D vwCl (wM cI r th (nI (96)) (nI (3)) χ (opn O) (O 0) (pl O (O 0)) cu fi ne ct on) H := hP
    have hD : va_D A (wM cI r th (nI (96)) (nI (3)) χ (opn O) (O 0) (pl O (O 0)) cu fi ne ct on) := hD
    refine lv_iload_n hx hb dX3_find_31 rfl (lv_at hl 2 rfl) ?_
    refine lv_aload_n hx hb dX3_find_32 rfl (lv_at hl 1 rfl) ?_
    refine va_get (D := D) (ci := 3) (v := .int (nI (ne))) (C := RX3) (T := TX3) (N := 16) hx hb hts hiX3 hown hK hP 0 rfl rfl 10 (by decide) (hts (.fieldLink RX3 73 "PairedCellsModel" "next" "I") (by decide +kernel)) (fun _ h9 => h9) rfl dX3_find_33 ?_
    refine lv_isub hx hb dX3_find_36 ?_
    refine lv_aload_n hx hb dX3_find_37 rfl (lv_at hl 1 rfl) ?_
    refine va_get (D := D) (ci := 3) (v := .int (nI ((O 0)))) (C := RX3) (T := TX3) (N := 16) hx hb hts hiX3 hown hK hP 0 rfl rfl 11 (by decide) (hts (.fieldLink RX3 67 "PairedCellsModel" "held" "I") (by decide +kernel)) (fun _ h9 => h9) rfl dX3_find_38 ?_
    refine lv_iadd hx hb dX3_find_41 ?_
    refine xr_same (xl_skip (show ne ≤ k + O 0 by omega)) ?_
    refine xr_nat (x' := k - (256 * O 1 + O 2)) (by omega) ?_
    refine lv_istore_n (lv' := [(2, .int (nI (k - (256 * O 1 + O 2)))), (0, .ref (r 0)), (1, .int (nI (k)))]) hx hb dX3_find_42 rfl hl (by decide) rfl (fun ls hl => ?_)
    refine lv_iconst (v := nI 0) hx hb dX3_find_43 (by decide) ?_
    refine lv_istore_n (lv' := [(3, .int (nI (0))), (2, .int (nI (k - (256 * O 1 + O 2)))), (0, .ref (r 0)), (1, .int (nI (k)))]) hx hb dX3_find_44 rfl hl (by decide) rfl (fun ls hl => ?_)
    refine lv_iload_n hx hb dX3_find_45 rfl (lv_at hl 0 rfl) ?_
    refine lv_bipush (v := nI 96) hx hb dX3_find_46 (by decide) ?_
    refine xi_ge (tgt := 103) hx hb dX3_find_48 (by decide) (nI_toInt (by omega)) (nI_toInt (by omega)) (fun c_48 => ?_) (fun c_48 => ?_)
    · exfalso; omega
    · refine lv_aload_n hx hb dX3_find_51 rfl (lv_at hl 2 rfl) ?_
      refine va_get (D := D) (ci := 3) (v := .int (nI (96))) (C := RX3) (T := TX3) (N := 16) hx hb hts hiX3 hown hK hP 0 rfl rfl 14 (by decide) (hts (.fieldLink RX3 110 "PairedCellsModel" "foundPage" "I") (by decide +kernel)) (fun _ h9 => h9) rfl dX3_find_52 ?_
      refine xz_ge (tgt := 103) hx hb dX3_find_55 (by decide) (nI_toInt (by omega)) (fun c_55 => ?_) (fun c_55 => ?_)
      · refine lv_iconst (v := nI 0) hx hb dX3_find_103 (by decide) ?_
        refine lv_istore_n (lv' := [(3, .int (nI (0))), (2, .int (nI (k - (256 * O 1 + O 2)))), (0, .ref (r 0)), (1, .int (nI (k)))]) hx hb dX3_find_104 rfl hl (by decide) rfl (fun ls hl => ?_)
        refine lpW (α := Nat) (fun z H locs => (z ≤ k - (256 * O 1 + O 2)) ∧ va_P D vwCl (wM cI r th (nI (96)) (nI (pl O z)) χ (opn O) (O 0) (pl O (O 0)) cu fi ne ct on) H ∧ va_D A (wM cI r th (nI (96)) (nI (pl O z)) χ (opn O) (O 0) (pl O (O 0)) cu fi ne ct on) ∧ va_S A s.heap H locs) (fun z => [(0, .ref (r 0)), (1, .int (nI (k))), (2, .int (nI (k - (256 * O 1 + O 2)))), (3, .int (nI (z)))]) 4 (fun z => k - (256 * O 1 + O 2) - z) 0 (⟨Nat.zero_le _, hP, hD, hS⟩) (lv_sub hl [2, 3, 1, 0] rfl) (fun s9 H locs ls hI9 hl9 ih_105 => ?_)
        obtain ⟨z, rfl⟩ : ∃ z, z = s9 := ⟨_, rfl⟩
        have hl : lv_has ls 4 [(0, .ref (r 0)), (1, .int (nI (k))), (2, .int (nI (k - (256 * O 1 + O 2)))), (3, .int (nI (z)))] := hl9
        obtain ⟨hz, hP, hD, hS⟩ : (z ≤ k - (256 * O 1 + O 2)) ∧ va_P D vwCl (wM cI r th (nI (96)) (nI (pl O z)) χ (opn O) (O 0) (pl O (O 0)) cu fi ne ct on) H ∧ va_D A (wM cI r th (nI (96)) (nI (pl O z)) χ (opn O) (O 0) (pl O (O 0)) cu fi ne ct on) ∧ va_S A s.heap H locs := hI9
        refine lv_iload_n hx hb dX3_find_105 rfl (lv_at hl 3 rfl) ?_
        refine lv_iload_n hx hb dX3_find_106 rfl (lv_at hl 2 rfl) ?_
        refine xi_ge (tgt := 135) hx hb dX3_find_107 (by decide) (nI_toInt (by omega)) (nI_toInt (by omega)) (fun c_107 => ?_) (fun c_107 => ?_)
        · have hz9 : z = k - (256 * O 1 + O 2) := by omega
          have hq9 : (wM cI r th (nI (96)) (nI (pl O z)) χ (opn O) (O 0) (pl O (O 0)) cu fi ne ct on : va_W) = wM cI r th (nI (96)) (nI (pl O (k - (256 * O 1 + O 2)))) χ (opn O) (O 0) (pl O (O 0)) cu fi ne ct on := (by rw [hz9])
          exact xf_v (post := fun (u : Int32 × Int32) => (hits O k ∧ u = (nI 96, nI (pl O (k - (256 * O 1 + O 2))))) ∨ (¬ hits O k ∧ hpg χ k 96 < 96 ∧ u = (nI (hpg χ k 96), nI (pl (byt χ (hpg χ k 96 / 16) (hpg χ k 96 % 16)) (k - (256 * byt χ (hpg χ k 96 / 16) (hpg χ k 96 % 16) 1 + byt χ (hpg χ k 96 / 16) (hpg χ k 96 % 16) 2))))) ∨ (¬ hits O k ∧ hpg χ k 96 = 96 ∧ u = (mI 0, nI 3))) (w1 := fun (u : Int32 × Int32) => wM cI r th u.1 u.2 χ (opn O) (O 0) (pl O (O 0)) cu fi ne ct on) (nI 96, nI (pl O (k - (256 * O 1 + O 2)))) hx hb hr hlocks (Or.inl ⟨hye, rfl⟩) (va_P.eqw hq9 hP) hK (va_D.eqw hq9 hD) hS dX3_find_135
        · refine lv_aload_n hx hb dX3_find_110 rfl (lv_at hl 0 rfl) ?_
          refine lv_dup hx hb dX3_find_111 rfl ?_
          refine va_get (D := D) (ci := 3) (v := .int (nI (pl O z))) (C := RX3) (T := TX3) (N := 16) hx hb hts hiX3 hown hK hP 0 rfl rfl 15 (by decide) (hts (.fieldLink RX3 113 "PairedCellsModel" "foundAt" "I") (by decide +kernel)) (fun _ h9 => h9) rfl dX3_find_112 ?_
          refine lv_iconst (v := nI 1) hx hb dX3_find_115 (by decide) ?_
          refine lv_aload_n hx hb dX3_find_116 rfl (lv_at hl 0 rfl) ?_
          refine lv_aload_n hx hb dX3_find_117 rfl (lv_at hl 0 rfl) ?_
          refine va_get (D := D) (ci := 3) (v := .int (nI (pl O z))) (C := RX3) (T := TX3) (N := 16) hx hb hts hiX3 hown hK hP 0 rfl rfl 15 (by decide) (hts (.fieldLink RX3 113 "PairedCellsModel" "foundAt" "I") (by decide +kernel)) (fun _ h9 => h9) rfl dX3_find_118 ?_
          have hp9 := pl_lt hwO (show z < O 0 by omega)
          have hp3 := pl_three (O := O) z
          refine xc_Vi (ci := 3) (rest := [.int (nI (1)), .int (nI (pl O z)), .ref (r 0)]) (As := [.int (nI (pl O z))]) ⟨hx, hb, hml, hown, hts⟩ (c_X3_foundByte_o l D r th (nI (pl O z)) χ O cu fi ne ct on (pl O z) hp3 (by omega)) (cwV 1 hts gX3_find_X3_foundByte rfl rfl rfl (by decide +kernel) ⟨Nat.le_of_ble_eq_true rfl, Nat.le_of_ble_eq_true rfl⟩) hN hK (hP) rfl 0 rfl rfl hl.1 rfl (Nat.le_of_ble_eq_true rfl) dX3_find_121 ⟨Nat.le_of_ble_eq_true rfl, Nat.le_of_ble_eq_true rfl⟩ (fun r_121 hw_121 => ?_)
          subst hw_121
          refine xr_add hx hb dX3_find_124 ?_
          refine xr_add hx hb dX3_find_125 ?_
          refine xr_nat (x' := pl O (z + 1)) (by show _ = pl O z + 1 + O (pl O z); omega) ?_
          refine va_put (D := D) (ci := 3) (v := .int (nI (pl O (z + 1)))) (ty := .int) (C := RX3) (T := TX3) (N := 16) hx hb hts hiX3 tyX3 tyX3_ok nmX3 hown hK hP hD hS 0 rfl rfl 15 (by decide) (hts (.fieldLink RX3 113 "PairedCellsModel" "foundAt" "I") (by decide +kernel)) (fun _ h9 => h9) rfl (by decide +kernel) rfl rfl (Nat.le_of_ble_eq_true rfl) dX3_find_126 (fun H locs hP hD hS => ?_)
          have hP : va_P D vwCl (wM cI r th (nI (96)) (nI (pl O (z + 1))) χ (opn O) (O 0) (pl O (O 0)) cu fi ne ct on) H := hP
          have hD : va_D A (wM cI r th (nI (96)) (nI (pl O (z + 1))) χ (opn O) (O 0) (pl O (O 0)) cu fi ne ct on) := hD
          refine lv_iinc (v := nI (z + 1)) (lv' := [(3, .int (nI (z + 1))), (0, .ref (r 0)), (1, .int (nI (k))), (2, .int (nI (k - (256 * O 1 + O 2))))]) hx hb dX3_find_129 hl (k := 3) rfl (nI_add _ _) (by decide) rfl (fun ls hl => ?_)
          refine lv_goto (tgt := 105) hx hb dX3_find_132 (by decide) ?_
          exact ih_105 (z + 1) _ _ _ (⟨by omega, hP, hD, hS⟩) (by first | omega | (dsimp only; omega)) (lv_sub hl [1, 2, 3, 0] rfl)
      · exfalso; omega
