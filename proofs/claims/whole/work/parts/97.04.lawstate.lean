/-! ===== the law's loop: its state, and what is behind a call ===== -/
/-- both objects and the answer's row, the same chip, open row and numbers on both sides -/
abbrev wL (cI cB cL : ClassId) (a r : Nat → Nat) (o : Nat) (sh O χ : Nat → Nat) (cu fi ne ct on : Nat) (th fp fa : Int32) (f : Nat → Int64) : va_W := (wP cI cB a sh O χ cu fi ne ct on ++ [(o, lr cL f)]) ++ wM cI r th fp fa χ (opn O) (O 0) (pl O (O 0)) cu fi ne ct on
/-- the loop goes on behind a call, the n-th one -/
abbrev lwK (p : Program) (l : Launch) (e : Env) (s : State) (m : MethodId) (below : List Frame) (meth : Method) (c : Code) (b : Nat) (D : va_G) (cI cB cL : ClassId) (a r : Nat → Nat) (o i n cells slots : Nat) (Q : State → Prop) : Prop :=
  ∀ (sh O χ : Nat → Nat) (cu fi ne ct on : Nat) (th fp fa : Int32) (f : Nat → Int64) (H1 : Heap) (locs1 : List Loc) (ls1 : Array Slot), iv (n + 1) χ O cu fi ne ct on → va_P D vwCl (wL cI cB cL a r o sh O χ cu fi ne ct on th fp fa f) H1 → va_D (lwA s) (wL cI cB cL a r o sh O χ cu fi ne ct on th fp fa f) → va_S (lwA s) s.heap H1 locs1 → lv_has ls1 8 [(4, .int (nI i)), (0, .ref b), (1, .ref (a 0)), (2, .ref (r 0)), (3, .ref o)] → W p l e room_1 s m #[Value.ref b] below meth c H1 locs1 (cells + 1) (slots + 6) Q (F0 m 1095 ls1 [])
theorem x_nat {x : Int32} (h9 : 0 ≤ x.toInt) : ∃ k : Nat, x = nI k ∧ x.toInt = (k : Int) := by
  obtain ⟨j, hj, e9⟩ := nI_of (x := x) (fun h8 => by have h7 := Int32.lt_iff_toInt_lt.mp h8; rw [Int32.toInt_zero] at h7; omega)
  exact ⟨j, e9, by rw [e9, nI_toInt hj]⟩
/-- two answers that say the same of one proposition -/
theorem dj_eq {P : Prop} {α : Type} {x y u v : α} (h1 : P ∧ x = u ∨ ¬ P ∧ x = v) (h2 : P ∧ y = u ∨ ¬ P ∧ y = v) : x = y :=
  h1.elim (fun q1 => h2.elim (fun q2 => q1.2.trans q2.2.symm) (fun q2 => absurd q1.1 q2.1)) (fun q1 => h2.elim (fun q2 => absurd q2.1 q1.1) (fun q2 => q1.2.trans q2.2.symm))
theorem dj_eq2 {P : Prop} {α : Type} {x y u v : α} (h1 : ¬ P ∧ x = u ∨ P ∧ x = v) (h2 : ¬ P ∧ y = u ∨ P ∧ y = v) : x = y :=
  h1.elim (fun q1 => h2.elim (fun q2 => q1.2.trans q2.2.symm) (fun q2 => absurd q2.1 q1.1)) (fun q1 => h2.elim (fun q2 => absurd q1.1 q2.1) (fun q2 => q1.2.trans q2.2.symm))
theorem bl_1 : (1 : Int64) = bl (nI 1) := by decide
theorem bl_0 : (0 : Int64) = bl (nI 0) := by decide
theorem ru_eq {P : Prop} {X Y : Nat → Nat} {u1 : (Nat → Nat) × Int64} {u2 : Nat → Nat} {r2 : Int32} (h1 : (P ∧ u1 = (X, 1)) ∨ (¬ P ∧ u1 = (Y, 0))) (h2 : (r2 = nI 1 ∧ P ∧ u2 = X) ∨ (r2 = nI 0 ∧ ¬ P ∧ u2 = Y)) : u1.2 = bl r2 ∧ u2 = u1.1 := by
  rcases h1 with ⟨q1, rfl⟩ | ⟨q1, rfl⟩ <;> rcases h2 with ⟨rfl, q2, rfl⟩ | ⟨rfl, q2, rfl⟩
  · exact ⟨bl_1, rfl⟩
  · exact absurd q1 q2
  · exact absurd q2 q1
  · exact ⟨bl_0, rfl⟩
theorem x_and15 (x : Int32) : ∃ k, k < 16 ∧ (x &&& nI 15) = nI k := by
  refine ⟨(x &&& nI 15).toBitVec.toNat, ?_, ?_⟩
  · show (x.toBitVec &&& (nI 15).toBitVec).toNat < 16
    rw [BitVec.toNat_and]
    exact Nat.lt_of_le_of_lt Nat.and_le_right (by decide)
  · apply Int32.toBitVec_inj.mp
    show (x &&& nI 15).toBitVec = BitVec.ofNat 32 _
    rw [BitVec.ofNat_toNat, BitVec.setWidth_eq]
theorem x_UM.blind {D : va_G} {tys : List (ClassId × FieldType)} {wc : va_W} {sz : Nat} {av : List Value} : FrameBlind (va_Pc av (fun U => x_U D tys wc sz U ∧ va_Nw (.methodLinkNest RX2 17 yX1_init RX2) U ∧ va_Nw (.methodLinkNest RX2 42 yX0_init RX2) U ∧ va_AO RX0 U)) := fun a U g mk q => by
  obtain ⟨q0, q1, q2, q3, q4⟩ := q
  obtain ⟨-, q5⟩ := x_U.blind a U g mk (⟨q0, q1⟩ : va_Pc av (x_U D tys wc sz) a U)
  exact ⟨q0, q5, va_Nw.same (u := U) (U := U.calling g mk a) rfl rfl q2, va_Nw.same (u := U) (U := U.calling g mk a) rfl rfl q3, va_AO.moved (u := U) (U := U.calling g mk a) (Vm.Alike.refl U.vm) q4⟩
