/-! ===== catching ===== -/
/-- whom the rows ahead don't take -/
def xPr : List (String × String) := [("java/lang/IllegalArgumentException", "java/lang/IllegalStateException"), ("java/lang/UnsupportedOperationException", "java/lang/IllegalStateException"), ("java/lang/UnsupportedOperationException", "java/lang/IllegalArgumentException"), ("java/lang/IndexOutOfBoundsException", "java/lang/IllegalStateException"), ("java/util/NoSuchElementException", "java/lang/IllegalStateException"), ("java/util/NoSuchElementException", "java/lang/IndexOutOfBoundsException")]
def xY (U : State) : Prop := ∀ q ∈ xPr, va_Nc q.1 q.2 U
def x_Y (D : va_G) (tys : List (ClassId × FieldType)) (wc : va_W) (sz : Nat) (U : State) : Prop := x_Z D tys wc sz U ∧ xY U
theorem x_Y.blind {D : va_G} {tys : List (ClassId × FieldType)} {wc : va_W} {sz : Nat} {av : List Value} : FrameBlind (va_Pc av (x_Y D tys wc sz)) := fun a U g mk q => by
  obtain ⟨q0, q1, q2⟩ := q
  obtain ⟨-, q3⟩ := x_Z.blind a U g mk (⟨q0, q1⟩ : va_Pc av (x_Z D tys wc sz) a U)
  exact ⟨q0, q3, fun z hz => va_Nc.moved (u := U) (U := U.calling g mk a) (Vm.Alike.refl U.vm) (q2 z hz)⟩
section XL
variable {p : Program} {l : Launch} {e : Env} {R : Room} {s : State} {m : MethodId} {args : Array Value} {below : List Frame} {meth : Method} {c : Code} {H : Heap} {locs : List Loc} {cells slots : Nat} {Q : State → Prop}
variable {cc : ByteArray} {pc : Nat} {ls : Array Slot} {rest st0 : List Value} {D : va_G} {tys : List (ClassId × FieldType)} {wA : Nat → Prop}
variable {y : MethodName} {bytes : ByteArray} {maxL nL n index ci : Nat} {ret : Option FieldType} {wsy : List Cond} {rm : Room} {Ts : List Cond} {own : String} {b : Nat} {As : List Value} {q : vw_C} {fs : List Value} {wc : va_W} {mc1 ms1 : Nat}
theorem xl_x {S : Type} {px : S → Prop} {w1 : S → va_W} {cls : String} (hown : s.vm.findClass own = some m.cls) (pre : List ExceptionTableEntry) (x : ExceptionTableEntry) (suf : List ExceptionTableEntry) (hsplit : c.exceptionTable.toList = pre ++ x :: suf)
    (hpass : ∀ z ∈ pre, z.catchType ≠ 0 ∧ ∃ nm : String, (Cond.classLink own z.catchType nm).before args s = true ∧ va_Nc cls nm s) (hx : covers x pc = true) (h0 : x.catchType ≠ 0) (hlink : (Cond.classLink own x.catchType cls).before args s = true) (hcast : va_Nw (.castable cls cls) s)
    (kk : ∀ (u : S) (H1 : Heap) (locs1 : List Loc) (q9 : Nat), px u → va_P D vwCl (w1 u) H1 → va_D (va_A wc H.size) (w1 u) → (∀ q : Nat, q < H.size → ¬ va_A wc H.size q → H1[q]? = H[q]?) → va_S wA s.heap H1 locs1 → W p l e R s m args below meth c H1 locs1 (cells + mc1) (slots + ms1) Q (F0 m x.handlerPc ls [.ref q9])) :
    ∀ (E : String) (ce : Cell) (q9 : Addr) (u : S) (t : State) (H1 : Heap) (locs1 : List Loc), t.heap = H1 → s.vm.Alike t.vm → px u → (E = cls ∧ x_E D tys (va_A wc H.size) (w1 u) t) → H.size ≤ H1.size → (∀ q : Nat, q < H.size → ¬ va_A wc H.size q → H1[q]? = H[q]?) → va_S wA s.heap H1 locs1 → H1[q9]? = some ce → ce.vm = .none → s.vm.findClass E = some ce.cls →
      vx_W p l e R s m args below meth c H1 locs1 (cells + mc1) (slots + ms1) Q (F0 m pc ls rest) q9 := by
  intro E ce q9 u t H1 locs1 ht _ hp hB hsz hk1 hS1 hcell hv hcl
  obtain ⟨rfl, hB1, hB2, hB3⟩ := hB
  exact vx_catch hown pre x suf hsplit (fun z hz => Or.inr (hpass z hz)) hx h0 hlink (va_Nw.use rfl hcast) hcell hv hcl (kk u H1 locs1 q9 hp (ht ▸ hB1) hB3 hk1 hS1)
theorem xl_Vi {S : Type} {px : S → Prop} {w1 : S → va_W} {cls : String} (Sx : CallFix p m c cc nL s args Ts own) (hM : vx_Met l y wsy rm (va_Pc (.ref b :: As) (x_Z D tys wc H.size)) (va_Qi (fun _ (_ : Unit) => False) (fun _ _ => True) (va_A wc H.size)) (x_T D tys (va_A wc H.size) px w1 cls) mc1 ms1 (va_A wc H.size)) (cw : CallW R s args own q.1 index y bytes maxL ret wsy rm mc1 ms1 n)
    (hN : xN s) (hK : va_K D vwCl tys s) (hP : va_P D vwCl wc H) (hD : va_D wA wc) (hS : va_S wA s.heap H locs) (hA : ∀ q, s.heap.size ≤ q → wA q) (hZ : xZ wA s s.heap) (hc : vwCl[ci]? = some q) (k0 : Nat) (he : wc[k0]? = some (b, .inr (ci, fs)))
    (hn : As.length = n) (hsize : ls.size = nL) (hstack : st0 = As.reverse ++ .ref b :: rest) (hW : (rest.map fun v => v.category).sum ≤ 8) (hdg : decode cc pc = .ok (.invokevirtual index, 3)) (hf : cells + mc1 ≤ R.cells ∧ slots + ms1 ≤ R.slots)
    (hown : s.vm.findClass own = some m.cls) (pre : List ExceptionTableEntry) (x : ExceptionTableEntry) (suf : List ExceptionTableEntry) (hsplit : c.exceptionTable.toList = pre ++ x :: suf)
    (hpass : ∀ z ∈ pre, z.catchType ≠ 0 ∧ ∃ nm : String, (Cond.classLink own z.catchType nm).before args s = true ∧ va_Nc cls nm s) (hx : covers x pc = true) (h0 : x.catchType ≠ 0) (hlink : (Cond.classLink own x.catchType cls).before args s = true) (hcast : va_Nw (.castable cls cls) s)
    (kk : ∀ (u : S) (H1 : Heap) (locs1 : List Loc) (q9 : Nat), px u → va_P D vwCl (w1 u) H1 → va_D (va_A wc H.size) (w1 u) → (∀ q : Nat, q < H.size → ¬ va_A wc H.size q → H1[q]? = H[q]?) → va_S wA s.heap H1 locs1 → W p l e R s m args below meth c H1 locs1 (cells + mc1) (slots + ms1) Q (F0 m x.handlerPc ls [.ref q9])) :
    W p l e R s m args below meth c H locs cells slots Q (F0 m pc ls st0) :=
  have hF := x_hF hD hS hA
  vx_calli (vx_runV Sx hM cw ⟨x_Z.blind, va_recv hK hP hc he, fun U hU hW9 => ⟨rfl, ⟨by rw [hU], hN.warm hW9, by rw [hU]; exact hP, va_K.moved hW9.alike hK, hD.weaken (fun _ _ _ _ => trivial)⟩, by rw [hU]; exact ((hZ.kept hS.2.1).narrow hF).warm hW9⟩⟩ rfl hn hsize hstack (lv_room hW) hdg hf) hS (fun q _ h => hF q h) hF (fun q _ h => hF q h)
    (xl_x hown pre x suf hsplit hpass hx h0 hlink hcast kk) (fun _ _ _ _ _ _ _ hw _ _ _ _ => hw.elim)
theorem xl_Vl {S : Type} {px : S → Prop} {w1 : S → va_W} {cls : String} (Sx : CallFix p m c cc nL s args Ts own) (hM : vx_Met l y wsy rm (va_Pc (.ref b :: As) (x_Z D tys wc H.size)) (va_Ql (fun _ (_ : Unit) => False) (fun _ _ => True) (va_A wc H.size)) (x_T D tys (va_A wc H.size) px w1 cls) mc1 ms1 (va_A wc H.size)) (cw : CallW R s args own q.1 index y bytes maxL ret wsy rm mc1 ms1 n)
    (hN : xN s) (hK : va_K D vwCl tys s) (hP : va_P D vwCl wc H) (hD : va_D wA wc) (hS : va_S wA s.heap H locs) (hA : ∀ q, s.heap.size ≤ q → wA q) (hZ : xZ wA s s.heap) (hc : vwCl[ci]? = some q) (k0 : Nat) (he : wc[k0]? = some (b, .inr (ci, fs)))
    (hn : As.length = n) (hsize : ls.size = nL) (hstack : st0 = As.reverse ++ .ref b :: rest) (hW : (rest.map fun v => v.category).sum ≤ 8) (hdg : decode cc pc = .ok (.invokevirtual index, 3)) (hf : cells + mc1 ≤ R.cells ∧ slots + ms1 ≤ R.slots)
    (hown : s.vm.findClass own = some m.cls) (pre : List ExceptionTableEntry) (x : ExceptionTableEntry) (suf : List ExceptionTableEntry) (hsplit : c.exceptionTable.toList = pre ++ x :: suf)
    (hpass : ∀ z ∈ pre, z.catchType ≠ 0 ∧ ∃ nm : String, (Cond.classLink own z.catchType nm).before args s = true ∧ va_Nc cls nm s) (hx : covers x pc = true) (h0 : x.catchType ≠ 0) (hlink : (Cond.classLink own x.catchType cls).before args s = true) (hcast : va_Nw (.castable cls cls) s)
    (kk : ∀ (u : S) (H1 : Heap) (locs1 : List Loc) (q9 : Nat), px u → va_P D vwCl (w1 u) H1 → va_D (va_A wc H.size) (w1 u) → (∀ q : Nat, q < H.size → ¬ va_A wc H.size q → H1[q]? = H[q]?) → va_S wA s.heap H1 locs1 → W p l e R s m args below meth c H1 locs1 (cells + mc1) (slots + ms1) Q (F0 m x.handlerPc ls [.ref q9])) :
    W p l e R s m args below meth c H locs cells slots Q (F0 m pc ls st0) :=
  have hF := x_hF hD hS hA
  vx_calll (vx_runV Sx hM cw ⟨x_Z.blind, va_recv hK hP hc he, fun U hU hW9 => ⟨rfl, ⟨by rw [hU], hN.warm hW9, by rw [hU]; exact hP, va_K.moved hW9.alike hK, hD.weaken (fun _ _ _ _ => trivial)⟩, by rw [hU]; exact ((hZ.kept hS.2.1).narrow hF).warm hW9⟩⟩ rfl hn hsize hstack (lv_room hW) hdg hf) hS (fun q _ h => hF q h) hF (fun q _ h => hF q h)
    (xl_x hown pre x suf hsplit hpass hx h0 hlink hcast kk) (fun _ _ _ _ _ _ _ hw _ _ _ _ => hw.elim)
theorem xl_Vv {S : Type} {px : S → Prop} {w1 : S → va_W} {cls : String} (Sx : CallFix p m c cc nL s args Ts own) (hM : vx_Met l y wsy rm (va_Pc (.ref b :: As) (x_Z D tys wc H.size)) (va_Qv (fun (_ : Unit) => False) (fun _ _ => True) (va_A wc H.size)) (x_T D tys (va_A wc H.size) px w1 cls) mc1 ms1 (va_A wc H.size)) (cw : CallW R s args own q.1 index y bytes maxL ret wsy rm mc1 ms1 n)
    (hN : xN s) (hK : va_K D vwCl tys s) (hP : va_P D vwCl wc H) (hD : va_D wA wc) (hS : va_S wA s.heap H locs) (hA : ∀ q, s.heap.size ≤ q → wA q) (hZ : xZ wA s s.heap) (hc : vwCl[ci]? = some q) (k0 : Nat) (he : wc[k0]? = some (b, .inr (ci, fs)))
    (hn : As.length = n) (hsize : ls.size = nL) (hstack : st0 = As.reverse ++ .ref b :: rest) (hW : (rest.map fun v => v.category).sum ≤ 8) (hdg : decode cc pc = .ok (.invokevirtual index, 3)) (hf : cells + mc1 ≤ R.cells ∧ slots + ms1 ≤ R.slots)
    (hown : s.vm.findClass own = some m.cls) (pre : List ExceptionTableEntry) (x : ExceptionTableEntry) (suf : List ExceptionTableEntry) (hsplit : c.exceptionTable.toList = pre ++ x :: suf)
    (hpass : ∀ z ∈ pre, z.catchType ≠ 0 ∧ ∃ nm : String, (Cond.classLink own z.catchType nm).before args s = true ∧ va_Nc cls nm s) (hx : covers x pc = true) (h0 : x.catchType ≠ 0) (hlink : (Cond.classLink own x.catchType cls).before args s = true) (hcast : va_Nw (.castable cls cls) s)
    (kk : ∀ (u : S) (H1 : Heap) (locs1 : List Loc) (q9 : Nat), px u → va_P D vwCl (w1 u) H1 → va_D (va_A wc H.size) (w1 u) → (∀ q : Nat, q < H.size → ¬ va_A wc H.size q → H1[q]? = H[q]?) → va_S wA s.heap H1 locs1 → W p l e R s m args below meth c H1 locs1 (cells + mc1) (slots + ms1) Q (F0 m x.handlerPc ls [.ref q9])) :
    W p l e R s m args below meth c H locs cells slots Q (F0 m pc ls st0) :=
  have hF := x_hF hD hS hA
  vx_callv (vx_runV Sx hM cw ⟨x_Z.blind, va_recv hK hP hc he, fun U hU hW9 => ⟨rfl, ⟨by rw [hU], hN.warm hW9, by rw [hU]; exact hP, va_K.moved hW9.alike hK, hD.weaken (fun _ _ _ _ => trivial)⟩, by rw [hU]; exact ((hZ.kept hS.2.1).narrow hF).warm hW9⟩⟩ rfl hn hsize hstack (lv_room hW) hdg hf) hS (fun q _ h => hF q h) hF (fun q _ h => hF q h)
    (xl_x hown pre x suf hsplit hpass hx h0 hlink hcast kk) (fun _ _ _ _ _ _ hw _ _ _ _ => hw.elim)
end XL
