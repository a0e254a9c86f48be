/-! ===== methods that throw: what they need, what they leave ===== -/
def xTx : List (Nat × String) := [(48, "an event has 1 to 6 bytes"), (68, "a cut is set for 1 to 60, or 0 for none"), (76, "the power is on"), (88, "not from first() to count()"), (114, "the event is lost"), (137, "no such byte"), (143, "the page is not readable"), (155, "the guard page is not written"), (167, "the power is off"), (169, "no such event"), (171, "no such block"), (173, "no such line"), (200, "the log is full")]
def xEx : List String := ["java/lang/IllegalStateException", "java/lang/IndexOutOfBoundsException", "java/lang/IllegalArgumentException", "java/lang/UnsupportedOperationException", "java/util/NoSuchElementException"]
/-- the constructors' names that a throw needs declared -/
def xDx : List String := ["java/lang/RuntimeException", "java/lang/Exception", Bundle.tN]
def xCw (cls : String) : List Cond := [Cond.castable cls cls, Cond.declares (Bundle.initS "java/lang/RuntimeException"), Cond.declares (Bundle.initS "java/lang/Exception"), Cond.declares (Bundle.initS Bundle.tN)]
theorem xn_decl {x : MethodName} {s U : State} (hW : s.WarmedH U.vm) (hZ : va_Nw (.declares x) s) : va_Nw (.declares x) U := va_tabs rfl (rfl : (s.setVm U.vm).vm = U.vm) (by rw [Cond.declares_setVm hW.alike]; exact hZ)
def xZ (A : Nat → Prop) (U : State) (H : Heap) : Prop := vx_Zq Bundle.tN "UNASSIGNED_STACK" Bundle.steD A U H ∧ vx_Zq Bundle.tN "SUPPRESSED_SENTINEL" Bundle.listD A U H ∧ (∀ q ∈ xTx, ∃ sa, vk_R RX2 q.1 q.2 sa U) ∧ (∀ E ∈ xEx, va_Nw (.castable E E) U) ∧ ∀ E ∈ xDx, va_Nw (.declares (Bundle.initS E)) U
theorem xZ.same {A : Nat → Prop} {u U : State} {H : Heap} (h : u.vm = U.vm) (z : xZ A u H) : xZ A U H :=
  ⟨vx_Zq.moved (h ▸ Vm.Alike.refl u.vm) z.1, vx_Zq.moved (h ▸ Vm.Alike.refl u.vm) z.2.1, fun q hq => (z.2.2.1 q hq).elim (fun sa hs => ⟨sa, vk_R.same h.symm hs⟩), fun E hE => va_Nw.same rfl h (z.2.2.2.1 E hE), fun E hE => va_Nw.same rfl h (z.2.2.2.2 E hE)⟩
theorem xZ.warm {A : Nat → Prop} {s U : State} {H : Heap} (h : s.WarmedH U.vm) (z : xZ A s H) : xZ A U H :=
  ⟨vx_Zq.moved h.alike z.1, vx_Zq.moved h.alike z.2.1, fun q hq => (z.2.2.1 q hq).elim (fun sa hs => ⟨sa, vk_R.warm h hs⟩), fun E hE => va_Nw.warmC h (z.2.2.2.1 E hE), fun E hE => xn_decl h (z.2.2.2.2 E hE)⟩
theorem xZ.kept {A : Nat → Prop} {s : State} {H H1 : Heap} (z : xZ A s H) (hq : ∀ q : Nat, q < H.size → ¬ A q → H1[q]? = H[q]?) : xZ A s H1 := ⟨z.1.kept hq, z.2.1.kept hq, z.2.2⟩
theorem xZ.narrow {A B : Nat → Prop} {s : State} {H : Heap} (z : xZ A s H) (hAB : ∀ q, B q → A q) : xZ B s H := ⟨z.1.narrow hAB, z.2.1.narrow hAB, z.2.2⟩
theorem xZ.words {A : Nat → Prop} {s : State} {H : Heap} {args : Array Value} {cls : String} (z : xZ A s H) (hE : cls ∈ xEx) : ∀ w ∈ xCw cls, w.before args s = true :=
  vx_c (va_Nw.use rfl (z.2.2.2.1 cls hE)) (vx_c (va_Nw.use rfl (z.2.2.2.2 _ (by decide))) (vx_c (va_Nw.use rfl (z.2.2.2.2 _ (by decide))) (vx_c (va_Nw.use rfl (z.2.2.2.2 _ (by decide))) vx_n)))
def x_Z (D : va_G) (tys : List (ClassId × FieldType)) (wc : va_W) (sz : Nat) (U : State) : Prop := x_U D tys wc sz U ∧ xZ (va_A wc sz) U U.heap
theorem x_Z.blind {D : va_G} {tys : List (ClassId × FieldType)} {wc : va_W} {sz : Nat} {av : List Value} : FrameBlind (va_Pc av (x_Z D tys wc sz)) := fun a U g mk q => by
  obtain ⟨q0, q1, q2⟩ := q
  obtain ⟨-, q3⟩ := x_U.blind a U g mk (⟨q0, q1⟩ : va_Pc av (x_U D tys wc sz) a U)
  exact ⟨q0, q3, xZ.same (u := U) (U := U.calling g mk a) rfl q2⟩
/-- it has thrown cls: the world is w1 u -/
def x_T {S : Type} (D : va_G) (tys : List (ClassId × FieldType)) (wA : Nat → Prop) (px : S → Prop) (w1 : S → va_W) (cls : String) : String → State → State → Prop := vx_X px (fun E u t => E = cls ∧ x_E D tys wA (w1 u) t) wA
section XT
variable {p : Program} {l : Launch} {e : Env} {R : Room} {s : State} {m : MethodId} {args : Array Value} {below : List Frame} {meth : Method} {c : Code} {H : Heap} {locs : List Loc} {cells slots : Nat} {Q : State → Prop}
variable {cc : ByteArray} {pc : Nat} {ls : Array Slot} {rest st0 : List Value} {D : va_G} {tys : List (ClassId × FieldType)} {H0 : Heap} {wA : Nat → Prop} {Qc : Array Value → State → Outcome → State → Prop}
theorem xt_throw {S : Type} {px : S → Prop} {w1 : S → va_W} (u : S) (hexec : p.tables.exec = Jvm.exec) (hb : c.code = cc) (hl : l.stackTraces = false) {cls text : String} {names : List String} {ik ie ic mc ms : Nat}
    (hown : s.vm.findClass RX2 = some m.cls) (hcls : Bundle.fit cls = true) (hnames : ∀ n ∈ names, Bundle.fit n = true) (hk : (Cond.classLink RX2 ik cls).before args s = true) (hini : (Cond.initialized cls).before args s = true)
    (hat : ∀ w ∈ (vx_atS RX2 ic cls names).filter goodWord, w.before args s = true) (hng : ∀ w ∈ (vx_atS RX2 ic cls names).filter (fun w => !goodWord w), w ∈ xCw cls) (hE : cls ∈ xEx) (hT : (ie, text) ∈ xTx)
    (hgood : ∀ w ∈ Cond.classLink RX2 ik cls :: Cond.initialized cls :: vx_atS RX2 ic cls names, vx_ot w = true)
    (hZ : xZ wA s s.heap) (hS : va_S wA s.heap H locs) (hsize : ls.size = c.maxLocals)
    (d0 : decode cc pc = .ok (.new ik, 3)) (d3 : decode cc (pc + 3) = .ok (.dup, 1)) (d4 : decode cc (pc + 4) = .ok (.ldc ie, 2)) (d6 : decode cc (pc + 6) = .ok (.invokespecial ic, 3)) (d9 : decode cc (pc + 9) = .ok (.athrow, 1))
    (htab : ∀ x ∈ c.exceptionTable.toList, False) (hRframes : names.length + 3 < R.frames) (hRlocals : (rest.map fun v => v.category).sum + (13 * (names.length + 1) + 43) ≤ R.locals) (hRcells : cells + 1 ≤ R.cells) (hRslots : slots + 6 ≤ R.slots) (hlocks : meth.locks = false)
    (hp : px u) (hP : va_P D vwCl (w1 u) H) (hK : va_K D vwCl tys s) (hD : va_D wA (w1 u)) (hc : cells + 1 ≤ mc) (hs : slots + 6 ≤ ms) :
    W p l e R s m args below meth c H locs cells slots (vx_MQ below Qc (x_T D tys wA px w1 cls) args s mc ms wA) (F0 m pc ls rest) := by
  obtain ⟨sa, hsa⟩ := hZ.2.2.1 (ie, text) hT
  exact vx_throwS hexec hb hl hown hcls hnames hk hini hsa (vx_hat hat hng (hZ.words hE)) hgood hZ.1 hZ.2.1 hS hsize d0 d3 d4 d6 d9 (fun x hx => (htab x hx).elim) hRframes hRlocals hRcells hRslots hlocks
    (fun t ha h1 h2 => ⟨u, hp, ⟨rfl, hP.kept (fun k q hk9 => h2 q.1 (vx_lt hP hk9)), va_K.moved ha hK, hD⟩, Nat.le_trans hS.1 h1, fun q q1 q2 => (h2 q (Nat.lt_of_lt_of_le q1 hS.1)).trans (hS.2.1 q q1 q2)⟩) hS.2.2 hc hs
/-- what a called thrower leaves becomes what the caller leaves -/
theorem xt_out {S S' : Type} {px : S → Prop} {px' : S' → Prop} {w1 : S → va_W} {w1' : S' → va_W} {wc : va_W} {cls : String} {mc ms mc1 ms1 : Nat} (htab : ∀ x ∈ c.exceptionTable.toList, False) (hlocks : meth.locks = false) (hK : va_K D vwCl tys s) (hc : cells + mc1 ≤ mc) (hs : slots + ms1 ≤ ms) (hw : s.heap = H0)
    (J : ∀ (u : S) (H1 : Heap), px u → va_P D vwCl (w1 u) H1 → va_D (va_A wc H.size) (w1 u) → (∀ q : Nat, q < H.size → ¬ va_A wc H.size q → H1[q]? = H[q]?) → ∃ u', px' u' ∧ va_P D vwCl (w1' u') H1 ∧ va_D wA (w1' u')) :
    ∀ (E : String) (ce : Cell) (q9 : Addr) (u : S) (t : State) (H1 : Heap) (locs1 : List Loc), t.heap = H1 → s.vm.Alike t.vm → px u → (E = cls ∧ x_E D tys (va_A wc H.size) (w1 u) t) → H.size ≤ H1.size → (∀ q : Nat, q < H.size → ¬ va_A wc H.size q → H1[q]? = H[q]?) → va_S wA H0 H1 locs1 → H1[q9]? = some ce → ce.vm = .none → s.vm.findClass E = some ce.cls →
      vx_W p l e R s m args below meth c H1 locs1 (cells + mc1) (slots + ms1) (vx_MQ below Qc (x_T D tys wA px' w1' cls) args s mc ms wA) (F0 m pc ls rest) q9 := by
  intro E ce q9 u t H1 locs1 ht _ hp hB hsz hk1 hS1 hcell hv hcl
  obtain ⟨rfl, hB1, hB2, hB3⟩ := hB
  obtain ⟨u', j1, j2, j3⟩ := J u H1 hp (ht ▸ hB1) hB3 hk1
  subst hw
  exact vx_out (fun x hx => (htab x hx).elim) hlocks hcell hv hcl (fun t' ht' ha' => ⟨u', j1, ⟨rfl, by rw [ht']; exact j2, va_K.moved ha' hK, j3⟩, hS1.F ht'⟩) hS1.2.2 hc hs
variable {y : MethodName} {bytes : ByteArray} {maxL nL n index ci : Nat} {ret : Option FieldType} {wsy : List Cond} {rm : Room} {Ts : List Cond} {own : String} {b : Nat} {As : List Value} {q : vw_C} {fs : List Value} {wc : va_W} {mc1 ms1 mc ms : Nat}
/-- calls of throwers -/
theorem xt_Vv {S S' : Type} {px : S → Prop} {px' : S' → Prop} {w1 : S → va_W} {w1' : S' → va_W} {cls : String} (Sx : CallFix p m c cc nL s args Ts own) (hM : vx_Met l y wsy rm (va_Pc (.ref b :: As) (x_Z D tys wc H.size)) (va_Qv (fun (_ : Unit) => False) (fun _ _ => True) (va_A wc H.size)) (x_T D tys (va_A wc H.size) px w1 cls) mc1 ms1 (va_A wc H.size)) (cw : CallW R s args own q.1 index y bytes maxL ret wsy rm mc1 ms1 n)
    (hN : xN s) (hK : va_K D vwCl tys s) (hP : va_P D vwCl wc H) (hD : va_D wA wc) (hS : va_S wA s.heap H locs) (hA : ∀ q, s.heap.size ≤ q → wA q) (hZ : xZ wA s s.heap) (hc : vwCl[ci]? = some q) (k0 : Nat) (he : wc[k0]? = some (b, .inr (ci, fs)))
    (hn : As.length = n) (hsize : ls.size = nL) (hstack : st0 = As.reverse ++ .ref b :: rest) (hW : (rest.map fun v => v.category).sum ≤ 8) (hdg : decode cc pc = .ok (.invokevirtual index, 3)) (hf : cells + mc1 ≤ R.cells ∧ slots + ms1 ≤ R.slots)
    (htab : ∀ x ∈ c.exceptionTable.toList, False) (hlocks : meth.locks = false) (hmc : cells + mc1 ≤ mc) (hms : slots + ms1 ≤ ms)
    (J : ∀ (u : S) (H1 : Heap), px u → va_P D vwCl (w1 u) H1 → va_D (va_A wc H.size) (w1 u) → (∀ q : Nat, q < H.size → ¬ va_A wc H.size q → H1[q]? = H[q]?) → ∃ u', px' u' ∧ va_P D vwCl (w1' u') H1 ∧ va_D wA (w1' u')) :
    W p l e R s m args below meth c H locs cells slots (vx_MQ below Qc (x_T D tys wA px' w1' cls) args s mc ms wA) (F0 m pc ls st0) :=
  have hF := x_hF hD hS hA
  vx_callv (vx_runV Sx hM cw ⟨x_Z.blind, va_recv hK hP hc he, fun U hU hW9 => ⟨rfl, ⟨by rw [hU], hN.warm hW9, by rw [hU]; exact hP, va_K.moved hW9.alike hK, hD.weaken (fun _ _ _ _ => trivial)⟩, by rw [hU]; exact ((hZ.kept hS.2.1).narrow hF).warm hW9⟩⟩ rfl hn hsize hstack (lv_room hW) hdg hf) hS (fun q _ h => hF q h) hF (fun q _ h => hF q h)
    (xt_out htab hlocks hK hmc hms rfl J) (fun _ _ _ _ _ _ hw _ _ _ _ => hw.elim)
theorem xt_Vi {S S' : Type} {px : S → Prop} {px' : S' → Prop} {w1 : S → va_W} {w1' : S' → va_W} {cls : String} (Sx : CallFix p m c cc nL s args Ts own) (hM : vx_Met l y wsy rm (va_Pc (.ref b :: As) (x_Z D tys wc H.size)) (va_Qi (fun _ (_ : Unit) => False) (fun _ _ => True) (va_A wc H.size)) (x_T D tys (va_A wc H.size) px w1 cls) mc1 ms1 (va_A wc H.size)) (cw : CallW R s args own q.1 index y bytes maxL ret wsy rm mc1 ms1 n)
    (hN : xN s) (hK : va_K D vwCl tys s) (hP : va_P D vwCl wc H) (hD : va_D wA wc) (hS : va_S wA s.heap H locs) (hA : ∀ q, s.heap.size ≤ q → wA q) (hZ : xZ wA s s.heap) (hc : vwCl[ci]? = some q) (k0 : Nat) (he : wc[k0]? = some (b, .inr (ci, fs)))
    (hn : As.length = n) (hsize : ls.size = nL) (hstack : st0 = As.reverse ++ .ref b :: rest) (hW : (rest.map fun v => v.category).sum ≤ 8) (hdg : decode cc pc = .ok (.invokevirtual index, 3)) (hf : cells + mc1 ≤ R.cells ∧ slots + ms1 ≤ R.slots)
    (htab : ∀ x ∈ c.exceptionTable.toList, False) (hlocks : meth.locks = false) (hmc : cells + mc1 ≤ mc) (hms : slots + ms1 ≤ ms)
    (J : ∀ (u : S) (H1 : Heap), px u → va_P D vwCl (w1 u) H1 → va_D (va_A wc H.size) (w1 u) → (∀ q : Nat, q < H.size → ¬ va_A wc H.size q → H1[q]? = H[q]?) → ∃ u', px' u' ∧ va_P D vwCl (w1' u') H1 ∧ va_D wA (w1' u')) :
    W p l e R s m args below meth c H locs cells slots (vx_MQ below Qc (x_T D tys wA px' w1' cls) args s mc ms wA) (F0 m pc ls st0) :=
  have hF := x_hF hD hS hA
  vx_calli (vx_runV Sx hM cw ⟨x_Z.blind, va_recv hK hP hc he, fun U hU hW9 => ⟨rfl, ⟨by rw [hU], hN.warm hW9, by rw [hU]; exact hP, va_K.moved hW9.alike hK, hD.weaken (fun _ _ _ _ => trivial)⟩, by rw [hU]; exact ((hZ.kept hS.2.1).narrow hF).warm hW9⟩⟩ rfl hn hsize hstack (lv_room hW) hdg hf) hS (fun q _ h => hF q h) hF (fun q _ h => hF q h)
    (xt_out htab hlocks hK hmc hms rfl J) (fun _ _ _ _ _ _ _ hw _ _ _ _ => hw.elim)
theorem xt_Sv {S S' : Type} {px : S → Prop} {px' : S' → Prop} {w1 : S → va_W} {w1' : S' → va_W} {cls : String} (Sx : CallFix p m c cc nL s args Ts own) (hM : vx_Met l y wsy rm (va_Pc As (x_Z D tys wc H.size)) (va_Qv (fun (_ : Unit) => False) (fun _ _ => True) (va_A wc H.size)) (x_T D tys (va_A wc H.size) px w1 cls) mc1 ms1 (va_A wc H.size)) (cw : CallB R s args own index y bytes maxL ret wsy rm mc1 ms1 n ∧ (Cond.static y).before args s = true)
    (hN : xN s) (hK : va_K D vwCl tys s) (hP : va_P D vwCl wc H) (hD : va_D wA wc) (hS : va_S wA s.heap H locs) (hA : ∀ q, s.heap.size ≤ q → wA q) (hZ : xZ wA s s.heap)
    (hn : As.length = n) (hsize : ls.size = nL) (hstack : st0 = As.reverse ++ rest) (hW : (rest.map fun v => v.category).sum ≤ 8) (hdg : decode cc pc = .ok (.invokestatic index, 3)) (hf : cells + mc1 ≤ R.cells ∧ slots + ms1 ≤ R.slots)
    (htab : ∀ x ∈ c.exceptionTable.toList, False) (hlocks : meth.locks = false) (hmc : cells + mc1 ≤ mc) (hms : slots + ms1 ≤ ms)
    (J : ∀ (u : S) (H1 : Heap), px u → va_P D vwCl (w1 u) H1 → va_D (va_A wc H.size) (w1 u) → (∀ q : Nat, q < H.size → ¬ va_A wc H.size q → H1[q]? = H[q]?) → ∃ u', px' u' ∧ va_P D vwCl (w1' u') H1 ∧ va_D wA (w1' u')) :
    W p l e R s m args below meth c H locs cells slots (vx_MQ below Qc (x_T D tys wA px' w1' cls) args s mc ms wA) (F0 m pc ls st0) :=
  have hF := x_hF hD hS hA
  vx_callv (vx_runS Sx hM cw ⟨x_Z.blind, fun U hU hW9 => ⟨rfl, ⟨by rw [hU], hN.warm hW9, by rw [hU]; exact hP, va_K.moved hW9.alike hK, hD.weaken (fun _ _ _ _ => trivial)⟩, by rw [hU]; exact ((hZ.kept hS.2.1).narrow hF).warm hW9⟩⟩ rfl hn hsize hstack (lv_room hW) hdg hf) hS (fun q _ h => hF q h) hF (fun q _ h => hF q h)
    (xt_out htab hlocks hK hmc hms rfl J) (fun _ _ _ _ _ _ hw _ _ _ _ => hw.elim)
end XT
