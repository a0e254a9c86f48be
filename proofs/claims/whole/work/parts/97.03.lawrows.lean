/-! ===== the law: its rows ===== -/
abbrev tyL (cI cB cL : ClassId) : List (ClassId × FieldType) := tyP cI cB ++ [(cL, .long)]
abbrev lwA (s : State) : Nat → Prop := fun q => s.heap.size ≤ q
theorem xY.warm {s U : State} (h : s.WarmedH U.vm) (hY : xY s) : xY U := fun z hz => va_Nc.moved h.alike (hY z hz)
theorem lg_same (x : Int64) : lg_cmp x x = 0 := (lg_cmp_eq x x).mpr rfl
/-- a test of an int: 1 if it isn't 0 -/
def bz (x : Int32) : Nat := if x = 0 then 0 else 1
theorem bz_lt (x : Int32) : bz x < 2 := by unfold bz; split <;> decide
def bl (x : Int32) : Int64 := if x = 0 then 0 else 1
/-- two ints make a long -/
def lw2 (x y : Int32) : Int64 := (x.toInt64 <<< ((nI 32).toInt64 &&& 63)) ||| (y.toInt64 &&& 4294967295)
theorem upL_at (f : Nat → Int64) (k : Nat) (x : Int64) : vp_updL f k x k = x := if_pos rfl
theorem xs_ats {P9 M9 : va_W} {q9 : Nat × va_E} (h9 : P9.length = 30) : ((P9 ++ [q9]) ++ M9)[30]? = some q9 := by
  rw [List.getElem?_append_left (by rw [List.length_append, h9]; exact Nat.lt_succ_self 30), List.getElem?_append_right (by omega), h9]
  rfl
/-- what stands through all of the law: its start, the classes, what it needs to throw and to catch -/
def lwF (p : Program) (l : Launch) (s : State) (m : MethodId) (meth : Method) (c : Code) (b L : Nat) (xs : Nat → Int32) (D : va_G) (cI cB cL : ClassId) : Prop :=
  lw_At p s m meth c b L xs ∧ L ≤ 2560 ∧ l.stackTraces = false ∧ xN s ∧ va_K D vwCl (tyL cI cB cL) s ∧ xZ (lwA s) s s.heap ∧ xY s
section XLW
variable {p : Program} {l : Launch} {e : Env} {R : Room} {s : State} {m : MethodId} {args : Array Value} {below : List Frame} {meth : Method} {c : Code} {H : Heap} {locs : List Loc} {cells slots : Nat} {Q : State → Prop}
variable {cc : ByteArray} {pc : Nat} {ls : Array Slot} {rest st0 : List Value} {D : va_G} {tys : List (ClassId × FieldType)} {wA : Nat → Prop} {ws : va_W}
theorem xs_ld (hexec : p.tables.exec = Jvm.exec) (hb : c.code = cc) {b L : Nat} {xs : Nat → Int32} (hX : va_X b L xs s s.heap) (hbl : b < s.heap.size) (hbA : ¬ wA b) (hS : va_S wA s.heap H locs) {k : Nat} (hk : k < L) (hL : L ≤ 2560) (hdg : decode cc pc = .ok (.iaload, 1))
    (kk : W p l e R s m args below meth c H locs cells slots Q (F0 m (pc + 1) ls (.int (xs k) :: rest))) : W p l e R s m args below meth c H locs cells slots Q (F0 m pc ls (.int (nI k) :: .ref b :: rest)) :=
  va_sld hexec hb hX hbl hbA hS (nI_in hk (by omega)) hdg (by rw [nI_clamp (by omega)]; exact kk)
/-- an int of the script, j places behind the call's first -/
theorem xs_arg (hexec : p.tables.exec = Jvm.exec) (hb : c.code = cc) {b L : Nat} {xs : Nat → Int32} (hX : va_X b L xs s s.heap) (hbl : b < s.heap.size) (hbA : ¬ wA b) (hS : va_S wA s.heap H locs) {i j : Nat} (h0 : ls[0]? = some (.val (.ref b))) (h4 : ls[4]? = some (.val (.int (nI i)))) (hk : i + j < L) (hL : L ≤ 2560)
    (d0 : decode cc pc = .ok (.aload_n 0, 1)) (d1 : decode cc (pc + 1) = .ok (.iload 4, 2)) {n : Int} (d3 : decode cc (pc + 3) = .ok (.iconst n, 1)) (hn : Int32.ofInt n = nI j) (d4 : decode cc (pc + 4) = .ok (.iadd, 1)) (d5 : decode cc (pc + 5) = .ok (.iaload, 1))
    (kk : W p l e R s m args below meth c H locs cells slots Q (F0 m (pc + 6) ls (.int (xs (i + j)) :: rest))) : W p l e R s m args below meth c H locs cells slots Q (F0 m pc ls rest) := by
  refine lv_aload_n hexec hb d0 rfl h0 ?_
  refine lv_iload hexec hb d1 h4 ?_
  refine lv_iconst (v := nI j) hexec hb d3 hn ?_
  refine xr_add hexec hb d4 ?_
  exact xs_ld hexec hb hX hbl hbA hS hk hL d5 kk
/-- a long out of two ints of the script -/
theorem xs_lng (hexec : p.tables.exec = Jvm.exec) (hb : c.code = cc) {own : String} (hown : s.vm.findClass own = some m.cls) {ix : Nat} (hcst : (Cond.constantLong own ix 4294967295).before args s = true) {b L : Nat} {xs : Nat → Int32} (hX : va_X b L xs s s.heap) (hbl : b < s.heap.size) (hbA : ¬ wA b) (hS : va_S wA s.heap H locs) {i : Nat} (h0 : ls[0]? = some (.val (.ref b))) (h4 : ls[4]? = some (.val (.int (nI i)))) (hk : i + 3 < L) (hL : L ≤ 2560)
    (d0 : decode cc pc = .ok (.aload_n 0, 1)) (d1 : decode cc (pc + 1) = .ok (.iload 4, 2)) (d3 : decode cc (pc + 3) = .ok (.iconst 2, 1)) (d4 : decode cc (pc + 4) = .ok (.iadd, 1)) (d5 : decode cc (pc + 5) = .ok (.iaload, 1)) (d6 : decode cc (pc + 6) = .ok (.i2l, 1)) (d7 : decode cc (pc + 7) = .ok (.bipush 32, 2)) (d9 : decode cc (pc + 9) = .ok (.lshl, 1))
    (e0 : decode cc (pc + 10) = .ok (.aload_n 0, 1)) (e1 : decode cc (pc + 11) = .ok (.iload 4, 2)) (e3 : decode cc (pc + 13) = .ok (.iconst 3, 1)) (e4 : decode cc (pc + 14) = .ok (.iadd, 1)) (e5 : decode cc (pc + 15) = .ok (.iaload, 1)) (e6 : decode cc (pc + 16) = .ok (.i2l, 1)) (e7 : decode cc (pc + 17) = .ok (.ldc2_w ix, 3)) (e8 : decode cc (pc + 20) = .ok (.land, 1)) (e9 : decode cc (pc + 21) = .ok (.lor, 1))
    (kk : W p l e R s m args below meth c H locs cells slots Q (F0 m (pc + 22) ls (.long (lw2 (xs (i + 2)) (xs (i + 3))) :: rest))) : W p l e R s m args below meth c H locs cells slots Q (F0 m pc ls rest) := by
  refine xs_arg (j := 2) hexec hb hX hbl hbA hS h0 h4 (by omega) hL d0 d1 d3 (by decide) d4 d5 ?_
  refine lv_i2l hexec hb d6 rfl ?_
  refine lv_bipush (v := nI 32) hexec hb d7 (by decide) ?_
  refine lv_lshl hexec hb d9 rfl ?_
  refine xs_arg (j := 3) hexec hb hX hbl hbA hS h0 h4 hk hL e0 e1 e3 (by decide) e4 e5 ?_
  refine lv_i2l hexec hb e6 rfl ?_
  refine lv_ldc2 (v := 4294967295) hexec hb hown hcst e7 ?_
  refine lv_land hexec hb e8 ?_
  refine lv_lor hexec hb e9 ?_
  exact kk
/-- a test of an int on the stack -/
theorem xs_bz (hexec : p.tables.exec = Jvm.exec) (hb : c.code = cc) {x : Int32} (d0 : decode cc pc = .ok (.ifCond .eq 7, 3)) (d3 : decode cc (pc + 3) = .ok (.iconst 1, 1)) (d4 : decode cc (pc + 4) = .ok (.goto 4, 3)) (d7 : decode cc (pc + 7) = .ok (.iconst 0, 1))
    (kk : W p l e R s m args below meth c H locs cells slots Q (F0 m (pc + 8) ls (.int (nI (bz x)) :: rest))) : W p l e R s m args below meth c H locs cells slots Q (F0 m pc ls (.int x :: rest)) := by
  refine lv_if_eq (tgt := pc + 7) hexec hb d0 (by omega) (fun h9 => ?_) (fun h9 => ?_)
  · refine lv_iconst (v := nI 0) hexec hb d7 (by decide) ?_
    have e9 : bz x = 0 := if_pos h9
    rw [e9] at kk
    exact kk
  · refine lv_iconst (v := nI 1) hexec hb d3 (by decide) ?_
    have e9 : bz x = 1 := if_neg h9
    rw [e9] at kk
    exact lv_goto (tgt := pc + 8) hexec hb d4 (by omega) kk
theorem xs_bl (hexec : p.tables.exec = Jvm.exec) (hb : c.code = cc) {x : Int32} (d0 : decode cc pc = .ok (.ifCond .eq 7, 3)) (d3 : decode cc (pc + 3) = .ok (.lconst 1, 1)) (d4 : decode cc (pc + 4) = .ok (.goto 4, 3)) (d7 : decode cc (pc + 7) = .ok (.lconst 0, 1))
    (kk : W p l e R s m args below meth c H locs cells slots Q (F0 m (pc + 8) ls (.long (bl x) :: rest))) : W p l e R s m args below meth c H locs cells slots Q (F0 m pc ls (.int x :: rest)) := by
  refine lv_if_eq (tgt := pc + 7) hexec hb d0 (by omega) (fun h9 => ?_) (fun h9 => ?_)
  · refine lv_lconst (v := 0) hexec hb d7 (by decide) ?_
    have e9 : bl x = 0 := if_pos h9
    rw [e9] at kk
    exact kk
  · refine lv_lconst (v := 1) hexec hb d3 (by decide) ?_
    have e9 : bl x = 1 := if_neg h9
    rw [e9] at kk
    exact lv_goto (tgt := pc + 8) hexec hb d4 (by omega) kk
variable {y : MethodName} {bytes : ByteArray} {maxL nL mc ms n index : Nat} {ret : Option FieldType} {hh : List (Nat × Nat × Nat × Nat)} {wsy : List Cond} {rm : Room} {Ts : List Cond} {own : String} {As : List Value} {wc : va_W}
/-- a static method with a table is called, which catches all -/
theorem xs_i {S : Type} {post : Int32 → S → Prop} {w1 : S → va_W} (Sx : CallFix p m c cc nL s args Ts own) (hM : vx_Met l y wsy rm (va_Pc As (x_Y D tys wc H.size)) (va_Qi post (fun u t => x_E D tys (va_A wc H.size) (w1 u) t) (va_A wc H.size)) (fun _ _ _ => False) mc ms (va_A wc H.size)) (cw : vx_CSW R s args own index y bytes maxL ret hh wsy rm mc ms n)
    (hN : xN s) (hK : va_K D vwCl tys s) (hP : va_P D vwCl wc H) (hD : va_D wA wc) (hS : va_S wA s.heap H locs) (hA : ∀ q, s.heap.size ≤ q → wA q) (hZ : xZ wA s s.heap) (hY : xY s)
    (hn : As.length = n) (hsize : ls.size = nL) (hstack : st0 = As.reverse ++ rest) (hW : (rest.map fun v => v.category).sum ≤ 8) (hdg : decode cc pc = .ok (.invokestatic index, 3)) (hf : cells + mc ≤ R.cells ∧ slots + ms ≤ R.slots)
    (kk : ∀ (r : Int32) (u : S) (H1 : Heap) (locs1 : List Loc), post r u → va_P D vwCl (w1 u) H1 → va_D (va_A wc H.size) (w1 u) → (∀ q : Nat, q < H.size → ¬ va_A wc H.size q → H1[q]? = H[q]?) → va_S wA s.heap H1 locs1 → W p l e R s m args below meth c H1 locs1 (cells + mc) (slots + ms) Q (F0 m (pc + 3) ls (.int r :: rest))) :
    W p l e R s m args below meth c H locs cells slots Q (F0 m pc ls st0) := by
  have hF := x_hF hD hS hA
  have hr : vx_Run p l e R s m args below meth c H locs cells slots mc ms (F0 m pc ls st0) rest (va_Qi post (fun u t => x_E D tys (va_A wc H.size) (w1 u) t) (va_A wc H.size) As.toArray) (fun _ _ _ => False) (va_A wc H.size) := vx_runSX Sx hM cw ⟨x_Y.blind, fun U hU hW9 => ⟨rfl, ⟨⟨by rw [hU], hN.warm hW9, by rw [hU]; exact hP, va_K.moved hW9.alike hK, hD.weaken (fun _ _ _ _ => trivial)⟩, by rw [hU]; exact ((hZ.kept hS.2.1).narrow hF).warm hW9⟩, hY.warm hW9⟩⟩ rfl hn hsize hstack (lv_room hW) hdg hf
  have hr2 : vx_Run p l e R s m args below meth c H locs cells slots mc ms (F0 m pc ls st0) rest (va_Qi post (fun u t => x_E D tys (va_A wc H.size) (w1 u) t) (va_A wc H.size) As.toArray) (vx_X (fun _ : Unit => False) (fun _ _ _ => True) (fun _ => False)) (va_A wc H.size) := fun T hT X => (hr T hT X).elim Or.inl (fun h9 => by
    obtain ⟨-, -, -, -, -, -, -, -, -, -, -, -, hno, -⟩ := h9
    exact hno.elim)
  exact vx_calli hr2 hS (fun q _ h => hF q h) hF (fun _ _ h => h.elim) (fun _ _ _ _ _ _ _ _ _ hp9 => hp9.elim) (fun r u t H1 locs1 ht _ hw hB _ hk1 hS1 => kk r u H1 locs1 hw (ht ▸ hB.1) hB.2.2 hk1 hS1)
end XLW
