section
-- ===== PART A: goes FIRST, ahead of the names: the tables' words, and 'selects' of the private methods out of them =====
/-- a private method of a class that the tables say can be made, by its rows of tables_1 -/
def lw_okq (q : MethodName × Nat) : Prop := (q.1.cls ≠ "java/lang/invoke/MethodHandle" ∧ q.1.cls ≠ "java/lang/invoke/VarHandle") ∧ Cond.instantiable q.1.cls q.2 ∈ tables_1 ∧ Cond.privateMethod q.1 ∈ tables_1 ∧ Cond.instanceMethod q.1 ∈ tables_1
theorem lw_p0 : lw_okq (⟨"PairedCells", "erasedBlocks", "()I"⟩, 8) := ⟨⟨by decide +kernel, by decide +kernel⟩, List.mem_of_getElem? (i := 17) (by decide +kernel), List.mem_of_getElem? (i := 92) (by decide +kernel), List.mem_of_getElem? (i := 93) (by decide +kernel)⟩
theorem lw_p1 : lw_okq (⟨"PairedCells", "requirePower", "()V"⟩, 8) := ⟨⟨by decide +kernel, by decide +kernel⟩, List.mem_of_getElem? (i := 17) (by decide +kernel), List.mem_of_getElem? (i := 114) (by decide +kernel), List.mem_of_getElem? (i := 115) (by decide +kernel)⟩
theorem lw_p2 : lw_okq (⟨"java/lang/Throwable", "fillInStackTrace", "(I)Ljava/lang/Throwable;"⟩, 6) := ⟨⟨by decide +kernel, by decide +kernel⟩, List.mem_of_getElem? (i := 158) (by decide +kernel), List.mem_of_getElem? (i := 156) (by decide +kernel), List.mem_of_getElem? (i := 157) (by decide +kernel)⟩
theorem lw_p3 : lw_okq (⟨"PairedCells$EventPage", "placeOfRow", "(I)I"⟩, 1) := ⟨⟨by decide +kernel, by decide +kernel⟩, List.mem_of_getElem? (i := 27) (by decide +kernel), List.mem_of_getElem? (i := 212) (by decide +kernel), List.mem_of_getElem? (i := 213) (by decide +kernel)⟩
theorem lw_p4 : lw_okq (⟨"PairedCells", "flush", "()Z"⟩, 8) := ⟨⟨by decide +kernel, by decide +kernel⟩, List.mem_of_getElem? (i := 17) (by decide +kernel), List.mem_of_getElem? (i := 216) (by decide +kernel), List.mem_of_getElem? (i := 217) (by decide +kernel)⟩
theorem lw_p5 : lw_okq (⟨"PairedCells", "blockToProgram", "()I"⟩, 8) := ⟨⟨by decide +kernel, by decide +kernel⟩, List.mem_of_getElem? (i := 17) (by decide +kernel), List.mem_of_getElem? (i := 220) (by decide +kernel), List.mem_of_getElem? (i := 221) (by decide +kernel)⟩
theorem lw_p6 : lw_okq (⟨"PairedCells", "programGuard", "(LPairedCells$Block;)Z"⟩, 8) := ⟨⟨by decide +kernel, by decide +kernel⟩, List.mem_of_getElem? (i := 17) (by decide +kernel), List.mem_of_getElem? (i := 245) (by decide +kernel), List.mem_of_getElem? (i := 246) (by decide +kernel)⟩
theorem lw_p7 : lw_okq (⟨"PairedCells", "cutIsDue", "()Z"⟩, 8) := ⟨⟨by decide +kernel, by decide +kernel⟩, List.mem_of_getElem? (i := 17) (by decide +kernel), List.mem_of_getElem? (i := 249) (by decide +kernel), List.mem_of_getElem? (i := 250) (by decide +kernel)⟩
theorem lw_p8 : lw_okq (⟨"PairedCells", "eraseUnreadableBlocks", "()V"⟩, 8) := ⟨⟨by decide +kernel, by decide +kernel⟩, List.mem_of_getElem? (i := 17) (by decide +kernel), List.mem_of_getElem? (i := 317) (by decide +kernel), List.mem_of_getElem? (i := 318) (by decide +kernel)⟩
theorem lw_p9 : lw_okq (⟨"PairedCells", "greatestEvent", "(LPairedCells$Block;)I"⟩, 8) := ⟨⟨by decide +kernel, by decide +kernel⟩, List.mem_of_getElem? (i := 17) (by decide +kernel), List.mem_of_getElem? (i := 321) (by decide +kernel), List.mem_of_getElem? (i := 322) (by decide +kernel)⟩
theorem lw_p10 : lw_okq (⟨"PairedCells$Block", "isRebuilt", "(I)Z"⟩, 5) := ⟨⟨by decide +kernel, by decide +kernel⟩, List.mem_of_getElem? (i := 38) (by decide +kernel), List.mem_of_getElem? (i := 333) (by decide +kernel), List.mem_of_getElem? (i := 334) (by decide +kernel)⟩
theorem lw_p11 : lw_okq (⟨"PairedCells$Block", "covers", "(I)Z"⟩, 5) := ⟨⟨by decide +kernel, by decide +kernel⟩, List.mem_of_getElem? (i := 38) (by decide +kernel), List.mem_of_getElem? (i := 337) (by decide +kernel), List.mem_of_getElem? (i := 338) (by decide +kernel)⟩
theorem lw_p12 : lw_okq (⟨"PairedCells", "findEvents", "()V"⟩, 8) := ⟨⟨by decide +kernel, by decide +kernel⟩, List.mem_of_getElem? (i := 17) (by decide +kernel), List.mem_of_getElem? (i := 360) (by decide +kernel), List.mem_of_getElem? (i := 361) (by decide +kernel)⟩
theorem lw_p13 : lw_okq (⟨"PairedCells", "leastEvent", "(LPairedCells$Block;)I"⟩, 8) := ⟨⟨by decide +kernel, by decide +kernel⟩, List.mem_of_getElem? (i := 17) (by decide +kernel), List.mem_of_getElem? (i := 364) (by decide +kernel), List.mem_of_getElem? (i := 365) (by decide +kernel)⟩
theorem lw_p14 : lw_okq (⟨"PairedCells", "requireEvent", "(I)V"⟩, 8) := ⟨⟨by decide +kernel, by decide +kernel⟩, List.mem_of_getElem? (i := 17) (by decide +kernel), List.mem_of_getElem? (i := 399) (by decide +kernel), List.mem_of_getElem? (i := 400) (by decide +kernel)⟩
theorem lw_p15 : lw_okq (⟨"PairedCells", "pageWith", "(I)LPairedCells$EventPage;"⟩, 8) := ⟨⟨by decide +kernel, by decide +kernel⟩, List.mem_of_getElem? (i := 17) (by decide +kernel), List.mem_of_getElem? (i := 419) (by decide +kernel), List.mem_of_getElem? (i := 420) (by decide +kernel)⟩
def lw_privs_1 : List (MethodName × Nat) := [(⟨"PairedCells", "erasedBlocks", "()I"⟩, 8), (⟨"PairedCells", "requirePower", "()V"⟩, 8), (⟨"java/lang/Throwable", "fillInStackTrace", "(I)Ljava/lang/Throwable;"⟩, 6), (⟨"PairedCells$EventPage", "placeOfRow", "(I)I"⟩, 1), (⟨"PairedCells", "flush", "()Z"⟩, 8), (⟨"PairedCells", "blockToProgram", "()I"⟩, 8), (⟨"PairedCells", "programGuard", "(LPairedCells$Block;)Z"⟩, 8), (⟨"PairedCells", "cutIsDue", "()Z"⟩, 8), (⟨"PairedCells", "eraseUnreadableBlocks", "()V"⟩, 8), (⟨"PairedCells", "greatestEvent", "(LPairedCells$Block;)I"⟩, 8), (⟨"PairedCells$Block", "isRebuilt", "(I)Z"⟩, 5), (⟨"PairedCells$Block", "covers", "(I)Z"⟩, 5), (⟨"PairedCells", "findEvents", "()V"⟩, 8), (⟨"PairedCells", "leastEvent", "(LPairedCells$Block;)I"⟩, 8), (⟨"PairedCells", "requireEvent", "(I)V"⟩, 8), (⟨"PairedCells", "pageWith", "(I)LPairedCells$EventPage;"⟩, 8)]
theorem lw_r1 : ∀ q ∈ lw_privs_1, lw_okq q := List.forall_mem_cons.mpr ⟨lw_p0, List.forall_mem_cons.mpr ⟨lw_p1, List.forall_mem_cons.mpr ⟨lw_p2, List.forall_mem_cons.mpr ⟨lw_p3, List.forall_mem_cons.mpr ⟨lw_p4, List.forall_mem_cons.mpr ⟨lw_p5, List.forall_mem_cons.mpr ⟨lw_p6, List.forall_mem_cons.mpr ⟨lw_p7, List.forall_mem_cons.mpr ⟨lw_p8, List.forall_mem_cons.mpr ⟨lw_p9, List.forall_mem_cons.mpr ⟨lw_p10, List.forall_mem_cons.mpr ⟨lw_p11, List.forall_mem_cons.mpr ⟨lw_p12, List.forall_mem_cons.mpr ⟨lw_p13, List.forall_mem_cons.mpr ⟨lw_p14, List.forall_mem_cons.mpr ⟨lw_p15, fun _ h => absurd h List.not_mem_nil⟩⟩⟩⟩⟩⟩⟩⟩⟩⟩⟩⟩⟩⟩⟩⟩
theorem lw_p16 : lw_okq (⟨"PairedCellsModel", "isFull", "()Z"⟩, 16) := ⟨⟨by decide +kernel, by decide +kernel⟩, List.mem_of_getElem? (i := 519) (by decide +kernel), List.mem_of_getElem? (i := 582) (by decide +kernel), List.mem_of_getElem? (i := 583) (by decide +kernel)⟩
theorem lw_p17 : lw_okq (⟨"PairedCellsModel", "takesMore", "(I)Z"⟩, 16) := ⟨⟨by decide +kernel, by decide +kernel⟩, List.mem_of_getElem? (i := 519) (by decide +kernel), List.mem_of_getElem? (i := 586) (by decide +kernel), List.mem_of_getElem? (i := 587) (by decide +kernel)⟩
theorem lw_p18 : lw_okq (⟨"PairedCellsModel", "used", "(I)I"⟩, 16) := ⟨⟨by decide +kernel, by decide +kernel⟩, List.mem_of_getElem? (i := 519) (by decide +kernel), List.mem_of_getElem? (i := 590) (by decide +kernel), List.mem_of_getElem? (i := 591) (by decide +kernel)⟩
theorem lw_p19 : lw_okq (⟨"PairedCellsModel", "isErased", "(I)Z"⟩, 16) := ⟨⟨by decide +kernel, by decide +kernel⟩, List.mem_of_getElem? (i := 519) (by decide +kernel), List.mem_of_getElem? (i := 594) (by decide +kernel), List.mem_of_getElem? (i := 595) (by decide +kernel)⟩
theorem lw_p20 : lw_okq (⟨"PairedCellsModel", "flush", "()Z"⟩, 16) := ⟨⟨by decide +kernel, by decide +kernel⟩, List.mem_of_getElem? (i := 519) (by decide +kernel), List.mem_of_getElem? (i := 598) (by decide +kernel), List.mem_of_getElem? (i := 599) (by decide +kernel)⟩
theorem lw_p21 : lw_okq (⟨"PairedCellsModel", "writeGuard", "()Z"⟩, 16) := ⟨⟨by decide +kernel, by decide +kernel⟩, List.mem_of_getElem? (i := 519) (by decide +kernel), List.mem_of_getElem? (i := 602) (by decide +kernel), List.mem_of_getElem? (i := 603) (by decide +kernel)⟩
theorem lw_p22 : lw_okq (⟨"PairedCellsModel", "isCut", "()Z"⟩, 16) := ⟨⟨by decide +kernel, by decide +kernel⟩, List.mem_of_getElem? (i := 519) (by decide +kernel), List.mem_of_getElem? (i := 606) (by decide +kernel), List.mem_of_getElem? (i := 607) (by decide +kernel)⟩
theorem lw_p23 : lw_okq (⟨"PairedCellsModel", "empty", "()V"⟩, 16) := ⟨⟨by decide +kernel, by decide +kernel⟩, List.mem_of_getElem? (i := 519) (by decide +kernel), List.mem_of_getElem? (i := 610) (by decide +kernel), List.mem_of_getElem? (i := 611) (by decide +kernel)⟩
theorem lw_p24 : lw_okq (⟨"PairedCellsModel", "greatestIn", "(I)I"⟩, 16) := ⟨⟨by decide +kernel, by decide +kernel⟩, List.mem_of_getElem? (i := 519) (by decide +kernel), List.mem_of_getElem? (i := 631) (by decide +kernel), List.mem_of_getElem? (i := 632) (by decide +kernel)⟩
theorem lw_p25 : lw_okq (⟨"PairedCellsModel", "isReadable", "(I)Z"⟩, 16) := ⟨⟨by decide +kernel, by decide +kernel⟩, List.mem_of_getElem? (i := 519) (by decide +kernel), List.mem_of_getElem? (i := 635) (by decide +kernel), List.mem_of_getElem? (i := 636) (by decide +kernel)⟩
theorem lw_p26 : lw_okq (⟨"PairedCellsModel", "isRebuilt", "(I)Z"⟩, 16) := ⟨⟨by decide +kernel, by decide +kernel⟩, List.mem_of_getElem? (i := 519) (by decide +kernel), List.mem_of_getElem? (i := 639) (by decide +kernel), List.mem_of_getElem? (i := 640) (by decide +kernel)⟩
theorem lw_p27 : lw_okq (⟨"PairedCellsModel", "isCovered", "(II)Z"⟩, 16) := ⟨⟨by decide +kernel, by decide +kernel⟩, List.mem_of_getElem? (i := 519) (by decide +kernel), List.mem_of_getElem? (i := 643) (by decide +kernel), List.mem_of_getElem? (i := 644) (by decide +kernel)⟩
theorem lw_p28 : lw_okq (⟨"PairedCellsModel", "lastOf", "(I)I"⟩, 16) := ⟨⟨by decide +kernel, by decide +kernel⟩, List.mem_of_getElem? (i := 519) (by decide +kernel), List.mem_of_getElem? (i := 647) (by decide +kernel), List.mem_of_getElem? (i := 648) (by decide +kernel)⟩
theorem lw_p29 : lw_okq (⟨"PairedCellsModel", "firstOf", "(I)I"⟩, 16) := ⟨⟨by decide +kernel, by decide +kernel⟩, List.mem_of_getElem? (i := 519) (by decide +kernel), List.mem_of_getElem? (i := 651) (by decide +kernel), List.mem_of_getElem? (i := 652) (by decide +kernel)⟩
theorem lw_p30 : lw_okq (⟨"PairedCellsModel", "byteOf", "(II)I"⟩, 16) := ⟨⟨by decide +kernel, by decide +kernel⟩, List.mem_of_getElem? (i := 519) (by decide +kernel), List.mem_of_getElem? (i := 655) (by decide +kernel), List.mem_of_getElem? (i := 656) (by decide +kernel)⟩
theorem lw_p31 : lw_okq (⟨"PairedCellsModel", "eraseBlock", "(I)V"⟩, 16) := ⟨⟨by decide +kernel, by decide +kernel⟩, List.mem_of_getElem? (i := 519) (by decide +kernel), List.mem_of_getElem? (i := 659) (by decide +kernel), List.mem_of_getElem? (i := 660) (by decide +kernel)⟩
def lw_privs_2 : List (MethodName × Nat) := [(⟨"PairedCellsModel", "isFull", "()Z"⟩, 16), (⟨"PairedCellsModel", "takesMore", "(I)Z"⟩, 16), (⟨"PairedCellsModel", "used", "(I)I"⟩, 16), (⟨"PairedCellsModel", "isErased", "(I)Z"⟩, 16), (⟨"PairedCellsModel", "flush", "()Z"⟩, 16), (⟨"PairedCellsModel", "writeGuard", "()Z"⟩, 16), (⟨"PairedCellsModel", "isCut", "()Z"⟩, 16), (⟨"PairedCellsModel", "empty", "()V"⟩, 16), (⟨"PairedCellsModel", "greatestIn", "(I)I"⟩, 16), (⟨"PairedCellsModel", "isReadable", "(I)Z"⟩, 16), (⟨"PairedCellsModel", "isRebuilt", "(I)Z"⟩, 16), (⟨"PairedCellsModel", "isCovered", "(II)Z"⟩, 16), (⟨"PairedCellsModel", "lastOf", "(I)I"⟩, 16), (⟨"PairedCellsModel", "firstOf", "(I)I"⟩, 16), (⟨"PairedCellsModel", "byteOf", "(II)I"⟩, 16), (⟨"PairedCellsModel", "eraseBlock", "(I)V"⟩, 16)]
theorem lw_r2 : ∀ q ∈ lw_privs_2, lw_okq q := List.forall_mem_cons.mpr ⟨lw_p16, List.forall_mem_cons.mpr ⟨lw_p17, List.forall_mem_cons.mpr ⟨lw_p18, List.forall_mem_cons.mpr ⟨lw_p19, List.forall_mem_cons.mpr ⟨lw_p20, List.forall_mem_cons.mpr ⟨lw_p21, List.forall_mem_cons.mpr ⟨lw_p22, List.forall_mem_cons.mpr ⟨lw_p23, List.forall_mem_cons.mpr ⟨lw_p24, List.forall_mem_cons.mpr ⟨lw_p25, List.forall_mem_cons.mpr ⟨lw_p26, List.forall_mem_cons.mpr ⟨lw_p27, List.forall_mem_cons.mpr ⟨lw_p28, List.forall_mem_cons.mpr ⟨lw_p29, List.forall_mem_cons.mpr ⟨lw_p30, List.forall_mem_cons.mpr ⟨lw_p31, fun _ h => absurd h List.not_mem_nil⟩⟩⟩⟩⟩⟩⟩⟩⟩⟩⟩⟩⟩⟩⟩⟩
theorem lw_p32 : lw_okq (⟨"PairedCellsModel", "find", "(I)V"⟩, 16) := ⟨⟨by decide +kernel, by decide +kernel⟩, List.mem_of_getElem? (i := 519) (by decide +kernel), List.mem_of_getElem? (i := 679) (by decide +kernel), List.mem_of_getElem? (i := 680) (by decide +kernel)⟩
theorem lw_p33 : lw_okq (⟨"PairedCellsModel", "foundByte", "(I)I"⟩, 16) := ⟨⟨by decide +kernel, by decide +kernel⟩, List.mem_of_getElem? (i := 519) (by decide +kernel), List.mem_of_getElem? (i := 683) (by decide +kernel), List.mem_of_getElem? (i := 684) (by decide +kernel)⟩
def lw_privs_3 : List (MethodName × Nat) := [(⟨"PairedCellsModel", "find", "(I)V"⟩, 16), (⟨"PairedCellsModel", "foundByte", "(I)I"⟩, 16)]
theorem lw_r3 : ∀ q ∈ lw_privs_3, lw_okq q := List.forall_mem_cons.mpr ⟨lw_p32, List.forall_mem_cons.mpr ⟨lw_p33, fun _ h => absurd h List.not_mem_nil⟩⟩
def lw_privs : List (MethodName × Nat) := lw_privs_1 ++ (lw_privs_2 ++ (lw_privs_3))
def lw_tbl : List Cond := k2_sels lw_privs ++ tables_1
theorem lw_privs_ok : ∀ q ∈ lw_privs, lw_okq q := by
  show ∀ q ∈ lw_privs_1 ++ (lw_privs_2 ++ (lw_privs_3)), lw_okq q
  exact List.forall_mem_append.mpr ⟨lw_r1, List.forall_mem_append.mpr ⟨lw_r2, lw_r3⟩⟩
end
section
/-! ===== BEGIN words of one list among another's, by their places ===== -/
theorem goodIn_r {big : List Cond} (ws : List Cond) (ps : List Nat) (hp : ws = ps.filterMap (fun i => big[i]?)) (h : ws.all goodWord = true) : GoodIn big ws := by
  intro w hw
  have h1 := List.all_eq_true.mp h w hw
  rw [hp] at hw
  obtain ⟨i, -, hi⟩ := List.mem_filterMap.mp hw
  have hm : w ∈ big := by first | exact List.mem_of_getElem? hi | exact List.getElem?_mem hi
  exact ⟨hm, good_of_word h1⟩
theorem goodIn_app {big a b : List Cond} (ha : GoodIn big a) (hb : GoodIn big b) : GoodIn big (a ++ b) := fun w h => (List.mem_append.mp h).elim (ha w) (hb w)
theorem goodIn_ca {big a b : List Cond} {c : Cond} (ha : GoodIn big (c :: a)) (hb : GoodIn big b) : GoodIn big (c :: (a ++ b)) := fun w h => (List.mem_cons.mp h).elim (fun e => ha w (List.mem_cons.mpr (Or.inl e))) (fun h => (List.mem_append.mp h).elim (fun h => ha w (List.mem_cons.mpr (Or.inr h))) (hb w))
theorem goodIn_sub {big ws : List Cond} (hm : ∀ w ∈ ws, w ∈ big) (h : ws.all goodWord = true) : GoodIn big ws := fun w hw => ⟨hm w hw, good_of_word (List.all_eq_true.mp h w hw)⟩
/-! ===== END ===== -/

/-! ===== BEGIN exceptions that leave a method, and their catching by the caller (launches without stack traces) ===== -/
section VXA
/-! The laws vx_back, vx_callV, vx_callS, vx_callSW, vx_throw0, vx_throwS follow proofs of the library, with one case more: JvmDerived/Free/Laws.lean (Back.of_free), Shelf42/LK1.lean (callV, callS), Shelf/KitTraced.lean (throwNew0V, throwNewS). -/
/-- where a method has thrown q: the class by its name, the cell, what was written, the world -/
def vx_T (XC : String → State → State → Prop) (st : State) (q : Addr) (t : State) (mc ms : Nat) (free : Addr → Prop) : Prop :=
  ∃ (E : String) (ce : Cell) (L : List Loc), XC E st t ∧ t.heap[q]? = some ce ∧ ce.vm = .none ∧ st.vm.findClass E = some ce.cls ∧ st.WarmedH t.vm ∧ st.sameButNew ({ t with vm := st.vm } : State) L mc ms ∧ ∀ z ∈ L, free z.base
def vx_Q (Qc : Array Value → State → Outcome → State → Prop) (XC : String → State → State → Prop) (mc ms : Nat) (free : Addr → Prop) : Array Value → State → Outcome → State → Prop := fun a st o t =>
  (Qc a st o t ∧ ∃ L, FrameEnd st o t L mc ms ∧ ∀ q ∈ L, free q.base) ∨ ∃ q, o = .threw q ∧ vx_T XC st q t mc ms free
/-- a callee that returns or throws -/
def vx_Met (l : Launch) (y : MethodName) (ws : List Cond) (rm : Room) (Pc : Array Value → State → Prop) (Qc : Array Value → State → Outcome → State → Prop) (XC : String → State → State → Prop) (mc ms : Nat) (free : Addr → Prop) : Prop :=
  MetFree l y (headSpec ws rm) Pc (fun _ _ _ _ _ => True) (vx_Q Qc XC mc ms free)
def vx_Post (XC : String → State → State → Prop) (mc ms : Nat) (free : Addr → Prop) : Pt → Array Value → Addr → Pt → Prop := fun A a q B =>
  ∃ (g : JFrame) (mk : MethodId) (t : State) (L : List Loc) (E : String) (ce : Cell), B.U.heap = t.heap ∧ B.U.vm = t.vm ∧ XC E (A.U.calling g mk a) t ∧ t.heap[q]? = some ce ∧ ce.vm = .none ∧ A.U.vm.findClass E = some ce.cls ∧ B.locs = A.locs ++ L ∧ (∀ z ∈ L, free z.base) ∧ B.cells = A.cells + mc ∧ B.slots = A.slots + ms
def vx_Back (l : Launch) (R : Room) (p : Program) (e : Env) (below : List Frame) (s : State) (sargs : Array Value) (y : MethodName) (len W9 : Nat)
    (Pre : Pt → Array Value → Prop) (Post : Pt → Array Value → Option Value → Pt → Prop) (PostX : Pt → Array Value → Addr → Pt → Prop) : Prop :=
  ∀ (m : MethodId) (meth : Method) (c : Code) (A : Pt) (g : JFrame) (ig : Instr) (mk : MethodId) (a : Array Value),
    Stand p l e R s m sargs below meth c A.U A.locs A.cells A.slots → g.method = m → g.locals.size = c.maxLocals → decode c.code g.pc = .ok (ig, len) →
    2 * g.monitorRoom + (g.stack.map fun v => v.category).sum ≤ W9 → A.U.methodNamed? y = some mk → Pre A a →
    (∃ (v : Option Value) (B : Pt), Stand p l e R s m sargs below meth c B.U B.locs B.cells B.slots ∧ Post A a v B ∧
      Steps p.tables e below (doInvoke e (A.U.setTop g) [] mk a).1 (B.U.setTop { g with pc := g.pc + len, stack := v.toList ++ g.stack })) ∨
    (∃ (q : Addr) (B : Pt), Stand p l e R s m sargs below meth c B.U B.locs B.cells B.slots ∧ PostX A a q B ∧
      Steps p.tables e below (doInvoke e (A.U.setTop g) [] mk a).1 ((B.U.setTop g).pushFrame (.throwing q)))
section Payer
variable {l : Launch} {R : Room} {p : Program} {e : Env} {below : List Frame} {s : State} {sargs : Array Value} {y : MethodName} {len W9 : Nat}
theorem vx_back {ws : List Cond} {rm : Room} {Pc : Array Value → State → Prop} {Qc : Array Value → State → Outcome → State → Prop} {XC : String → State → State → Prop} {mc ms : Nat} {free : Addr → Prop} {bytes : ByteArray} {maxL : Nat} {ret : Option FieldType}
    (hM : vx_Met l y ws rm Pc Qc XC mc ms free) (hblind : FrameBlind Pc) (hrc : rm.cells = mc) (hrs : rm.slots = ms)
    (hframes : rm.frames + 1 ≤ R.frames) (hlocals : W9 + (maxL + 11) + rm.locals ≤ R.locals)
    (hws : ∀ w ∈ ws, ∀ a' U, s.WarmedH U.vm → w.before a' U = true) (hcode : Cond.code y bytes maxL ret ∈ ws) (hinit : ∀ a' U, s.WarmedH U.vm → (Cond.initialized y.cls).before a' U = true) :
    vx_Back l R p e below s sargs y len W9 (PreOf R mc ms Pc) (PostOf Qc mc ms free) (vx_Post XC mc ms free) := by
  intro m meth c A g ig mk a X hg hsize hdg hW hn hp
  have h1 : (headSpec ws rm).pre.before a A.U = true := atoms_intro fun w hw => hws w hw _ _ X.warmed
  have h2 : (Cond.code y bytes maxL ret).before a A.U = true := hws _ hcode _ _ X.warmed
  have h3 : (Cond.initialized y.cls).before a A.U = true := hinit _ _ X.warmed
  have h4 : A.cells + (headSpec ws rm).room.cells ≤ R.cells := by rw [show (headSpec ws rm).room.cells = mc from hrc]; exact hp.1
  have h5 : A.slots + (headSpec ws rm).room.slots ≤ R.slots := by rw [show (headSpec ws rm).room.slots = ms from hrs]; exact hp.2.1
  have hPc : Pc a (A.U.calling g mk a) := hblind _ _ _ _ hp.2.2
  obtain ⟨U, Ls, c0, s0⟩ := A
  dsimp only [Pt.U, Pt.locs, Pt.cells, Pt.slots] at h1 h2 h3 h4 h5 X hn hPc ⊢
  obtain ⟨methY, cY, hmY, hcY, -, hlY, -, -, -, -⟩ := Cond.code_spec hn h2
  obtain ⟨kY, hkY, -⟩ := className_of_methodNamed hn
  have hinitY : kY.init = .initialized := Cond.initialized_spec (findClass_of_methodNamed hn) hkY h3
  have h : At U g.method c below := by rw [hg]; exact X.here
  have hlocals9 : W9 + (maxL + 11) + (headSpec ws rm).room.locals ≤ R.locals := hlocals
  have happ : (headSpec ws rm).appliesLoose y e.platform (U.calling g mk a) = true :=
    Spec.appliesLoose_calling (g := g) h hdg hn hkY hinitY
      (X.room_calling (g := g) (R' := (headSpec ws rm).room) hsize hmY hcY hframes (by rw [hlY]; omega) h4 h5) h1
  obtain ⟨mid, hmid⟩ := h.above
  have hfr : (U.setTop g).frames = (.java g :: mid) ++ below := by rw [State.frames_setTop' g h.top, hmid]; rfl
  obtain ⟨o, s₂, hsteps, -, hend, hq⟩ := Steps.callFree hM p X.admits X.cas X.clock (acts := []) hfr happ hPc trivial
  have hq' : vx_Q Qc XC mc ms free a (U.calling g mk a) o s₂ := hq
  rw [State.frames_setTop' g h.top] at hend
  obtain ⟨g₀, hg0⟩ := Option.isSome_iff_exists.mp h.top
  obtain ⟨r, hr⟩ := State.topJava?_eq_some.mp hg0
  have hr' : (({ U with heap := s₂.heap, slotsUsed := s₂.slotsUsed } : State).setVm s₂.vm).frames = .java g₀ :: r := hr
  rcases hq' with ⟨hqc, L, hfe, hL⟩ | ⟨q, rfl, E, ce, L, hx, hce, hcv, hcl, hW₂, hsm, hL⟩
  · obtain ⟨⟨v, rfl⟩, hW₂, e2, q2, q3, q4, q5, q6⟩ := id hfe
    have e3 : s₂ = ({ (U.calling g mk a).setFrames s₂.frames with heap := s₂.heap, slotsUsed := s₂.slotsUsed } : State).setVm s₂.vm := by
      have : s₂ = ({ s₂ with vm := (U.calling g mk a).vm } : State).setVm s₂.vm := rfl
      rw [e2] at this
      exact this
    obtain ⟨c₂, i₂, len₂, hc₂, hd₂, hf₂⟩ := hend
    have hW' : U.WarmedH s₂.vm := hW₂
    have hcc : c₂ = c := by
      have h1 : s₂.code? g.method = U.code? g.method := by
        rw [State.code?_eq, State.code?_eq, hW'.alike.method?]
      exact Option.some.inj (hc₂.symm.trans (h1.trans h.code))
    subst hcc
    have hlen : len₂ = len := by rw [hdg] at hd₂; cases hd₂; rfl
    subst hlen
    have hs₂ : s₂ = (({ U with heap := s₂.heap, slotsUsed := s₂.slotsUsed } : State).setVm s₂.vm).setTop { g with pc := g.pc + len₂, stack := v.toList ++ g.stack } := by
      refine e3.trans ?_
      rw [hf₂, State.calling_eq h.top, State.setFrames_setFrames, State.setTop_of_frames _ hr', hr]
      rfl
    have hsame : U.sameButNew ({ U with heap := s₂.heap, slotsUsed := s₂.slotsUsed } : State) L mc ms := by
      refine ⟨?_, q2, q3, q4, q5, q6⟩
      obtain ⟨t, ht, -⟩ := State.frames_cons hr
      show ({ U with heap := s₂.heap, slotsUsed := s₂.slotsUsed } : State) = { U.setFrames U.frames with heap := s₂.heap, slotsUsed := s₂.slotsUsed }
      rw [State.setFrames_self ht]
    subst hg
    refine Or.inl ⟨v, ⟨(({ U with heap := s₂.heap, slotsUsed := s₂.slotsUsed } : State).setVm s₂.vm), Ls ++ L, c0 + mc, s0 + ms⟩,
      ⟨X.admits, X.cas, X.clock, X.frames, X.room, X.hears, X.method, X.code, (X.here.setHeapUsed s₂.heap s₂.slotsUsed).setVm hW'.alike, X.tail, State.WarmedH.trans X.warmed hW', X.limits, X.bytes, X.same.trans (hsame.setVm s.vm)⟩,
      ⟨g, mk, s₂, L, rfl, rfl, hqc, rfl, hL, rfl, rfl⟩, ?_⟩
    show Steps p.tables e below _ ((({ U with heap := s₂.heap, slotsUsed := s₂.slotsUsed } : State).setVm s₂.vm).setTop { g with pc := g.pc + len₂, stack := v.toList ++ g.stack })
    rw [← hs₂]
    exact hsteps
  · obtain ⟨e2, q2, q3, q4, q5, q6⟩ := id hsm
    have e3 : s₂ = ({ (U.calling g mk a).setFrames s₂.frames with heap := s₂.heap, slotsUsed := s₂.slotsUsed } : State).setVm s₂.vm := by
      have : s₂ = ({ s₂ with vm := (U.calling g mk a).vm } : State).setVm s₂.vm := rfl
      rw [e2] at this
      exact this
    have hf₂ : s₂.frames = .throwing q :: .java g :: U.frames.tail := hend
    have hW' : U.WarmedH s₂.vm := hW₂
    have hs₂ : s₂ = ((({ U with heap := s₂.heap, slotsUsed := s₂.slotsUsed } : State).setVm s₂.vm).setTop g).pushFrame (.throwing q) := by
      refine e3.trans ?_
      rw [hf₂, State.calling_eq h.top, State.setFrames_setFrames, State.pushFrame, State.frames_setTop _ hr', State.setTop_of_frames _ hr', State.setFrames_setFrames, hr]
      rfl
    have hsame : U.sameButNew ({ U with heap := s₂.heap, slotsUsed := s₂.slotsUsed } : State) L mc ms := by
      refine ⟨?_, q2, q3, q4, q5, q6⟩
      obtain ⟨t, ht, -⟩ := State.frames_cons hr
      show ({ U with heap := s₂.heap, slotsUsed := s₂.slotsUsed } : State) = { U.setFrames U.frames with heap := s₂.heap, slotsUsed := s₂.slotsUsed }
      rw [State.setFrames_self ht]
    subst hg
    refine Or.inr ⟨q, ⟨(({ U with heap := s₂.heap, slotsUsed := s₂.slotsUsed } : State).setVm s₂.vm), Ls ++ L, c0 + mc, s0 + ms⟩,
      ⟨X.admits, X.cas, X.clock, X.frames, X.room, X.hears, X.method, X.code, (X.here.setHeapUsed s₂.heap s₂.slotsUsed).setVm hW'.alike, X.tail, State.WarmedH.trans X.warmed hW', X.limits, X.bytes, X.same.trans (hsame.setVm s.vm)⟩,
      ⟨g, mk, s₂, L, E, ce, rfl, rfl, hx, hce, hcv, hcl, rfl, hL, rfl, rfl⟩, ?_⟩
    show Steps p.tables e below _ (((({ U with heap := s₂.heap, slotsUsed := s₂.slotsUsed } : State).setVm s₂.vm).setTop g).pushFrame (.throwing q))
    rw [← hs₂]
    exact hsteps
end Payer
section Calls
variable {p : Program} {l : Launch} {e : Env} {R : Room} {s : State} {m : MethodId} {args : Array Value} {below : List Frame} {meth : Method} {c : Code} {T : State} {locs : List Loc} {cells slots : Nat}
theorem vx_callV (X : Stand p l e R s m args below meth c T locs cells slots) (hexec : p.tables.exec = Jvm.exec) {own C : String} {index : Nat} {y : MethodName} {bytes : ByteArray} {maxL : Nat} {ret : Option FieldType}
    (hown : s.vm.findClass own = some m.cls) (hlink : (Cond.methodLink own index y).before args s = true) (hinst : (Cond.instanceMethod y).before args s = true) (hsel : (Cond.selects C y y).before args s = true)
    (hcode : (Cond.code y bytes maxL ret).before args s = true) (hy : y.cls ≠ "java/lang/invoke/MethodHandle" ∧ y.cls ≠ "java/lang/invoke/VarHandle")
    {W9 : Nat} {Pre : Pt → Array Value → Prop} {Post : Pt → Array Value → Option Value → Pt → Prop} {PostX : Pt → Array Value → Addr → Pt → Prop} (hK : vx_Back l R p e below s args y 3 W9 Pre Post PostX)
    {b : Addr} {cellB : Cell} (hcell : T.heap[b]? = some cellB) (hobj : cellB.vm.isStatics = false) (hcls : s.vm.findClass C = some cellB.cls)
    {g : JFrame} (hg : g.method = m) (hsize : g.locals.size = c.maxLocals) {argsL rest : List Value} (hlen : ∀ sig, parseMethodDescriptor y.desc = some sig → argsL.length = sig.parameters.length)
    (hstack : g.stack = argsL.reverse ++ .ref b :: rest) (hW : 2 * g.monitorRoom + (rest.map fun v => v.category).sum ≤ W9) (hdg : decode c.code g.pc = .ok (.invokevirtual index, 3))
    (hpre : ∀ vm₁, s.WarmedH vm₁ → Pre ⟨T.setVm vm₁, locs, cells, slots⟩ (Value.ref b :: argsL).toArray) :
    (∃ (v : Option Value) (vm₁ : Vm) (B : Pt), s.WarmedH vm₁ ∧ Stand p l e R s m args below meth c B.U B.locs B.cells B.slots ∧ Post ⟨T.setVm vm₁, locs, cells, slots⟩ (Value.ref b :: argsL).toArray v B ∧
      ∀ target, Steps p.tables e below (B.U.setTop { g with pc := g.pc + 3, stack := v.toList ++ rest }) target → Steps p.tables e below (T.setTop g) target) ∨
    (∃ (q : Addr) (vm₁ : Vm) (B : Pt), s.WarmedH vm₁ ∧ Stand p l e R s m args below meth c B.U B.locs B.cells B.slots ∧ PostX ⟨T.setVm vm₁, locs, cells, slots⟩ (Value.ref b :: argsL).toArray q B ∧
      Steps p.tables e below (T.setTop g) ((B.U.setTop { g with stack := rest }).pushFrame (.throwing q))) := by
  obtain ⟨mk, methM, hnamed, hmethM, hstM, habM⟩ := Cond.instanceMethod_spec hinst
  obtain ⟨methM', cM, hmethM', -, -, -, -, -, -, hsigM⟩ := Cond.code_spec hnamed hcode
  cases hmethM.symm.trans hmethM'
  obtain ⟨c2, r2, m2, q1, q2, q3, q4, kP, hkP, hkPi⟩ := Cond.selects_spec hsel
  cases hcls.symm.trans q1
  cases (State.methodFound?_of_named hnamed hy).symm.trans q2
  cases hnamed.symm.trans q3
  have hselP : selectMethod e.platform s.vm cellB.cls mk = .method mk := by rw [Launch.admits_selectMethod X.admits]; exact q4
  obtain ⟨vm₁, X₁, hstep₁⟩ := X.invokevirtual hexec hown hlink hnamed hmethM hstM hkP hkPi hy (a := b) (cell := cellB) hcell
    (fun z h => by rw [h] at hobj; cases hobj) hselP hmethM habM hkP hkPi (g := g) hg (argsL := argsL) (rest := rest) (hlen _ hsigM) hstack hdg
  rcases hK m meth c ⟨T.setVm vm₁, locs, cells, slots⟩ { g with stack := rest } (.invokevirtual index) mk (Value.ref b :: argsL).toArray X₁ hg hsize hdg hW (X₁.named hnamed) (hpre vm₁ X₁.warmed) with ⟨v, B, X', hpost, hsteps⟩ | ⟨q, B, X', hpost, hsteps⟩
  · exact Or.inl ⟨v, vm₁, B, X₁.warmed, X', hpost, fun target h => hstep₁ _ fun acts => by rw [doInvoke_state]; exact hsteps.trans h⟩
  · exact Or.inr ⟨q, vm₁, B, X₁.warmed, X', hpost, hstep₁ _ fun acts => by rw [doInvoke_state]; exact hsteps⟩
theorem vx_callS (X : Stand p l e R s m args below meth c T locs cells slots) (hexec : p.tables.exec = Jvm.exec) {own : String} {index : Nat} {y : MethodName} {bytes : ByteArray} {maxL : Nat} {ret : Option FieldType}
    (hown : s.vm.findClass own = some m.cls) (hlink : (Cond.methodLink own index y).before args s = true) (hstat : (Cond.static y).before args s = true) (hinit : (Cond.initialized y.cls).before args s = true)
    (hcode : (Cond.code y bytes maxL ret).before args s = true) (hy : y.cls ≠ "java/lang/invoke/MethodHandle" ∧ y.cls ≠ "java/lang/invoke/VarHandle")
    {W9 : Nat} {Pre : Pt → Array Value → Prop} {Post : Pt → Array Value → Option Value → Pt → Prop} {PostX : Pt → Array Value → Addr → Pt → Prop} (hK : vx_Back l R p e below s args y 3 W9 Pre Post PostX)
    {g : JFrame} (hg : g.method = m) (hsize : g.locals.size = c.maxLocals) {argsL rest : List Value} (hlen : ∀ sig, parseMethodDescriptor y.desc = some sig → argsL.length = sig.parameters.length)
    (hstack : g.stack = argsL.reverse ++ rest) (hW : 2 * g.monitorRoom + (rest.map fun v => v.category).sum ≤ W9) (hdg : decode c.code g.pc = .ok (.invokestatic index, 3))
    (hpre : ∀ vm₁, s.WarmedH vm₁ → Pre ⟨T.setVm vm₁, locs, cells, slots⟩ argsL.toArray) :
    (∃ (v : Option Value) (vm₁ : Vm) (B : Pt), s.WarmedH vm₁ ∧ Stand p l e R s m args below meth c B.U B.locs B.cells B.slots ∧ Post ⟨T.setVm vm₁, locs, cells, slots⟩ argsL.toArray v B ∧
      ∀ target, Steps p.tables e below (B.U.setTop { g with pc := g.pc + 3, stack := v.toList ++ rest }) target → Steps p.tables e below (T.setTop g) target) ∨
    (∃ (q : Addr) (vm₁ : Vm) (B : Pt), s.WarmedH vm₁ ∧ Stand p l e R s m args below meth c B.U B.locs B.cells B.slots ∧ PostX ⟨T.setVm vm₁, locs, cells, slots⟩ argsL.toArray q B ∧
      Steps p.tables e below (T.setTop g) ((B.U.setTop { g with stack := rest }).pushFrame (.throwing q))) := by
  obtain ⟨mk, hnamed⟩ := Cond.code_named hcode
  obtain ⟨methM, cM, hmethM, -, -, -, -, -, -, hsigM⟩ := Cond.code_spec hnamed hcode
  have hstatic : methM.isStatic = true := Cond.static_spec hnamed hmethM hstat
  obtain ⟨kP, hkP, -⟩ := className_of_methodNamed hnamed
  have hinitP : kP.init = .initialized := Cond.initialized_spec (findClass_of_methodNamed hnamed) hkP hinit
  obtain ⟨vm₁, X₁, hstep₁⟩ := X.invokestatic hexec hown hlink hnamed hmethM hstatic hkP hinitP hy (g := g) hg (argsL := argsL) (rest := rest) (hlen _ hsigM) hstack hdg
  rcases hK m meth c ⟨T.setVm vm₁, locs, cells, slots⟩ { g with stack := rest } (.invokestatic index) mk argsL.toArray X₁ hg hsize hdg hW (X₁.named hnamed) (hpre vm₁ X₁.warmed) with ⟨v, B, X', hpost, hsteps⟩ | ⟨q, B, X', hpost, hsteps⟩
  · exact Or.inl ⟨v, vm₁, B, X₁.warmed, X', hpost, fun target h => hstep₁ _ fun acts => by rw [doInvoke_state]; exact hsteps.trans h⟩
  · exact Or.inr ⟨q, vm₁, B, X₁.warmed, X', hpost, hstep₁ _ fun acts => by rw [doInvoke_state]; exact hsteps⟩
end Calls
theorem vx_cls {s : State} {T : State} {vm₁ : Vm} {E : String} {k : ClassId} (hW : s.WarmedH vm₁) (h : (T.setVm vm₁).vm.findClass E = some k) : s.vm.findClass E = some k := by
  have h1 : vm₁.findClass E = some k := h
  rw [hW.alike.findClass] at h1
  exact h1
/-- the method's frame g, with q thrown over it -/
def vx_W (p : Program) (l : Launch) (e : Env) (R : Room) (s : State) (m : MethodId) (args : Array Value) (below : List Frame) (meth : Method) (c : Code) (H : Heap) (locs : List Loc) (cells slots : Nat) (Q : State → Prop) (g : JFrame) (q : Addr) : Prop :=
  ∀ T : State, T.heap = H → Stand p l e R s m args below meth c T locs cells slots → ∃ t, Steps p.tables e below ((T.setTop g).pushFrame (.throwing q)) t ∧ Q t
def vx_Run (p : Program) (l : Launch) (e : Env) (R : Room) (s : State) (m : MethodId) (args : Array Value) (below : List Frame) (meth : Method) (c : Code) (H : Heap) (locs : List Loc) (cells slots mc ms : Nat) (g : JFrame) (rest : List Value) (Qa : State → Outcome → State → Prop) (XC : String → State → State → Prop) (free : Addr → Prop) : Prop :=
  ∀ T : State, T.heap = H → Stand p l e R s m args below meth c T locs cells slots →
    (∃ (v : Option Value) (st₀ t T' : State) (L : List Loc), st₀.heap = H ∧ Stand p l e R s m args below meth c T' (locs ++ L) (cells + mc) (slots + ms) ∧ (∀ q ∈ L, free q.base) ∧ T'.heap = t.heap ∧ T'.vm = t.vm ∧ Qa st₀ (.returned v) t ∧
      Goes p e below T g T' { g with pc := g.pc + 3, stack := v.toList ++ rest }) ∨
    (∃ (q : Addr) (st₀ t T' : State) (L : List Loc) (E : String) (ce : Cell), st₀.heap = H ∧ Stand p l e R s m args below meth c T' (locs ++ L) (cells + mc) (slots + ms) ∧ (∀ z ∈ L, free z.base) ∧ T'.heap = t.heap ∧ T'.vm = t.vm ∧ XC E st₀ t ∧ t.heap[q]? = some ce ∧ ce.vm = .none ∧ s.vm.findClass E = some ce.cls ∧
      Steps p.tables e below (T.setTop g) ((T'.setTop { g with stack := rest }).pushFrame (.throwing q)))
def vx_X {S : Type} (px : S → Prop) (B : String → S → State → Prop) (A : Nat → Prop) : String → State → State → Prop := fun E st t => ∃ u : S, px u ∧ B E u t ∧ va_F A st t
section Runs
variable {p : Program} {l : Launch} {e : Env} {R : Room} {s : State} {m : MethodId} {args : Array Value} {below : List Frame} {meth : Method} {c : Code} {H : Heap} {locs : List Loc} {cells slots : Nat}
variable {y : MethodName} {bytes cc : ByteArray} {maxL nL mc ms n index : Nat} {ret : Option FieldType} {ws : List Cond} {rm : Room} {Pc : Array Value → State → Prop} {Qc : Array Value → State → Outcome → State → Prop} {XC : String → State → State → Prop} {free : Addr → Prop} {Ts : List Cond} {own C : String} {b : Addr} {As rest : List Value} {g : JFrame}
theorem vx_callBack (cb : CallB R s args own index y bytes maxL ret ws rm mc ms n) (hM : vx_Met l y ws rm Pc Qc XC mc ms free) (hbl : FrameBlind Pc) : vx_Back l R p e below s args y 3 8 (PreOf R mc ms Pc) (PostOf Qc mc ms free) (vx_Post XC mc ms free) := by
  obtain ⟨hrc, hrs, hfr, hlo, hws, hcw, -, hini, -⟩ := cb
  exact vx_back (bytes := bytes) (maxL := maxL) (ret := ret) hM hbl hrc hrs hfr hlo hws hcw (fun a' U hW => word_at hW (Or.inl (by first | rfl | simp [Cond.onTables, Cond.keeps, Cond.steady])) hini)
theorem vx_runV (S : CallFix p m c cc nL s args Ts own) (hM : vx_Met l y ws rm Pc Qc XC mc ms free) (cw : CallW R s args own C index y bytes maxL ret ws rm mc ms n) (hp : PreV s H C b Pc As)
    (hg : g.method = m) (hn : As.length = n) (hsize : g.locals.size = nL) (hstack : g.stack = As.reverse ++ .ref b :: rest) (hW : 2 * g.monitorRoom + (rest.map fun v => v.category).sum ≤ 8) (hdg : decode cc g.pc = .ok (.invokevirtual index, 3)) (hf : cells + mc ≤ R.cells ∧ slots + ms ≤ R.slots) :
    vx_Run p l e R s m args below meth c H locs cells slots mc ms g rest (Qc (Value.ref b :: As).toArray) XC free := by
  have hK : vx_Back l R p e below s args y 3 8 (PreOf R mc ms Pc) (PostOf Qc mc ms free) (vx_Post XC mc ms free) := vx_callBack cw.1 hM hp.1
  obtain ⟨⟨-, -, -, -, -, -, hcode, -, hy, hlen, hl⟩, hin, hse⟩ := cw
  obtain ⟨hx, hb, hml, ho, -⟩ := S
  obtain ⟨-, ⟨cellB, hcB, hoB, hclB⟩, hPc⟩ := hp
  intro T hT X
  rcases vx_callV X hx (C := C) (bytes := bytes) (maxL := maxL) (ret := ret) ho hl hin hse hcode hy hK (by rw [hT]; exact hcB) hoB hclB hg (hsize.trans hml.symm) (argsL := As) (rest := rest) (fun sig h => hn.trans (hlen sig h)) hstack hW (by rw [hb]; exact hdg)
    (fun vm₁ hW₁ => ⟨hf.1, hf.2, hPc (T.setVm vm₁) hT hW₁⟩) with ⟨v, vm₁, ⟨U', l2, c2, s2⟩, hW₁, X', ⟨g', mk, t, L, e1, e2, hq, h1, hL, h2, h3⟩, st⟩ | ⟨q, vm₁, ⟨U', l2, c2, s2⟩, hW₁, X', ⟨g', mk, t, L, E, ce, e1, e2, hq, hce, hcv, hcl, h1, hL, h2, h3⟩, st⟩
  · dsimp only [Pt.U, Pt.locs, Pt.cells, Pt.slots] at X' e1 e2 h1 h2 h3 st
    subst h1; subst h2; subst h3
    exact Or.inl ⟨v, (T.setVm vm₁).calling g' mk (Value.ref b :: As).toArray, t, U', L, hT, X', hL, e1, e2, hq, st⟩
  · dsimp only [Pt.U, Pt.locs, Pt.cells, Pt.slots] at X' e1 e2 h1 h2 h3 st hcl
    subst h1; subst h2; subst h3
    exact Or.inr ⟨q, (T.setVm vm₁).calling g' mk (Value.ref b :: As).toArray, t, U', L, E, ce, hT, X', hL, e1, e2, hq, hce, hcv, vx_cls hW₁ hcl, st⟩
theorem vx_runS (S : CallFix p m c cc nL s args Ts own) (hM : vx_Met l y ws rm Pc Qc XC mc ms free) (cw : CallB R s args own index y bytes maxL ret ws rm mc ms n ∧ (Cond.static y).before args s = true) (hp : PreS s H Pc As)
    (hg : g.method = m) (hn : As.length = n) (hsize : g.locals.size = nL) (hstack : g.stack = As.reverse ++ rest) (hW : 2 * g.monitorRoom + (rest.map fun v => v.category).sum ≤ 8) (hdg : decode cc g.pc = .ok (.invokestatic index, 3)) (hf : cells + mc ≤ R.cells ∧ slots + ms ≤ R.slots) :
    vx_Run p l e R s m args below meth c H locs cells slots mc ms g rest (Qc As.toArray) XC free := by
  have hK : vx_Back l R p e below s args y 3 8 (PreOf R mc ms Pc) (PostOf Qc mc ms free) (vx_Post XC mc ms free) := vx_callBack cw.1 hM hp.1
  obtain ⟨⟨-, -, -, -, -, -, hcode, hini, hy, hlen, hl⟩, hstt⟩ := cw
  obtain ⟨hx, hb, hml, ho, -⟩ := S
  intro T hT X
  rcases vx_callS X hx (bytes := bytes) (maxL := maxL) (ret := ret) ho hl hstt hini hcode hy hK hg (hsize.trans hml.symm) (argsL := As) (rest := rest) (fun sig h => hn.trans (hlen sig h)) hstack hW (by rw [hb]; exact hdg)
    (fun vm₁ hW₁ => ⟨hf.1, hf.2, hp.2 (T.setVm vm₁) hT hW₁⟩) with ⟨v, vm₁, ⟨U', l2, c2, s2⟩, hW₁, X', ⟨g', mk, t, L, e1, e2, hq, h1, hL, h2, h3⟩, st⟩ | ⟨q, vm₁, ⟨U', l2, c2, s2⟩, hW₁, X', ⟨g', mk, t, L, E, ce, e1, e2, hq, hce, hcv, hcl, h1, hL, h2, h3⟩, st⟩
  · dsimp only [Pt.U, Pt.locs, Pt.cells, Pt.slots] at X' e1 e2 h1 h2 h3 st
    subst h1; subst h2; subst h3
    exact Or.inl ⟨v, (T.setVm vm₁).calling g' mk As.toArray, t, U', L, hT, X', hL, e1, e2, hq, st⟩
  · dsimp only [Pt.U, Pt.locs, Pt.cells, Pt.slots] at X' e1 e2 h1 h2 h3 st hcl
    subst h1; subst h2; subst h3
    exact Or.inr ⟨q, (T.setVm vm₁).calling g' mk As.toArray, t, U', L, E, ce, hT, X', hL, e1, e2, hq, hce, hcv, vx_cls hW₁ hcl, st⟩
end Runs
section Rows
variable {p : Program} {l : Launch} {e : Env} {R : Room} {s : State} {m : MethodId} {args : Array Value} {below : List Frame} {meth : Method} {c : Code} {H : Heap} {locs : List Loc} {cells slots : Nat} {Q : State → Prop}
variable {mc ms : Nat} {free : Addr → Prop} {A0 A1 : Nat → Prop} {H0 : Heap} {a : Array Value} {pc : Nat} {ls : Array Slot} {st0 rest : List Value}
theorem vx_keep {st₀ t T' : State} {L : List Loc} (h0 : st₀.heap = H) (e1 : T'.heap = t.heap) (hS : va_S A0 H0 H locs) (hA : ∀ q, q < H.size → A1 q → A0 q) (hf : ∀ q, free q → A0 q) (hL : ∀ q ∈ L, free q.base) (hF : va_F A1 st₀ t) :
    H.size ≤ T'.heap.size ∧ (∀ q : Nat, q < H.size → ¬ A1 q → T'.heap[q]? = H[q]?) ∧ va_S A0 H0 T'.heap (locs ++ L) := by
  obtain ⟨hz, hk⟩ := hF
  rw [h0] at hz hk
  exact ⟨by rw [e1]; exact hz, fun q h1 h2 => by rw [e1]; exact hk q h1 h2,
    ⟨Nat.le_trans hS.1 (by rw [e1]; exact hz), fun q h1 h2 => by rw [e1, hk q (Nat.lt_of_lt_of_le h1 hS.1) (fun z => h2 (hA q (Nat.lt_of_lt_of_le h1 hS.1) z))]; exact hS.2.1 q h1 h2, fun q hq => by
      rcases List.mem_append.mp hq with h | h
      · exact hS.2.2 q h
      · exact hf _ (hL q h)⟩⟩
theorem vx_calli {S SX : Type} {post : Int32 → S → Prop} {px : SX → Prop} {B : S → State → Prop} {BX : String → SX → State → Prop} {AX : Nat → Prop} (hr : vx_Run p l e R s m args below meth c H locs cells slots mc ms (F0 m pc ls st0) rest (va_Qi post B A1 a) (vx_X px BX AX) free) (hS : va_S A0 H0 H locs) (hA : ∀ q, q < H.size → A1 q → A0 q) (hf : ∀ q, free q → A0 q) (hAX : ∀ q, q < H.size → AX q → A0 q)
    (kx : ∀ (E : String) (ce : Cell) (q9 : Addr) (u : SX) (t : State) (H1 : Heap) (locs1 : List Loc), t.heap = H1 → s.vm.Alike t.vm → px u → BX E u t → H.size ≤ H1.size → (∀ q : Nat, q < H.size → ¬ AX q → H1[q]? = H[q]?) → va_S A0 H0 H1 locs1 → H1[q9]? = some ce → ce.vm = .none → s.vm.findClass E = some ce.cls → vx_W p l e R s m args below meth c H1 locs1 (cells + mc) (slots + ms) Q (F0 m pc ls rest) q9)
    (kk : ∀ (r : Int32) (u : S) (t : State) (H1 : Heap) (locs1 : List Loc), t.heap = H1 → s.vm.Alike t.vm → post r u → B u t → H.size ≤ H1.size → (∀ q : Nat, q < H.size → ¬ A1 q → H1[q]? = H[q]?) → va_S A0 H0 H1 locs1 → W p l e R s m args below meth c H1 locs1 (cells + mc) (slots + ms) Q (F0 m (pc + 3) ls (.int r :: rest))) : W p l e R s m args below meth c H locs cells slots Q (F0 m pc ls st0) := by
  intro T hT X
  rcases hr T hT X with ⟨v, st₀, t, T', L, h0, X', hL, e1, e2, ⟨⟨r, u, hv, hp, hb⟩, hF⟩, st⟩ | ⟨q, st₀, t, T', L, E, ce, h0, X', hL, e1, e2, ⟨u, hp, hb, hF⟩, hce, hcv, hcl, st⟩
  · cases hv
    obtain ⟨k1, k2, k3⟩ := vx_keep h0 e1 hS hA hf hL hF
    obtain ⟨t2, a1, b1⟩ := kk r u t T'.heap (locs ++ L) e1.symm (by rw [← e2]; exact X'.warmed.alike) hp hb k1 k2 k3 T' rfl X'
    exact ⟨t2, st t2 a1, b1⟩
  · obtain ⟨k1, k2, k3⟩ := vx_keep h0 e1 hS hAX hf hL hF
    obtain ⟨t2, a1, b1⟩ := kx E ce q u t T'.heap (locs ++ L) e1.symm (by rw [← e2]; exact X'.warmed.alike) hp hb k1 k2 k3 (by rw [e1]; exact hce) hcv hcl T' rfl X'
    exact ⟨t2, st.trans a1, b1⟩
theorem vx_calll {S SX : Type} {post : Int64 → S → Prop} {px : SX → Prop} {B : S → State → Prop} {BX : String → SX → State → Prop} {AX : Nat → Prop} (hr : vx_Run p l e R s m args below meth c H locs cells slots mc ms (F0 m pc ls st0) rest (va_Ql post B A1 a) (vx_X px BX AX) free) (hS : va_S A0 H0 H locs) (hA : ∀ q, q < H.size → A1 q → A0 q) (hf : ∀ q, free q → A0 q) (hAX : ∀ q, q < H.size → AX q → A0 q)
    (kx : ∀ (E : String) (ce : Cell) (q9 : Addr) (u : SX) (t : State) (H1 : Heap) (locs1 : List Loc), t.heap = H1 → s.vm.Alike t.vm → px u → BX E u t → H.size ≤ H1.size → (∀ q : Nat, q < H.size → ¬ AX q → H1[q]? = H[q]?) → va_S A0 H0 H1 locs1 → H1[q9]? = some ce → ce.vm = .none → s.vm.findClass E = some ce.cls → vx_W p l e R s m args below meth c H1 locs1 (cells + mc) (slots + ms) Q (F0 m pc ls rest) q9)
    (kk : ∀ (r : Int64) (u : S) (t : State) (H1 : Heap) (locs1 : List Loc), t.heap = H1 → s.vm.Alike t.vm → post r u → B u t → H.size ≤ H1.size → (∀ q : Nat, q < H.size → ¬ A1 q → H1[q]? = H[q]?) → va_S A0 H0 H1 locs1 → W p l e R s m args below meth c H1 locs1 (cells + mc) (slots + ms) Q (F0 m (pc + 3) ls (.long r :: rest))) : W p l e R s m args below meth c H locs cells slots Q (F0 m pc ls st0) := by
  intro T hT X
  rcases hr T hT X with ⟨v, st₀, t, T', L, h0, X', hL, e1, e2, ⟨⟨r, u, hv, hp, hb⟩, hF⟩, st⟩ | ⟨q, st₀, t, T', L, E, ce, h0, X', hL, e1, e2, ⟨u, hp, hb, hF⟩, hce, hcv, hcl, st⟩
  · cases hv
    obtain ⟨k1, k2, k3⟩ := vx_keep h0 e1 hS hA hf hL hF
    obtain ⟨t2, a1, b1⟩ := kk r u t T'.heap (locs ++ L) e1.symm (by rw [← e2]; exact X'.warmed.alike) hp hb k1 k2 k3 T' rfl X'
    exact ⟨t2, st t2 a1, b1⟩
  · obtain ⟨k1, k2, k3⟩ := vx_keep h0 e1 hS hAX hf hL hF
    obtain ⟨t2, a1, b1⟩ := kx E ce q u t T'.heap (locs ++ L) e1.symm (by rw [← e2]; exact X'.warmed.alike) hp hb k1 k2 k3 (by rw [e1]; exact hce) hcv hcl T' rfl X'
    exact ⟨t2, st.trans a1, b1⟩
theorem vx_callf {S SX : Type} {post : UInt32 → S → Prop} {px : SX → Prop} {B : S → State → Prop} {BX : String → SX → State → Prop} {AX : Nat → Prop} (hr : vx_Run p l e R s m args below meth c H locs cells slots mc ms (F0 m pc ls st0) rest (va_Qf post B A1 a) (vx_X px BX AX) free) (hS : va_S A0 H0 H locs) (hA : ∀ q, q < H.size → A1 q → A0 q) (hf : ∀ q, free q → A0 q) (hAX : ∀ q, q < H.size → AX q → A0 q)
    (kx : ∀ (E : String) (ce : Cell) (q9 : Addr) (u : SX) (t : State) (H1 : Heap) (locs1 : List Loc), t.heap = H1 → s.vm.Alike t.vm → px u → BX E u t → H.size ≤ H1.size → (∀ q : Nat, q < H.size → ¬ AX q → H1[q]? = H[q]?) → va_S A0 H0 H1 locs1 → H1[q9]? = some ce → ce.vm = .none → s.vm.findClass E = some ce.cls → vx_W p l e R s m args below meth c H1 locs1 (cells + mc) (slots + ms) Q (F0 m pc ls rest) q9)
    (kk : ∀ (r : UInt32) (u : S) (t : State) (H1 : Heap) (locs1 : List Loc), t.heap = H1 → s.vm.Alike t.vm → post r u → B u t → H.size ≤ H1.size → (∀ q : Nat, q < H.size → ¬ A1 q → H1[q]? = H[q]?) → va_S A0 H0 H1 locs1 → W p l e R s m args below meth c H1 locs1 (cells + mc) (slots + ms) Q (F0 m (pc + 3) ls (.float r :: rest))) : W p l e R s m args below meth c H locs cells slots Q (F0 m pc ls st0) := by
  intro T hT X
  rcases hr T hT X with ⟨v, st₀, t, T', L, h0, X', hL, e1, e2, ⟨⟨r, u, hv, hp, hb⟩, hF⟩, st⟩ | ⟨q, st₀, t, T', L, E, ce, h0, X', hL, e1, e2, ⟨u, hp, hb, hF⟩, hce, hcv, hcl, st⟩
  · cases hv
    obtain ⟨k1, k2, k3⟩ := vx_keep h0 e1 hS hA hf hL hF
    obtain ⟨t2, a1, b1⟩ := kk r u t T'.heap (locs ++ L) e1.symm (by rw [← e2]; exact X'.warmed.alike) hp hb k1 k2 k3 T' rfl X'
    exact ⟨t2, st t2 a1, b1⟩
  · obtain ⟨k1, k2, k3⟩ := vx_keep h0 e1 hS hAX hf hL hF
    obtain ⟨t2, a1, b1⟩ := kx E ce q u t T'.heap (locs ++ L) e1.symm (by rw [← e2]; exact X'.warmed.alike) hp hb k1 k2 k3 (by rw [e1]; exact hce) hcv hcl T' rfl X'
    exact ⟨t2, st.trans a1, b1⟩
theorem vx_calld {S SX : Type} {post : UInt64 → S → Prop} {px : SX → Prop} {B : S → State → Prop} {BX : String → SX → State → Prop} {AX : Nat → Prop} (hr : vx_Run p l e R s m args below meth c H locs cells slots mc ms (F0 m pc ls st0) rest (va_Qd post B A1 a) (vx_X px BX AX) free) (hS : va_S A0 H0 H locs) (hA : ∀ q, q < H.size → A1 q → A0 q) (hf : ∀ q, free q → A0 q) (hAX : ∀ q, q < H.size → AX q → A0 q)
    (kx : ∀ (E : String) (ce : Cell) (q9 : Addr) (u : SX) (t : State) (H1 : Heap) (locs1 : List Loc), t.heap = H1 → s.vm.Alike t.vm → px u → BX E u t → H.size ≤ H1.size → (∀ q : Nat, q < H.size → ¬ AX q → H1[q]? = H[q]?) → va_S A0 H0 H1 locs1 → H1[q9]? = some ce → ce.vm = .none → s.vm.findClass E = some ce.cls → vx_W p l e R s m args below meth c H1 locs1 (cells + mc) (slots + ms) Q (F0 m pc ls rest) q9)
    (kk : ∀ (r : UInt64) (u : S) (t : State) (H1 : Heap) (locs1 : List Loc), t.heap = H1 → s.vm.Alike t.vm → post r u → B u t → H.size ≤ H1.size → (∀ q : Nat, q < H.size → ¬ A1 q → H1[q]? = H[q]?) → va_S A0 H0 H1 locs1 → W p l e R s m args below meth c H1 locs1 (cells + mc) (slots + ms) Q (F0 m (pc + 3) ls (.double r :: rest))) : W p l e R s m args below meth c H locs cells slots Q (F0 m pc ls st0) := by
  intro T hT X
  rcases hr T hT X with ⟨v, st₀, t, T', L, h0, X', hL, e1, e2, ⟨⟨r, u, hv, hp, hb⟩, hF⟩, st⟩ | ⟨q, st₀, t, T', L, E, ce, h0, X', hL, e1, e2, ⟨u, hp, hb, hF⟩, hce, hcv, hcl, st⟩
  · cases hv
    obtain ⟨k1, k2, k3⟩ := vx_keep h0 e1 hS hA hf hL hF
    obtain ⟨t2, a1, b1⟩ := kk r u t T'.heap (locs ++ L) e1.symm (by rw [← e2]; exact X'.warmed.alike) hp hb k1 k2 k3 T' rfl X'
    exact ⟨t2, st t2 a1, b1⟩
  · obtain ⟨k1, k2, k3⟩ := vx_keep h0 e1 hS hAX hf hL hF
    obtain ⟨t2, a1, b1⟩ := kx E ce q u t T'.heap (locs ++ L) e1.symm (by rw [← e2]; exact X'.warmed.alike) hp hb k1 k2 k3 (by rw [e1]; exact hce) hcv hcl T' rfl X'
    exact ⟨t2, st.trans a1, b1⟩
theorem vx_callv {S SX : Type} {post : S → Prop} {px : SX → Prop} {B : S → State → Prop} {BX : String → SX → State → Prop} {AX : Nat → Prop} (hr : vx_Run p l e R s m args below meth c H locs cells slots mc ms (F0 m pc ls st0) rest (va_Qv post B A1 a) (vx_X px BX AX) free) (hS : va_S A0 H0 H locs) (hA : ∀ q, q < H.size → A1 q → A0 q) (hf : ∀ q, free q → A0 q) (hAX : ∀ q, q < H.size → AX q → A0 q)
    (kx : ∀ (E : String) (ce : Cell) (q9 : Addr) (u : SX) (t : State) (H1 : Heap) (locs1 : List Loc), t.heap = H1 → s.vm.Alike t.vm → px u → BX E u t → H.size ≤ H1.size → (∀ q : Nat, q < H.size → ¬ AX q → H1[q]? = H[q]?) → va_S A0 H0 H1 locs1 → H1[q9]? = some ce → ce.vm = .none → s.vm.findClass E = some ce.cls → vx_W p l e R s m args below meth c H1 locs1 (cells + mc) (slots + ms) Q (F0 m pc ls rest) q9)
    (kk : ∀ (u : S) (t : State) (H1 : Heap) (locs1 : List Loc), t.heap = H1 → s.vm.Alike t.vm → post u → B u t → H.size ≤ H1.size → (∀ q : Nat, q < H.size → ¬ A1 q → H1[q]? = H[q]?) → va_S A0 H0 H1 locs1 → W p l e R s m args below meth c H1 locs1 (cells + mc) (slots + ms) Q (F0 m (pc + 3) ls (rest))) : W p l e R s m args below meth c H locs cells slots Q (F0 m pc ls st0) := by
  intro T hT X
  rcases hr T hT X with ⟨v, st₀, t, T', L, h0, X', hL, e1, e2, ⟨⟨u, hv, hp, hb⟩, hF⟩, st⟩ | ⟨q, st₀, t, T', L, E, ce, h0, X', hL, e1, e2, ⟨u, hp, hb, hF⟩, hce, hcv, hcl, st⟩
  · cases hv
    obtain ⟨k1, k2, k3⟩ := vx_keep h0 e1 hS hA hf hL hF
    obtain ⟨t2, a1, b1⟩ := kk u t T'.heap (locs ++ L) e1.symm (by rw [← e2]; exact X'.warmed.alike) hp hb k1 k2 k3 T' rfl X'
    exact ⟨t2, st t2 a1, b1⟩
  · obtain ⟨k1, k2, k3⟩ := vx_keep h0 e1 hS hAX hf hL hF
    obtain ⟨t2, a1, b1⟩ := kx E ce q u t T'.heap (locs ++ L) e1.symm (by rw [← e2]; exact X'.warmed.alike) hp hb k1 k2 k3 (by rw [e1]; exact hce) hcv hcl T' rfl X'
    exact ⟨t2, st.trans a1, b1⟩
/-- caught by the row x of this method's table; the rows ahead don't take it -/
theorem vx_catch {own name : String} {E : String} {ce : Cell} {q : Addr} (hown : s.vm.findClass own = some m.cls) (pre : List ExceptionTableEntry) (x : ExceptionTableEntry) (suf : List ExceptionTableEntry) (hsplit : c.exceptionTable.toList = pre ++ x :: suf)
    (hpass : ∀ z ∈ pre, covers z pc = false ∨ (z.catchType ≠ 0 ∧ ∃ nm : String, (Cond.classLink own z.catchType nm).before args s = true ∧ va_Nc E nm s)) (hx : covers x pc = true) (h0 : x.catchType ≠ 0)
    (hlink : (Cond.classLink own x.catchType name).before args s = true) (hcast : (Cond.castable E name).before args s = true) (hcell : H[q]? = some ce) (hv : ce.vm = .none) (hcl : s.vm.findClass E = some ce.cls)
    (kk : W p l e R s m args below meth c H locs cells slots Q (F0 m x.handlerPc ls [.ref q])) : vx_W p l e R s m args below meth c H locs cells slots Q (F0 m pc ls rest) q := by
  intro T hT X
  have hpl : e.platform.magicAccessors = ({} : Platform).magicAccessors := by rw [X.admits.platform]
  obtain ⟨c3, c4, hc3, hc4, hasg⟩ := Cond.castable_spec hcast
  cases Option.some.inj (hc3.symm.trans hcl)
  obtain ⟨c5, hc5, hcl5⟩ := Cond.classLink_spec hown hlink e.platform hpl
  cases Option.some.inj (hc4.symm.trans hc5)
  obtain ⟨vm', X', st⟩ := X.thenCaughtThrough q (g := F0 m pc ls rest) rfl (Steps.refl _) (by rw [hT]; exact hcell) (by rw [hv]; rfl) (by obtain ⟨k9, h9, -⟩ := Vm.findClass_spec hcl; exact ⟨k9, h9⟩) pre x suf hsplit
    (fun z hz => by
      rcases hpass z hz with h | ⟨hz0, nm, hl1, hn1⟩
      · exact Or.inl h
      · obtain ⟨c6, hc6, hcl6⟩ := Cond.classLink_spec hown hl1 e.platform hpl
        obtain ⟨a8, b8, h1, h2, h3⟩ := hn1
        cases Option.some.inj (h1.symm.trans hcl)
        cases Option.some.inj (h2.symm.trans hc6)
        exact Or.inr ⟨hz0, _, hcl6, h3⟩) hx (Or.inr ⟨h0, c4, hcl5, hasg⟩)
  obtain ⟨t, a1, b1⟩ := kk (T.setVm vm') hT X'
  exact ⟨t, st.trans a1, b1⟩
end Rows
section Ends
variable {p : Program} {l : Launch} {e : Env} {R : Room} {s : State} {m : MethodId} {args : Array Value} {below : List Frame} {meth : Method} {c : Code} {H : Heap} {locs : List Loc} {cells slots : Nat} {Q : State → Prop}
variable {mc ms : Nat} {free : Addr → Prop} {A0 A1 : Nat → Prop} {H0 : Heap} {a : Array Value} {ls : Array Slot} {st0 rest : List Value}
variable {Qc : Array Value → State → Outcome → State → Prop} {XC : String → State → State → Prop}
/-- what a body that may throw owes at its end -/
def vx_MQ (below : List Frame) (Qc : Array Value → State → Outcome → State → Prop) (XC : String → State → State → Prop) (a : Array Value) (s : State) (mc ms : Nat) (free : Addr → Prop) : State → Prop := fun t =>
  ∃ o, t.status = .running ∧ Ended t below o ∧ vx_Q Qc XC mc ms free a s o t
theorem vx_ret {g : JFrame} {mc ms : Nat} (k : W p l e R s m args below meth c H locs cells slots (MQ below Qc args s mc ms free) g) : W p l e R s m args below meth c H locs cells slots (vx_MQ below Qc XC args s mc ms free) g := by
  intro T hT X
  obtain ⟨t, a1, o, b1, b2, b3, b4⟩ := k T hT X
  exact ⟨t, a1, o, b1, b2, Or.inl ⟨b3, b4⟩⟩
/-- not caught here: it goes on to the caller -/
theorem vx_widen {g : JFrame} {q : Addr} {k n : Nat} (h1 : cells ≤ k) (h2 : slots ≤ n) (kk : vx_W p l e R s m args below meth c H locs k n Q g q) : vx_W p l e R s m args below meth c H locs cells slots Q g q := fun T hT X => kk T hT (stand_widen X h1 h2)
theorem vx_out {pc : Nat} {E : String} {ce : Cell} {q : Addr} {mc ms : Nat} (hout : ∀ x ∈ c.exceptionTable.toList, covers x pc = false) (hlocks : meth.locks = false) (hcell : H[q]? = some ce) (hv : ce.vm = .none) (hcl : s.vm.findClass E = some ce.cls)
    (hx : ∀ t : State, t.heap = H → s.vm.Alike t.vm → XC E s t) (hf : ∀ z ∈ locs, free z.base) (hc : cells ≤ mc) (hs : slots ≤ ms) :
    vx_W p l e R s m args below meth c H locs cells slots (vx_MQ below Qc XC args s mc ms free) (F0 m pc ls rest) q := by
  intro T hT X
  obtain ⟨st1, hrun, hend, hW, hsm⟩ := X.leaveThrown q (g := F0 m pc ls rest) rfl rfl rfl hout hlocks
  have hcell9 : (T.setFrames (.throwing q :: below)).heap[q]? = some ce := by
    show T.heap[q]? = some ce
    rw [hT]; exact hcell
  exact ⟨_, st1, .threw q, hrun, hend, Or.inr ⟨q, rfl, E, ce, locs, hx _ hT hW.alike, hcell9, hv, hcl, hW, hsm.mono hc hs, hf⟩⟩
theorem vx_frame {U : State} {k n : Nat} (h : s.sameButNew ({ U with vm := s.vm } : State) locs k n) : s.heap.size ≤ U.heap.size ∧ ∀ q : Nat, q < s.heap.size → (∀ z ∈ locs, z.base ≠ q) → U.heap[q]? = s.heap[q]? := by
  obtain ⟨-, h2, -, -, -, h6⟩ := h
  refine ⟨h2, fun q hq hz => ?_⟩
  obtain ⟨c9, e1, e2, e3, e4⟩ := h6 q _ (Array.getElem?_eq_getElem hq)
  have hs : c9.slots = (s.heap[q]).slots := Array.ext_getElem? fun i => e4 i fun hm => hz _ hm rfl
  have h9 : c9 = s.heap[q] := by
    rw [hs] at e2
    exact e2
  have e5 : U.heap[q]? = some c9 := e1
  rw [e5, h9, Array.getElem?_eq_getElem hq]
/-- the words of a throw but the four that speak of the heap -/
def vx_no (w : Cond) : Bool := decide (w ≠ .isRef (.static Bundle.tN "UNASSIGNED_STACK" Bundle.steD)) && decide (w ≠ .isRef (.static Bundle.tN "SUPPRESSED_SENTINEL" Bundle.listD)) && decide (w ≠ .laysStatic Bundle.tN "UNASSIGNED_STACK" Bundle.steD) && decide (w ≠ .laysStatic Bundle.tN "SUPPRESSED_SENTINEL" Bundle.listD)
def vx_at0 (own : String) (ic : Nat) (X : String) (names : List String) : List Cond := (Bundle.ownAtoms0 own ic X names).filter vx_no
def vx_atS (own : String) (ic : Nat) (X : String) (names : List String) : List Cond := (Bundle.ownAtoms own ic X names).filter vx_no
/-- a word that the tables alone decide, or a good one -/
def vx_ot (w : Cond) : Bool := w.onTables || goodWord w
theorem vx_ot_at {args a' : Array Value} {s U : State} {w : Cond} (hW : s.WarmedH U.vm) (hvm : s.vm = U.vm) (hg : vx_ot w = true) (h : w.before args s = true) : w.before a' U = true := by
  simp only [vx_ot, Bool.or_eq_true] at hg
  rcases hg with hg | hg
  · exact va_tabs hg hvm h
  · exact word_at hW (good_of_word hg) h
/-- a list's words: the good ones out of the method's own list, the others by premises of their own -/
theorem vx_hat {args : Array Value} {s : State} {L B : List Cond} (h1 : ∀ w ∈ L.filter goodWord, w.before args s = true) (h2 : ∀ w ∈ L.filter (fun w => !goodWord w), w ∈ B) (h3 : ∀ w ∈ B, w.before args s = true) : ∀ w ∈ L, w.before args s = true := by
  intro w hw
  by_cases g : goodWord w = true
  · exact h1 w (List.mem_filter.mpr ⟨hw, g⟩)
  · refine h3 w (h2 w (List.mem_filter.mpr ⟨hw, ?_⟩))
    show (!goodWord w) = true
    cases hgw : goodWord w
    · rfl
    · exact absurd hgw g
theorem vx_c {args : Array Value} {s : State} {w : Cond} {B : List Cond} (h : w.before args s = true) (t : ∀ w ∈ B, w.before args s = true) : ∀ w' ∈ w :: B, w'.before args s = true := fun w' h' => (List.mem_cons.mp h').elim (fun e => by rw [e]; exact h) (t w')
theorem vx_n {args : Array Value} {s : State} : ∀ w ∈ ([] : List Cond), w.before args s = true := fun _ h => nomatch h
theorem vx_own {args : Array Value} {s : State} {L : List Cond} (h1 : ∀ w ∈ L.filter vx_no, w.before args s = true)
    (hU : (Cond.isRef (.static Bundle.tN "UNASSIGNED_STACK" Bundle.steD)).before args s = true) (hN : (Cond.isRef (.static Bundle.tN "SUPPRESSED_SENTINEL" Bundle.listD)).before args s = true)
    (lU : (Cond.laysStatic Bundle.tN "UNASSIGNED_STACK" Bundle.steD).before args s = true) (lN : (Cond.laysStatic Bundle.tN "SUPPRESSED_SENTINEL" Bundle.listD).before args s = true) : ∀ w ∈ L, w.before args s = true := by
  intro w hw
  by_cases e1 : w = .isRef (.static Bundle.tN "UNASSIGNED_STACK" Bundle.steD)
  · rw [e1]; exact hU
  · by_cases e2 : w = .isRef (.static Bundle.tN "SUPPRESSED_SENTINEL" Bundle.listD)
    · rw [e2]; exact hN
    · by_cases e3 : w = .laysStatic Bundle.tN "UNASSIGNED_STACK" Bundle.steD
      · rw [e3]; exact lU
      · by_cases e4 : w = .laysStatic Bundle.tN "SUPPRESSED_SENTINEL" Bundle.listD
        · rw [e4]; exact lN
        · exact h1 w (List.mem_filter.mpr ⟨hw, by unfold vx_no; rw [decide_eq_true e1, decide_eq_true e2, decide_eq_true e3, decide_eq_true e4]; rfl⟩)
/-- where a static field lies, its class's statics cell in H -/
def vx_L (C n d : String) (A : Nat → Prop) (U : State) (H : Heap) : Prop := ∃ (c : ClassId) (k : Class) (i : Nat) (f : Field) (a : Nat) (cell : Cell), U.vm.findClass C = some c ∧ U.fieldFound? C n d = some (c, k, i, f) ∧ f.isStatic = true ∧ k.statics = some a ∧ H[a]? = some cell ∧ cell.vm.isStatics = true ∧ cell.cls = c ∧ f.slot < cell.slots.size ∧ k.staticTypes[f.slot]? = some f.type ∧ ¬ A a
theorem vx_L.moved {C n d : String} {A : Nat → Prop} {u U : State} {H : Heap} (hvm : u.vm.Alike U.vm) (h : vx_L C n d A u H) : vx_L C n d A U H := by
  obtain ⟨c, k, i, f, a, cell, h1, h2, h3, h4, h5, h6, h7, h8, h9, h10⟩ := h
  obtain ⟨k', hi', he⟩ := State.fieldFound?_setVm hvm h2
  exact ⟨c, k', i, f, a, cell, by rw [hvm.findClass]; exact h1, hi', h3, by rw [he]; exact h4, h5, h6, h7, h8, by rw [he]; exact h9, h10⟩
theorem vx_L.kept {C n d : String} {A : Nat → Prop} {U : State} {H H1 : Heap} (h : vx_L C n d A U H) (hq : ∀ a : Nat, a < H.size → ¬ A a → H1[a]? = H[a]?) : vx_L C n d A U H1 := by
  obtain ⟨c, k, i, f, a, cell, h1, h2, h3, h4, h5, h6, h7, h8, h9, h10⟩ := h
  exact ⟨c, k, i, f, a, cell, h1, h2, h3, h4, by rw [hq a (Array.getElem?_eq_some_iff.mp h5).1 h10]; exact h5, h6, h7, h8, h9, h10⟩
theorem vx_L.narrow {C n d : String} {A B : Nat → Prop} {U : State} {H : Heap} (h : vx_L C n d A U H) (hAB : ∀ q, B q → A q) : vx_L C n d B U H := by
  obtain ⟨c, k, i, f, a, cell, h1, h2, h3, h4, h5, h6, h7, h8, h9, h10⟩ := h
  exact ⟨c, k, i, f, a, cell, h1, h2, h3, h4, h5, h6, h7, h8, h9, fun z => h10 (hAB _ z)⟩
theorem vx_L.word {C n d : String} {A : Nat → Prop} {s : State} {args : Array Value} (h : vx_L C n d A s s.heap) : (Cond.laysStatic C n d).before args s = true := by
  obtain ⟨c, k, i, f, a, cell, h1, h2, h3, h4, h5, h6, h7, h8, h9, -⟩ := h
  show (Cond.laysStatic C n d).holds args s none s [] = true
  exact Cond.laysStatic_of h1 h2 h3 h4 h5 h6 h7 h8 h9
/-- .. and what it holds: null or some reference -/
def vx_Zq (C n d : String) (A : Nat → Prop) (U : State) (H : Heap) : Prop := va_Zq C n d A U H ∧ vx_L C n d A U H
theorem vx_Zq.moved {C n d : String} {A : Nat → Prop} {u U : State} {H : Heap} (hvm : u.vm.Alike U.vm) (h : vx_Zq C n d A u H) : vx_Zq C n d A U H := ⟨va_Zq.moved hvm h.1, vx_L.moved hvm h.2⟩
theorem vx_Zq.kept {C n d : String} {A : Nat → Prop} {U : State} {H H1 : Heap} (h : vx_Zq C n d A U H) (hq : ∀ a : Nat, a < H.size → ¬ A a → H1[a]? = H[a]?) : vx_Zq C n d A U H1 := ⟨va_Zq.kept h.1 hq, vx_L.kept h.2 hq⟩
theorem vx_Zq.narrow {C n d : String} {A B : Nat → Prop} {U : State} {H : Heap} (h : vx_Zq C n d A U H) (hAB : ∀ q, B q → A q) : vx_Zq C n d B U H := ⟨va_Zq.narrow h.1 hAB, vx_L.narrow h.2 hAB⟩
theorem vx_Zqof {args : Array Value} {s : State} {C n d : String} {A : Nat → Prop} (hl : (Cond.laysStatic C n d).before args s = true) (hini : (Cond.initialized C).before args s = true) (h : (Cond.isRef (.static C n d)).before args s = true) (hA : ∀ a : Nat, a < s.heap.size → ¬ A a) : vx_Zq C n d A s s.heap := by
  refine ⟨va_Zqof hl hini h hA, ?_⟩
  obtain ⟨c, k, i, f, a, cell, h1, h2, h3, h4, h5, h6, h7, h8, h9⟩ := Cond.laysStatic_spec hl
  exact ⟨c, k, i, f, a, cell, h1, h2, h3, h4, h5, h6, h7, h8, h9, hA a (Array.getElem?_eq_some_iff.mp h5).1⟩
theorem vx_isRef {C n d : String} {v : Value} {A : Nat → Prop} {s : State} {args : Array Value} (h : va_Z C n d v A s s.heap) (hv : v.isRef = true) : (Cond.isRef (.static C n d)).before args s = true := by
  obtain ⟨cf, kf, fi, f, a, cell, h1, h2, h3, h4, h5, h6, h7, -⟩ := h
  have he : (Term.static C n d).eval args s none [] s = some v := by
    simp [Term.eval, State.fieldNamed?, h1, h2, h4, h5, h6, h7]
  simp only [Cond.before, Cond.holds, Cond.value, he]
  cases v <;> simp_all [Value.isRef]
theorem vx_isRefq {C n d : String} {A : Nat → Prop} {s : State} {args : Array Value} (h : va_Zq C n d A s s.heap) : (Cond.isRef (.static C n d)).before args s = true := by
  rcases h with h | ⟨t, h⟩
  · exact vx_isRef h rfl
  · exact vx_isRef h rfl
/-- the same frame, seen from here: as if the method were called anew in this heap -/
theorem vx_rebase {T : State} (X : Stand p l e R s m args below meth c T locs cells slots) {R' : Room} (hf : R'.frames ≤ R.frames) (hl : R'.locals ≤ R.locals) (hc : cells + R'.cells ≤ R.cells) (hs : slots + R'.slots ≤ R.slots) :
    Stand p l e R' ((T.setVm s.vm).setFrames (.invoking m args :: below)) m args below meth c T [] 0 0 := by
  have htop : (T.setVm s.vm).topJava?.isSome := X.here.top
  have hF : ((T.setVm s.vm).setFrames (.invoking m args :: below)).frames = .invoking m args :: below := State.frames_setFrames _ (State.cur_lt_of_top htop)
  obtain ⟨g₀, hg0⟩ := Option.isSome_iff_exists.mp htop
  obtain ⟨r, hr⟩ := State.topJava?_eq_some.mp hg0
  have hl9 : e.platform.stackLimits (T.setVm s.vm).me = e.platform.stackLimits s.me := X.limits
  have hb9 : (T.setVm s.vm).me.stackBytes = s.me.stackBytes := X.bytes
  refine ⟨X.admits, X.cas, X.clock, hF, ?_, X.hears, X.method, X.code, X.here, X.tail, X.warmed, ?_, ?_, ?_⟩
  · have h := X.room
    have hU : ((T.setVm s.vm).setFrames (.invoking m args :: below)).localsInUse = s.localsInUse := by
      rw [State.localsInUse_invoking hF (meth := meth) (c := c) X.method X.code, State.localsInUse_invoking X.frames X.method X.code]
    simp only [State.hasRoom, Bool.and_eq_true, decide_eq_true_eq] at h ⊢
    obtain ⟨⟨⟨⟨h1, h2, h3, h4, h5, h6⟩, h7⟩, h8⟩, h9⟩ := h
    rw [X.frames, List.length_cons] at h2 h3
    have q1 := X.heapSize
    have q2 := X.used
    simp only [hF, hU, List.length_cons, State.stackLimits_setFrames, State.stackBytes_setFrames, hl9, hb9]
    refine ⟨⟨⟨⟨by omega, by omega, by omega, by omega, by omega, h6⟩, ?_⟩, ?_⟩, X.book⟩
    · show T.heap.size + R'.cells ≤ e.platform.maxCells
      omega
    · show T.slotsUsed + R'.slots ≤ e.platform.maxSlots
      omega
  · rw [State.stackLimits_setFrames]; rfl
  · rw [State.stackBytes_setFrames]; rfl
  · refine ⟨?_, Nat.le_refl _, Nat.le_refl _, ?_, ?_, fun a c9 h9 => ⟨c9, h9, rfl, rfl, fun _ _ => rfl⟩⟩
    · obtain ⟨t, ht, -⟩ := State.frames_cons hr
      show T.setVm s.vm = { ((T.setVm s.vm).setFrames (.invoking m args :: below)).setFrames (T.setVm s.vm).frames with heap := T.heap, slotsUsed := T.slotsUsed }
      rw [State.setFrames_setFrames, State.setFrames_self ht]
      rfl
    · show T.slotsUsed = T.slotsUsed + ((T.heap.toList.drop T.heap.size).map (·.slots.size)).sum
      rw [List.drop_eq_nil_of_le (Nat.le_of_eq Array.length_toList)]
      rfl
    · show ((T.heap.toList.drop T.heap.size).map (·.slots.size)).sum ≤ 0
      rw [List.drop_eq_nil_of_le (Nat.le_of_eq Array.length_toList)]
      exact Nat.le_refl _
/-- 'throw new E()': new; dup; invokespecial; athrow -/
theorem vx_throw0 {cc : ByteArray} {pc : Nat} (hexec : p.tables.exec = Jvm.exec) (hb : c.code = cc) (hl : l.stackTraces = false) {own cls : String} {names : List String} {ik ic mc ms : Nat} {A : Nat → Prop}
    (hown : s.vm.findClass own = some m.cls) (hcls : Bundle.fit cls = true) (hnames : ∀ n ∈ names, Bundle.fit n = true)
    (hk : (Cond.classLink own ik cls).before args s = true) (hini : (Cond.initialized cls).before args s = true) (hat : ∀ w ∈ vx_at0 own ic cls names, w.before args s = true)
    (hgood : ∀ w ∈ Cond.classLink own ik cls :: Cond.initialized cls :: vx_at0 own ic cls names, vx_ot w = true)
    (hU : vx_Zq Bundle.tN "UNASSIGNED_STACK" Bundle.steD A s s.heap) (hN : vx_Zq Bundle.tN "SUPPRESSED_SENTINEL" Bundle.listD A s s.heap) (hS : va_S A s.heap H locs) (hsize : ls.size = c.maxLocals)
    (d0 : decode cc pc = .ok (.new ik, 3)) (d3 : decode cc (pc + 3) = .ok (.dup, 1)) (d4 : decode cc (pc + 4) = .ok (.invokespecial ic, 3)) (d7 : decode cc (pc + 7) = .ok (.athrow, 1))
    (hout : ∀ x ∈ c.exceptionTable.toList, covers x (pc + 7) = false)
    (hRframes : names.length + 3 < R.frames) (hRlocals : (rest.map fun v => v.category).sum + (13 * (names.length + 1) + 42) ≤ R.locals) (hRcells : cells + 1 ≤ R.cells) (hRslots : slots + 6 ≤ R.slots) (hlocks : meth.locks = false)
    (hx : ∀ t : State, s.vm.Alike t.vm → H.size ≤ t.heap.size → (∀ q : Nat, q < H.size → t.heap[q]? = H[q]?) → XC cls s t)
    (hf : ∀ z ∈ locs, free z.base) (hc : cells + 1 ≤ mc) (hs : slots + 6 ≤ ms) :
    W p l e R s m args below meth c H locs cells slots (vx_MQ below Qc XC args s mc ms free) (F0 m pc ls rest) := by
  intro T hT X
  have htr : e.platform.stackTraces = false := (show e.platform.stackTraces = l.stackTraces by rw [X.admits.platform]).trans hl
  have Y := vx_rebase X (R' := { frames := R.frames, locals := R.locals, cells := 1, slots := 6 }) (Nat.le_refl _) (Nat.le_refl _) hRcells hRslots
  obtain ⟨s', hA⟩ : ∃ z, z = (T.setVm s.vm).setFrames (.invoking m args :: below) := ⟨_, rfl⟩
  rw [← hA] at Y
  have hvm : s'.vm = s.vm := by rw [hA]; rfl
  have hhp : s'.heap = H := by rw [hA]; exact hT
  have hW0 : s.WarmedH s'.vm := by rw [hvm]; exact State.WarmedH.refl s
  have hat' : ∀ w ∈ vx_at0 own ic cls names, w.before args s' = true := fun w hw => vx_ot_at hW0 hvm.symm (hgood w (List.mem_cons_of_mem _ (List.mem_cons_of_mem _ hw))) (hat w hw)
  have hk' : (Cond.classLink own ik cls).before args s' = true := vx_ot_at hW0 hvm.symm (hgood _ List.mem_cons_self) hk
  have hini' : (Cond.initialized cls).before args s' = true := vx_ot_at hW0 hvm.symm (hgood _ (List.mem_cons_of_mem _ List.mem_cons_self)) hini
  have hU' : vx_Zq Bundle.tN "UNASSIGNED_STACK" Bundle.steD A s' s'.heap := by rw [hhp]; exact vx_Zq.moved hW0.alike (hU.kept hS.2.1)
  have hN' : vx_Zq Bundle.tN "SUPPRESSED_SENTINEL" Bundle.listD A s' s'.heap := by rw [hhp]; exact vx_Zq.moved hW0.alike (hN.kept hS.2.1)
  have h : ∀ w ∈ Bundle.ownAtoms0 own ic cls names, w.before args s' = true := vx_own hat' (vx_isRefq hU'.1) (vx_isRefq hN'.1) hU'.2.word hN'.2.word
  have hown' : s'.vm.findClass own = some m.cls := by rw [hvm]; exact hown
  have hins : (Cond.instantiable cls 6).before args s' = true := h _ (by simp [Bundle.ownAtoms0])
  obtain ⟨vm₁, cX, kX, hfX, hkX, -, -, X₁, st1⟩ := Y.newCold hexec (own := own) (C := cls) (index := ik) (n := 6) hown' hk' hins hini'
    (g := F0 m pc ls rest) rfl (by rw [hb]; exact d0) (Nat.le_refl _) (Nat.le_refl _)
  generalize hT1 : (T.setVm vm₁).pushCell { cls := cX, slots := kX.instanceTypes.map defaultValue, vm := .none } = T1 at X₁ st1
  have hcat : (Value.ref T.heap.size).category = 1 := rfl
  have hcellA : T1.heap[T.heap.size]? = some (freshCell cX kX) := by rw [← hT1]; exact State.heap_pushCell_size _ _
  have d3' : decode c.code (pc + 3) = .ok (.dup, 1) := by rw [hb]; exact d3
  obtain ⟨U, hsteps, hrun, hend, hW, hsame, ce, hce, hO⟩ := X₁.ctorThrow0 hexec htr (own := own) (cls := cls) (names := names) (ic := ic) hown' hcls hnames h (fun x hx => nomatch hx) hfX hkX hcellA (by rw [hhp, hT]; exact Nat.le_refl _)
    (g := { method := m, pc := pc + 4, locals := ls, stack := .ref T.heap.size :: .ref T.heap.size :: rest, locked := none }) rfl hsize rfl rfl (rest := rest) rfl
    (by rw [hb]; exact d4) (by rw [hb]; exact d7) hout hRframes (by simp only [List.map_cons, List.sum_cons, hcat]; omega) hlocks
  obtain ⟨f1, f2⟩ := vx_frame hsame
  rw [hhp] at f1 f2
  have hWs : s.WarmedH U.vm := State.WarmedH.trans hW0 hW
  have hcl : s.vm.findClass cls = some ce.cls := by
    have h9 := hO.cls
    rw [hvm] at h9
    exact h9
  have hall : s.sameButNew ({ U with vm := s.vm } : State) locs mc ms := by
    subst hA
    obtain ⟨e1, e2⟩ := hsame
    rw [State.setFrames_setFrames] at e1
    have h2 : (T.setVm s.vm).sameButNew ({ U with vm := s.vm } : State) [] (0 + 1) (0 + 6) := ⟨e1, e2⟩
    have h3 := X.same.trans h2
    rw [List.append_nil] at h3
    exact h3.mono hc hs
  refine ⟨U, ?_, .threw T.heap.size, hrun, hend, Or.inr ⟨T.heap.size, rfl, cls, ce, locs, hx U hWs.alike f1 (fun q hq => f2 q hq (fun z hz => nomatch hz)), hce, hO.vm, hcl, hWs, hall, hf⟩⟩
  refine st1 _ ?_
  show Steps p.tables e below (T1.setTop { method := m, pc := pc + 3, locals := ls, stack := .ref T.heap.size :: rest, locked := none }) _
  jvm_step X₁.here [X₁.here.top, hexec, d3', Value.category]
  exact hsteps
/-- 'throw new E("text")': new; dup; ldc; invokespecial; athrow -/
theorem vx_throwS {cc : ByteArray} {pc : Nat} (hexec : p.tables.exec = Jvm.exec) (hb : c.code = cc) (hl : l.stackTraces = false) {own cls text : String} {names : List String} {ik is ic mc ms sa : Nat} {A : Nat → Prop}
    (hown : s.vm.findClass own = some m.cls) (hcls : Bundle.fit cls = true) (hnames : ∀ n ∈ names, Bundle.fit n = true)
    (hk : (Cond.classLink own ik cls).before args s = true) (hini : (Cond.initialized cls).before args s = true) (hstr : vk_R own is text sa s) (hat : ∀ w ∈ vx_atS own ic cls names, w.before args s = true)
    (hgood : ∀ w ∈ Cond.classLink own ik cls :: Cond.initialized cls :: vx_atS own ic cls names, vx_ot w = true)
    (hU : vx_Zq Bundle.tN "UNASSIGNED_STACK" Bundle.steD A s s.heap) (hN : vx_Zq Bundle.tN "SUPPRESSED_SENTINEL" Bundle.listD A s s.heap) (hS : va_S A s.heap H locs) (hsize : ls.size = c.maxLocals)
    (d0 : decode cc pc = .ok (.new ik, 3)) (d3 : decode cc (pc + 3) = .ok (.dup, 1)) (d4 : decode cc (pc + 4) = .ok (.ldc is, 2)) (d6 : decode cc (pc + 6) = .ok (.invokespecial ic, 3)) (d9 : decode cc (pc + 9) = .ok (.athrow, 1))
    (hout : ∀ x ∈ c.exceptionTable.toList, covers x (pc + 9) = false)
    (hRframes : names.length + 3 < R.frames) (hRlocals : (rest.map fun v => v.category).sum + (13 * (names.length + 1) + 43) ≤ R.locals) (hRcells : cells + 1 ≤ R.cells) (hRslots : slots + 6 ≤ R.slots) (hlocks : meth.locks = false)
    (hx : ∀ t : State, s.vm.Alike t.vm → H.size ≤ t.heap.size → (∀ q : Nat, q < H.size → t.heap[q]? = H[q]?) → XC cls s t)
    (hf : ∀ z ∈ locs, free z.base) (hc : cells + 1 ≤ mc) (hs : slots + 6 ≤ ms) :
    W p l e R s m args below meth c H locs cells slots (vx_MQ below Qc XC args s mc ms free) (F0 m pc ls rest) := by
  intro T hT X
  have htr : e.platform.stackTraces = false := (show e.platform.stackTraces = l.stackTraces by rw [X.admits.platform]).trans hl
  have Y := vx_rebase X (R' := { frames := R.frames, locals := R.locals, cells := 1, slots := 6 }) (Nat.le_refl _) (Nat.le_refl _) hRcells hRslots
  obtain ⟨s', hA⟩ : ∃ z, z = (T.setVm s.vm).setFrames (.invoking m args :: below) := ⟨_, rfl⟩
  rw [← hA] at Y
  have hvm : s'.vm = s.vm := by rw [hA]; rfl
  have hhp : s'.heap = H := by rw [hA]; exact hT
  have hW0 : s.WarmedH s'.vm := by rw [hvm]; exact State.WarmedH.refl s
  have hat' : ∀ w ∈ vx_atS own ic cls names, w.before args s' = true := fun w hw => vx_ot_at hW0 hvm.symm (hgood w (List.mem_cons_of_mem _ (List.mem_cons_of_mem _ hw))) (hat w hw)
  have hk' : (Cond.classLink own ik cls).before args s' = true := vx_ot_at hW0 hvm.symm (hgood _ List.mem_cons_self) hk
  have hini' : (Cond.initialized cls).before args s' = true := vx_ot_at hW0 hvm.symm (hgood _ (List.mem_cons_of_mem _ List.mem_cons_self)) hini
  have hU' : vx_Zq Bundle.tN "UNASSIGNED_STACK" Bundle.steD A s' s'.heap := by rw [hhp]; exact vx_Zq.moved hW0.alike (hU.kept hS.2.1)
  have hN' : vx_Zq Bundle.tN "SUPPRESSED_SENTINEL" Bundle.listD A s' s'.heap := by rw [hhp]; exact vx_Zq.moved hW0.alike (hN.kept hS.2.1)
  have h : ∀ w ∈ Bundle.ownAtoms own ic cls names, w.before args s' = true := vx_own hat' (vx_isRefq hU'.1) (vx_isRefq hN'.1) hU'.2.word hN'.2.word
  have hown' : s'.vm.findClass own = some m.cls := by rw [hvm]; exact hown
  have hins : (Cond.instantiable cls 6).before args s' = true := h _ (by simp [Bundle.ownAtoms])
  obtain ⟨vm₁, cX, kX, hfX, hkX, -, -, X₁, st1⟩ := Y.newCold hexec (own := own) (C := cls) (index := ik) (n := 6) hown' hk' hins hini'
    (g := F0 m pc ls rest) rfl (by rw [hb]; exact d0) (Nat.le_refl _) (Nat.le_refl _)
  generalize hT1 : (T.setVm vm₁).pushCell { cls := cX, slots := kX.instanceTypes.map defaultValue, vm := .none } = T1 at X₁ st1
  have hcat : (Value.ref T.heap.size).category = 1 := rfl
  have hcellA : T1.heap[T.heap.size]? = some (freshCell cX kX) := by rw [← hT1]; exact State.heap_pushCell_size _ _
  have d3' : decode c.code (pc + 3) = .ok (.dup, 1) := by rw [hb]; exact d3
  have d4' : decode c.code (pc + 4) = .ok (.ldc is, 2) := by rw [hb]; exact d4
  have hstr' : vk_R own is text sa s' := vk_R.warm hW0 hstr
  obtain ⟨U, hsteps, hrun, hend, hW, hsame, ce, hce, hO⟩ := X₁.ctorThrowS hexec htr (own := own) (cls := cls) (names := names) (ic := ic) hown' hcls hnames h (fun x hx => nomatch hx) hfX hkX hcellA (by rw [hhp, hT]; exact Nat.le_refl _) (msg := .ref sa) rfl
    (g := { method := m, pc := pc + 6, locals := ls, stack := .ref sa :: .ref T.heap.size :: .ref T.heap.size :: rest, locked := none }) rfl hsize rfl rfl (rest := rest) rfl
    (by rw [hb]; exact d6) (by rw [hb]; exact d9) hout hRframes (by simp only [List.map_cons, List.sum_cons, hcat]; omega) hlocks
  obtain ⟨f1, f2⟩ := vx_frame hsame
  rw [hhp] at f1 f2
  have hWs : s.WarmedH U.vm := State.WarmedH.trans hW0 hW
  have hcl : s.vm.findClass cls = some ce.cls := by
    have h9 := hO.cls
    rw [hvm] at h9
    exact h9
  have hall : s.sameButNew ({ U with vm := s.vm } : State) locs mc ms := by
    subst hA
    obtain ⟨e1, e2⟩ := hsame
    rw [State.setFrames_setFrames] at e1
    have h2 : (T.setVm s.vm).sameButNew ({ U with vm := s.vm } : State) [] (0 + 1) (0 + 6) := ⟨e1, e2⟩
    have h3 := X.same.trans h2
    rw [List.append_nil] at h3
    exact h3.mono hc hs
  refine ⟨U, ?_, .threw T.heap.size, hrun, hend, Or.inr ⟨T.heap.size, rfl, cls, ce, locs, hx U hWs.alike f1 (fun q hq => f2 q hq (fun z hz => nomatch hz)), hce, hO.vm, hcl, hWs, hall, hf⟩⟩
  refine st1 _ ?_
  show Steps p.tables e below (T1.setTop { method := m, pc := pc + 3, locals := ls, stack := .ref T.heap.size :: rest, locked := none }) _
  jvm_step X₁.here [X₁.here.top, hexec, d3', Value.category]
  exact X₁.ldcString hexec (own := own) (text := text) (index := is) (a := sa) hown' hstr'.1 hstr'.2
    (g := { method := m, pc := pc + 4, locals := ls, stack := .ref T.heap.size :: .ref T.heap.size :: rest, locked := none }) rfl d4' _ hsteps
/-- 'throw new E("text")', the text by a wide index -/
theorem vx_throwSW {cc : ByteArray} {pc : Nat} (hexec : p.tables.exec = Jvm.exec) (hb : c.code = cc) (hl : l.stackTraces = false) {own cls text : String} {names : List String} {ik is ic mc ms sa : Nat} {A : Nat → Prop}
    (hown : s.vm.findClass own = some m.cls) (hcls : Bundle.fit cls = true) (hnames : ∀ n ∈ names, Bundle.fit n = true)
    (hk : (Cond.classLink own ik cls).before args s = true) (hini : (Cond.initialized cls).before args s = true) (hstr : vk_R own is text sa s) (hat : ∀ w ∈ vx_atS own ic cls names, w.before args s = true)
    (hgood : ∀ w ∈ Cond.classLink own ik cls :: Cond.initialized cls :: vx_atS own ic cls names, vx_ot w = true)
    (hU : vx_Zq Bundle.tN "UNASSIGNED_STACK" Bundle.steD A s s.heap) (hN : vx_Zq Bundle.tN "SUPPRESSED_SENTINEL" Bundle.listD A s s.heap) (hS : va_S A s.heap H locs) (hsize : ls.size = c.maxLocals)
    (d0 : decode cc pc = .ok (.new ik, 3)) (d3 : decode cc (pc + 3) = .ok (.dup, 1)) (d4 : decode cc (pc + 4) = .ok (.ldc_w is, 3)) (d7 : decode cc (pc + 7) = .ok (.invokespecial ic, 3)) (d10 : decode cc (pc + 10) = .ok (.athrow, 1))
    (hout : ∀ x ∈ c.exceptionTable.toList, covers x (pc + 10) = false)
    (hRframes : names.length + 3 < R.frames) (hRlocals : (rest.map fun v => v.category).sum + (13 * (names.length + 1) + 43) ≤ R.locals) (hRcells : cells + 1 ≤ R.cells) (hRslots : slots + 6 ≤ R.slots) (hlocks : meth.locks = false)
    (hx : ∀ t : State, s.vm.Alike t.vm → H.size ≤ t.heap.size → (∀ q : Nat, q < H.size → t.heap[q]? = H[q]?) → XC cls s t)
    (hf : ∀ z ∈ locs, free z.base) (hc : cells + 1 ≤ mc) (hs : slots + 6 ≤ ms) :
    W p l e R s m args below meth c H locs cells slots (vx_MQ below Qc XC args s mc ms free) (F0 m pc ls rest) := by
  intro T hT X
  have htr : e.platform.stackTraces = false := (show e.platform.stackTraces = l.stackTraces by rw [X.admits.platform]).trans hl
  have Y := vx_rebase X (R' := { frames := R.frames, locals := R.locals, cells := 1, slots := 6 }) (Nat.le_refl _) (Nat.le_refl _) hRcells hRslots
  obtain ⟨s', hA⟩ : ∃ z, z = (T.setVm s.vm).setFrames (.invoking m args :: below) := ⟨_, rfl⟩
  rw [← hA] at Y
  have hvm : s'.vm = s.vm := by rw [hA]; rfl
  have hhp : s'.heap = H := by rw [hA]; exact hT
  have hW0 : s.WarmedH s'.vm := by rw [hvm]; exact State.WarmedH.refl s
  have hat' : ∀ w ∈ vx_atS own ic cls names, w.before args s' = true := fun w hw => vx_ot_at hW0 hvm.symm (hgood w (List.mem_cons_of_mem _ (List.mem_cons_of_mem _ hw))) (hat w hw)
  have hk' : (Cond.classLink own ik cls).before args s' = true := vx_ot_at hW0 hvm.symm (hgood _ List.mem_cons_self) hk
  have hini' : (Cond.initialized cls).before args s' = true := vx_ot_at hW0 hvm.symm (hgood _ (List.mem_cons_of_mem _ List.mem_cons_self)) hini
  have hU' : vx_Zq Bundle.tN "UNASSIGNED_STACK" Bundle.steD A s' s'.heap := by rw [hhp]; exact vx_Zq.moved hW0.alike (hU.kept hS.2.1)
  have hN' : vx_Zq Bundle.tN "SUPPRESSED_SENTINEL" Bundle.listD A s' s'.heap := by rw [hhp]; exact vx_Zq.moved hW0.alike (hN.kept hS.2.1)
  have h : ∀ w ∈ Bundle.ownAtoms own ic cls names, w.before args s' = true := vx_own hat' (vx_isRefq hU'.1) (vx_isRefq hN'.1) hU'.2.word hN'.2.word
  have hown' : s'.vm.findClass own = some m.cls := by rw [hvm]; exact hown
  have hins : (Cond.instantiable cls 6).before args s' = true := h _ (by simp [Bundle.ownAtoms])
  obtain ⟨vm₁, cX, kX, hfX, hkX, -, -, X₁, st1⟩ := Y.newCold hexec (own := own) (C := cls) (index := ik) (n := 6) hown' hk' hins hini'
    (g := F0 m pc ls rest) rfl (by rw [hb]; exact d0) (Nat.le_refl _) (Nat.le_refl _)
  generalize hT1 : (T.setVm vm₁).pushCell { cls := cX, slots := kX.instanceTypes.map defaultValue, vm := .none } = T1 at X₁ st1
  have hcat : (Value.ref T.heap.size).category = 1 := rfl
  have hcellA : T1.heap[T.heap.size]? = some (freshCell cX kX) := by rw [← hT1]; exact State.heap_pushCell_size _ _
  have d3' : decode c.code (pc + 3) = .ok (.dup, 1) := by rw [hb]; exact d3
  have d4' : decode c.code (pc + 4) = .ok (.ldc_w is, 3) := by rw [hb]; exact d4
  have hstr' : vk_R own is text sa s' := vk_R.warm hW0 hstr
  obtain ⟨U, hsteps, hrun, hend, hW, hsame, ce, hce, hO⟩ := X₁.ctorThrowS hexec htr (own := own) (cls := cls) (names := names) (ic := ic) hown' hcls hnames h (fun x hx => nomatch hx) hfX hkX hcellA (by rw [hhp, hT]; exact Nat.le_refl _) (msg := .ref sa) rfl
    (g := { method := m, pc := pc + 7, locals := ls, stack := .ref sa :: .ref T.heap.size :: .ref T.heap.size :: rest, locked := none }) rfl hsize rfl rfl (rest := rest) rfl
    (by rw [hb]; exact d7) (by rw [hb]; exact d10) hout hRframes (by simp only [List.map_cons, List.sum_cons, hcat]; omega) hlocks
  obtain ⟨f1, f2⟩ := vx_frame hsame
  rw [hhp] at f1 f2
  have hWs : s.WarmedH U.vm := State.WarmedH.trans hW0 hW
  have hcl : s.vm.findClass cls = some ce.cls := by
    have h9 := hO.cls
    rw [hvm] at h9
    exact h9
  have hall : s.sameButNew ({ U with vm := s.vm } : State) locs mc ms := by
    subst hA
    obtain ⟨e1, e2⟩ := hsame
    rw [State.setFrames_setFrames] at e1
    have h2 : (T.setVm s.vm).sameButNew ({ U with vm := s.vm } : State) [] (0 + 1) (0 + 6) := ⟨e1, e2⟩
    have h3 := X.same.trans h2
    rw [List.append_nil] at h3
    exact h3.mono hc hs
  refine ⟨U, ?_, .threw T.heap.size, hrun, hend, Or.inr ⟨T.heap.size, rfl, cls, ce, locs, hx U hWs.alike f1 (fun q hq => f2 q hq (fun z hz => nomatch hz)), hce, hO.vm, hcl, hWs, hall, hf⟩⟩
  refine st1 _ ?_
  show Steps p.tables e below (T1.setTop { method := m, pc := pc + 3, locals := ls, stack := .ref T.heap.size :: rest, locked := none }) _
  jvm_step X₁.here [X₁.here.top, hexec, d3', Value.category]
  exact X₁.ldcStringW hexec (own := own) (text := text) (index := is) (a := sa) hown' hstr'.1 hstr'.2
    (g := { method := m, pc := pc + 4, locals := ls, stack := .ref T.heap.size :: .ref T.heap.size :: rest, locked := none }) rfl d4' _ hsteps
end Ends
section Bodies
variable {l : Launch}
theorem vx_ofW {y : MethodName} {ws ws' : List Cond} {rm : Room} {Pc : Array Value → State → Prop} {Qc : Array Value → State → Outcome → State → Prop} {XC : String → State → State → Prop} {mc ms : Nat} {free : Addr → Prop} {cc : ByteArray} {maxL : Nat} {ret : Option FieldType}
    (hy : plainName y.cls = true) (hw : ws = Cond.code y cc maxL ret :: ws')
    (body : ∀ p e s m args below meth c s₁, BodyLoose p l y (headSpec ws rm) cc maxL ret e s m args below meth c s₁ → c.maxLocals = maxL → (∀ x ∈ c.exceptionTable.toList, False) → Pc args s →
      W p l e (headSpec ws rm).room s m args below meth c s.heap [] 0 0 (vx_MQ below Qc XC args s mc ms free) (entryFrame m args maxL)) : vx_Met l y ws rm Pc Qc XC mc ms free := by
  refine MetFree.of_bodyS (code := cc) (maxLocals := maxL) (ret := ret) hy ?_ ?_
  · intro args s m h hn
    obtain ⟨meth, c, h1, h2, h3, h4, h5, h6, -, -⟩ := Cond.code_spec hn (atoms_spec (ws := ws) h _ (by rw [hw]; exact List.mem_cons_self))
    exact ⟨meth, c, h1, h2, h3, h4, h5, h6⟩
  · intro p e s m args below meth c s₁ B hml hP _
    have hh0 : s₁.heap = s.heap := by rw [B.state]; rfl
    have ht : ∀ x ∈ c.exceptionTable.toList, False := by
      obtain ⟨meth9, c9, h1, h2, -, -, -, -, h7, -⟩ := Cond.code_spec B.named (atoms_spec (ws := ws) B.pre _ (by rw [hw]; exact List.mem_cons_self))
      cases Option.some.inj (h1.symm.trans B.method)
      cases Option.some.inj (h2.symm.trans (Stand.of_body B).code)
      intro x hx
      rw [Array.isEmpty_iff.mp h7] at hx
      cases hx
    obtain ⟨t, a1, o, b1, b2, b3⟩ := body p e s m args below meth c s₁ B hml ht hP s₁ hh0 (Stand.of_body B)
    exact ⟨t, o, a1, b1, b2, b3⟩
/-- the table of a body with handlers -/
theorem vx_table {p : Program} {x y : MethodName} {S : Spec} {cc bytes : ByteArray} {maxL maxL' : Nat} {ret ret' : Option FieldType} {e : Env} {s s₁ : State} {m : MethodId} {args : Array Value} {below : List Frame} {meth : Method} {c : Code} {hh : List (Nat × Nat × Nat × Nat)}
    (B : BodyLoose p l y S cc maxL ret e s m args below meth c s₁) (h : (Cond.codeWith y bytes maxL' ret' hh).before args s = true) : c.exceptionTable.toList = tableOf hh := by
  obtain ⟨m9, meth9, c9, hn9, h1, h2, -, -, h6, -⟩ := Cond.codeWith_spec h
  cases Option.some.inj (hn9.symm.trans B.named)
  cases Option.some.inj (h1.symm.trans B.method)
  cases Option.some.inj (h2.symm.trans (Stand.of_body B).code)
  rw [← h6, table_eq]
end Bodies
end VXA
/-! ===== END ===== -/
/-! ===== BEGIN a static call of a method with an exception table ===== -/
section VXS
variable {p : Program} {l : Launch} {e : Env} {R : Room} {s : State} {m : MethodId} {args : Array Value} {below : List Frame} {meth : Method} {c : Code} {T : State} {H : Heap} {locs : List Loc} {cells slots : Nat}
abbrev vx_CSW (R : Room) (s : State) (args : Array Value) (own : String) (index : Nat) (y : MethodName) (bytes : ByteArray) (maxL : Nat) (ret : Option FieldType) (hh : List (Nat × Nat × Nat × Nat)) (ws : List Cond) (rm : Room) (mc ms n : Nat) : Prop :=
  (rm.cells = mc ∧ rm.slots = ms ∧ rm.frames + 1 ≤ R.frames ∧ 8 + (maxL + 11) + rm.locals ≤ R.locals ∧ (∀ w ∈ ws, ∀ (a' : Array Value) (U : State), s.WarmedH U.vm → w.before a' U = true) ∧ Cond.codeWith y bytes maxL ret hh ∈ ws) ∧
  (Cond.codeWith y bytes maxL ret hh).before args s = true ∧ (Cond.initialized y.cls).before args s = true ∧ (y.cls ≠ "java/lang/invoke/MethodHandle" ∧ y.cls ≠ "java/lang/invoke/VarHandle") ∧
  (∀ sig, parseMethodDescriptor y.desc = some sig → n = sig.parameters.length) ∧ (Cond.methodLink own index y).before args s = true ∧ (Cond.static y).before args s = true
theorem vx_cwSW {own : String} {index maxL mc ms : Nat} {y : MethodName} {bytes : ByteArray} {ret : Option FieldType} {hh : List (Nat × Nat × Nat × Nat)} {Ts ws ws' : List Cond} {rm : Room} (n : Nat) (ht : ∀ w ∈ Ts, w.before args s = true) (hT : GoodIn Ts (va_wsS own index y ws)) (hw : ws = Cond.codeWith y bytes maxL ret hh :: ws') (hrc : rm.cells = mc) (hrs : rm.slots = ms)
    (hd : y.cls ≠ "java/lang/invoke/MethodHandle" ∧ y.cls ≠ "java/lang/invoke/VarHandle" ∧ (parseMethodDescriptor y.desc).map (fun d => d.parameters.length) = some n) (hR : rm.frames + 1 ≤ R.frames ∧ 8 + (maxL + 11) + rm.locals ≤ R.locals) :
    vx_CSW R s args own index y bytes maxL ret hh ws rm mc ms n := by
  have ok : ∀ w ∈ va_wsS own index y ws, w.before args s = true := fun w h => ht w (hT w h).1
  have hG : GoodIn Ts ws := fun w h => hT w (by unfold va_wsS; exact List.mem_append_right _ h)
  have hc : Cond.codeWith y bytes maxL ret hh ∈ ws := by rw [hw]; exact List.mem_cons_self
  refine ⟨⟨hrc, hrs, hR.1, hR.2, pay_in ht hG, hc⟩, ht _ (hG _ hc).1, ok _ (by simp [va_wsS]), ⟨hd.1, hd.2.1⟩, fun sig h => ?_, ok _ (by simp [va_wsS]), ok _ (by simp [va_wsS])⟩
  have h2 := hd.2.2
  rw [h] at h2
  exact (Option.some.inj h2).symm
theorem vx_callSW (X : Stand p l e R s m args below meth c T locs cells slots) (hexec : p.tables.exec = Jvm.exec) {own : String} {index : Nat} {y : MethodName} {bytes : ByteArray} {maxL : Nat} {ret : Option FieldType} {hh : List (Nat × Nat × Nat × Nat)}
    (hown : s.vm.findClass own = some m.cls) (hlink : (Cond.methodLink own index y).before args s = true) (hstat : (Cond.static y).before args s = true) (hinit : (Cond.initialized y.cls).before args s = true)
    (hcode : (Cond.codeWith y bytes maxL ret hh).before args s = true) (hy : y.cls ≠ "java/lang/invoke/MethodHandle" ∧ y.cls ≠ "java/lang/invoke/VarHandle")
    {W9 : Nat} {Pre : Pt → Array Value → Prop} {Post : Pt → Array Value → Option Value → Pt → Prop} (hK : Back l R p e below s args y 3 W9 Pre Post)
    {g : JFrame} (hg : g.method = m) (hsize : g.locals.size = c.maxLocals) {argsL rest : List Value} (hlen : ∀ sig, parseMethodDescriptor y.desc = some sig → argsL.length = sig.parameters.length)
    (hstack : g.stack = argsL.reverse ++ rest) (hW : 2 * g.monitorRoom + (rest.map fun v => v.category).sum ≤ W9) (hdg : decode c.code g.pc = .ok (.invokestatic index, 3))
    (hpre : ∀ vm₁, s.WarmedH vm₁ → Pre ⟨T.setVm vm₁, locs, cells, slots⟩ argsL.toArray) :
    ∃ (v : Option Value) (vm₁ : Vm) (B : Pt), s.WarmedH vm₁ ∧ Stand p l e R s m args below meth c B.U B.locs B.cells B.slots ∧ Post ⟨T.setVm vm₁, locs, cells, slots⟩ argsL.toArray v B ∧
      ∀ target, Steps p.tables e below (B.U.setTop { g with pc := g.pc + 3, stack := v.toList ++ rest }) target → Steps p.tables e below (T.setTop g) target := by
  obtain ⟨mk, methM, cM, hnamed, hmethM, -, -, -, -, -, -, hsigM⟩ := Cond.codeWith_spec hcode
  have hstatic : methM.isStatic = true := Cond.static_spec hnamed hmethM hstat
  obtain ⟨kP, hkP, -⟩ := className_of_methodNamed hnamed
  have hinitP : kP.init = .initialized := Cond.initialized_spec (findClass_of_methodNamed hnamed) hkP hinit
  obtain ⟨vm₁, X₁, hstep₁⟩ := X.invokestatic hexec hown hlink hnamed hmethM hstatic hkP hinitP hy (g := g) hg (argsL := argsL) (rest := rest) (hlen _ hsigM) hstack hdg
  obtain ⟨v, B, X', hpost, hsteps⟩ := hK m meth c ⟨T.setVm vm₁, locs, cells, slots⟩ { g with stack := rest } (.invokestatic index) mk argsL.toArray X₁ hg hsize hdg hW (X₁.named hnamed) (hpre vm₁ X₁.warmed)
  exact ⟨v, vm₁, B, X₁.warmed, X', hpost, fun target h => hstep₁ _ fun acts => by rw [doInvoke_state]; exact hsteps.trans h⟩
theorem vx_runSW {y : MethodName} {bytes cc : ByteArray} {maxL nL mc ms n index : Nat} {ret : Option FieldType} {hh : List (Nat × Nat × Nat × Nat)} {ws : List Cond} {rm : Room} {Pc : Array Value → State → Prop} {Qc : Array Value → State → Outcome → State → Prop} {free : Addr → Prop} {Ts : List Cond} {own : String} {As rest : List Value} {g : JFrame}
    (S : CallFix p m c cc nL s args Ts own) (hM : Met l y ws rm Pc Qc mc ms free) (cw : vx_CSW R s args own index y bytes maxL ret hh ws rm mc ms n) (hp : PreS s H Pc As)
    (hg : g.method = m) (hn : As.length = n) (hsize : g.locals.size = nL) (hstack : g.stack = As.reverse ++ rest) (hW : 2 * g.monitorRoom + (rest.map fun v => v.category).sum ≤ 8) (hdg : decode cc g.pc = .ok (.invokestatic index, 3)) (hf : cells + mc ≤ R.cells ∧ slots + ms ≤ R.slots) :
    va_Run p l e R s m args below meth c H locs cells slots mc ms g rest (Qc As.toArray) (free) := by
  obtain ⟨⟨hrc, hrs, hfr, hlo, hws, hcw⟩, hcode, hini, hy, hlen, hl, hstt⟩ := cw
  have hK : Back l R p e below s args y 3 8 (PreOf R mc ms Pc) (PostOf Qc mc ms free) := va_backW (hh := hh) (bytes := bytes) (maxL := maxL) (ret := ret) hM hp.1 hrc hrs hfr hlo hws hcw (fun a' U hW => word_at hW (Or.inl (by first | rfl | simp [Cond.onTables, Cond.keeps, Cond.steady])) hini)
  obtain ⟨hx, hb, hml, ho, -⟩ := S
  intro T hT X
  obtain ⟨v, vm₁, ⟨U', l2, c2, s2⟩, hW₁, X', ⟨g', mk, t, L, e1, e2, hq, h1, hL, h2, h3⟩, st⟩ := vx_callSW X hx (hh := hh) (bytes := bytes) (maxL := maxL) (ret := ret) ho hl hstt hini hcode hy hK hg (hsize.trans hml.symm) (argsL := As) (rest := rest) (fun sig h => hn.trans (hlen sig h)) hstack hW (by rw [hb]; exact hdg)
    (fun vm₁ hW₁ => ⟨hf.1, hf.2, hp.2 (T.setVm vm₁) hT hW₁⟩)
  dsimp only [Pt.U, Pt.locs, Pt.cells, Pt.slots] at X' e1 e2 h1 h2 h3 st
  subst h1; subst h2; subst h3
  exact ⟨v, (T.setVm vm₁).calling g' mk As.toArray, t, U', L, hT, X', hL, e1, e2, hq, st⟩
/-- not caught here, past rows that name other classes: it goes on to the caller -/
theorem vx_outP {p : Program} {l : Launch} {e : Env} {R : Room} {s : State} {m : MethodId} {args : Array Value} {below : List Frame} {meth : Method} {c : Code} {H : Heap} {locs : List Loc} {cells slots : Nat} {free : Addr → Prop} {ls : Array Slot} {rest : List Value} {Qc : Array Value → State → Outcome → State → Prop} {XC : String → State → State → Prop}
    {pc : Nat} {own E : String} {ce : Cell} {q : Addr} {mc ms : Nat} (hown : s.vm.findClass own = some m.cls) (hlocks : meth.locks = false)
    (hpass : ∀ z ∈ c.exceptionTable.toList, covers z pc = false ∨ (z.catchType ≠ 0 ∧ ∃ nm : String, (Cond.classLink own z.catchType nm).before args s = true ∧ va_Nc E nm s)) (hcell : H[q]? = some ce) (hv : ce.vm = .none) (hcl : s.vm.findClass E = some ce.cls)
    (hx : ∀ t : State, t.heap = H → s.vm.Alike t.vm → XC E s t) (hf : ∀ z ∈ locs, free z.base) (hc : cells ≤ mc) (hs : slots ≤ ms) :
    vx_W p l e R s m args below meth c H locs cells slots (vx_MQ below Qc XC args s mc ms free) (F0 m pc ls rest) q := by
  intro T hT X
  have hpl : e.platform.magicAccessors = ({} : Platform).magicAccessors := by rw [X.admits.platform]
  obtain ⟨vm', hW', X', st⟩ := X.outThrough hlocks q (g := F0 m pc ls rest) rfl rfl rfl (cell := ce) (by rw [hT]; exact hcell) (by rw [hv]; rfl)
    (by obtain ⟨k9, h9, -⟩ := Vm.findClass_spec hcl; exact ⟨k9, h9⟩) (fun z hz => by
      rcases hpass z hz with h | ⟨hz0, nm, hl1, hn1⟩
      · exact Or.inl h
      · obtain ⟨c6, hc6, hcl6⟩ := Cond.classLink_spec hown hl1 e.platform hpl
        obtain ⟨a8, b8, h1, h2, h3⟩ := hn1
        cases Option.some.inj (h1.symm.trans hcl)
        cases Option.some.inj (h2.symm.trans hc6)
        exact Or.inr ⟨hz0, _, hcl6, h3⟩)
  obtain ⟨g₀, hfr⟩ := X'.frames_eq
  have hcell9 : ((T.setVm vm').setFrames (.throwing q :: below)).heap[q]? = some ce := by
    show T.heap[q]? = some ce
    rw [hT]; exact hcell
  have hend : Ended ((T.setVm vm').setFrames (.throwing q :: below)) below (.threw q) := State.frames_setFrames _ (State.cur_lt_of_frames hfr)
  refine ⟨(T.setVm vm').setFrames (.throwing q :: below), ?_, .threw q, X'.here.running, hend, Or.inr ⟨q, rfl, E, ce, locs, hx _ hT (X'.ends _).1.alike, hcell9, hv, hcl, (X'.ends _).1, (X'.ends _).2.mono hc hs, hf⟩⟩
  rw [X.pushThrowing_eq]
  exact st
/-- a thing of a world lies in the heap -/
theorem vx_lt {D : va_G} {cl : List vw_C} {ws : va_W} {H1 : Heap} (h : va_P D cl ws H1) {k : Nat} {q : Nat × va_E} (hk : ws[k]? = some q) : q.1 < H1.size := (h k q hk).lt
end VXS
/-! ===== END ===== -/
/-! ===== BEGIN methods with a table of their own: called by a name, returning or throwing ===== -/
section VXH
/-! vx_backW, vx_callVX, vx_callSX, vx_callVW, vx_runVW, vx_runVX, vx_runSX, vx_ofWH follow the same proofs as their sisters above (Free/Laws.lean, Shelf42/LK1.lean); vx_outP calls Shelf42/NT130.lean (outThrough). -/
section
variable {l : Launch} {R : Room} {p : Program} {e : Env} {below : List Frame} {s : State} {sargs : Array Value} {y : MethodName} {len W9 : Nat}
theorem vx_backW {ws : List Cond} {rm : Room} {Pc : Array Value → State → Prop} {Qc : Array Value → State → Outcome → State → Prop} {XC : String → State → State → Prop} {mc ms : Nat} {free : Addr → Prop} {bytes : ByteArray} {maxL : Nat} {ret : Option FieldType} {hh : List (Nat × Nat × Nat × Nat)}
    (hM : vx_Met l y ws rm Pc Qc XC mc ms free) (hblind : FrameBlind Pc) (hrc : rm.cells = mc) (hrs : rm.slots = ms)
    (hframes : rm.frames + 1 ≤ R.frames) (hlocals : W9 + (maxL + 11) + rm.locals ≤ R.locals)
    (hws : ∀ w ∈ ws, ∀ a' U, s.WarmedH U.vm → w.before a' U = true) (hcode : Cond.codeWith y bytes maxL ret hh ∈ ws) (hinit : ∀ a' U, s.WarmedH U.vm → (Cond.initialized y.cls).before a' U = true) :
    vx_Back l R p e below s sargs y len W9 (PreOf R mc ms Pc) (PostOf Qc mc ms free) (vx_Post XC mc ms free) := by
  intro m meth c A g ig mk a X hg hsize hdg hW hn hp
  have h1 : (headSpec ws rm).pre.before a A.U = true := atoms_intro fun w hw => hws w hw _ _ X.warmed
  have h2 : (Cond.codeWith y bytes maxL ret hh).before a A.U = true := hws _ hcode _ _ X.warmed
  have h3 : (Cond.initialized y.cls).before a A.U = true := hinit _ _ X.warmed
  have h4 : A.cells + (headSpec ws rm).room.cells ≤ R.cells := by rw [show (headSpec ws rm).room.cells = mc from hrc]; exact hp.1
  have h5 : A.slots + (headSpec ws rm).room.slots ≤ R.slots := by rw [show (headSpec ws rm).room.slots = ms from hrs]; exact hp.2.1
  have hPc : Pc a (A.U.calling g mk a) := hblind _ _ _ _ hp.2.2
  obtain ⟨U, Ls, c0, s0⟩ := A
  dsimp only [Pt.U, Pt.locs, Pt.cells, Pt.slots] at h1 h2 h3 h4 h5 X hn hPc ⊢
  obtain ⟨m9, methY, cY, hn9, hmY, hcY, -, hlY, -⟩ := Cond.codeWith_spec h2
  cases Option.some.inj (hn9.symm.trans hn)
  obtain ⟨kY, hkY, -⟩ := className_of_methodNamed hn
  have hinitY : kY.init = .initialized := Cond.initialized_spec (findClass_of_methodNamed hn) hkY h3
  have h : At U g.method c below := by rw [hg]; exact X.here
  have hlocals9 : W9 + (maxL + 11) + (headSpec ws rm).room.locals ≤ R.locals := hlocals
  have happ : (headSpec ws rm).appliesLoose y e.platform (U.calling g mk a) = true :=
    Spec.appliesLoose_calling (g := g) h hdg hn hkY hinitY
      (X.room_calling (g := g) (R' := (headSpec ws rm).room) hsize hmY hcY hframes (by rw [hlY]; omega) h4 h5) h1
  obtain ⟨mid, hmid⟩ := h.above
  have hfr : (U.setTop g).frames = (.java g :: mid) ++ below := by rw [State.frames_setTop' g h.top, hmid]; rfl
  obtain ⟨o, s₂, hsteps, -, hend, hq⟩ := Steps.callFree hM p X.admits X.cas X.clock (acts := []) hfr happ hPc trivial
  have hq' : vx_Q Qc XC mc ms free a (U.calling g mk a) o s₂ := hq
  rw [State.frames_setTop' g h.top] at hend
  obtain ⟨g₀, hg0⟩ := Option.isSome_iff_exists.mp h.top
  obtain ⟨r, hr⟩ := State.topJava?_eq_some.mp hg0
  have hr' : (({ U with heap := s₂.heap, slotsUsed := s₂.slotsUsed } : State).setVm s₂.vm).frames = .java g₀ :: r := hr
  rcases hq' with ⟨hqc, L, hfe, hL⟩ | ⟨q, rfl, E, ce, L, hx, hce, hcv, hcl, hW₂, hsm, hL⟩
  · obtain ⟨⟨v, rfl⟩, hW₂, e2, q2, q3, q4, q5, q6⟩ := id hfe
    have e3 : s₂ = ({ (U.calling g mk a).setFrames s₂.frames with heap := s₂.heap, slotsUsed := s₂.slotsUsed } : State).setVm s₂.vm := by
      have : s₂ = ({ s₂ with vm := (U.calling g mk a).vm } : State).setVm s₂.vm := rfl
      rw [e2] at this
      exact this
    obtain ⟨c₂, i₂, len₂, hc₂, hd₂, hf₂⟩ := hend
    have hW' : U.WarmedH s₂.vm := hW₂
    have hcc : c₂ = c := by
      have h1 : s₂.code? g.method = U.code? g.method := by
        rw [State.code?_eq, State.code?_eq, hW'.alike.method?]
      exact Option.some.inj (hc₂.symm.trans (h1.trans h.code))
    subst hcc
    have hlen : len₂ = len := by rw [hdg] at hd₂; cases hd₂; rfl
    subst hlen
    have hs₂ : s₂ = (({ U with heap := s₂.heap, slotsUsed := s₂.slotsUsed } : State).setVm s₂.vm).setTop { g with pc := g.pc + len₂, stack := v.toList ++ g.stack } := by
      refine e3.trans ?_
      rw [hf₂, State.calling_eq h.top, State.setFrames_setFrames, State.setTop_of_frames _ hr', hr]
      rfl
    have hsame : U.sameButNew ({ U with heap := s₂.heap, slotsUsed := s₂.slotsUsed } : State) L mc ms := by
      refine ⟨?_, q2, q3, q4, q5, q6⟩
      obtain ⟨t, ht, -⟩ := State.frames_cons hr
      show ({ U with heap := s₂.heap, slotsUsed := s₂.slotsUsed } : State) = { U.setFrames U.frames with heap := s₂.heap, slotsUsed := s₂.slotsUsed }
      rw [State.setFrames_self ht]
    subst hg
    refine Or.inl ⟨v, ⟨(({ U with heap := s₂.heap, slotsUsed := s₂.slotsUsed } : State).setVm s₂.vm), Ls ++ L, c0 + mc, s0 + ms⟩,
      ⟨X.admits, X.cas, X.clock, X.frames, X.room, X.hears, X.method, X.code, (X.here.setHeapUsed s₂.heap s₂.slotsUsed).setVm hW'.alike, X.tail, State.WarmedH.trans X.warmed hW', X.limits, X.bytes, X.same.trans (hsame.setVm s.vm)⟩,
      ⟨g, mk, s₂, L, rfl, rfl, hqc, rfl, hL, rfl, rfl⟩, ?_⟩
    show Steps p.tables e below _ ((({ U with heap := s₂.heap, slotsUsed := s₂.slotsUsed } : State).setVm s₂.vm).setTop { g with pc := g.pc + len₂, stack := v.toList ++ g.stack })
    rw [← hs₂]
    exact hsteps
  · obtain ⟨e2, q2, q3, q4, q5, q6⟩ := id hsm
    have e3 : s₂ = ({ (U.calling g mk a).setFrames s₂.frames with heap := s₂.heap, slotsUsed := s₂.slotsUsed } : State).setVm s₂.vm := by
      have : s₂ = ({ s₂ with vm := (U.calling g mk a).vm } : State).setVm s₂.vm := rfl
      rw [e2] at this
      exact this
    have hf₂ : s₂.frames = .throwing q :: .java g :: U.frames.tail := hend
    have hW' : U.WarmedH s₂.vm := hW₂
    have hs₂ : s₂ = ((({ U with heap := s₂.heap, slotsUsed := s₂.slotsUsed } : State).setVm s₂.vm).setTop g).pushFrame (.throwing q) := by
      refine e3.trans ?_
      rw [hf₂, State.calling_eq h.top, State.setFrames_setFrames, State.pushFrame, State.frames_setTop _ hr', State.setTop_of_frames _ hr', State.setFrames_setFrames, hr]
      rfl
    have hsame : U.sameButNew ({ U with heap := s₂.heap, slotsUsed := s₂.slotsUsed } : State) L mc ms := by
      refine ⟨?_, q2, q3, q4, q5, q6⟩
      obtain ⟨t, ht, -⟩ := State.frames_cons hr
      show ({ U with heap := s₂.heap, slotsUsed := s₂.slotsUsed } : State) = { U.setFrames U.frames with heap := s₂.heap, slotsUsed := s₂.slotsUsed }
      rw [State.setFrames_self ht]
    subst hg
    refine Or.inr ⟨q, ⟨(({ U with heap := s₂.heap, slotsUsed := s₂.slotsUsed } : State).setVm s₂.vm), Ls ++ L, c0 + mc, s0 + ms⟩,
      ⟨X.admits, X.cas, X.clock, X.frames, X.room, X.hears, X.method, X.code, (X.here.setHeapUsed s₂.heap s₂.slotsUsed).setVm hW'.alike, X.tail, State.WarmedH.trans X.warmed hW', X.limits, X.bytes, X.same.trans (hsame.setVm s.vm)⟩,
      ⟨g, mk, s₂, L, E, ce, rfl, rfl, hx, hce, hcv, hcl, rfl, hL, rfl, rfl⟩, ?_⟩
    show Steps p.tables e below _ (((({ U with heap := s₂.heap, slotsUsed := s₂.slotsUsed } : State).setVm s₂.vm).setTop g).pushFrame (.throwing q))
    rw [← hs₂]
    exact hsteps
end
variable {p : Program} {l : Launch} {e : Env} {R : Room} {s : State} {m : MethodId} {args : Array Value} {below : List Frame} {meth : Method} {c : Code} {T : State} {H : Heap} {locs : List Loc} {cells slots : Nat}
theorem vx_callVX (X : Stand p l e R s m args below meth c T locs cells slots) (hexec : p.tables.exec = Jvm.exec) {own C : String} {index : Nat} {y : MethodName} {bytes : ByteArray} {maxL : Nat} {ret : Option FieldType} {hh : List (Nat × Nat × Nat × Nat)}
    (hown : s.vm.findClass own = some m.cls) (hlink : (Cond.methodLink own index y).before args s = true) (hinst : (Cond.instanceMethod y).before args s = true) (hsel : (Cond.selects C y y).before args s = true)
    (hcode : (Cond.codeWith y bytes maxL ret hh).before args s = true) (hy : y.cls ≠ "java/lang/invoke/MethodHandle" ∧ y.cls ≠ "java/lang/invoke/VarHandle")
    {W9 : Nat} {Pre : Pt → Array Value → Prop} {Post : Pt → Array Value → Option Value → Pt → Prop} {PostX : Pt → Array Value → Addr → Pt → Prop} (hK : vx_Back l R p e below s args y 3 W9 Pre Post PostX)
    {b : Addr} {cellB : Cell} (hcell : T.heap[b]? = some cellB) (hobj : cellB.vm.isStatics = false) (hcls : s.vm.findClass C = some cellB.cls)
    {g : JFrame} (hg : g.method = m) (hsize : g.locals.size = c.maxLocals) {argsL rest : List Value} (hlen : ∀ sig, parseMethodDescriptor y.desc = some sig → argsL.length = sig.parameters.length)
    (hstack : g.stack = argsL.reverse ++ .ref b :: rest) (hW : 2 * g.monitorRoom + (rest.map fun v => v.category).sum ≤ W9) (hdg : decode c.code g.pc = .ok (.invokevirtual index, 3))
    (hpre : ∀ vm₁, s.WarmedH vm₁ → Pre ⟨T.setVm vm₁, locs, cells, slots⟩ (Value.ref b :: argsL).toArray) :
    (∃ (v : Option Value) (vm₁ : Vm) (B : Pt), s.WarmedH vm₁ ∧ Stand p l e R s m args below meth c B.U B.locs B.cells B.slots ∧ Post ⟨T.setVm vm₁, locs, cells, slots⟩ (Value.ref b :: argsL).toArray v B ∧
      ∀ target, Steps p.tables e below (B.U.setTop { g with pc := g.pc + 3, stack := v.toList ++ rest }) target → Steps p.tables e below (T.setTop g) target) ∨
    (∃ (q : Addr) (vm₁ : Vm) (B : Pt), s.WarmedH vm₁ ∧ Stand p l e R s m args below meth c B.U B.locs B.cells B.slots ∧ PostX ⟨T.setVm vm₁, locs, cells, slots⟩ (Value.ref b :: argsL).toArray q B ∧
      Steps p.tables e below (T.setTop g) ((B.U.setTop { g with stack := rest }).pushFrame (.throwing q))) := by
  obtain ⟨mk, methM, hnamed, hmethM, hstM, habM⟩ := Cond.instanceMethod_spec hinst
  obtain ⟨m8, methM', cM, hn8, hmethM', -, -, -, -, -, -, hsigM⟩ := Cond.codeWith_spec hcode
  cases Option.some.inj (hn8.symm.trans hnamed)
  cases hmethM.symm.trans hmethM'
  obtain ⟨c2, r2, m2, q1, q2, q3, q4, kP, hkP, hkPi⟩ := Cond.selects_spec hsel
  cases hcls.symm.trans q1
  cases (State.methodFound?_of_named hnamed hy).symm.trans q2
  cases hnamed.symm.trans q3
  have hselP : selectMethod e.platform s.vm cellB.cls mk = .method mk := by rw [Launch.admits_selectMethod X.admits]; exact q4
  obtain ⟨vm₁, X₁, hstep₁⟩ := X.invokevirtual hexec hown hlink hnamed hmethM hstM hkP hkPi hy (a := b) (cell := cellB) hcell
    (fun z h => by rw [h] at hobj; cases hobj) hselP hmethM habM hkP hkPi (g := g) hg (argsL := argsL) (rest := rest) (hlen _ hsigM) hstack hdg
  rcases hK m meth c ⟨T.setVm vm₁, locs, cells, slots⟩ { g with stack := rest } (.invokevirtual index) mk (Value.ref b :: argsL).toArray X₁ hg hsize hdg hW (X₁.named hnamed) (hpre vm₁ X₁.warmed) with ⟨v, B, X', hpost, hsteps⟩ | ⟨q, B, X', hpost, hsteps⟩
  · exact Or.inl ⟨v, vm₁, B, X₁.warmed, X', hpost, fun target h => hstep₁ _ fun acts => by rw [doInvoke_state]; exact hsteps.trans h⟩
  · exact Or.inr ⟨q, vm₁, B, X₁.warmed, X', hpost, hstep₁ _ fun acts => by rw [doInvoke_state]; exact hsteps⟩
theorem vx_callSX (X : Stand p l e R s m args below meth c T locs cells slots) (hexec : p.tables.exec = Jvm.exec) {own : String} {index : Nat} {y : MethodName} {bytes : ByteArray} {maxL : Nat} {ret : Option FieldType} {hh : List (Nat × Nat × Nat × Nat)}
    (hown : s.vm.findClass own = some m.cls) (hlink : (Cond.methodLink own index y).before args s = true) (hstat : (Cond.static y).before args s = true) (hinit : (Cond.initialized y.cls).before args s = true)
    (hcode : (Cond.codeWith y bytes maxL ret hh).before args s = true) (hy : y.cls ≠ "java/lang/invoke/MethodHandle" ∧ y.cls ≠ "java/lang/invoke/VarHandle")
    {W9 : Nat} {Pre : Pt → Array Value → Prop} {Post : Pt → Array Value → Option Value → Pt → Prop} {PostX : Pt → Array Value → Addr → Pt → Prop} (hK : vx_Back l R p e below s args y 3 W9 Pre Post PostX)
    {g : JFrame} (hg : g.method = m) (hsize : g.locals.size = c.maxLocals) {argsL rest : List Value} (hlen : ∀ sig, parseMethodDescriptor y.desc = some sig → argsL.length = sig.parameters.length)
    (hstack : g.stack = argsL.reverse ++ rest) (hW : 2 * g.monitorRoom + (rest.map fun v => v.category).sum ≤ W9) (hdg : decode c.code g.pc = .ok (.invokestatic index, 3))
    (hpre : ∀ vm₁, s.WarmedH vm₁ → Pre ⟨T.setVm vm₁, locs, cells, slots⟩ argsL.toArray) :
    (∃ (v : Option Value) (vm₁ : Vm) (B : Pt), s.WarmedH vm₁ ∧ Stand p l e R s m args below meth c B.U B.locs B.cells B.slots ∧ Post ⟨T.setVm vm₁, locs, cells, slots⟩ argsL.toArray v B ∧
      ∀ target, Steps p.tables e below (B.U.setTop { g with pc := g.pc + 3, stack := v.toList ++ rest }) target → Steps p.tables e below (T.setTop g) target) ∨
    (∃ (q : Addr) (vm₁ : Vm) (B : Pt), s.WarmedH vm₁ ∧ Stand p l e R s m args below meth c B.U B.locs B.cells B.slots ∧ PostX ⟨T.setVm vm₁, locs, cells, slots⟩ argsL.toArray q B ∧
      Steps p.tables e below (T.setTop g) ((B.U.setTop { g with stack := rest }).pushFrame (.throwing q))) := by
  obtain ⟨mk, methM, cM, hnamed, hmethM, -, -, -, -, -, -, hsigM⟩ := Cond.codeWith_spec hcode
  have hstatic : methM.isStatic = true := Cond.static_spec hnamed hmethM hstat
  obtain ⟨kP, hkP, -⟩ := className_of_methodNamed hnamed
  have hinitP : kP.init = .initialized := Cond.initialized_spec (findClass_of_methodNamed hnamed) hkP hinit
  obtain ⟨vm₁, X₁, hstep₁⟩ := X.invokestatic hexec hown hlink hnamed hmethM hstatic hkP hinitP hy (g := g) hg (argsL := argsL) (rest := rest) (hlen _ hsigM) hstack hdg
  rcases hK m meth c ⟨T.setVm vm₁, locs, cells, slots⟩ { g with stack := rest } (.invokestatic index) mk argsL.toArray X₁ hg hsize hdg hW (X₁.named hnamed) (hpre vm₁ X₁.warmed) with ⟨v, B, X', hpost, hsteps⟩ | ⟨q, B, X', hpost, hsteps⟩
  · exact Or.inl ⟨v, vm₁, B, X₁.warmed, X', hpost, fun target h => hstep₁ _ fun acts => by rw [doInvoke_state]; exact hsteps.trans h⟩
  · exact Or.inr ⟨q, vm₁, B, X₁.warmed, X', hpost, hstep₁ _ fun acts => by rw [doInvoke_state]; exact hsteps⟩
theorem vx_callVW (X : Stand p l e R s m args below meth c T locs cells slots) (hexec : p.tables.exec = Jvm.exec) {own C : String} {index : Nat} {y : MethodName} {bytes : ByteArray} {maxL : Nat} {ret : Option FieldType} {hh : List (Nat × Nat × Nat × Nat)}
    (hown : s.vm.findClass own = some m.cls) (hlink : (Cond.methodLink own index y).before args s = true) (hinst : (Cond.instanceMethod y).before args s = true) (hsel : (Cond.selects C y y).before args s = true)
    (hcode : (Cond.codeWith y bytes maxL ret hh).before args s = true) (hy : y.cls ≠ "java/lang/invoke/MethodHandle" ∧ y.cls ≠ "java/lang/invoke/VarHandle")
    {W9 : Nat} {Pre : Pt → Array Value → Prop} {Post : Pt → Array Value → Option Value → Pt → Prop} (hK : Back l R p e below s args y 3 W9 Pre Post)
    {b : Addr} {cellB : Cell} (hcell : T.heap[b]? = some cellB) (hobj : cellB.vm.isStatics = false) (hcls : s.vm.findClass C = some cellB.cls)
    {g : JFrame} (hg : g.method = m) (hsize : g.locals.size = c.maxLocals) {argsL rest : List Value} (hlen : ∀ sig, parseMethodDescriptor y.desc = some sig → argsL.length = sig.parameters.length)
    (hstack : g.stack = argsL.reverse ++ .ref b :: rest) (hW : 2 * g.monitorRoom + (rest.map fun v => v.category).sum ≤ W9) (hdg : decode c.code g.pc = .ok (.invokevirtual index, 3))
    (hpre : ∀ vm₁, s.WarmedH vm₁ → Pre ⟨T.setVm vm₁, locs, cells, slots⟩ (Value.ref b :: argsL).toArray) :
    ∃ (v : Option Value) (vm₁ : Vm) (B : Pt), s.WarmedH vm₁ ∧ Stand p l e R s m args below meth c B.U B.locs B.cells B.slots ∧ Post ⟨T.setVm vm₁, locs, cells, slots⟩ (Value.ref b :: argsL).toArray v B ∧
      ∀ target, Steps p.tables e below (B.U.setTop { g with pc := g.pc + 3, stack := v.toList ++ rest }) target → Steps p.tables e below (T.setTop g) target := by
  obtain ⟨mk, methM, hnamed, hmethM, hstM, habM⟩ := Cond.instanceMethod_spec hinst
  obtain ⟨m8, methM', cM, hn8, hmethM', -, -, -, -, -, -, hsigM⟩ := Cond.codeWith_spec hcode
  cases Option.some.inj (hn8.symm.trans hnamed)
  cases hmethM.symm.trans hmethM'
  obtain ⟨c2, r2, m2, q1, q2, q3, q4, kP, hkP, hkPi⟩ := Cond.selects_spec hsel
  cases hcls.symm.trans q1
  cases (State.methodFound?_of_named hnamed hy).symm.trans q2
  cases hnamed.symm.trans q3
  have hselP : selectMethod e.platform s.vm cellB.cls mk = .method mk := by rw [Launch.admits_selectMethod X.admits]; exact q4
  obtain ⟨vm₁, X₁, hstep₁⟩ := X.invokevirtual hexec hown hlink hnamed hmethM hstM hkP hkPi hy (a := b) (cell := cellB) hcell
    (fun z h => by rw [h] at hobj; cases hobj) hselP hmethM habM hkP hkPi (g := g) hg (argsL := argsL) (rest := rest) (hlen _ hsigM) hstack hdg
  obtain ⟨v, B, X', hpost, hsteps⟩ := hK m meth c ⟨T.setVm vm₁, locs, cells, slots⟩ { g with stack := rest } (.invokevirtual index) mk (Value.ref b :: argsL).toArray X₁ hg hsize hdg hW (X₁.named hnamed) (hpre vm₁ X₁.warmed)
  exact ⟨v, vm₁, B, X₁.warmed, X', hpost, fun target h => hstep₁ _ fun acts => by rw [doInvoke_state]; exact hsteps.trans h⟩
abbrev vx_CVW (R : Room) (s : State) (args : Array Value) (own C : String) (index : Nat) (y : MethodName) (bytes : ByteArray) (maxL : Nat) (ret : Option FieldType) (hh : List (Nat × Nat × Nat × Nat)) (ws : List Cond) (rm : Room) (mc ms n : Nat) : Prop :=
  (rm.cells = mc ∧ rm.slots = ms ∧ rm.frames + 1 ≤ R.frames ∧ 8 + (maxL + 11) + rm.locals ≤ R.locals ∧ (∀ w ∈ ws, ∀ (a' : Array Value) (U : State), s.WarmedH U.vm → w.before a' U = true) ∧ Cond.codeWith y bytes maxL ret hh ∈ ws) ∧
  (Cond.codeWith y bytes maxL ret hh).before args s = true ∧ (Cond.initialized y.cls).before args s = true ∧ (y.cls ≠ "java/lang/invoke/MethodHandle" ∧ y.cls ≠ "java/lang/invoke/VarHandle") ∧
  (∀ sig, parseMethodDescriptor y.desc = some sig → n = sig.parameters.length) ∧ (Cond.methodLink own index y).before args s = true ∧ (Cond.instanceMethod y).before args s = true ∧ (Cond.selects C y y).before args s = true
theorem vx_cwVW {own C : String} {index maxL mc ms : Nat} {y : MethodName} {bytes : ByteArray} {ret : Option FieldType} {hh : List (Nat × Nat × Nat × Nat)} {Ts ws ws' : List Cond} {rm : Room} (n : Nat) (ht : ∀ w ∈ Ts, w.before args s = true) (hT : GoodIn Ts (wsV own index C y ws)) (hw : ws = Cond.codeWith y bytes maxL ret hh :: ws') (hrc : rm.cells = mc) (hrs : rm.slots = ms)
    (hd : y.cls = C ∧ y.cls ≠ "java/lang/invoke/MethodHandle" ∧ y.cls ≠ "java/lang/invoke/VarHandle" ∧ (parseMethodDescriptor y.desc).map (fun d => d.parameters.length) = some n) (hR : rm.frames + 1 ≤ R.frames ∧ 8 + (maxL + 11) + rm.locals ≤ R.locals) :
    vx_CVW R s args own C index y bytes maxL ret hh ws rm mc ms n := by
  obtain ⟨hC, hd⟩ := hd
  subst hC
  have ok : ∀ w ∈ wsV own index y.cls y ws, w.before args s = true := fun w h => ht w (hT w h).1
  have hG : GoodIn Ts ws := fun w h => hT w (by unfold wsV; exact List.mem_append_right _ h)
  have hc : Cond.codeWith y bytes maxL ret hh ∈ ws := by rw [hw]; exact List.mem_cons_self
  refine ⟨⟨hrc, hrs, hR.1, hR.2, pay_in ht hG, hc⟩, ht _ (hG _ hc).1, ok _ (by simp [wsV]), ⟨hd.1, hd.2.1⟩, fun sig h => ?_, ok _ (by simp [wsV]), ok _ (by simp [wsV]), ok _ (by simp [wsV])⟩
  have h2 := hd.2.2
  rw [h] at h2
  exact (Option.some.inj h2).symm
theorem vx_runVW {y : MethodName} {bytes cc : ByteArray} {maxL nL mc ms n index : Nat} {ret : Option FieldType} {hh : List (Nat × Nat × Nat × Nat)} {ws : List Cond} {rm : Room} {Pc : Array Value → State → Prop} {Qc : Array Value → State → Outcome → State → Prop} {free : Addr → Prop} {Ts : List Cond} {own C : String} {b : Addr} {As rest : List Value} {g : JFrame}
    (S : CallFix p m c cc nL s args Ts own) (hM : Met l y ws rm Pc Qc mc ms free) (cw : vx_CVW R s args own C index y bytes maxL ret hh ws rm mc ms n) (hp : PreV s H C b Pc As)
    (hg : g.method = m) (hn : As.length = n) (hsize : g.locals.size = nL) (hstack : g.stack = As.reverse ++ .ref b :: rest) (hW : 2 * g.monitorRoom + (rest.map fun v => v.category).sum ≤ 8) (hdg : decode cc g.pc = .ok (.invokevirtual index, 3)) (hf : cells + mc ≤ R.cells ∧ slots + ms ≤ R.slots) :
    va_Run p l e R s m args below meth c H locs cells slots mc ms g rest (Qc (Value.ref b :: As).toArray) free := by
  obtain ⟨⟨hrc, hrs, hfr, hlo, hws, hcw⟩, hcode, hini, hy, hlen, hl, hin, hse⟩ := cw
  have hK : Back l R p e below s args y 3 8 (PreOf R mc ms Pc) (PostOf Qc mc ms free) := va_backW (hh := hh) (bytes := bytes) (maxL := maxL) (ret := ret) hM hp.1 hrc hrs hfr hlo hws hcw (fun a' U hW => word_at hW (Or.inl (by first | rfl | simp [Cond.onTables, Cond.keeps, Cond.steady])) hini)
  obtain ⟨hx, hb, hml, ho, -⟩ := S
  obtain ⟨-, ⟨cellB, hcB, hoB, hclB⟩, hPc⟩ := hp
  intro T hT X
  obtain ⟨v, vm₁, ⟨U', l2, c2, s2⟩, hW₁, X', ⟨g', mk, t, L, e1, e2, hq, h1, hL, h2, h3⟩, st⟩ := vx_callVW X hx (C := C) (hh := hh) (bytes := bytes) (maxL := maxL) (ret := ret) ho hl hin hse hcode hy hK (by rw [hT]; exact hcB) hoB hclB hg (hsize.trans hml.symm) (argsL := As) (rest := rest) (fun sig h => hn.trans (hlen sig h)) hstack hW (by rw [hb]; exact hdg)
    (fun vm₁ hW₁ => ⟨hf.1, hf.2, hPc (T.setVm vm₁) hT hW₁⟩)
  dsimp only [Pt.U, Pt.locs, Pt.cells, Pt.slots] at X' e1 e2 h1 h2 h3 st
  subst h1; subst h2; subst h3
  exact ⟨v, (T.setVm vm₁).calling g' mk (Value.ref b :: As).toArray, t, U', L, hT, X', hL, e1, e2, hq, st⟩
section
variable {y : MethodName} {bytes cc : ByteArray} {maxL nL mc ms n index : Nat} {ret : Option FieldType} {ws : List Cond} {rm : Room} {Pc : Array Value → State → Prop} {Qc : Array Value → State → Outcome → State → Prop} {XC : String → State → State → Prop} {free : Addr → Prop} {Ts : List Cond} {own C : String} {b : Addr} {As rest : List Value} {g : JFrame}
theorem vx_runVX {hh : List (Nat × Nat × Nat × Nat)} (S : CallFix p m c cc nL s args Ts own) (hM : vx_Met l y ws rm Pc Qc XC mc ms free) (cw : vx_CVW R s args own C index y bytes maxL ret hh ws rm mc ms n) (hp : PreV s H C b Pc As)
    (hg : g.method = m) (hn : As.length = n) (hsize : g.locals.size = nL) (hstack : g.stack = As.reverse ++ .ref b :: rest) (hW : 2 * g.monitorRoom + (rest.map fun v => v.category).sum ≤ 8) (hdg : decode cc g.pc = .ok (.invokevirtual index, 3)) (hf : cells + mc ≤ R.cells ∧ slots + ms ≤ R.slots) :
    vx_Run p l e R s m args below meth c H locs cells slots mc ms g rest (Qc (Value.ref b :: As).toArray) XC free := by
  obtain ⟨⟨hrc, hrs, hfr, hlo, hws, hcw⟩, hcode, hini, hy, hlen, hl, hin, hse⟩ := cw
  have hK : vx_Back l R p e below s args y 3 8 (PreOf R mc ms Pc) (PostOf Qc mc ms free) (vx_Post XC mc ms free) := vx_backW (hh := hh) (bytes := bytes) (maxL := maxL) (ret := ret) hM hp.1 hrc hrs hfr hlo hws hcw (fun a' U hW => word_at hW (Or.inl (by first | rfl | simp [Cond.onTables, Cond.keeps, Cond.steady])) hini)
  obtain ⟨hx, hb, hml, ho, -⟩ := S
  obtain ⟨-, ⟨cellB, hcB, hoB, hclB⟩, hPc⟩ := hp
  intro T hT X
  rcases vx_callVX X hx (C := C) (hh := hh) (bytes := bytes) (maxL := maxL) (ret := ret) ho hl hin hse hcode hy hK (by rw [hT]; exact hcB) hoB hclB hg (hsize.trans hml.symm) (argsL := As) (rest := rest) (fun sig h => hn.trans (hlen sig h)) hstack hW (by rw [hb]; exact hdg)
    (fun vm₁ hW₁ => ⟨hf.1, hf.2, hPc (T.setVm vm₁) hT hW₁⟩) with ⟨v, vm₁, ⟨U', l2, c2, s2⟩, hW₁, X', ⟨g', mk, t, L, e1, e2, hq, h1, hL, h2, h3⟩, st⟩ | ⟨q, vm₁, ⟨U', l2, c2, s2⟩, hW₁, X', ⟨g', mk, t, L, E, ce, e1, e2, hq, hce, hcv, hcl, h1, hL, h2, h3⟩, st⟩
  · dsimp only [Pt.U, Pt.locs, Pt.cells, Pt.slots] at X' e1 e2 h1 h2 h3 st
    subst h1; subst h2; subst h3
    exact Or.inl ⟨v, (T.setVm vm₁).calling g' mk (Value.ref b :: As).toArray, t, U', L, hT, X', hL, e1, e2, hq, st⟩
  · dsimp only [Pt.U, Pt.locs, Pt.cells, Pt.slots] at X' e1 e2 h1 h2 h3 st hcl
    subst h1; subst h2; subst h3
    exact Or.inr ⟨q, (T.setVm vm₁).calling g' mk (Value.ref b :: As).toArray, t, U', L, E, ce, hT, X', hL, e1, e2, hq, hce, hcv, vx_cls hW₁ hcl, st⟩
theorem vx_runSX {hh : List (Nat × Nat × Nat × Nat)} (S : CallFix p m c cc nL s args Ts own) (hM : vx_Met l y ws rm Pc Qc XC mc ms free) (cw : vx_CSW R s args own index y bytes maxL ret hh ws rm mc ms n) (hp : PreS s H Pc As)
    (hg : g.method = m) (hn : As.length = n) (hsize : g.locals.size = nL) (hstack : g.stack = As.reverse ++ rest) (hW : 2 * g.monitorRoom + (rest.map fun v => v.category).sum ≤ 8) (hdg : decode cc g.pc = .ok (.invokestatic index, 3)) (hf : cells + mc ≤ R.cells ∧ slots + ms ≤ R.slots) :
    vx_Run p l e R s m args below meth c H locs cells slots mc ms g rest (Qc As.toArray) XC free := by
  obtain ⟨⟨hrc, hrs, hfr, hlo, hws, hcw⟩, hcode, hini, hy, hlen, hl, hstt⟩ := cw
  have hK : vx_Back l R p e below s args y 3 8 (PreOf R mc ms Pc) (PostOf Qc mc ms free) (vx_Post XC mc ms free) := vx_backW (hh := hh) (bytes := bytes) (maxL := maxL) (ret := ret) hM hp.1 hrc hrs hfr hlo hws hcw (fun a' U hW => word_at hW (Or.inl (by first | rfl | simp [Cond.onTables, Cond.keeps, Cond.steady])) hini)
  obtain ⟨hx, hb, hml, ho, -⟩ := S
  intro T hT X
  rcases vx_callSX X hx (hh := hh) (bytes := bytes) (maxL := maxL) (ret := ret) ho hl hstt hini hcode hy hK hg (hsize.trans hml.symm) (argsL := As) (rest := rest) (fun sig h => hn.trans (hlen sig h)) hstack hW (by rw [hb]; exact hdg)
    (fun vm₁ hW₁ => ⟨hf.1, hf.2, hp.2 (T.setVm vm₁) hT hW₁⟩) with ⟨v, vm₁, ⟨U', l2, c2, s2⟩, hW₁, X', ⟨g', mk, t, L, e1, e2, hq, h1, hL, h2, h3⟩, st⟩ | ⟨q, vm₁, ⟨U', l2, c2, s2⟩, hW₁, X', ⟨g', mk, t, L, E, ce, e1, e2, hq, hce, hcv, hcl, h1, hL, h2, h3⟩, st⟩
  · dsimp only [Pt.U, Pt.locs, Pt.cells, Pt.slots] at X' e1 e2 h1 h2 h3 st
    subst h1; subst h2; subst h3
    exact Or.inl ⟨v, (T.setVm vm₁).calling g' mk As.toArray, t, U', L, hT, X', hL, e1, e2, hq, st⟩
  · dsimp only [Pt.U, Pt.locs, Pt.cells, Pt.slots] at X' e1 e2 h1 h2 h3 st hcl
    subst h1; subst h2; subst h3
    exact Or.inr ⟨q, (T.setVm vm₁).calling g' mk As.toArray, t, U', L, E, ce, hT, X', hL, e1, e2, hq, hce, hcv, vx_cls hW₁ hcl, st⟩
end
end VXH
theorem vx_ofWH {l : Launch} {y : MethodName} {ws ws' : List Cond} {rm : Room} {Pc : Array Value → State → Prop} {Qc : Array Value → State → Outcome → State → Prop} {XC : String → State → State → Prop} {mc ms : Nat} {free : Addr → Prop} {cc : ByteArray} {maxL : Nat} {ret : Option FieldType} {hh : List (Nat × Nat × Nat × Nat)}
    (hy : plainName y.cls = true) (hw : ws = Cond.codeWith y cc maxL ret hh :: ws')
    (body : ∀ p e s m args below meth c s₁, BodyLoose p l y (headSpec ws rm) cc maxL ret e s m args below meth c s₁ → c.maxLocals = maxL → Pc args s →
      W p l e (headSpec ws rm).room s m args below meth c s.heap [] 0 0 (vx_MQ below Qc XC args s mc ms free) (entryFrame m args maxL)) : vx_Met l y ws rm Pc Qc XC mc ms free := by
  refine MetFree.of_bodyS (code := cc) (maxLocals := maxL) (ret := ret) hy ?_ ?_
  · intro args s m h hn
    obtain ⟨m9, meth, c, hn9, h1, h2, h3, h4, -, h5, h6, -⟩ := Cond.codeWith_spec (atoms_spec (ws := ws) h _ (by rw [hw]; exact List.mem_cons_self))
    cases hn.symm.trans hn9
    exact ⟨meth, c, h1, h2, h3, h4, h5, h6⟩
  · intro p e s m args below meth c s₁ B hml hP _
    have hh0 : s₁.heap = s.heap := by rw [B.state]; rfl
    obtain ⟨t, a1, o, b1, b2, b3⟩ := body p e s m args below meth c s₁ B hml hP s₁ hh0 (Stand.of_body B)
    exact ⟨t, o, a1, b1, b2, b3⟩
/-! ===== END ===== -/
end
section
/-! ===== BEGIN printed: names, fields, word lists, decode rows ===== -/
def RX0 : String := "PairedCells$Block"
def TX0 : u_T := fun k => match k with
  | 0 => ("PairedCells$Block", "states", "[I", true)
  | 1 => ("PairedCells$Block", "bytes", "[I", true)
  | 2 => ("PairedCells$Block", "guardBytes", "[I", true)
  | 3 => ("PairedCells$Block", "guardState", "I", false)
  | _ => ("PairedCells$Block", "erasures", "I", false)
def tyX0 : Nat → FieldType := fun k => match k with
  | 0 => .array .int
  | 1 => .array .int
  | 2 => .array .int
  | 3 => .int
  | _ => .int
abbrev wsX00 : List Cond := u_ws RX0 TX0 5
theorem nmX0 : ∀ a, a < 5 → ∀ b, b < 5 → a ≠ b → (TX0 a).2.1 ≠ (TX0 b).2.1 := by decide +kernel
theorem tyX0_ok : ∀ k, k < 5 → parseFieldDescriptor (TX0 k).2.2.1 = some (tyX0 k) := by decide +kernel
abbrev cX0_init : ByteArray := prog_2_method_1_code
def yX0_init : MethodName := ⟨RX0, "<init>", "()V"⟩
abbrev cX0_nextPlace : ByteArray := prog_2_method_2_code
def yX0_nextPlace : MethodName := ⟨RX0, "nextPlace", "()I"⟩
abbrev cX0_isErased : ByteArray := prog_2_method_3_code
def yX0_isErased : MethodName := ⟨RX0, "isErased", "()Z"⟩
abbrev cX0_takesMore : ByteArray := prog_2_method_4_code
def yX0_takesMore : MethodName := ⟨RX0, "takesMore", "()Z"⟩
abbrev cX0_erase : ByteArray := prog_2_method_5_code
def yX0_erase : MethodName := ⟨RX0, "erase", "()V"⟩
abbrev cX0_write : ByteArray := prog_2_method_6_code
def yX0_write : MethodName := ⟨RX0, "write", "(ILPairedCells$EventPage;)V"⟩
abbrev cX0_cutAt : ByteArray := prog_2_method_7_code
def yX0_cutAt : MethodName := ⟨RX0, "cutAt", "(I)V"⟩
abbrev cX0_ruinWritten : ByteArray := prog_2_method_8_code
def yX0_ruinWritten : MethodName := ⟨RX0, "ruinWritten", "(I)Z"⟩
abbrev cX0_writeGuard : ByteArray := prog_2_method_9_code
def yX0_writeGuard : MethodName := ⟨RX0, "writeGuard", "()V"⟩
abbrev cX0_stateAt : ByteArray := prog_2_method_10_code
def yX0_stateAt : MethodName := ⟨RX0, "stateAt", "(I)I"⟩
abbrev cX0_isReadable : ByteArray := prog_2_method_11_code
def yX0_isReadable : MethodName := ⟨RX0, "isReadable", "(I)Z"⟩
abbrev cX0_isRebuilt : ByteArray := prog_2_method_12_code
def yX0_isRebuilt : MethodName := ⟨RX0, "isRebuilt", "(I)Z"⟩
abbrev cX0_covers : ByteArray := prog_2_method_13_code
def yX0_covers : MethodName := ⟨RX0, "covers", "(I)Z"⟩
abbrev cX0_byteAt : ByteArray := prog_2_method_14_code
def yX0_byteAt : MethodName := ⟨RX0, "byteAt", "(II)I"⟩
abbrev cX0_show : ByteArray := prog_2_method_15_code
def yX0_show : MethodName := ⟨RX0, "show", "(ILPairedCells$EventPage;)Z"⟩
def RX1 : String := "PairedCells$EventPage"
def TX1 : u_T := fun k => match k with
  | _ => ("PairedCells$EventPage", "bytes", "[I", true)
def tyX1 : Nat → FieldType := fun k => match k with
  | _ => .array .int
abbrev wsX10 : List Cond := u_ws RX1 TX1 1
theorem nmX1 : ∀ a, a < 1 → ∀ b, b < 1 → a ≠ b → (TX1 a).2.1 ≠ (TX1 b).2.1 := by decide +kernel
theorem tyX1_ok : ∀ k, k < 1 → parseFieldDescriptor (TX1 k).2.2.1 = some (tyX1 k) := by decide +kernel
abbrev cX1_init : ByteArray := prog_3_method_1_code
def yX1_init : MethodName := ⟨RX1, "<init>", "()V"⟩
abbrev cX1_clear : ByteArray := prog_3_method_2_code
def yX1_clear : MethodName := ⟨RX1, "clear", "()V"⟩
abbrev cX1_events : ByteArray := prog_3_method_3_code
def yX1_events : MethodName := ⟨RX1, "events", "()I"⟩
abbrev cX1_isEmpty : ByteArray := prog_3_method_4_code
def yX1_isEmpty : MethodName := ⟨RX1, "isEmpty", "()Z"⟩
abbrev cX1_firstNumber : ByteArray := prog_3_method_5_code
def yX1_firstNumber : MethodName := ⟨RX1, "firstNumber", "()I"⟩
abbrev cX1_lastNumber : ByteArray := prog_3_method_6_code
def yX1_lastNumber : MethodName := ⟨RX1, "lastNumber", "()I"⟩
abbrev cX1_holds : ByteArray := prog_3_method_7_code
def yX1_holds : MethodName := ⟨RX1, "holds", "(I)Z"⟩
abbrev cX1_fits : ByteArray := prog_3_method_8_code
def yX1_fits : MethodName := ⟨RX1, "fits", "(I)Z"⟩
abbrev cX1_add : ByteArray := prog_3_method_9_code
def yX1_add : MethodName := ⟨RX1, "add", "(IIJ)V"⟩
abbrev cX1_lengthOf : ByteArray := prog_3_method_10_code
def yX1_lengthOf : MethodName := ⟨RX1, "lengthOf", "(I)I"⟩
abbrev cX1_bytesOf : ByteArray := prog_3_method_11_code
def yX1_bytesOf : MethodName := ⟨RX1, "bytesOf", "(I)J"⟩
abbrev cX1_placeOfRow : ByteArray := prog_3_method_12_code
def yX1_placeOfRow : MethodName := ⟨RX1, "placeOfRow", "(I)I"⟩
def RX2 : String := "PairedCells"
def TX2 : u_T := fun k => match k with
  | 0 => ("PairedCells", "blocks", "[LPairedCells$Block;", true)
  | 1 => ("PairedCells", "openPage", "LPairedCells$EventPage;", true)
  | 2 => ("PairedCells", "shown", "LPairedCells$EventPage;", true)
  | 3 => ("PairedCells", "current", "I", false)
  | 4 => ("PairedCells", "firstEvent", "I", false)
  | 5 => ("PairedCells", "nextEvent", "I", false)
  | 6 => ("PairedCells", "cutIn", "I", false)
  | _ => ("PairedCells", "powerOn", "Z", false)
def tyX2 : Nat → FieldType := fun k => match k with
  | 0 => .array (.object "PairedCells$Block")
  | 1 => .object "PairedCells$EventPage"
  | 2 => .object "PairedCells$EventPage"
  | 3 => .int
  | 4 => .int
  | 5 => .int
  | 6 => .int
  | _ => .boolean
abbrev wsX20 : List Cond := u_ws RX2 TX2 8
theorem nmX2 : ∀ a, a < 8 → ∀ b, b < 8 → a ≠ b → (TX2 a).2.1 ≠ (TX2 b).2.1 := by decide +kernel
theorem tyX2_ok : ∀ k, k < 8 → parseFieldDescriptor (TX2 k).2.2.1 = some (tyX2 k) := by decide +kernel
abbrev cX2_init : ByteArray := prog_1_method_1_code
def yX2_init : MethodName := ⟨RX2, "<init>", "()V"⟩
abbrev cX2_append : ByteArray := prog_1_method_2_code
def yX2_append : MethodName := ⟨RX2, "append", "(IJ)I"⟩
abbrev cX2_sync : ByteArray := prog_1_method_3_code
def yX2_sync : MethodName := ⟨RX2, "sync", "()I"⟩
abbrev cX2_cutAfter : ByteArray := prog_1_method_4_code
def yX2_cutAfter : MethodName := ⟨RX2, "cutAfter", "(I)V"⟩
abbrev cX2_off : ByteArray := prog_1_method_5_code
def yX2_off : MethodName := ⟨RX2, "off", "()I"⟩
abbrev cX2_start : ByteArray := prog_1_method_6_code
def yX2_start : MethodName := ⟨RX2, "start", "()I"⟩
abbrev cX2_trim : ByteArray := prog_1_method_7_code
def yX2_trim : MethodName := ⟨RX2, "trim", "(I)I"⟩
abbrev cX2_first : ByteArray := prog_1_method_8_code
def yX2_first : MethodName := ⟨RX2, "first", "()I"⟩
abbrev cX2_count : ByteArray := prog_1_method_9_code
def yX2_count : MethodName := ⟨RX2, "count", "()I"⟩
abbrev cX2_length : ByteArray := prog_1_method_10_code
def yX2_length : MethodName := ⟨RX2, "length", "(I)I"⟩
abbrev cX2_event : ByteArray := prog_1_method_11_code
def yX2_event : MethodName := ⟨RX2, "event", "(I)J"⟩
abbrev cX2_ruin : ByteArray := prog_1_method_12_code
def yX2_ruin : MethodName := ⟨RX2, "ruin", "(IIZ)Z"⟩
abbrev cX2_page : ByteArray := prog_1_method_13_code
def yX2_page : MethodName := ⟨RX2, "page", "(IIZ)I"⟩
abbrev cX2_at : ByteArray := prog_1_method_14_code
def yX2_at : MethodName := ⟨RX2, "at", "(IIZI)I"⟩
abbrev cX2_guard : ByteArray := prog_1_method_15_code
def yX2_guard : MethodName := ⟨RX2, "guard", "(I)I"⟩
abbrev cX2_guarded : ByteArray := prog_1_method_16_code
def yX2_guarded : MethodName := ⟨RX2, "guarded", "(II)I"⟩
abbrev cX2_told : ByteArray := prog_1_method_17_code
def yX2_told : MethodName := ⟨RX2, "told", "(I)I"⟩
abbrev cX2_requirePower : ByteArray := prog_1_method_18_code
def yX2_requirePower : MethodName := ⟨RX2, "requirePower", "()V"⟩
abbrev cX2_requireEvent : ByteArray := prog_1_method_19_code
def yX2_requireEvent : MethodName := ⟨RX2, "requireEvent", "(I)V"⟩
abbrev cX2_requireBlock : ByteArray := prog_1_method_20_code
def yX2_requireBlock : MethodName := ⟨RX2, "requireBlock", "(I)V"⟩
abbrev cX2_requireLine : ByteArray := prog_1_method_21_code
def yX2_requireLine : MethodName := ⟨RX2, "requireLine", "(II)V"⟩
abbrev cX2_placeOf : ByteArray := prog_1_method_22_code
def yX2_placeOf : MethodName := ⟨RX2, "placeOf", "(IZ)I"⟩
abbrev cX2_flush : ByteArray := prog_1_method_23_code
def yX2_flush : MethodName := ⟨RX2, "flush", "()Z"⟩
abbrev cX2_blockToProgram : ByteArray := prog_1_method_24_code
def yX2_blockToProgram : MethodName := ⟨RX2, "blockToProgram", "()I"⟩
abbrev cX2_programGuard : ByteArray := prog_1_method_25_code
def yX2_programGuard : MethodName := ⟨RX2, "programGuard", "(LPairedCells$Block;)Z"⟩
abbrev cX2_cutIsDue : ByteArray := prog_1_method_26_code
def yX2_cutIsDue : MethodName := ⟨RX2, "cutIsDue", "()Z"⟩
abbrev cX2_eraseUnreadableBlocks : ByteArray := prog_1_method_27_code
def yX2_eraseUnreadableBlocks : MethodName := ⟨RX2, "eraseUnreadableBlocks", "()V"⟩
abbrev cX2_findEvents : ByteArray := prog_1_method_28_code
def yX2_findEvents : MethodName := ⟨RX2, "findEvents", "()V"⟩
abbrev cX2_leastEvent : ByteArray := prog_1_method_29_code
def yX2_leastEvent : MethodName := ⟨RX2, "leastEvent", "(LPairedCells$Block;)I"⟩
abbrev cX2_greatestEvent : ByteArray := prog_1_method_30_code
def yX2_greatestEvent : MethodName := ⟨RX2, "greatestEvent", "(LPairedCells$Block;)I"⟩
abbrev cX2_pageWith : ByteArray := prog_1_method_31_code
def yX2_pageWith : MethodName := ⟨RX2, "pageWith", "(I)LPairedCells$EventPage;"⟩
abbrev cX2_erasedBlocks : ByteArray := prog_1_method_32_code
def yX2_erasedBlocks : MethodName := ⟨RX2, "erasedBlocks", "()I"⟩
def RX3 : String := "PairedCellsModel"
def TX3 : u_T := fun k => match k with
  | 0 => ("PairedCellsModel", "thrown", "I", false)
  | 1 => ("PairedCellsModel", "states", "[I", true)
  | 2 => ("PairedCellsModel", "bytes", "[I", true)
  | 3 => ("PairedCellsModel", "guards", "[I", true)
  | 4 => ("PairedCellsModel", "guardBytes", "[I", true)
  | 5 => ("PairedCellsModel", "erased", "[I", true)
  | 6 => ("PairedCellsModel", "on", "Z", false)
  | 7 => ("PairedCellsModel", "cut", "I", false)
  | 8 => ("PairedCellsModel", "current", "I", false)
  | 9 => ("PairedCellsModel", "least", "I", false)
  | 10 => ("PairedCellsModel", "next", "I", false)
  | 11 => ("PairedCellsModel", "held", "I", false)
  | 12 => ("PairedCellsModel", "taken", "I", false)
  | 13 => ("PairedCellsModel", "open", "[I", true)
  | 14 => ("PairedCellsModel", "foundPage", "I", false)
  | _ => ("PairedCellsModel", "foundAt", "I", false)
def tyX3 : Nat → FieldType := fun k => match k with
  | 0 => .int
  | 1 => .array .int
  | 2 => .array .int
  | 3 => .array .int
  | 4 => .array .int
  | 5 => .array .int
  | 6 => .boolean
  | 7 => .int
  | 8 => .int
  | 9 => .int
  | 10 => .int
  | 11 => .int
  | 12 => .int
  | 13 => .array .int
  | 14 => .int
  | _ => .int
abbrev wsX30 : List Cond := u_ws RX3 TX3 16
theorem nmX3 : ∀ a, a < 16 → ∀ b, b < 16 → a ≠ b → (TX3 a).2.1 ≠ (TX3 b).2.1 := by decide +kernel
theorem tyX3_ok : ∀ k, k < 16 → parseFieldDescriptor (TX3 k).2.2.1 = some (tyX3 k) := by decide +kernel
abbrev cX3_init : ByteArray := prog_5_method_1_code
def yX3_init : MethodName := ⟨RX3, "<init>", "()V"⟩
abbrev cX3_thrown : ByteArray := prog_5_method_2_code
def yX3_thrown : MethodName := ⟨RX3, "thrown", "()I"⟩
abbrev cX3_eraseBlock : ByteArray := prog_5_method_3_code
def yX3_eraseBlock : MethodName := ⟨RX3, "eraseBlock", "(I)V"⟩
abbrev cX3_isErased : ByteArray := prog_5_method_4_code
def yX3_isErased : MethodName := ⟨RX3, "isErased", "(I)Z"⟩
abbrev cX3_isCovered : ByteArray := prog_5_method_5_code
def yX3_isCovered : MethodName := ⟨RX3, "isCovered", "(II)Z"⟩
abbrev cX3_isRebuilt : ByteArray := prog_5_method_6_code
def yX3_isRebuilt : MethodName := ⟨RX3, "isRebuilt", "(I)Z"⟩
abbrev cX3_isReadable : ByteArray := prog_5_method_7_code
def yX3_isReadable : MethodName := ⟨RX3, "isReadable", "(I)Z"⟩
abbrev cX3_byteOf : ByteArray := prog_5_method_8_code
def yX3_byteOf : MethodName := ⟨RX3, "byteOf", "(II)I"⟩
abbrev cX3_isCut : ByteArray := prog_5_method_9_code
def yX3_isCut : MethodName := ⟨RX3, "isCut", "()Z"⟩
abbrev cX3_used : ByteArray := prog_5_method_10_code
def yX3_used : MethodName := ⟨RX3, "used", "(I)I"⟩
abbrev cX3_takesMore : ByteArray := prog_5_method_11_code
def yX3_takesMore : MethodName := ⟨RX3, "takesMore", "(I)Z"⟩
abbrev cX3_isFull : ByteArray := prog_5_method_12_code
def yX3_isFull : MethodName := ⟨RX3, "isFull", "()Z"⟩
abbrev cX3_writeGuard : ByteArray := prog_5_method_13_code
def yX3_writeGuard : MethodName := ⟨RX3, "writeGuard", "()Z"⟩
abbrev cX3_empty : ByteArray := prog_5_method_14_code
def yX3_empty : MethodName := ⟨RX3, "empty", "()V"⟩
abbrev cX3_flush : ByteArray := prog_5_method_15_code
def yX3_flush : MethodName := ⟨RX3, "flush", "()Z"⟩
abbrev cX3_append : ByteArray := prog_5_method_16_code
def yX3_append : MethodName := ⟨RX3, "append", "(IJ)I"⟩
abbrev cX3_sync : ByteArray := prog_5_method_17_code
def yX3_sync : MethodName := ⟨RX3, "sync", "()I"⟩
abbrev cX3_cutAfter : ByteArray := prog_5_method_18_code
def yX3_cutAfter : MethodName := ⟨RX3, "cutAfter", "(I)V"⟩
abbrev cX3_off : ByteArray := prog_5_method_19_code
def yX3_off : MethodName := ⟨RX3, "off", "()I"⟩
abbrev cX3_firstOf : ByteArray := prog_5_method_20_code
def yX3_firstOf : MethodName := ⟨RX3, "firstOf", "(I)I"⟩
abbrev cX3_lastOf : ByteArray := prog_5_method_21_code
def yX3_lastOf : MethodName := ⟨RX3, "lastOf", "(I)I"⟩
abbrev cX3_greatestIn : ByteArray := prog_5_method_22_code
def yX3_greatestIn : MethodName := ⟨RX3, "greatestIn", "(I)I"⟩
abbrev cX3_start : ByteArray := prog_5_method_23_code
def yX3_start : MethodName := ⟨RX3, "start", "()I"⟩
abbrev cX3_trim : ByteArray := prog_5_method_24_code
def yX3_trim : MethodName := ⟨RX3, "trim", "(I)I"⟩
abbrev cX3_first : ByteArray := prog_5_method_25_code
def yX3_first : MethodName := ⟨RX3, "first", "()I"⟩
abbrev cX3_count : ByteArray := prog_5_method_26_code
def yX3_count : MethodName := ⟨RX3, "count", "()I"⟩
abbrev cX3_find : ByteArray := prog_5_method_27_code
def yX3_find : MethodName := ⟨RX3, "find", "(I)V"⟩
abbrev cX3_foundByte : ByteArray := prog_5_method_28_code
def yX3_foundByte : MethodName := ⟨RX3, "foundByte", "(I)I"⟩
abbrev cX3_length : ByteArray := prog_5_method_29_code
def yX3_length : MethodName := ⟨RX3, "length", "(I)I"⟩
abbrev cX3_event : ByteArray := prog_5_method_30_code
def yX3_event : MethodName := ⟨RX3, "event", "(I)J"⟩
abbrev cX3_noPage : ByteArray := prog_5_method_31_code
def yX3_noPage : MethodName := ⟨RX3, "noPage", "(II)Z"⟩
abbrev cX3_place : ByteArray := prog_5_method_32_code
def yX3_place : MethodName := ⟨RX3, "place", "(IIZ)I"⟩
abbrev cX3_ruin : ByteArray := prog_5_method_33_code
def yX3_ruin : MethodName := ⟨RX3, "ruin", "(IIZ)Z"⟩
abbrev cX3_page : ByteArray := prog_5_method_34_code
def yX3_page : MethodName := ⟨RX3, "page", "(IIZ)I"⟩
abbrev cX3_at : ByteArray := prog_5_method_35_code
def yX3_at : MethodName := ⟨RX3, "at", "(IIZI)I"⟩
abbrev cX3_guard : ByteArray := prog_5_method_36_code
def yX3_guard : MethodName := ⟨RX3, "guard", "(I)I"⟩
abbrev cX3_guarded : ByteArray := prog_5_method_37_code
def yX3_guarded : MethodName := ⟨RX3, "guarded", "(II)I"⟩
abbrev cX3_told : ByteArray := prog_5_method_38_code
def yX3_told : MethodName := ⟨RX3, "told", "(I)I"⟩
def RJx145de : String := "java/io/Serializable"
def TJx145de : u_T := fun k => match k with
  | _ => ("", "", "", false)
def tyJx145de : Nat → FieldType := fun k => match k with
  | _ => .int
abbrev wsJx145de0 : List Cond := u_ws RJx145de TJx145de 0
theorem nmJx145de : ∀ a, a < 0 → ∀ b, b < 0 → a ≠ b → (TJx145de a).2.1 ≠ (TJx145de b).2.1 := by decide +kernel
theorem tyJx145de_ok : ∀ k, k < 0 → parseFieldDescriptor (TJx145de k).2.2.1 = some (tyJx145de k) := by decide +kernel
def RJ9 : String := "java/lang/Math"
def TJ9 : u_T := fun k => match k with
  | _ => ("", "", "", false)
def tyJ9 : Nat → FieldType := fun k => match k with
  | _ => .int
abbrev wsJ90 : List Cond := u_ws RJ9 TJ9 0
theorem nmJ9 : ∀ a, a < 0 → ∀ b, b < 0 → a ≠ b → (TJ9 a).2.1 ≠ (TJ9 b).2.1 := by decide +kernel
theorem tyJ9_ok : ∀ k, k < 0 → parseFieldDescriptor (TJ9 k).2.2.1 = some (tyJ9 k) := by decide +kernel
abbrev cJ9_max_7cf53 : ByteArray := prog_11_method_65_code
def yJ9_max_7cf53 : MethodName := ⟨RJ9, "max", "(II)I"⟩
def RJ0 : String := "java/lang/String"
def TJ0 : u_T := fun k => match k with
  | _ => ("", "", "", false)
def tyJ0 : Nat → FieldType := fun k => match k with
  | _ => .int
abbrev wsJ00 : List Cond := u_ws RJ0 TJ0 0
theorem nmJ0 : ∀ a, a < 0 → ∀ b, b < 0 → a ≠ b → (TJ0 a).2.1 ≠ (TJ0 b).2.1 := by decide +kernel
theorem tyJ0_ok : ∀ k, k < 0 → parseFieldDescriptor (TJ0 k).2.2.1 = some (tyJ0 k) := by decide +kernel
def RJ10 : String := "java/lang/System"
def TJ10 : u_T := fun k => match k with
  | _ => ("", "", "", false)
def tyJ10 : Nat → FieldType := fun k => match k with
  | _ => .int
abbrev wsJ100 : List Cond := u_ws RJ10 TJ10 0
theorem nmJ10 : ∀ a, a < 0 → ∀ b, b < 0 → a ≠ b → (TJ10 a).2.1 ≠ (TJ10 b).2.1 := by decide +kernel
theorem tyJ10_ok : ∀ k, k < 0 → parseFieldDescriptor (TJ10 k).2.2.1 = some (tyJ10 k) := by decide +kernel
def RJ7 : String := "java/util/Arrays"
def TJ7 : u_T := fun k => match k with
  | _ => ("", "", "", false)
def tyJ7 : Nat → FieldType := fun k => match k with
  | _ => .int
abbrev wsJ70 : List Cond := u_ws RJ7 TJ7 0
theorem nmJ7 : ∀ a, a < 0 → ∀ b, b < 0 → a ≠ b → (TJ7 a).2.1 ≠ (TJ7 b).2.1 := by decide +kernel
theorem tyJ7_ok : ∀ k, k < 0 → parseFieldDescriptor (TJ7 k).2.2.1 = some (tyJ7 k) := by decide +kernel
abbrev cJ7_fill_53178 : ByteArray := prog_17_method_103_code
def yJ7_fill_53178 : MethodName := ⟨RJ7, "fill", "([II)V"⟩
def RL : String := "PairedCellsLaw"
abbrev cL_append : ByteArray := method_3_code
def yL_append : MethodName := ⟨RL, "append", "(LPairedCells;IJ[J)I"⟩
abbrev cL_sync : ByteArray := method_4_code
def yL_sync : MethodName := ⟨RL, "sync", "(LPairedCells;[J)I"⟩
abbrev cL_cutAfter : ByteArray := method_5_code
def yL_cutAfter : MethodName := ⟨RL, "cutAfter", "(LPairedCells;I)I"⟩
abbrev cL_off : ByteArray := method_6_code
def yL_off : MethodName := ⟨RL, "off", "(LPairedCells;[J)I"⟩
abbrev cL_start : ByteArray := method_7_code
def yL_start : MethodName := ⟨RL, "start", "(LPairedCells;[J)I"⟩
abbrev cL_trim : ByteArray := method_8_code
def yL_trim : MethodName := ⟨RL, "trim", "(LPairedCells;I[J)I"⟩
abbrev cL_first : ByteArray := method_9_code
def yL_first : MethodName := ⟨RL, "first", "(LPairedCells;[J)I"⟩
abbrev cL_count : ByteArray := method_10_code
def yL_count : MethodName := ⟨RL, "count", "(LPairedCells;[J)I"⟩
abbrev cL_length : ByteArray := method_11_code
def yL_length : MethodName := ⟨RL, "length", "(LPairedCells;I[J)I"⟩
abbrev cL_event : ByteArray := method_12_code
def yL_event : MethodName := ⟨RL, "event", "(LPairedCells;I[J)I"⟩
abbrev cL_ruin : ByteArray := method_13_code
def yL_ruin : MethodName := ⟨RL, "ruin", "(LPairedCells;IIZ[J)I"⟩
abbrev cL_page : ByteArray := method_14_code
def yL_page : MethodName := ⟨RL, "page", "(LPairedCells;IIZ[J)I"⟩
abbrev cL_at : ByteArray := method_15_code
def yL_at : MethodName := ⟨RL, "at", "(LPairedCells;IIZI[J)I"⟩
abbrev cL_guard : ByteArray := method_16_code
def yL_guard : MethodName := ⟨RL, "guard", "(LPairedCells;I[J)I"⟩
abbrev cL_guarded : ByteArray := method_17_code
def yL_guarded : MethodName := ⟨RL, "guarded", "(LPairedCells;II[J)I"⟩
abbrev cL_law : ByteArray := code
def yL_law : MethodName := ⟨RL, "law", "([I)Z"⟩
/-- the words of a throw of NoSuchElementException: in this JDK its constructor calls the one above by another place of its pool -/
def xn_all (own : String) (ic : Nat) (X : String) (ix : Nat) (rx : ByteArray) (Y : String) (names : List String) : List Cond :=
  Bundle.throwableAtoms ++ Bundle.throwableSAtoms ++ (Bundle.passSAtoms X Y ix rx ++ Bundle.chainSAtoms Y names) ++
  [.methodLink own ic (Bundle.initS X), .instantiable X 6, .castable X X, .selects X Bundle.tFill0 Bundle.tFill0, .selects X Bundle.tFill Bundle.tFill,
   .lays X Bundle.tN "cause" "Ljava/lang/Throwable;", .lays X Bundle.tN "stackTrace" Bundle.steD, .lays X Bundle.tN "suppressedExceptions" Bundle.listD, .lays X Bundle.tN "detailMessage" "Ljava/lang/String;",
   .isRef (.static Bundle.tN "UNASSIGNED_STACK" Bundle.steD), .isRef (.static Bundle.tN "SUPPRESSED_SENTINEL" Bundle.listD),
   .fieldLink Bundle.tN 198 Bundle.tN "backtrace" "Ljava/lang/Object;", .lays Bundle.tN Bundle.tN "backtrace" "Ljava/lang/Object;", .lays X Bundle.tN "backtrace" "Ljava/lang/Object;"]
def xn_at : List Cond := (xn_all RX2 116 "java/util/NoSuchElementException" 13 prog_18_method_4_code "java/lang/RuntimeException" ["java/lang/Exception"]).filter vx_no
def wsNS : List Cond := xn_at.filter goodWord
def wsX0_init : List Cond := .code yX0_init cX0_init 1 none :: ([.methodLink RX0 3 objectInit, .instanceMethod objectInit, .code objectInit ⟨#[0xb1]⟩ 1 none, .arrayClass .int, .fieldLink RX0 9 "PairedCells$Block" "states" "[I", .fieldLink RX0 15 "PairedCells$Block" "bytes" "[I", .fieldLink RX0 18 "PairedCells$Block" "guardBytes" "[I", .fieldLink RX0 21 "PairedCells$Block" "guardState" "I", .fieldLink RX0 25 "PairedCells$Block" "erasures" "I"] ++ wsX00)
def wsX0_nextPlace : List Cond := .code yX0_nextPlace cX0_nextPlace 2 (some .int) :: ([.fieldLink RX0 9 "PairedCells$Block" "states" "[I"] ++ wsX00)
def wsX0_isErased : List Cond := .code yX0_isErased cX0_isErased 1 (some .boolean) :: ([.methodLink RX0 28 yX0_nextPlace, .instanceMethod yX0_nextPlace, .selects RX0 yX0_nextPlace yX0_nextPlace, .initialized RX0, .code yX0_nextPlace cX0_nextPlace 2 (some .int), .fieldLink RX0 9 "PairedCells$Block" "states" "[I"] ++ wsX00)
def wsX0_takesMore : List Cond := .code yX0_takesMore cX0_takesMore 2 (some .boolean) :: ([.fieldLink RX0 9 "PairedCells$Block" "states" "[I", .methodLink RX0 28 yX0_nextPlace, .instanceMethod yX0_nextPlace, .selects RX0 yX0_nextPlace yX0_nextPlace, .initialized RX0, .code yX0_nextPlace cX0_nextPlace 2 (some .int)] ++ wsX00)
def wsJ7_fill_53178 : List Cond := .code yJ7_fill_53178 cJ7_fill_53178 4 none :: ([])
def wsX0_erase : List Cond := .code yX0_erase cX0_erase 1 none :: ([.fieldLink RX0 9 "PairedCells$Block" "states" "[I", .fieldLink RX0 21 "PairedCells$Block" "guardState" "I", .fieldLink RX0 25 "PairedCells$Block" "erasures" "I", .methodLink RX0 32 yJ7_fill_53178, .static yJ7_fill_53178, .initialized RJ7, .code yJ7_fill_53178 cJ7_fill_53178 4 none] ++ wsX00)
def wsX0_write : List Cond := .code yX0_write cX0_write 3 none :: ([.fieldLink RX0 9 "PairedCells$Block" "states" "[I", .fieldLink RX0 15 "PairedCells$Block" "bytes" "[I", .methodLink RX0 41 arraycopyName, .native arraycopyName, .static arraycopyName, .initialized "java/lang/System"] ++ wsX00 ++ wsX10)
def wsX0_cutAt : List Cond := .code yX0_cutAt cX0_cutAt 2 none :: ([.fieldLink RX0 9 "PairedCells$Block" "states" "[I"] ++ wsX00)
def wsX0_ruinWritten : List Cond := .code yX0_ruinWritten cX0_ruinWritten 2 (some .boolean) :: ([.fieldLink RX0 9 "PairedCells$Block" "states" "[I"] ++ wsX00)
def wsX0_writeGuard : List Cond := .code yX0_writeGuard cX0_writeGuard 3 none :: ([.fieldLink RX0 18 "PairedCells$Block" "guardBytes" "[I", .fieldLink RX0 9 "PairedCells$Block" "states" "[I", .fieldLink RX0 15 "PairedCells$Block" "bytes" "[I", .fieldLink RX0 21 "PairedCells$Block" "guardState" "I", .methodLink RX0 32 yJ7_fill_53178, .static yJ7_fill_53178, .initialized RJ7, .code yJ7_fill_53178 cJ7_fill_53178 4 none] ++ wsX00)
def wsX0_covers : List Cond := .code yX0_covers cX0_covers 2 (some .boolean) :: ([.fieldLink RX0 21 "PairedCells$Block" "guardState" "I", .fieldLink RX0 18 "PairedCells$Block" "guardBytes" "[I"] ++ wsX00)
def wsX0_isRebuilt : List Cond := .code yX0_isRebuilt cX0_isRebuilt 3 (some .boolean) :: ([.fieldLink RX0 9 "PairedCells$Block" "states" "[I", .methodLink RX0 51 yX0_covers, .instanceMethod yX0_covers, .selects RX0 yX0_covers yX0_covers, .initialized RX0, .code yX0_covers cX0_covers 2 (some .boolean), .fieldLink RX0 21 "PairedCells$Block" "guardState" "I", .fieldLink RX0 18 "PairedCells$Block" "guardBytes" "[I"] ++ wsX00)
def wsX0_stateAt : List Cond := .code yX0_stateAt cX0_stateAt 2 (some .int) :: ([.fieldLink RX0 9 "PairedCells$Block" "states" "[I", .methodLink RX0 47 yX0_isRebuilt, .instanceMethod yX0_isRebuilt, .selects RX0 yX0_isRebuilt yX0_isRebuilt, .initialized RX0, .code yX0_isRebuilt cX0_isRebuilt 3 (some .boolean), .methodLink RX0 51 yX0_covers, .instanceMethod yX0_covers, .selects RX0 yX0_covers yX0_covers, .code yX0_covers cX0_covers 2 (some .boolean), .fieldLink RX0 21 "PairedCells$Block" "guardState" "I", .fieldLink RX0 18 "PairedCells$Block" "guardBytes" "[I"] ++ wsX00)
def wsX0_isReadable : List Cond := .code yX0_isReadable cX0_isReadable 2 (some .boolean) :: ([.fieldLink RX0 9 "PairedCells$Block" "states" "[I", .methodLink RX0 47 yX0_isRebuilt, .instanceMethod yX0_isRebuilt, .selects RX0 yX0_isRebuilt yX0_isRebuilt, .initialized RX0, .code yX0_isRebuilt cX0_isRebuilt 3 (some .boolean), .methodLink RX0 51 yX0_covers, .instanceMethod yX0_covers, .selects RX0 yX0_covers yX0_covers, .code yX0_covers cX0_covers 2 (some .boolean), .fieldLink RX0 21 "PairedCells$Block" "guardState" "I", .fieldLink RX0 18 "PairedCells$Block" "guardBytes" "[I"] ++ wsX00)
def wsX0_byteAt : List Cond := .code yX0_byteAt cX0_byteAt 5 (some .int) :: ([.fieldLink RX0 9 "PairedCells$Block" "states" "[I", .fieldLink RX0 15 "PairedCells$Block" "bytes" "[I", .fieldLink RX0 18 "PairedCells$Block" "guardBytes" "[I", .methodLink RX0 51 yX0_covers, .instanceMethod yX0_covers, .selects RX0 yX0_covers yX0_covers, .initialized RX0, .code yX0_covers cX0_covers 2 (some .boolean), .fieldLink RX0 21 "PairedCells$Block" "guardState" "I"] ++ wsX00)
def wsX0_show : List Cond := .code yX0_show cX0_show 4 (some .boolean) :: ([.methodLink RX0 54 yX0_isReadable, .instanceMethod yX0_isReadable, .selects RX0 yX0_isReadable yX0_isReadable, .initialized RX0, .code yX0_isReadable cX0_isReadable 2 (some .boolean), .fieldLink RX0 9 "PairedCells$Block" "states" "[I", .methodLink RX0 47 yX0_isRebuilt, .instanceMethod yX0_isRebuilt, .selects RX0 yX0_isRebuilt yX0_isRebuilt, .code yX0_isRebuilt cX0_isRebuilt 3 (some .boolean), .methodLink RX0 51 yX0_covers, .instanceMethod yX0_covers, .selects RX0 yX0_covers yX0_covers, .code yX0_covers cX0_covers 2 (some .boolean), .fieldLink RX0 21 "PairedCells$Block" "guardState" "I", .fieldLink RX0 18 "PairedCells$Block" "guardBytes" "[I", .methodLink RX0 57 yX0_byteAt, .instanceMethod yX0_byteAt, .selects RX0 yX0_byteAt yX0_byteAt, .code yX0_byteAt cX0_byteAt 5 (some .int), .fieldLink RX0 15 "PairedCells$Block" "bytes" "[I"] ++ wsX10 ++ wsX00)
def wsX1_init : List Cond := .code yX1_init cX1_init 1 none :: ([.methodLink RX1 3 objectInit, .instanceMethod objectInit, .code objectInit ⟨#[0xb1]⟩ 1 none, .arrayClass .int, .fieldLink RX1 9 "PairedCells$EventPage" "bytes" "[I"] ++ wsX10)
def wsX1_clear : List Cond := .code yX1_clear cX1_clear 1 none :: ([.fieldLink RX1 9 "PairedCells$EventPage" "bytes" "[I", .methodLink RX1 15 yJ7_fill_53178, .static yJ7_fill_53178, .initialized RJ7, .code yJ7_fill_53178 cJ7_fill_53178 4 none] ++ wsX10)
def wsX1_events : List Cond := .code yX1_events cX1_events 1 (some .int) :: ([.fieldLink RX1 9 "PairedCells$EventPage" "bytes" "[I"] ++ wsX10)
def wsX1_isEmpty : List Cond := .code yX1_isEmpty cX1_isEmpty 1 (some .boolean) :: ([.methodLink RX1 21 yX1_events, .instanceMethod yX1_events, .selects RX1 yX1_events yX1_events, .initialized RX1, .code yX1_events cX1_events 1 (some .int), .fieldLink RX1 9 "PairedCells$EventPage" "bytes" "[I"] ++ wsX10)
def wsX1_firstNumber : List Cond := .code yX1_firstNumber cX1_firstNumber 1 (some .int) :: ([.fieldLink RX1 9 "PairedCells$EventPage" "bytes" "[I"] ++ wsX10)
def wsX1_lastNumber : List Cond := .code yX1_lastNumber cX1_lastNumber 1 (some .int) :: ([.methodLink RX1 25 yX1_firstNumber, .instanceMethod yX1_firstNumber, .selects RX1 yX1_firstNumber yX1_firstNumber, .initialized RX1, .code yX1_firstNumber cX1_firstNumber 1 (some .int), .fieldLink RX1 9 "PairedCells$EventPage" "bytes" "[I", .methodLink RX1 21 yX1_events, .instanceMethod yX1_events, .selects RX1 yX1_events yX1_events, .code yX1_events cX1_events 1 (some .int)] ++ wsX10)
def wsX1_holds : List Cond := .code yX1_holds cX1_holds 2 (some .boolean) :: ([.methodLink RX1 28 yX1_isEmpty, .instanceMethod yX1_isEmpty, .selects RX1 yX1_isEmpty yX1_isEmpty, .initialized RX1, .code yX1_isEmpty cX1_isEmpty 1 (some .boolean), .methodLink RX1 21 yX1_events, .instanceMethod yX1_events, .selects RX1 yX1_events yX1_events, .code yX1_events cX1_events 1 (some .int), .fieldLink RX1 9 "PairedCells$EventPage" "bytes" "[I", .methodLink RX1 25 yX1_firstNumber, .instanceMethod yX1_firstNumber, .selects RX1 yX1_firstNumber yX1_firstNumber, .code yX1_firstNumber cX1_firstNumber 1 (some .int), .methodLink RX1 32 yX1_lastNumber, .instanceMethod yX1_lastNumber, .selects RX1 yX1_lastNumber yX1_lastNumber, .code yX1_lastNumber cX1_lastNumber 1 (some .int)] ++ wsX10)
def wsX1_placeOfRow : List Cond := .code yX1_placeOfRow cX1_placeOfRow 4 (some .int) :: ([.fieldLink RX1 9 "PairedCells$EventPage" "bytes" "[I"] ++ wsX10)
def wsX1_fits : List Cond := .code yX1_fits cX1_fits 2 (some .boolean) :: ([.methodLink RX1 21 yX1_events, .instanceMethod yX1_events, .selects RX1 yX1_events yX1_events, .initialized RX1, .code yX1_events cX1_events 1 (some .int), .fieldLink RX1 9 "PairedCells$EventPage" "bytes" "[I", .methodLink RX1 35 yX1_placeOfRow, .instanceMethod yX1_placeOfRow, .selects RX1 yX1_placeOfRow yX1_placeOfRow, .code yX1_placeOfRow cX1_placeOfRow 4 (some .int)] ++ wsX10)
def wsX1_add : List Cond := .code yX1_add cX1_add 7 none :: ([.fieldLink RX1 9 "PairedCells$EventPage" "bytes" "[I", .constantLong RX1 39 (255), .methodLink RX1 21 yX1_events, .instanceMethod yX1_events, .selects RX1 yX1_events yX1_events, .initialized RX1, .code yX1_events cX1_events 1 (some .int), .methodLink RX1 35 yX1_placeOfRow, .instanceMethod yX1_placeOfRow, .selects RX1 yX1_placeOfRow yX1_placeOfRow, .code yX1_placeOfRow cX1_placeOfRow 4 (some .int), .methodLink RX1 28 yX1_isEmpty, .instanceMethod yX1_isEmpty, .selects RX1 yX1_isEmpty yX1_isEmpty, .code yX1_isEmpty cX1_isEmpty 1 (some .boolean)] ++ wsX10)
def wsX1_lengthOf : List Cond := .code yX1_lengthOf cX1_lengthOf 2 (some .int) :: ([.fieldLink RX1 9 "PairedCells$EventPage" "bytes" "[I", .methodLink RX1 25 yX1_firstNumber, .instanceMethod yX1_firstNumber, .selects RX1 yX1_firstNumber yX1_firstNumber, .initialized RX1, .code yX1_firstNumber cX1_firstNumber 1 (some .int), .methodLink RX1 35 yX1_placeOfRow, .instanceMethod yX1_placeOfRow, .selects RX1 yX1_placeOfRow yX1_placeOfRow, .code yX1_placeOfRow cX1_placeOfRow 4 (some .int)] ++ wsX10)
def wsX1_bytesOf : List Cond := .code yX1_bytesOf cX1_bytesOf 6 (some .long) :: ([.fieldLink RX1 9 "PairedCells$EventPage" "bytes" "[I", .methodLink RX1 25 yX1_firstNumber, .instanceMethod yX1_firstNumber, .selects RX1 yX1_firstNumber yX1_firstNumber, .initialized RX1, .code yX1_firstNumber cX1_firstNumber 1 (some .int), .methodLink RX1 35 yX1_placeOfRow, .instanceMethod yX1_placeOfRow, .selects RX1 yX1_placeOfRow yX1_placeOfRow, .code yX1_placeOfRow cX1_placeOfRow 4 (some .int)] ++ wsX10)
def wsX2_init_r1 : List Cond := [Cond.methodLink RX2 3 objectInit, Cond.instanceMethod objectInit, Cond.code objectInit ⟨#[0xb1]⟩ 1 none, Cond.classLink RX2 9 RX0, Cond.fieldLink RX2 11 "PairedCells" "blocks" "[LPairedCells$Block;", Cond.classLink RX2 15 RX1, Cond.instantiable RX1 1, Cond.initialized RX1, Cond.fieldLink RX2 18 "PairedCells" "openPage" "LPairedCells$EventPage;", Cond.fieldLink RX2 22 "PairedCells" "shown" "LPairedCells$EventPage;", Cond.fieldLink RX2 25 "PairedCells" "current" "I", Cond.fieldLink RX2 29 "PairedCells" "firstEvent" "I", Cond.fieldLink RX2 32 "PairedCells" "nextEvent" "I", Cond.fieldLink RX2 35 "PairedCells" "cutIn" "I", Cond.fieldLink RX2 38 "PairedCells" "powerOn" "Z", Cond.instantiable RX0 5, Cond.initialized RX0, Cond.instanceMethod yX1_init, Cond.code yX1_init cX1_init 1 none, Cond.methodLink RX1 3 objectInit, Cond.arrayClass .int, Cond.fieldLink RX1 9 "PairedCells$EventPage" "bytes" "[I", Cond.instanceMethod yX0_init, Cond.code yX0_init cX0_init 1 none]
def wsX2_init_r2 : List Cond := [Cond.methodLink RX0 3 objectInit, Cond.fieldLink RX0 9 "PairedCells$Block" "states" "[I", Cond.fieldLink RX0 15 "PairedCells$Block" "bytes" "[I", Cond.fieldLink RX0 18 "PairedCells$Block" "guardBytes" "[I", Cond.fieldLink RX0 21 "PairedCells$Block" "guardState" "I", Cond.fieldLink RX0 25 "PairedCells$Block" "erasures" "I"]
def wsX2_init : List Cond := .code yX2_init cX2_init 2 none :: ((wsX2_init_r1 ++ wsX2_init_r2) ++ wsX20 ++ wsX10 ++ wsX00)
def wsX2_requirePower : List Cond := .code yX2_requirePower cX2_requirePower 1 none :: ([.classLink RX2 74 "java/lang/IllegalStateException", .initialized "java/lang/IllegalStateException", .fieldLink RX2 38 "PairedCells" "powerOn" "Z"] ++ wsX20 ++ (vx_atS RX2 78 "java/lang/IllegalStateException" ["java/lang/RuntimeException", "java/lang/Exception"]).filter goodWord)
def wsX2_blockToProgram : List Cond := .code yX2_blockToProgram cX2_blockToProgram 2 (some .int) :: ([.classLink RX2 198 "java/lang/UnsupportedOperationException", .initialized "java/lang/UnsupportedOperationException", .fieldLink RX2 11 "PairedCells" "blocks" "[LPairedCells$Block;", .fieldLink RX2 25 "PairedCells" "current" "I", .methodLink RX2 195 yX0_takesMore, .instanceMethod yX0_takesMore, .selects RX0 yX0_takesMore yX0_takesMore, .initialized RX0, .code yX0_takesMore cX0_takesMore 2 (some .boolean), .fieldLink RX0 9 "PairedCells$Block" "states" "[I", .methodLink RX0 28 yX0_nextPlace, .instanceMethod yX0_nextPlace, .selects RX0 yX0_nextPlace yX0_nextPlace, .code yX0_nextPlace cX0_nextPlace 2 (some .int), .methodLink RX2 90 yX0_isErased, .instanceMethod yX0_isErased, .selects RX0 yX0_isErased yX0_isErased, .code yX0_isErased cX0_isErased 1 (some .boolean)] ++ wsX20 ++ wsX00 ++ (vx_atS RX2 202 "java/lang/UnsupportedOperationException" ["java/lang/RuntimeException", "java/lang/Exception"]).filter goodWord)
def wsX2_cutIsDue : List Cond := .code yX2_cutIsDue cX2_cutIsDue 1 (some .boolean) :: ([.fieldLink RX2 35 "PairedCells" "cutIn" "I", .fieldLink RX2 38 "PairedCells" "powerOn" "Z"] ++ wsX20)
def wsX2_programGuard : List Cond := .code yX2_programGuard cX2_programGuard 2 (some .boolean) :: ([.methodLink RX2 185 yX2_cutIsDue, .instanceMethod yX2_cutIsDue, .selects RX2 yX2_cutIsDue yX2_cutIsDue, .initialized RX2, .code yX2_cutIsDue cX2_cutIsDue 1 (some .boolean), .fieldLink RX2 35 "PairedCells" "cutIn" "I", .fieldLink RX2 38 "PairedCells" "powerOn" "Z", .methodLink RX2 203 yX0_writeGuard, .instanceMethod yX0_writeGuard, .selects RX0 yX0_writeGuard yX0_writeGuard, .initialized RX0, .code yX0_writeGuard cX0_writeGuard 3 none, .fieldLink RX0 18 "PairedCells$Block" "guardBytes" "[I", .fieldLink RX0 9 "PairedCells$Block" "states" "[I", .fieldLink RX0 15 "PairedCells$Block" "bytes" "[I", .fieldLink RX0 21 "PairedCells$Block" "guardState" "I", .methodLink RX0 32 yJ7_fill_53178, .static yJ7_fill_53178, .initialized RJ7, .code yJ7_fill_53178 cJ7_fill_53178 4 none] ++ wsX00 ++ wsX20)
def wsX2_flush_r1 : List Cond := [Cond.fieldLink RX2 25 "PairedCells" "current" "I", Cond.fieldLink RX2 11 "PairedCells" "blocks" "[LPairedCells$Block;", Cond.fieldLink RX2 18 "PairedCells" "openPage" "LPairedCells$EventPage;", Cond.methodLink RX2 175 yX2_blockToProgram, Cond.instanceMethod yX2_blockToProgram, Cond.selects RX2 yX2_blockToProgram yX2_blockToProgram, Cond.initialized RX2, Cond.code yX2_blockToProgram cX2_blockToProgram 2 (some .int), Cond.classLink RX2 198 "java/lang/UnsupportedOperationException", Cond.initialized "java/lang/UnsupportedOperationException", Cond.methodLink RX2 195 yX0_takesMore, Cond.instanceMethod yX0_takesMore, Cond.selects RX0 yX0_takesMore yX0_takesMore, Cond.initialized RX0, Cond.code yX0_takesMore cX0_takesMore 2 (some .boolean), Cond.fieldLink RX0 9 "PairedCells$Block" "states" "[I", Cond.methodLink RX0 28 yX0_nextPlace, Cond.instanceMethod yX0_nextPlace, Cond.selects RX0 yX0_nextPlace yX0_nextPlace, Cond.code yX0_nextPlace cX0_nextPlace 2 (some .int), Cond.methodLink RX2 90 yX0_isErased, Cond.instanceMethod yX0_isErased, Cond.selects RX0 yX0_isErased yX0_isErased, Cond.code yX0_isErased cX0_isErased 1 (some .boolean)]
def wsX2_flush_r2 : List Cond := [Cond.methodLink RX2 178 yX0_nextPlace, Cond.methodLink RX2 181 yX2_programGuard, Cond.instanceMethod yX2_programGuard, Cond.selects RX2 yX2_programGuard yX2_programGuard, Cond.code yX2_programGuard cX2_programGuard 2 (some .boolean), Cond.methodLink RX2 185 yX2_cutIsDue, Cond.instanceMethod yX2_cutIsDue, Cond.selects RX2 yX2_cutIsDue yX2_cutIsDue, Cond.code yX2_cutIsDue cX2_cutIsDue 1 (some .boolean), Cond.fieldLink RX2 35 "PairedCells" "cutIn" "I", Cond.fieldLink RX2 38 "PairedCells" "powerOn" "Z", Cond.methodLink RX2 203 yX0_writeGuard, Cond.instanceMethod yX0_writeGuard, Cond.selects RX0 yX0_writeGuard yX0_writeGuard, Cond.code yX0_writeGuard cX0_writeGuard 3 none, Cond.fieldLink RX0 18 "PairedCells$Block" "guardBytes" "[I", Cond.fieldLink RX0 15 "PairedCells$Block" "bytes" "[I", Cond.fieldLink RX0 21 "PairedCells$Block" "guardState" "I", Cond.methodLink RX0 32 yJ7_fill_53178, Cond.static yJ7_fill_53178, Cond.initialized RJ7, Cond.code yJ7_fill_53178 cJ7_fill_53178 4 none, Cond.methodLink RX2 188 yX0_cutAt, Cond.instanceMethod yX0_cutAt]
def wsX2_flush_r3 : List Cond := [Cond.selects RX0 yX0_cutAt yX0_cutAt, Cond.code yX0_cutAt cX0_cutAt 2 none, Cond.methodLink RX2 191 yX0_write, Cond.instanceMethod yX0_write, Cond.selects RX0 yX0_write yX0_write, Cond.code yX0_write cX0_write 3 none, Cond.methodLink RX0 41 arraycopyName, Cond.native arraycopyName, Cond.static arraycopyName, Cond.initialized "java/lang/System", Cond.methodLink RX2 79 yX1_clear, Cond.instanceMethod yX1_clear, Cond.selects RX1 yX1_clear yX1_clear, Cond.initialized RX1, Cond.code yX1_clear cX1_clear 1 none, Cond.fieldLink RX1 9 "PairedCells$EventPage" "bytes" "[I", Cond.methodLink RX1 15 yJ7_fill_53178]
def wsX2_flush : List Cond := .code yX2_flush cX2_flush 3 (some .boolean) :: ((wsX2_flush_r1 ++ (wsX2_flush_r2 ++ wsX2_flush_r3)) ++ wsX20 ++ wsX00 ++ wsX10 ++ (vx_atS RX2 202 "java/lang/UnsupportedOperationException" ["java/lang/RuntimeException", "java/lang/Exception"]).filter goodWord)
def wsX2_append_r1 : List Cond := [Cond.classLink RX2 46 "java/lang/IllegalArgumentException", Cond.initialized "java/lang/IllegalArgumentException", Cond.fieldLink RX2 18 "PairedCells" "openPage" "LPairedCells$EventPage;", Cond.fieldLink RX2 32 "PairedCells" "nextEvent" "I", Cond.methodLink RX2 43 yX2_requirePower, Cond.instanceMethod yX2_requirePower, Cond.selects RX2 yX2_requirePower yX2_requirePower, Cond.initialized RX2, Cond.code yX2_requirePower cX2_requirePower 1 none, Cond.classLink RX2 74 "java/lang/IllegalStateException", Cond.initialized "java/lang/IllegalStateException", Cond.fieldLink RX2 38 "PairedCells" "powerOn" "Z", Cond.methodLink RX2 53 yX1_fits, Cond.instanceMethod yX1_fits, Cond.selects RX1 yX1_fits yX1_fits, Cond.initialized RX1, Cond.code yX1_fits cX1_fits 2 (some .boolean), Cond.methodLink RX1 21 yX1_events, Cond.instanceMethod yX1_events, Cond.selects RX1 yX1_events yX1_events, Cond.code yX1_events cX1_events 1 (some .int), Cond.fieldLink RX1 9 "PairedCells$EventPage" "bytes" "[I", Cond.methodLink RX1 35 yX1_placeOfRow, Cond.instanceMethod yX1_placeOfRow]
def wsX2_append_r2 : List Cond := [Cond.selects RX1 yX1_placeOfRow yX1_placeOfRow, Cond.code yX1_placeOfRow cX1_placeOfRow 4 (some .int), Cond.methodLink RX2 57 yX2_flush, Cond.instanceMethod yX2_flush, Cond.selects RX2 yX2_flush yX2_flush, Cond.code yX2_flush cX2_flush 3 (some .boolean), Cond.fieldLink RX2 25 "PairedCells" "current" "I", Cond.fieldLink RX2 11 "PairedCells" "blocks" "[LPairedCells$Block;", Cond.methodLink RX2 175 yX2_blockToProgram, Cond.instanceMethod yX2_blockToProgram, Cond.selects RX2 yX2_blockToProgram yX2_blockToProgram, Cond.code yX2_blockToProgram cX2_blockToProgram 2 (some .int), Cond.classLink RX2 198 "java/lang/UnsupportedOperationException", Cond.initialized "java/lang/UnsupportedOperationException", Cond.methodLink RX2 195 yX0_takesMore, Cond.instanceMethod yX0_takesMore, Cond.selects RX0 yX0_takesMore yX0_takesMore, Cond.initialized RX0, Cond.code yX0_takesMore cX0_takesMore 2 (some .boolean), Cond.fieldLink RX0 9 "PairedCells$Block" "states" "[I", Cond.methodLink RX0 28 yX0_nextPlace, Cond.instanceMethod yX0_nextPlace, Cond.selects RX0 yX0_nextPlace yX0_nextPlace, Cond.code yX0_nextPlace cX0_nextPlace 2 (some .int)]
def wsX2_append_r3 : List Cond := [Cond.methodLink RX2 90 yX0_isErased, Cond.instanceMethod yX0_isErased, Cond.selects RX0 yX0_isErased yX0_isErased, Cond.code yX0_isErased cX0_isErased 1 (some .boolean), Cond.methodLink RX2 178 yX0_nextPlace, Cond.methodLink RX2 181 yX2_programGuard, Cond.instanceMethod yX2_programGuard, Cond.selects RX2 yX2_programGuard yX2_programGuard, Cond.code yX2_programGuard cX2_programGuard 2 (some .boolean), Cond.methodLink RX2 185 yX2_cutIsDue, Cond.instanceMethod yX2_cutIsDue, Cond.selects RX2 yX2_cutIsDue yX2_cutIsDue, Cond.code yX2_cutIsDue cX2_cutIsDue 1 (some .boolean), Cond.fieldLink RX2 35 "PairedCells" "cutIn" "I", Cond.methodLink RX2 203 yX0_writeGuard, Cond.instanceMethod yX0_writeGuard, Cond.selects RX0 yX0_writeGuard yX0_writeGuard, Cond.code yX0_writeGuard cX0_writeGuard 3 none, Cond.fieldLink RX0 18 "PairedCells$Block" "guardBytes" "[I", Cond.fieldLink RX0 15 "PairedCells$Block" "bytes" "[I", Cond.fieldLink RX0 21 "PairedCells$Block" "guardState" "I", Cond.methodLink RX0 32 yJ7_fill_53178, Cond.static yJ7_fill_53178, Cond.initialized RJ7]
def wsX2_append_r4 : List Cond := [Cond.code yJ7_fill_53178 cJ7_fill_53178 4 none, Cond.methodLink RX2 188 yX0_cutAt, Cond.instanceMethod yX0_cutAt, Cond.selects RX0 yX0_cutAt yX0_cutAt, Cond.code yX0_cutAt cX0_cutAt 2 none, Cond.methodLink RX2 191 yX0_write, Cond.instanceMethod yX0_write, Cond.selects RX0 yX0_write yX0_write, Cond.code yX0_write cX0_write 3 none, Cond.methodLink RX0 41 arraycopyName, Cond.native arraycopyName, Cond.static arraycopyName, Cond.initialized "java/lang/System", Cond.methodLink RX2 79 yX1_clear, Cond.instanceMethod yX1_clear, Cond.selects RX1 yX1_clear yX1_clear, Cond.code yX1_clear cX1_clear 1 none, Cond.methodLink RX1 15 yJ7_fill_53178, Cond.methodLink RX2 61 yX1_add, Cond.instanceMethod yX1_add, Cond.selects RX1 yX1_add yX1_add, Cond.code yX1_add cX1_add 7 none, Cond.constantLong RX1 39 (255), Cond.methodLink RX1 28 yX1_isEmpty]
def wsX2_append_r5 : List Cond := [Cond.instanceMethod yX1_isEmpty, Cond.selects RX1 yX1_isEmpty yX1_isEmpty, Cond.code yX1_isEmpty cX1_isEmpty 1 (some .boolean)]
def wsX2_append : List Cond := .code yX2_append cX2_append 4 (some .int) :: ((wsX2_append_r1 ++ (wsX2_append_r2 ++ (wsX2_append_r3 ++ (wsX2_append_r4 ++ wsX2_append_r5)))) ++ wsX20 ++ wsX10 ++ wsX00 ++ (vx_atS RX2 50 "java/lang/IllegalArgumentException" ["java/lang/RuntimeException", "java/lang/Exception"]).filter goodWord ++ (vx_atS RX2 78 "java/lang/IllegalStateException" ["java/lang/RuntimeException", "java/lang/Exception"]).filter goodWord ++ (vx_atS RX2 202 "java/lang/UnsupportedOperationException" ["java/lang/RuntimeException", "java/lang/Exception"]).filter goodWord)
def wsX2_sync_r1 : List Cond := [Cond.fieldLink RX2 18 "PairedCells" "openPage" "LPairedCells$EventPage;", Cond.fieldLink RX2 32 "PairedCells" "nextEvent" "I", Cond.methodLink RX2 43 yX2_requirePower, Cond.instanceMethod yX2_requirePower, Cond.selects RX2 yX2_requirePower yX2_requirePower, Cond.initialized RX2, Cond.code yX2_requirePower cX2_requirePower 1 none, Cond.classLink RX2 74 "java/lang/IllegalStateException", Cond.initialized "java/lang/IllegalStateException", Cond.fieldLink RX2 38 "PairedCells" "powerOn" "Z", Cond.methodLink RX2 65 yX1_isEmpty, Cond.instanceMethod yX1_isEmpty, Cond.selects RX1 yX1_isEmpty yX1_isEmpty, Cond.initialized RX1, Cond.code yX1_isEmpty cX1_isEmpty 1 (some .boolean), Cond.methodLink RX1 21 yX1_events, Cond.instanceMethod yX1_events, Cond.selects RX1 yX1_events yX1_events, Cond.code yX1_events cX1_events 1 (some .int), Cond.fieldLink RX1 9 "PairedCells$EventPage" "bytes" "[I", Cond.methodLink RX2 57 yX2_flush, Cond.instanceMethod yX2_flush, Cond.selects RX2 yX2_flush yX2_flush, Cond.code yX2_flush cX2_flush 3 (some .boolean)]
def wsX2_sync_r2 : List Cond := [Cond.fieldLink RX2 25 "PairedCells" "current" "I", Cond.fieldLink RX2 11 "PairedCells" "blocks" "[LPairedCells$Block;", Cond.methodLink RX2 175 yX2_blockToProgram, Cond.instanceMethod yX2_blockToProgram, Cond.selects RX2 yX2_blockToProgram yX2_blockToProgram, Cond.code yX2_blockToProgram cX2_blockToProgram 2 (some .int), Cond.classLink RX2 198 "java/lang/UnsupportedOperationException", Cond.initialized "java/lang/UnsupportedOperationException", Cond.methodLink RX2 195 yX0_takesMore, Cond.instanceMethod yX0_takesMore, Cond.selects RX0 yX0_takesMore yX0_takesMore, Cond.initialized RX0, Cond.code yX0_takesMore cX0_takesMore 2 (some .boolean), Cond.fieldLink RX0 9 "PairedCells$Block" "states" "[I", Cond.methodLink RX0 28 yX0_nextPlace, Cond.instanceMethod yX0_nextPlace, Cond.selects RX0 yX0_nextPlace yX0_nextPlace, Cond.code yX0_nextPlace cX0_nextPlace 2 (some .int), Cond.methodLink RX2 90 yX0_isErased, Cond.instanceMethod yX0_isErased, Cond.selects RX0 yX0_isErased yX0_isErased, Cond.code yX0_isErased cX0_isErased 1 (some .boolean), Cond.methodLink RX2 178 yX0_nextPlace, Cond.methodLink RX2 181 yX2_programGuard]
def wsX2_sync_r3 : List Cond := [Cond.instanceMethod yX2_programGuard, Cond.selects RX2 yX2_programGuard yX2_programGuard, Cond.code yX2_programGuard cX2_programGuard 2 (some .boolean), Cond.methodLink RX2 185 yX2_cutIsDue, Cond.instanceMethod yX2_cutIsDue, Cond.selects RX2 yX2_cutIsDue yX2_cutIsDue, Cond.code yX2_cutIsDue cX2_cutIsDue 1 (some .boolean), Cond.fieldLink RX2 35 "PairedCells" "cutIn" "I", Cond.methodLink RX2 203 yX0_writeGuard, Cond.instanceMethod yX0_writeGuard, Cond.selects RX0 yX0_writeGuard yX0_writeGuard, Cond.code yX0_writeGuard cX0_writeGuard 3 none, Cond.fieldLink RX0 18 "PairedCells$Block" "guardBytes" "[I", Cond.fieldLink RX0 15 "PairedCells$Block" "bytes" "[I", Cond.fieldLink RX0 21 "PairedCells$Block" "guardState" "I", Cond.methodLink RX0 32 yJ7_fill_53178, Cond.static yJ7_fill_53178, Cond.initialized RJ7, Cond.code yJ7_fill_53178 cJ7_fill_53178 4 none, Cond.methodLink RX2 188 yX0_cutAt, Cond.instanceMethod yX0_cutAt, Cond.selects RX0 yX0_cutAt yX0_cutAt, Cond.code yX0_cutAt cX0_cutAt 2 none, Cond.methodLink RX2 191 yX0_write]
def wsX2_sync_r4 : List Cond := [Cond.instanceMethod yX0_write, Cond.selects RX0 yX0_write yX0_write, Cond.code yX0_write cX0_write 3 none, Cond.methodLink RX0 41 arraycopyName, Cond.native arraycopyName, Cond.static arraycopyName, Cond.initialized "java/lang/System", Cond.methodLink RX2 79 yX1_clear, Cond.instanceMethod yX1_clear, Cond.selects RX1 yX1_clear yX1_clear, Cond.code yX1_clear cX1_clear 1 none, Cond.methodLink RX1 15 yJ7_fill_53178]
def wsX2_sync : List Cond := .code yX2_sync cX2_sync 1 (some .int) :: ((wsX2_sync_r1 ++ (wsX2_sync_r2 ++ (wsX2_sync_r3 ++ wsX2_sync_r4))) ++ wsX20 ++ wsX10 ++ wsX00 ++ (vx_atS RX2 78 "java/lang/IllegalStateException" ["java/lang/RuntimeException", "java/lang/Exception"]).filter goodWord ++ (vx_atS RX2 202 "java/lang/UnsupportedOperationException" ["java/lang/RuntimeException", "java/lang/Exception"]).filter goodWord)
def wsX2_cutAfter : List Cond := .code yX2_cutAfter cX2_cutAfter 2 none :: ([.classLink RX2 46 "java/lang/IllegalArgumentException", .initialized "java/lang/IllegalArgumentException", .fieldLink RX2 35 "PairedCells" "cutIn" "I"] ++ wsX20 ++ (vx_atS RX2 50 "java/lang/IllegalArgumentException" ["java/lang/RuntimeException", "java/lang/Exception"]).filter goodWord)
def wsX2_off : List Cond := .code yX2_off cX2_off 1 (some .int) :: ([.fieldLink RX2 38 "PairedCells" "powerOn" "Z", .fieldLink RX2 18 "PairedCells" "openPage" "LPairedCells$EventPage;", .methodLink RX2 43 yX2_requirePower, .instanceMethod yX2_requirePower, .selects RX2 yX2_requirePower yX2_requirePower, .initialized RX2, .code yX2_requirePower cX2_requirePower 1 none, .classLink RX2 74 "java/lang/IllegalStateException", .initialized "java/lang/IllegalStateException", .methodLink RX2 70 yX1_events, .instanceMethod yX1_events, .selects RX1 yX1_events yX1_events, .initialized RX1, .code yX1_events cX1_events 1 (some .int), .fieldLink RX1 9 "PairedCells$EventPage" "bytes" "[I"] ++ wsX20 ++ wsX10 ++ (vx_atS RX2 78 "java/lang/IllegalStateException" ["java/lang/RuntimeException", "java/lang/Exception"]).filter goodWord)
def wsX2_greatestEvent_r1 : List Cond := [Cond.fieldLink RX2 22 "PairedCells" "shown" "LPairedCells$EventPage;", Cond.methodLink RX2 219 Lib.Math.max.name, Cond.static Lib.Math.max.name, Cond.initialized "java/lang/Math", Cond.code Lib.Math.max.name Lib.Math.max.code 2 (some .int), Cond.methodLink RX2 209 yX0_show, Cond.instanceMethod yX0_show, Cond.selects RX0 yX0_show yX0_show, Cond.initialized RX0, Cond.code yX0_show cX0_show 4 (some .boolean), Cond.methodLink RX0 54 yX0_isReadable, Cond.instanceMethod yX0_isReadable, Cond.selects RX0 yX0_isReadable yX0_isReadable, Cond.code yX0_isReadable cX0_isReadable 2 (some .boolean), Cond.fieldLink RX0 9 "PairedCells$Block" "states" "[I", Cond.methodLink RX0 47 yX0_isRebuilt, Cond.instanceMethod yX0_isRebuilt, Cond.selects RX0 yX0_isRebuilt yX0_isRebuilt, Cond.code yX0_isRebuilt cX0_isRebuilt 3 (some .boolean), Cond.methodLink RX0 51 yX0_covers, Cond.instanceMethod yX0_covers, Cond.selects RX0 yX0_covers yX0_covers, Cond.code yX0_covers cX0_covers 2 (some .boolean), Cond.fieldLink RX0 21 "PairedCells$Block" "guardState" "I"]
def wsX2_greatestEvent_r2 : List Cond := [Cond.fieldLink RX0 18 "PairedCells$Block" "guardBytes" "[I", Cond.methodLink RX0 57 yX0_byteAt, Cond.instanceMethod yX0_byteAt, Cond.selects RX0 yX0_byteAt yX0_byteAt, Cond.code yX0_byteAt cX0_byteAt 5 (some .int), Cond.fieldLink RX0 15 "PairedCells$Block" "bytes" "[I", Cond.methodLink RX2 216 yX1_lastNumber, Cond.instanceMethod yX1_lastNumber, Cond.selects RX1 yX1_lastNumber yX1_lastNumber, Cond.initialized RX1, Cond.code yX1_lastNumber cX1_lastNumber 1 (some .int), Cond.methodLink RX1 25 yX1_firstNumber, Cond.instanceMethod yX1_firstNumber, Cond.selects RX1 yX1_firstNumber yX1_firstNumber, Cond.code yX1_firstNumber cX1_firstNumber 1 (some .int), Cond.fieldLink RX1 9 "PairedCells$EventPage" "bytes" "[I", Cond.methodLink RX1 21 yX1_events, Cond.instanceMethod yX1_events, Cond.selects RX1 yX1_events yX1_events, Cond.code yX1_events cX1_events 1 (some .int)]
def wsX2_greatestEvent : List Cond := .code yX2_greatestEvent cX2_greatestEvent 4 (some .int) :: ((wsX2_greatestEvent_r1 ++ wsX2_greatestEvent_r2) ++ wsX20 ++ wsX10 ++ wsX00)
def wsX2_eraseUnreadableBlocks_r1 : List Cond := [Cond.fieldLink RX2 11 "PairedCells" "blocks" "[LPairedCells$Block;", Cond.methodLink RX2 90 yX0_isErased, Cond.instanceMethod yX0_isErased, Cond.selects RX0 yX0_isErased yX0_isErased, Cond.initialized RX0, Cond.code yX0_isErased cX0_isErased 1 (some .boolean), Cond.methodLink RX0 28 yX0_nextPlace, Cond.instanceMethod yX0_nextPlace, Cond.selects RX0 yX0_nextPlace yX0_nextPlace, Cond.code yX0_nextPlace cX0_nextPlace 2 (some .int), Cond.fieldLink RX0 9 "PairedCells$Block" "states" "[I", Cond.methodLink RX2 93 yX2_greatestEvent, Cond.instanceMethod yX2_greatestEvent, Cond.selects RX2 yX2_greatestEvent yX2_greatestEvent, Cond.initialized RX2, Cond.code yX2_greatestEvent cX2_greatestEvent 4 (some .int), Cond.fieldLink RX2 22 "PairedCells" "shown" "LPairedCells$EventPage;", Cond.methodLink RX2 219 Lib.Math.max.name, Cond.static Lib.Math.max.name, Cond.initialized "java/lang/Math", Cond.code Lib.Math.max.name Lib.Math.max.code 2 (some .int), Cond.methodLink RX2 209 yX0_show, Cond.instanceMethod yX0_show, Cond.selects RX0 yX0_show yX0_show]
def wsX2_eraseUnreadableBlocks_r2 : List Cond := [Cond.code yX0_show cX0_show 4 (some .boolean), Cond.methodLink RX0 54 yX0_isReadable, Cond.instanceMethod yX0_isReadable, Cond.selects RX0 yX0_isReadable yX0_isReadable, Cond.code yX0_isReadable cX0_isReadable 2 (some .boolean), Cond.methodLink RX0 47 yX0_isRebuilt, Cond.instanceMethod yX0_isRebuilt, Cond.selects RX0 yX0_isRebuilt yX0_isRebuilt, Cond.code yX0_isRebuilt cX0_isRebuilt 3 (some .boolean), Cond.methodLink RX0 51 yX0_covers, Cond.instanceMethod yX0_covers, Cond.selects RX0 yX0_covers yX0_covers, Cond.code yX0_covers cX0_covers 2 (some .boolean), Cond.fieldLink RX0 21 "PairedCells$Block" "guardState" "I", Cond.fieldLink RX0 18 "PairedCells$Block" "guardBytes" "[I", Cond.methodLink RX0 57 yX0_byteAt, Cond.instanceMethod yX0_byteAt, Cond.selects RX0 yX0_byteAt yX0_byteAt, Cond.code yX0_byteAt cX0_byteAt 5 (some .int), Cond.fieldLink RX0 15 "PairedCells$Block" "bytes" "[I", Cond.methodLink RX2 216 yX1_lastNumber, Cond.instanceMethod yX1_lastNumber, Cond.selects RX1 yX1_lastNumber yX1_lastNumber, Cond.initialized RX1]
def wsX2_eraseUnreadableBlocks_r3 : List Cond := [Cond.code yX1_lastNumber cX1_lastNumber 1 (some .int), Cond.methodLink RX1 25 yX1_firstNumber, Cond.instanceMethod yX1_firstNumber, Cond.selects RX1 yX1_firstNumber yX1_firstNumber, Cond.code yX1_firstNumber cX1_firstNumber 1 (some .int), Cond.fieldLink RX1 9 "PairedCells$EventPage" "bytes" "[I", Cond.methodLink RX1 21 yX1_events, Cond.instanceMethod yX1_events, Cond.selects RX1 yX1_events yX1_events, Cond.code yX1_events cX1_events 1 (some .int), Cond.methodLink RX2 97 yX0_erase, Cond.instanceMethod yX0_erase, Cond.selects RX0 yX0_erase yX0_erase, Cond.code yX0_erase cX0_erase 1 none, Cond.fieldLink RX0 25 "PairedCells$Block" "erasures" "I", Cond.methodLink RX0 32 yJ7_fill_53178, Cond.static yJ7_fill_53178, Cond.initialized RJ7, Cond.code yJ7_fill_53178 cJ7_fill_53178 4 none]
def wsX2_eraseUnreadableBlocks : List Cond := .code yX2_eraseUnreadableBlocks cX2_eraseUnreadableBlocks 2 none :: ((wsX2_eraseUnreadableBlocks_r1 ++ (wsX2_eraseUnreadableBlocks_r2 ++ wsX2_eraseUnreadableBlocks_r3)) ++ wsX20 ++ wsX00 ++ wsX10)
def wsX2_leastEvent_r1 : List Cond := [Cond.fieldLink RX2 22 "PairedCells" "shown" "LPairedCells$EventPage;", Cond.methodLink RX2 209 yX0_show, Cond.instanceMethod yX0_show, Cond.selects RX0 yX0_show yX0_show, Cond.initialized RX0, Cond.code yX0_show cX0_show 4 (some .boolean), Cond.methodLink RX0 54 yX0_isReadable, Cond.instanceMethod yX0_isReadable, Cond.selects RX0 yX0_isReadable yX0_isReadable, Cond.code yX0_isReadable cX0_isReadable 2 (some .boolean), Cond.fieldLink RX0 9 "PairedCells$Block" "states" "[I", Cond.methodLink RX0 47 yX0_isRebuilt, Cond.instanceMethod yX0_isRebuilt, Cond.selects RX0 yX0_isRebuilt yX0_isRebuilt, Cond.code yX0_isRebuilt cX0_isRebuilt 3 (some .boolean), Cond.methodLink RX0 51 yX0_covers, Cond.instanceMethod yX0_covers, Cond.selects RX0 yX0_covers yX0_covers, Cond.code yX0_covers cX0_covers 2 (some .boolean), Cond.fieldLink RX0 21 "PairedCells$Block" "guardState" "I", Cond.fieldLink RX0 18 "PairedCells$Block" "guardBytes" "[I", Cond.methodLink RX0 57 yX0_byteAt, Cond.instanceMethod yX0_byteAt, Cond.selects RX0 yX0_byteAt yX0_byteAt]
def wsX2_leastEvent_r2 : List Cond := [Cond.code yX0_byteAt cX0_byteAt 5 (some .int), Cond.fieldLink RX0 15 "PairedCells$Block" "bytes" "[I", Cond.methodLink RX2 213 yX1_firstNumber, Cond.instanceMethod yX1_firstNumber, Cond.selects RX1 yX1_firstNumber yX1_firstNumber, Cond.initialized RX1, Cond.code yX1_firstNumber cX1_firstNumber 1 (some .int), Cond.fieldLink RX1 9 "PairedCells$EventPage" "bytes" "[I"]
def wsX2_leastEvent : List Cond := .code yX2_leastEvent cX2_leastEvent 4 (some .int) :: ((wsX2_leastEvent_r1 ++ wsX2_leastEvent_r2) ++ wsX20 ++ wsX10 ++ wsX00)
def wsX2_findEvents_r1 : List Cond := [Cond.fieldLink RX2 25 "PairedCells" "current" "I", Cond.fieldLink RX2 11 "PairedCells" "blocks" "[LPairedCells$Block;", Cond.fieldLink RX2 29 "PairedCells" "firstEvent" "I", Cond.fieldLink RX2 32 "PairedCells" "nextEvent" "I", Cond.methodLink RX2 206 yX2_leastEvent, Cond.instanceMethod yX2_leastEvent, Cond.selects RX2 yX2_leastEvent yX2_leastEvent, Cond.initialized RX2, Cond.code yX2_leastEvent cX2_leastEvent 4 (some .int), Cond.fieldLink RX2 22 "PairedCells" "shown" "LPairedCells$EventPage;", Cond.methodLink RX2 209 yX0_show, Cond.instanceMethod yX0_show, Cond.selects RX0 yX0_show yX0_show, Cond.initialized RX0, Cond.code yX0_show cX0_show 4 (some .boolean), Cond.methodLink RX0 54 yX0_isReadable, Cond.instanceMethod yX0_isReadable, Cond.selects RX0 yX0_isReadable yX0_isReadable, Cond.code yX0_isReadable cX0_isReadable 2 (some .boolean), Cond.fieldLink RX0 9 "PairedCells$Block" "states" "[I", Cond.methodLink RX0 47 yX0_isRebuilt, Cond.instanceMethod yX0_isRebuilt, Cond.selects RX0 yX0_isRebuilt yX0_isRebuilt, Cond.code yX0_isRebuilt cX0_isRebuilt 3 (some .boolean)]
def wsX2_findEvents_r2 : List Cond := [Cond.methodLink RX0 51 yX0_covers, Cond.instanceMethod yX0_covers, Cond.selects RX0 yX0_covers yX0_covers, Cond.code yX0_covers cX0_covers 2 (some .boolean), Cond.fieldLink RX0 21 "PairedCells$Block" "guardState" "I", Cond.fieldLink RX0 18 "PairedCells$Block" "guardBytes" "[I", Cond.methodLink RX0 57 yX0_byteAt, Cond.instanceMethod yX0_byteAt, Cond.selects RX0 yX0_byteAt yX0_byteAt, Cond.code yX0_byteAt cX0_byteAt 5 (some .int), Cond.fieldLink RX0 15 "PairedCells$Block" "bytes" "[I", Cond.methodLink RX2 213 yX1_firstNumber, Cond.instanceMethod yX1_firstNumber, Cond.selects RX1 yX1_firstNumber yX1_firstNumber, Cond.initialized RX1, Cond.code yX1_firstNumber cX1_firstNumber 1 (some .int), Cond.fieldLink RX1 9 "PairedCells$EventPage" "bytes" "[I", Cond.methodLink RX2 93 yX2_greatestEvent, Cond.instanceMethod yX2_greatestEvent, Cond.selects RX2 yX2_greatestEvent yX2_greatestEvent, Cond.code yX2_greatestEvent cX2_greatestEvent 4 (some .int), Cond.methodLink RX2 219 Lib.Math.max.name, Cond.static Lib.Math.max.name, Cond.initialized "java/lang/Math"]
def wsX2_findEvents_r3 : List Cond := [Cond.code Lib.Math.max.name Lib.Math.max.code 2 (some .int), Cond.methodLink RX2 216 yX1_lastNumber, Cond.instanceMethod yX1_lastNumber, Cond.selects RX1 yX1_lastNumber yX1_lastNumber, Cond.code yX1_lastNumber cX1_lastNumber 1 (some .int), Cond.methodLink RX1 25 yX1_firstNumber, Cond.methodLink RX1 21 yX1_events, Cond.instanceMethod yX1_events, Cond.selects RX1 yX1_events yX1_events, Cond.code yX1_events cX1_events 1 (some .int)]
def wsX2_findEvents : List Cond := .code yX2_findEvents cX2_findEvents 6 none :: ((wsX2_findEvents_r1 ++ (wsX2_findEvents_r2 ++ wsX2_findEvents_r3)) ++ wsX20 ++ wsX10 ++ wsX00)
def wsX2_start_r1 : List Cond := [Cond.classLink RX2 74 "java/lang/IllegalStateException", Cond.initialized "java/lang/IllegalStateException", Cond.fieldLink RX2 38 "PairedCells" "powerOn" "Z", Cond.fieldLink RX2 18 "PairedCells" "openPage" "LPairedCells$EventPage;", Cond.fieldLink RX2 32 "PairedCells" "nextEvent" "I", Cond.methodLink RX2 79 yX1_clear, Cond.instanceMethod yX1_clear, Cond.selects RX1 yX1_clear yX1_clear, Cond.initialized RX1, Cond.code yX1_clear cX1_clear 1 none, Cond.fieldLink RX1 9 "PairedCells$EventPage" "bytes" "[I", Cond.methodLink RX1 15 yJ7_fill_53178, Cond.static yJ7_fill_53178, Cond.initialized RJ7, Cond.code yJ7_fill_53178 cJ7_fill_53178 4 none, Cond.methodLink RX2 82 yX2_eraseUnreadableBlocks, Cond.instanceMethod yX2_eraseUnreadableBlocks, Cond.selects RX2 yX2_eraseUnreadableBlocks yX2_eraseUnreadableBlocks, Cond.initialized RX2, Cond.code yX2_eraseUnreadableBlocks cX2_eraseUnreadableBlocks 2 none, Cond.fieldLink RX2 11 "PairedCells" "blocks" "[LPairedCells$Block;", Cond.methodLink RX2 90 yX0_isErased, Cond.instanceMethod yX0_isErased, Cond.selects RX0 yX0_isErased yX0_isErased]
def wsX2_start_r2 : List Cond := [Cond.initialized RX0, Cond.code yX0_isErased cX0_isErased 1 (some .boolean), Cond.methodLink RX0 28 yX0_nextPlace, Cond.instanceMethod yX0_nextPlace, Cond.selects RX0 yX0_nextPlace yX0_nextPlace, Cond.code yX0_nextPlace cX0_nextPlace 2 (some .int), Cond.fieldLink RX0 9 "PairedCells$Block" "states" "[I", Cond.methodLink RX2 93 yX2_greatestEvent, Cond.instanceMethod yX2_greatestEvent, Cond.selects RX2 yX2_greatestEvent yX2_greatestEvent, Cond.code yX2_greatestEvent cX2_greatestEvent 4 (some .int), Cond.fieldLink RX2 22 "PairedCells" "shown" "LPairedCells$EventPage;", Cond.methodLink RX2 219 Lib.Math.max.name, Cond.static Lib.Math.max.name, Cond.initialized "java/lang/Math", Cond.code Lib.Math.max.name Lib.Math.max.code 2 (some .int), Cond.methodLink RX2 209 yX0_show, Cond.instanceMethod yX0_show, Cond.selects RX0 yX0_show yX0_show, Cond.code yX0_show cX0_show 4 (some .boolean), Cond.methodLink RX0 54 yX0_isReadable, Cond.instanceMethod yX0_isReadable, Cond.selects RX0 yX0_isReadable yX0_isReadable, Cond.code yX0_isReadable cX0_isReadable 2 (some .boolean)]
def wsX2_start_r3 : List Cond := [Cond.methodLink RX0 47 yX0_isRebuilt, Cond.instanceMethod yX0_isRebuilt, Cond.selects RX0 yX0_isRebuilt yX0_isRebuilt, Cond.code yX0_isRebuilt cX0_isRebuilt 3 (some .boolean), Cond.methodLink RX0 51 yX0_covers, Cond.instanceMethod yX0_covers, Cond.selects RX0 yX0_covers yX0_covers, Cond.code yX0_covers cX0_covers 2 (some .boolean), Cond.fieldLink RX0 21 "PairedCells$Block" "guardState" "I", Cond.fieldLink RX0 18 "PairedCells$Block" "guardBytes" "[I", Cond.methodLink RX0 57 yX0_byteAt, Cond.instanceMethod yX0_byteAt, Cond.selects RX0 yX0_byteAt yX0_byteAt, Cond.code yX0_byteAt cX0_byteAt 5 (some .int), Cond.fieldLink RX0 15 "PairedCells$Block" "bytes" "[I", Cond.methodLink RX2 216 yX1_lastNumber, Cond.instanceMethod yX1_lastNumber, Cond.selects RX1 yX1_lastNumber yX1_lastNumber, Cond.code yX1_lastNumber cX1_lastNumber 1 (some .int), Cond.methodLink RX1 25 yX1_firstNumber, Cond.instanceMethod yX1_firstNumber, Cond.selects RX1 yX1_firstNumber yX1_firstNumber, Cond.code yX1_firstNumber cX1_firstNumber 1 (some .int), Cond.methodLink RX1 21 yX1_events]
def wsX2_start_r4 : List Cond := [Cond.instanceMethod yX1_events, Cond.selects RX1 yX1_events yX1_events, Cond.code yX1_events cX1_events 1 (some .int), Cond.methodLink RX2 97 yX0_erase, Cond.instanceMethod yX0_erase, Cond.selects RX0 yX0_erase yX0_erase, Cond.code yX0_erase cX0_erase 1 none, Cond.fieldLink RX0 25 "PairedCells$Block" "erasures" "I", Cond.methodLink RX0 32 yJ7_fill_53178, Cond.methodLink RX2 85 yX2_findEvents, Cond.instanceMethod yX2_findEvents, Cond.selects RX2 yX2_findEvents yX2_findEvents, Cond.code yX2_findEvents cX2_findEvents 6 none, Cond.fieldLink RX2 25 "PairedCells" "current" "I", Cond.fieldLink RX2 29 "PairedCells" "firstEvent" "I", Cond.methodLink RX2 206 yX2_leastEvent, Cond.instanceMethod yX2_leastEvent, Cond.selects RX2 yX2_leastEvent yX2_leastEvent, Cond.code yX2_leastEvent cX2_leastEvent 4 (some .int), Cond.methodLink RX2 213 yX1_firstNumber]
def wsX2_start : List Cond := .code yX2_start cX2_start 1 (some .int) :: ((wsX2_start_r1 ++ (wsX2_start_r2 ++ (wsX2_start_r3 ++ wsX2_start_r4))) ++ wsX20 ++ wsX10 ++ wsX00 ++ (vx_atS RX2 78 "java/lang/IllegalStateException" ["java/lang/RuntimeException", "java/lang/Exception"]).filter goodWord)
def wsX2_trim_r1 : List Cond := [Cond.classLink RX2 46 "java/lang/IllegalArgumentException", Cond.initialized "java/lang/IllegalArgumentException", Cond.fieldLink RX2 29 "PairedCells" "firstEvent" "I", Cond.fieldLink RX2 32 "PairedCells" "nextEvent" "I", Cond.fieldLink RX2 25 "PairedCells" "current" "I", Cond.fieldLink RX2 11 "PairedCells" "blocks" "[LPairedCells$Block;", Cond.methodLink RX2 43 yX2_requirePower, Cond.instanceMethod yX2_requirePower, Cond.selects RX2 yX2_requirePower yX2_requirePower, Cond.initialized RX2, Cond.code yX2_requirePower cX2_requirePower 1 none, Cond.classLink RX2 74 "java/lang/IllegalStateException", Cond.initialized "java/lang/IllegalStateException", Cond.fieldLink RX2 38 "PairedCells" "powerOn" "Z", Cond.methodLink RX2 90 yX0_isErased, Cond.instanceMethod yX0_isErased, Cond.selects RX0 yX0_isErased yX0_isErased, Cond.initialized RX0, Cond.code yX0_isErased cX0_isErased 1 (some .boolean), Cond.methodLink RX0 28 yX0_nextPlace, Cond.instanceMethod yX0_nextPlace, Cond.selects RX0 yX0_nextPlace yX0_nextPlace, Cond.code yX0_nextPlace cX0_nextPlace 2 (some .int), Cond.fieldLink RX0 9 "PairedCells$Block" "states" "[I"]
def wsX2_trim_r2 : List Cond := [Cond.methodLink RX2 93 yX2_greatestEvent, Cond.instanceMethod yX2_greatestEvent, Cond.selects RX2 yX2_greatestEvent yX2_greatestEvent, Cond.code yX2_greatestEvent cX2_greatestEvent 4 (some .int), Cond.fieldLink RX2 22 "PairedCells" "shown" "LPairedCells$EventPage;", Cond.methodLink RX2 219 Lib.Math.max.name, Cond.static Lib.Math.max.name, Cond.initialized "java/lang/Math", Cond.code Lib.Math.max.name Lib.Math.max.code 2 (some .int), Cond.methodLink RX2 209 yX0_show, Cond.instanceMethod yX0_show, Cond.selects RX0 yX0_show yX0_show, Cond.code yX0_show cX0_show 4 (some .boolean), Cond.methodLink RX0 54 yX0_isReadable, Cond.instanceMethod yX0_isReadable, Cond.selects RX0 yX0_isReadable yX0_isReadable, Cond.code yX0_isReadable cX0_isReadable 2 (some .boolean), Cond.methodLink RX0 47 yX0_isRebuilt, Cond.instanceMethod yX0_isRebuilt, Cond.selects RX0 yX0_isRebuilt yX0_isRebuilt, Cond.code yX0_isRebuilt cX0_isRebuilt 3 (some .boolean), Cond.methodLink RX0 51 yX0_covers, Cond.instanceMethod yX0_covers, Cond.selects RX0 yX0_covers yX0_covers]
def wsX2_trim_r3 : List Cond := [Cond.code yX0_covers cX0_covers 2 (some .boolean), Cond.fieldLink RX0 21 "PairedCells$Block" "guardState" "I", Cond.fieldLink RX0 18 "PairedCells$Block" "guardBytes" "[I", Cond.methodLink RX0 57 yX0_byteAt, Cond.instanceMethod yX0_byteAt, Cond.selects RX0 yX0_byteAt yX0_byteAt, Cond.code yX0_byteAt cX0_byteAt 5 (some .int), Cond.fieldLink RX0 15 "PairedCells$Block" "bytes" "[I", Cond.methodLink RX2 216 yX1_lastNumber, Cond.instanceMethod yX1_lastNumber, Cond.selects RX1 yX1_lastNumber yX1_lastNumber, Cond.initialized RX1, Cond.code yX1_lastNumber cX1_lastNumber 1 (some .int), Cond.methodLink RX1 25 yX1_firstNumber, Cond.instanceMethod yX1_firstNumber, Cond.selects RX1 yX1_firstNumber yX1_firstNumber, Cond.code yX1_firstNumber cX1_firstNumber 1 (some .int), Cond.fieldLink RX1 9 "PairedCells$EventPage" "bytes" "[I", Cond.methodLink RX1 21 yX1_events, Cond.instanceMethod yX1_events, Cond.selects RX1 yX1_events yX1_events, Cond.code yX1_events cX1_events 1 (some .int), Cond.methodLink RX2 97 yX0_erase, Cond.instanceMethod yX0_erase]
def wsX2_trim_r4 : List Cond := [Cond.selects RX0 yX0_erase yX0_erase, Cond.code yX0_erase cX0_erase 1 none, Cond.fieldLink RX0 25 "PairedCells$Block" "erasures" "I", Cond.methodLink RX0 32 yJ7_fill_53178, Cond.static yJ7_fill_53178, Cond.initialized RJ7, Cond.code yJ7_fill_53178 cJ7_fill_53178 4 none]
def wsX2_trim : List Cond := .code yX2_trim cX2_trim 4 (some .int) :: ((wsX2_trim_r1 ++ (wsX2_trim_r2 ++ (wsX2_trim_r3 ++ wsX2_trim_r4))) ++ wsX20 ++ wsX00 ++ wsX10 ++ (vx_atS RX2 50 "java/lang/IllegalArgumentException" ["java/lang/RuntimeException", "java/lang/Exception"]).filter goodWord ++ (vx_atS RX2 78 "java/lang/IllegalStateException" ["java/lang/RuntimeException", "java/lang/Exception"]).filter goodWord)
def wsX2_first : List Cond := .code yX2_first cX2_first 1 (some .int) :: ([.fieldLink RX2 29 "PairedCells" "firstEvent" "I", .methodLink RX2 43 yX2_requirePower, .instanceMethod yX2_requirePower, .selects RX2 yX2_requirePower yX2_requirePower, .initialized RX2, .code yX2_requirePower cX2_requirePower 1 none, .classLink RX2 74 "java/lang/IllegalStateException", .initialized "java/lang/IllegalStateException", .fieldLink RX2 38 "PairedCells" "powerOn" "Z"] ++ wsX20 ++ (vx_atS RX2 78 "java/lang/IllegalStateException" ["java/lang/RuntimeException", "java/lang/Exception"]).filter goodWord)
def wsX2_count : List Cond := .code yX2_count cX2_count 1 (some .int) :: ([.fieldLink RX2 32 "PairedCells" "nextEvent" "I", .methodLink RX2 43 yX2_requirePower, .instanceMethod yX2_requirePower, .selects RX2 yX2_requirePower yX2_requirePower, .initialized RX2, .code yX2_requirePower cX2_requirePower 1 none, .classLink RX2 74 "java/lang/IllegalStateException", .initialized "java/lang/IllegalStateException", .fieldLink RX2 38 "PairedCells" "powerOn" "Z"] ++ wsX20 ++ (vx_atS RX2 78 "java/lang/IllegalStateException" ["java/lang/RuntimeException", "java/lang/Exception"]).filter goodWord)
def wsX2_requireEvent : List Cond := .code yX2_requireEvent cX2_requireEvent 2 none :: ([.classLink RX2 135 "java/lang/IndexOutOfBoundsException", .initialized "java/lang/IndexOutOfBoundsException", .fieldLink RX2 29 "PairedCells" "firstEvent" "I", .fieldLink RX2 32 "PairedCells" "nextEvent" "I"] ++ wsX20 ++ (vx_atS RX2 139 "java/lang/IndexOutOfBoundsException" ["java/lang/RuntimeException", "java/lang/Exception"]).filter goodWord)
def wsX2_pageWith_r1 : List Cond := [Cond.fieldLink RX2 18 "PairedCells" "openPage" "LPairedCells$EventPage;", Cond.fieldLink RX2 11 "PairedCells" "blocks" "[LPairedCells$Block;", Cond.fieldLink RX2 22 "PairedCells" "shown" "LPairedCells$EventPage;", Cond.methodLink RX2 224 yX1_holds, Cond.instanceMethod yX1_holds, Cond.selects RX1 yX1_holds yX1_holds, Cond.initialized RX1, Cond.code yX1_holds cX1_holds 2 (some .boolean), Cond.methodLink RX1 28 yX1_isEmpty, Cond.instanceMethod yX1_isEmpty, Cond.selects RX1 yX1_isEmpty yX1_isEmpty, Cond.code yX1_isEmpty cX1_isEmpty 1 (some .boolean), Cond.methodLink RX1 21 yX1_events, Cond.instanceMethod yX1_events, Cond.selects RX1 yX1_events yX1_events, Cond.code yX1_events cX1_events 1 (some .int), Cond.fieldLink RX1 9 "PairedCells$EventPage" "bytes" "[I", Cond.methodLink RX1 25 yX1_firstNumber, Cond.instanceMethod yX1_firstNumber, Cond.selects RX1 yX1_firstNumber yX1_firstNumber, Cond.code yX1_firstNumber cX1_firstNumber 1 (some .int), Cond.methodLink RX1 32 yX1_lastNumber, Cond.instanceMethod yX1_lastNumber, Cond.selects RX1 yX1_lastNumber yX1_lastNumber]
def wsX2_pageWith_r2 : List Cond := [Cond.code yX1_lastNumber cX1_lastNumber 1 (some .int), Cond.methodLink RX2 209 yX0_show, Cond.instanceMethod yX0_show, Cond.selects RX0 yX0_show yX0_show, Cond.initialized RX0, Cond.code yX0_show cX0_show 4 (some .boolean), Cond.methodLink RX0 54 yX0_isReadable, Cond.instanceMethod yX0_isReadable, Cond.selects RX0 yX0_isReadable yX0_isReadable, Cond.code yX0_isReadable cX0_isReadable 2 (some .boolean), Cond.fieldLink RX0 9 "PairedCells$Block" "states" "[I", Cond.methodLink RX0 47 yX0_isRebuilt, Cond.instanceMethod yX0_isRebuilt, Cond.selects RX0 yX0_isRebuilt yX0_isRebuilt, Cond.code yX0_isRebuilt cX0_isRebuilt 3 (some .boolean), Cond.methodLink RX0 51 yX0_covers, Cond.instanceMethod yX0_covers, Cond.selects RX0 yX0_covers yX0_covers, Cond.code yX0_covers cX0_covers 2 (some .boolean), Cond.fieldLink RX0 21 "PairedCells$Block" "guardState" "I", Cond.fieldLink RX0 18 "PairedCells$Block" "guardBytes" "[I", Cond.methodLink RX0 57 yX0_byteAt, Cond.instanceMethod yX0_byteAt, Cond.selects RX0 yX0_byteAt yX0_byteAt]
def wsX2_pageWith_r3 : List Cond := [Cond.code yX0_byteAt cX0_byteAt 5 (some .int), Cond.fieldLink RX0 15 "PairedCells$Block" "bytes" "[I"]
def wsX2_pageWith : List Cond := .code yX2_pageWith cX2_pageWith 4 (some (.object "PairedCells$EventPage")) :: ((wsX2_pageWith_r1 ++ (wsX2_pageWith_r2 ++ wsX2_pageWith_r3)) ++ wsX20 ++ wsX10 ++ wsX00)
def wsX2_length_r1 : List Cond := [Cond.methodLink RX2 43 yX2_requirePower, Cond.instanceMethod yX2_requirePower, Cond.selects RX2 yX2_requirePower yX2_requirePower, Cond.initialized RX2, Cond.code yX2_requirePower cX2_requirePower 1 none, Cond.classLink RX2 74 "java/lang/IllegalStateException", Cond.initialized "java/lang/IllegalStateException", Cond.fieldLink RX2 38 "PairedCells" "powerOn" "Z", Cond.methodLink RX2 100 yX2_requireEvent, Cond.instanceMethod yX2_requireEvent, Cond.selects RX2 yX2_requireEvent yX2_requireEvent, Cond.code yX2_requireEvent cX2_requireEvent 2 none, Cond.classLink RX2 135 "java/lang/IndexOutOfBoundsException", Cond.initialized "java/lang/IndexOutOfBoundsException", Cond.fieldLink RX2 29 "PairedCells" "firstEvent" "I", Cond.fieldLink RX2 32 "PairedCells" "nextEvent" "I", Cond.methodLink RX2 104 yX2_pageWith, Cond.instanceMethod yX2_pageWith, Cond.selects RX2 yX2_pageWith yX2_pageWith, Cond.code yX2_pageWith cX2_pageWith 4 (some (.object "PairedCells$EventPage")), Cond.fieldLink RX2 18 "PairedCells" "openPage" "LPairedCells$EventPage;", Cond.fieldLink RX2 11 "PairedCells" "blocks" "[LPairedCells$Block;", Cond.fieldLink RX2 22 "PairedCells" "shown" "LPairedCells$EventPage;", Cond.methodLink RX2 224 yX1_holds]
def wsX2_length_r2 : List Cond := [Cond.instanceMethod yX1_holds, Cond.selects RX1 yX1_holds yX1_holds, Cond.initialized RX1, Cond.code yX1_holds cX1_holds 2 (some .boolean), Cond.methodLink RX1 28 yX1_isEmpty, Cond.instanceMethod yX1_isEmpty, Cond.selects RX1 yX1_isEmpty yX1_isEmpty, Cond.code yX1_isEmpty cX1_isEmpty 1 (some .boolean), Cond.methodLink RX1 21 yX1_events, Cond.instanceMethod yX1_events, Cond.selects RX1 yX1_events yX1_events, Cond.code yX1_events cX1_events 1 (some .int), Cond.fieldLink RX1 9 "PairedCells$EventPage" "bytes" "[I", Cond.methodLink RX1 25 yX1_firstNumber, Cond.instanceMethod yX1_firstNumber, Cond.selects RX1 yX1_firstNumber yX1_firstNumber, Cond.code yX1_firstNumber cX1_firstNumber 1 (some .int), Cond.methodLink RX1 32 yX1_lastNumber, Cond.instanceMethod yX1_lastNumber, Cond.selects RX1 yX1_lastNumber yX1_lastNumber, Cond.code yX1_lastNumber cX1_lastNumber 1 (some .int), Cond.methodLink RX2 209 yX0_show, Cond.instanceMethod yX0_show, Cond.selects RX0 yX0_show yX0_show]
def wsX2_length_r3 : List Cond := [Cond.initialized RX0, Cond.code yX0_show cX0_show 4 (some .boolean), Cond.methodLink RX0 54 yX0_isReadable, Cond.instanceMethod yX0_isReadable, Cond.selects RX0 yX0_isReadable yX0_isReadable, Cond.code yX0_isReadable cX0_isReadable 2 (some .boolean), Cond.fieldLink RX0 9 "PairedCells$Block" "states" "[I", Cond.methodLink RX0 47 yX0_isRebuilt, Cond.instanceMethod yX0_isRebuilt, Cond.selects RX0 yX0_isRebuilt yX0_isRebuilt, Cond.code yX0_isRebuilt cX0_isRebuilt 3 (some .boolean), Cond.methodLink RX0 51 yX0_covers, Cond.instanceMethod yX0_covers, Cond.selects RX0 yX0_covers yX0_covers, Cond.code yX0_covers cX0_covers 2 (some .boolean), Cond.fieldLink RX0 21 "PairedCells$Block" "guardState" "I", Cond.fieldLink RX0 18 "PairedCells$Block" "guardBytes" "[I", Cond.methodLink RX0 57 yX0_byteAt, Cond.instanceMethod yX0_byteAt, Cond.selects RX0 yX0_byteAt yX0_byteAt, Cond.code yX0_byteAt cX0_byteAt 5 (some .int), Cond.fieldLink RX0 15 "PairedCells$Block" "bytes" "[I", Cond.methodLink RX2 108 yX1_lengthOf, Cond.instanceMethod yX1_lengthOf]
def wsX2_length_r4 : List Cond := [Cond.selects RX1 yX1_lengthOf yX1_lengthOf, Cond.code yX1_lengthOf cX1_lengthOf 2 (some .int), Cond.methodLink RX1 35 yX1_placeOfRow, Cond.instanceMethod yX1_placeOfRow, Cond.selects RX1 yX1_placeOfRow yX1_placeOfRow, Cond.code yX1_placeOfRow cX1_placeOfRow 4 (some .int)]
def wsX2_length : List Cond := .code yX2_length cX2_length 3 (some .int) :: ((wsX2_length_r1 ++ (wsX2_length_r2 ++ (wsX2_length_r3 ++ wsX2_length_r4))) ++ wsX20 ++ wsX10 ++ wsX00 ++ (vx_atS RX2 78 "java/lang/IllegalStateException" ["java/lang/RuntimeException", "java/lang/Exception"]).filter goodWord ++ (vx_atS RX2 139 "java/lang/IndexOutOfBoundsException" ["java/lang/RuntimeException", "java/lang/Exception"]).filter goodWord)
def wsX2_event_r1 : List Cond := [Cond.classLink RX2 112 "java/util/NoSuchElementException", Cond.initialized "java/util/NoSuchElementException", Cond.methodLink RX2 43 yX2_requirePower, Cond.instanceMethod yX2_requirePower, Cond.selects RX2 yX2_requirePower yX2_requirePower, Cond.initialized RX2, Cond.code yX2_requirePower cX2_requirePower 1 none, Cond.classLink RX2 74 "java/lang/IllegalStateException", Cond.initialized "java/lang/IllegalStateException", Cond.fieldLink RX2 38 "PairedCells" "powerOn" "Z", Cond.methodLink RX2 100 yX2_requireEvent, Cond.instanceMethod yX2_requireEvent, Cond.selects RX2 yX2_requireEvent yX2_requireEvent, Cond.code yX2_requireEvent cX2_requireEvent 2 none, Cond.classLink RX2 135 "java/lang/IndexOutOfBoundsException", Cond.initialized "java/lang/IndexOutOfBoundsException", Cond.fieldLink RX2 29 "PairedCells" "firstEvent" "I", Cond.fieldLink RX2 32 "PairedCells" "nextEvent" "I", Cond.methodLink RX2 104 yX2_pageWith, Cond.instanceMethod yX2_pageWith, Cond.selects RX2 yX2_pageWith yX2_pageWith, Cond.code yX2_pageWith cX2_pageWith 4 (some (.object "PairedCells$EventPage")), Cond.fieldLink RX2 18 "PairedCells" "openPage" "LPairedCells$EventPage;", Cond.fieldLink RX2 11 "PairedCells" "blocks" "[LPairedCells$Block;"]
def wsX2_event_r2 : List Cond := [Cond.fieldLink RX2 22 "PairedCells" "shown" "LPairedCells$EventPage;", Cond.methodLink RX2 224 yX1_holds, Cond.instanceMethod yX1_holds, Cond.selects RX1 yX1_holds yX1_holds, Cond.initialized RX1, Cond.code yX1_holds cX1_holds 2 (some .boolean), Cond.methodLink RX1 28 yX1_isEmpty, Cond.instanceMethod yX1_isEmpty, Cond.selects RX1 yX1_isEmpty yX1_isEmpty, Cond.code yX1_isEmpty cX1_isEmpty 1 (some .boolean), Cond.methodLink RX1 21 yX1_events, Cond.instanceMethod yX1_events, Cond.selects RX1 yX1_events yX1_events, Cond.code yX1_events cX1_events 1 (some .int), Cond.fieldLink RX1 9 "PairedCells$EventPage" "bytes" "[I", Cond.methodLink RX1 25 yX1_firstNumber, Cond.instanceMethod yX1_firstNumber, Cond.selects RX1 yX1_firstNumber yX1_firstNumber, Cond.code yX1_firstNumber cX1_firstNumber 1 (some .int), Cond.methodLink RX1 32 yX1_lastNumber, Cond.instanceMethod yX1_lastNumber, Cond.selects RX1 yX1_lastNumber yX1_lastNumber, Cond.code yX1_lastNumber cX1_lastNumber 1 (some .int), Cond.methodLink RX2 209 yX0_show]
def wsX2_event_r3 : List Cond := [Cond.instanceMethod yX0_show, Cond.selects RX0 yX0_show yX0_show, Cond.initialized RX0, Cond.code yX0_show cX0_show 4 (some .boolean), Cond.methodLink RX0 54 yX0_isReadable, Cond.instanceMethod yX0_isReadable, Cond.selects RX0 yX0_isReadable yX0_isReadable, Cond.code yX0_isReadable cX0_isReadable 2 (some .boolean), Cond.fieldLink RX0 9 "PairedCells$Block" "states" "[I", Cond.methodLink RX0 47 yX0_isRebuilt, Cond.instanceMethod yX0_isRebuilt, Cond.selects RX0 yX0_isRebuilt yX0_isRebuilt, Cond.code yX0_isRebuilt cX0_isRebuilt 3 (some .boolean), Cond.methodLink RX0 51 yX0_covers, Cond.instanceMethod yX0_covers, Cond.selects RX0 yX0_covers yX0_covers, Cond.code yX0_covers cX0_covers 2 (some .boolean), Cond.fieldLink RX0 21 "PairedCells$Block" "guardState" "I", Cond.fieldLink RX0 18 "PairedCells$Block" "guardBytes" "[I", Cond.methodLink RX0 57 yX0_byteAt, Cond.instanceMethod yX0_byteAt, Cond.selects RX0 yX0_byteAt yX0_byteAt, Cond.code yX0_byteAt cX0_byteAt 5 (some .int), Cond.fieldLink RX0 15 "PairedCells$Block" "bytes" "[I"]
def wsX2_event_r4 : List Cond := [Cond.methodLink RX2 117 yX1_bytesOf, Cond.instanceMethod yX1_bytesOf, Cond.selects RX1 yX1_bytesOf yX1_bytesOf, Cond.code yX1_bytesOf cX1_bytesOf 6 (some .long), Cond.methodLink RX1 35 yX1_placeOfRow, Cond.instanceMethod yX1_placeOfRow, Cond.selects RX1 yX1_placeOfRow yX1_placeOfRow, Cond.code yX1_placeOfRow cX1_placeOfRow 4 (some .int)]
def wsX2_event : List Cond := .code yX2_event cX2_event 3 (some .long) :: ((wsX2_event_r1 ++ (wsX2_event_r2 ++ (wsX2_event_r3 ++ wsX2_event_r4))) ++ wsX20 ++ wsX10 ++ wsX00 ++ wsNS ++ (vx_atS RX2 78 "java/lang/IllegalStateException" ["java/lang/RuntimeException", "java/lang/Exception"]).filter goodWord ++ (vx_atS RX2 139 "java/lang/IndexOutOfBoundsException" ["java/lang/RuntimeException", "java/lang/Exception"]).filter goodWord)
def wsX2_requireBlock : List Cond := .code yX2_requireBlock cX2_requireBlock 1 none :: ([.classLink RX2 135 "java/lang/IndexOutOfBoundsException", .initialized "java/lang/IndexOutOfBoundsException"] ++ (vx_atS RX2 139 "java/lang/IndexOutOfBoundsException" ["java/lang/RuntimeException", "java/lang/Exception"]).filter goodWord)
def wsX2_requireLine : List Cond := .code yX2_requireLine cX2_requireLine 2 none :: ([.classLink RX2 135 "java/lang/IndexOutOfBoundsException", .initialized "java/lang/IndexOutOfBoundsException", .methodLink RX2 149 yX2_requireBlock, .static yX2_requireBlock, .initialized RX2, .code yX2_requireBlock cX2_requireBlock 1 none] ++ (vx_atS RX2 139 "java/lang/IndexOutOfBoundsException" ["java/lang/RuntimeException", "java/lang/Exception"]).filter goodWord)
def wsX2_placeOf : List Cond := .code yX2_placeOf cX2_placeOf 2 (some .int) :: ([])
def wsX2_ruin : List Cond := .code yX2_ruin cX2_ruin 4 (some .boolean) :: ([.fieldLink RX2 11 "PairedCells" "blocks" "[LPairedCells$Block;", .methodLink RX2 121 yX2_requireLine, .static yX2_requireLine, .initialized RX2, .code yX2_requireLine cX2_requireLine 2 none, .classLink RX2 135 "java/lang/IndexOutOfBoundsException", .initialized "java/lang/IndexOutOfBoundsException", .methodLink RX2 149 yX2_requireBlock, .static yX2_requireBlock, .code yX2_requireBlock cX2_requireBlock 1 none, .methodLink RX2 125 yX2_placeOf, .static yX2_placeOf, .code yX2_placeOf cX2_placeOf 2 (some .int), .methodLink RX2 129 yX0_ruinWritten, .instanceMethod yX0_ruinWritten, .selects RX0 yX0_ruinWritten yX0_ruinWritten, .initialized RX0, .code yX0_ruinWritten cX0_ruinWritten 2 (some .boolean), .fieldLink RX0 9 "PairedCells$Block" "states" "[I"] ++ wsX20 ++ wsX00 ++ (vx_atS RX2 139 "java/lang/IndexOutOfBoundsException" ["java/lang/RuntimeException", "java/lang/Exception"]).filter goodWord)
def wsX2_page_r1 : List Cond := [Cond.fieldLink RX2 11 "PairedCells" "blocks" "[LPairedCells$Block;", Cond.methodLink RX2 121 yX2_requireLine, Cond.static yX2_requireLine, Cond.initialized RX2, Cond.code yX2_requireLine cX2_requireLine 2 none, Cond.classLink RX2 135 "java/lang/IndexOutOfBoundsException", Cond.initialized "java/lang/IndexOutOfBoundsException", Cond.methodLink RX2 149 yX2_requireBlock, Cond.static yX2_requireBlock, Cond.code yX2_requireBlock cX2_requireBlock 1 none, Cond.methodLink RX2 125 yX2_placeOf, Cond.static yX2_placeOf, Cond.code yX2_placeOf cX2_placeOf 2 (some .int), Cond.methodLink RX2 132 yX0_stateAt, Cond.instanceMethod yX0_stateAt, Cond.selects RX0 yX0_stateAt yX0_stateAt, Cond.initialized RX0, Cond.code yX0_stateAt cX0_stateAt 2 (some .int), Cond.fieldLink RX0 9 "PairedCells$Block" "states" "[I", Cond.methodLink RX0 47 yX0_isRebuilt, Cond.instanceMethod yX0_isRebuilt, Cond.selects RX0 yX0_isRebuilt yX0_isRebuilt, Cond.code yX0_isRebuilt cX0_isRebuilt 3 (some .boolean), Cond.methodLink RX0 51 yX0_covers]
def wsX2_page_r2 : List Cond := [Cond.instanceMethod yX0_covers, Cond.selects RX0 yX0_covers yX0_covers, Cond.code yX0_covers cX0_covers 2 (some .boolean), Cond.fieldLink RX0 21 "PairedCells$Block" "guardState" "I", Cond.fieldLink RX0 18 "PairedCells$Block" "guardBytes" "[I"]
def wsX2_page : List Cond := .code yX2_page cX2_page 4 (some .int) :: ((wsX2_page_r1 ++ wsX2_page_r2) ++ wsX20 ++ wsX00 ++ (vx_atS RX2 139 "java/lang/IndexOutOfBoundsException" ["java/lang/RuntimeException", "java/lang/Exception"]).filter goodWord)
def wsX2_at_r1 : List Cond := [Cond.classLink RX2 135 "java/lang/IndexOutOfBoundsException", Cond.initialized "java/lang/IndexOutOfBoundsException", Cond.classLink RX2 112 "java/util/NoSuchElementException", Cond.initialized "java/util/NoSuchElementException", Cond.fieldLink RX2 11 "PairedCells" "blocks" "[LPairedCells$Block;", Cond.methodLink RX2 121 yX2_requireLine, Cond.static yX2_requireLine, Cond.initialized RX2, Cond.code yX2_requireLine cX2_requireLine 2 none, Cond.methodLink RX2 149 yX2_requireBlock, Cond.static yX2_requireBlock, Cond.code yX2_requireBlock cX2_requireBlock 1 none, Cond.methodLink RX2 125 yX2_placeOf, Cond.static yX2_placeOf, Cond.code yX2_placeOf cX2_placeOf 2 (some .int), Cond.methodLink RX2 140 yX0_isReadable, Cond.instanceMethod yX0_isReadable, Cond.selects RX0 yX0_isReadable yX0_isReadable, Cond.initialized RX0, Cond.code yX0_isReadable cX0_isReadable 2 (some .boolean), Cond.fieldLink RX0 9 "PairedCells$Block" "states" "[I", Cond.methodLink RX0 47 yX0_isRebuilt, Cond.instanceMethod yX0_isRebuilt, Cond.selects RX0 yX0_isRebuilt yX0_isRebuilt]
def wsX2_at_r2 : List Cond := [Cond.code yX0_isRebuilt cX0_isRebuilt 3 (some .boolean), Cond.methodLink RX0 51 yX0_covers, Cond.instanceMethod yX0_covers, Cond.selects RX0 yX0_covers yX0_covers, Cond.code yX0_covers cX0_covers 2 (some .boolean), Cond.fieldLink RX0 21 "PairedCells$Block" "guardState" "I", Cond.fieldLink RX0 18 "PairedCells$Block" "guardBytes" "[I", Cond.methodLink RX2 145 yX0_byteAt, Cond.instanceMethod yX0_byteAt, Cond.selects RX0 yX0_byteAt yX0_byteAt, Cond.code yX0_byteAt cX0_byteAt 5 (some .int), Cond.fieldLink RX0 15 "PairedCells$Block" "bytes" "[I"]
def wsX2_at : List Cond := .code yX2_at cX2_at 6 (some .int) :: ((wsX2_at_r1 ++ wsX2_at_r2) ++ wsX20 ++ wsX00 ++ (vx_atS RX2 139 "java/lang/IndexOutOfBoundsException" ["java/lang/RuntimeException", "java/lang/Exception"]).filter goodWord ++ wsNS)
def wsX2_guard : List Cond := .code yX2_guard cX2_guard 2 (some .int) :: ([.fieldLink RX2 11 "PairedCells" "blocks" "[LPairedCells$Block;", .methodLink RX2 149 yX2_requireBlock, .static yX2_requireBlock, .initialized RX2, .code yX2_requireBlock cX2_requireBlock 1 none, .classLink RX2 135 "java/lang/IndexOutOfBoundsException", .initialized "java/lang/IndexOutOfBoundsException"] ++ wsX20 ++ wsX00 ++ (vx_atS RX2 139 "java/lang/IndexOutOfBoundsException" ["java/lang/RuntimeException", "java/lang/Exception"]).filter goodWord)
def wsX2_guarded : List Cond := .code yX2_guarded cX2_guarded 3 (some .int) :: ([.classLink RX2 135 "java/lang/IndexOutOfBoundsException", .initialized "java/lang/IndexOutOfBoundsException", .classLink RX2 112 "java/util/NoSuchElementException", .initialized "java/util/NoSuchElementException", .fieldLink RX2 11 "PairedCells" "blocks" "[LPairedCells$Block;", .methodLink RX2 149 yX2_requireBlock, .static yX2_requireBlock, .initialized RX2, .code yX2_requireBlock cX2_requireBlock 1 none] ++ wsX20 ++ wsX00 ++ (vx_atS RX2 139 "java/lang/IndexOutOfBoundsException" ["java/lang/RuntimeException", "java/lang/Exception"]).filter goodWord ++ wsNS)
def wsX2_erasedBlocks : List Cond := .code yX2_erasedBlocks cX2_erasedBlocks 3 (some .int) :: ([.fieldLink RX2 11 "PairedCells" "blocks" "[LPairedCells$Block;", .methodLink RX2 90 yX0_isErased, .instanceMethod yX0_isErased, .selects RX0 yX0_isErased yX0_isErased, .initialized RX0, .code yX0_isErased cX0_isErased 1 (some .boolean), .methodLink RX0 28 yX0_nextPlace, .instanceMethod yX0_nextPlace, .selects RX0 yX0_nextPlace yX0_nextPlace, .code yX0_nextPlace cX0_nextPlace 2 (some .int), .fieldLink RX0 9 "PairedCells$Block" "states" "[I"] ++ wsX20 ++ wsX00)
def wsX2_told : List Cond := .code yX2_told cX2_told 2 (some .int) :: ([.fieldLink RX2 11 "PairedCells" "blocks" "[LPairedCells$Block;", .fieldLink RX2 25 "PairedCells" "current" "I", .fieldLink RX2 38 "PairedCells" "powerOn" "Z", .fieldLink RX2 35 "PairedCells" "cutIn" "I", .methodLink RX2 164 yX2_erasedBlocks, .instanceMethod yX2_erasedBlocks, .selects RX2 yX2_erasedBlocks yX2_erasedBlocks, .initialized RX2, .code yX2_erasedBlocks cX2_erasedBlocks 3 (some .int), .methodLink RX2 90 yX0_isErased, .instanceMethod yX0_isErased, .selects RX0 yX0_isErased yX0_isErased, .initialized RX0, .code yX0_isErased cX0_isErased 1 (some .boolean), .methodLink RX0 28 yX0_nextPlace, .instanceMethod yX0_nextPlace, .selects RX0 yX0_nextPlace yX0_nextPlace, .code yX0_nextPlace cX0_nextPlace 2 (some .int), .fieldLink RX0 9 "PairedCells$Block" "states" "[I"] ++ wsX20 ++ wsX00)
def wsX3_init : List Cond := .code yX3_init cX3_init 1 none :: ([.methodLink RX3 1 objectInit, .instanceMethod objectInit, .code objectInit ⟨#[0xb1]⟩ 1 none, .arrayClass .int, .fieldLink RX3 7 "PairedCellsModel" "states" "[I", .fieldLink RX3 13 "PairedCellsModel" "bytes" "[I", .fieldLink RX3 16 "PairedCellsModel" "guards" "[I", .fieldLink RX3 19 "PairedCellsModel" "guardBytes" "[I", .fieldLink RX3 22 "PairedCellsModel" "erased" "[I", .fieldLink RX3 25 "PairedCellsModel" "on" "Z", .fieldLink RX3 29 "PairedCellsModel" "taken" "I", .fieldLink RX3 33 "PairedCellsModel" "open" "[I"] ++ wsX30)
def wsX3_thrown : List Cond := .code yX3_thrown cX3_thrown 1 (some .int) :: ([.fieldLink RX3 36 "PairedCellsModel" "thrown" "I"] ++ wsX30)
def wsX3_eraseBlock : List Cond := .code yX3_eraseBlock cX3_eraseBlock 3 none :: ([.fieldLink RX3 7 "PairedCellsModel" "states" "[I", .fieldLink RX3 16 "PairedCellsModel" "guards" "[I", .fieldLink RX3 22 "PairedCellsModel" "erased" "[I"] ++ wsX30)
def wsX3_isErased : List Cond := .code yX3_isErased cX3_isErased 4 (some .boolean) :: ([.fieldLink RX3 16 "PairedCellsModel" "guards" "[I", .fieldLink RX3 7 "PairedCellsModel" "states" "[I"] ++ wsX30)
def wsX3_isCovered : List Cond := .code yX3_isCovered cX3_isCovered 3 (some .boolean) :: ([.fieldLink RX3 19 "PairedCellsModel" "guardBytes" "[I"] ++ wsX30)
def wsX3_isRebuilt : List Cond := .code yX3_isRebuilt cX3_isRebuilt 5 (some .boolean) :: ([.fieldLink RX3 7 "PairedCellsModel" "states" "[I", .fieldLink RX3 16 "PairedCellsModel" "guards" "[I", .methodLink RX3 39 yX3_isCovered, .instanceMethod yX3_isCovered, .selects RX3 yX3_isCovered yX3_isCovered, .initialized RX3, .code yX3_isCovered cX3_isCovered 3 (some .boolean), .fieldLink RX3 19 "PairedCellsModel" "guardBytes" "[I"] ++ wsX30)
def wsX3_isReadable : List Cond := .code yX3_isReadable cX3_isReadable 2 (some .boolean) :: ([.fieldLink RX3 7 "PairedCellsModel" "states" "[I", .methodLink RX3 43 yX3_isRebuilt, .instanceMethod yX3_isRebuilt, .selects RX3 yX3_isRebuilt yX3_isRebuilt, .initialized RX3, .code yX3_isRebuilt cX3_isRebuilt 5 (some .boolean), .fieldLink RX3 16 "PairedCellsModel" "guards" "[I", .methodLink RX3 39 yX3_isCovered, .instanceMethod yX3_isCovered, .selects RX3 yX3_isCovered yX3_isCovered, .code yX3_isCovered cX3_isCovered 3 (some .boolean), .fieldLink RX3 19 "PairedCellsModel" "guardBytes" "[I"] ++ wsX30)
def wsX3_byteOf : List Cond := .code yX3_byteOf cX3_byteOf 6 (some .int) :: ([.fieldLink RX3 7 "PairedCellsModel" "states" "[I", .fieldLink RX3 13 "PairedCellsModel" "bytes" "[I", .fieldLink RX3 19 "PairedCellsModel" "guardBytes" "[I", .methodLink RX3 39 yX3_isCovered, .instanceMethod yX3_isCovered, .selects RX3 yX3_isCovered yX3_isCovered, .initialized RX3, .code yX3_isCovered cX3_isCovered 3 (some .boolean)] ++ wsX30)
def wsX3_isCut : List Cond := .code yX3_isCut cX3_isCut 1 (some .boolean) :: ([.fieldLink RX3 47 "PairedCellsModel" "cut" "I", .fieldLink RX3 25 "PairedCellsModel" "on" "Z"] ++ wsX30)
def wsX3_used : List Cond := .code yX3_used cX3_used 4 (some .int) :: ([.fieldLink RX3 7 "PairedCellsModel" "states" "[I"] ++ wsX30)
def wsX3_takesMore : List Cond := .code yX3_takesMore cX3_takesMore 4 (some .boolean) :: ([.fieldLink RX3 7 "PairedCellsModel" "states" "[I", .methodLink RX3 50 yX3_used, .instanceMethod yX3_used, .selects RX3 yX3_used yX3_used, .initialized RX3, .code yX3_used cX3_used 4 (some .int)] ++ wsX30)
def wsX3_isFull : List Cond := .code yX3_isFull cX3_isFull 1 (some .boolean) :: ([.fieldLink RX3 54 "PairedCellsModel" "current" "I", .methodLink RX3 57 yX3_takesMore, .instanceMethod yX3_takesMore, .selects RX3 yX3_takesMore yX3_takesMore, .initialized RX3, .code yX3_takesMore cX3_takesMore 4 (some .boolean), .fieldLink RX3 7 "PairedCellsModel" "states" "[I", .methodLink RX3 50 yX3_used, .instanceMethod yX3_used, .selects RX3 yX3_used yX3_used, .code yX3_used cX3_used 4 (some .int), .methodLink RX3 60 yX3_isErased, .instanceMethod yX3_isErased, .selects RX3 yX3_isErased yX3_isErased, .code yX3_isErased cX3_isErased 4 (some .boolean), .fieldLink RX3 16 "PairedCellsModel" "guards" "[I"] ++ wsX30)
def wsX3_writeGuard : List Cond := .code yX3_writeGuard cX3_writeGuard 5 (some .boolean) :: ([.fieldLink RX3 54 "PairedCellsModel" "current" "I", .fieldLink RX3 16 "PairedCellsModel" "guards" "[I", .fieldLink RX3 19 "PairedCellsModel" "guardBytes" "[I", .fieldLink RX3 7 "PairedCellsModel" "states" "[I", .fieldLink RX3 13 "PairedCellsModel" "bytes" "[I", .methodLink RX3 63 yX3_isCut, .instanceMethod yX3_isCut, .selects RX3 yX3_isCut yX3_isCut, .initialized RX3, .code yX3_isCut cX3_isCut 1 (some .boolean), .fieldLink RX3 47 "PairedCellsModel" "cut" "I", .fieldLink RX3 25 "PairedCellsModel" "on" "Z"] ++ wsX30)
def wsX3_empty : List Cond := .code yX3_empty cX3_empty 2 none :: ([.fieldLink RX3 67 "PairedCellsModel" "held" "I", .fieldLink RX3 29 "PairedCellsModel" "taken" "I", .fieldLink RX3 33 "PairedCellsModel" "open" "[I"] ++ wsX30)
def wsX3_flush_r1 : List Cond := [Cond.fieldLink RX3 54 "PairedCellsModel" "current" "I", Cond.fieldLink RX3 7 "PairedCellsModel" "states" "[I", Cond.fieldLink RX3 73 "PairedCellsModel" "next" "I", Cond.fieldLink RX3 67 "PairedCellsModel" "held" "I", Cond.fieldLink RX3 33 "PairedCellsModel" "open" "[I", Cond.fieldLink RX3 13 "PairedCellsModel" "bytes" "[I", Cond.methodLink RX3 57 yX3_takesMore, Cond.instanceMethod yX3_takesMore, Cond.selects RX3 yX3_takesMore yX3_takesMore, Cond.initialized RX3, Cond.code yX3_takesMore cX3_takesMore 4 (some .boolean), Cond.methodLink RX3 50 yX3_used, Cond.instanceMethod yX3_used, Cond.selects RX3 yX3_used yX3_used, Cond.code yX3_used cX3_used 4 (some .int), Cond.methodLink RX3 70 yX3_writeGuard, Cond.instanceMethod yX3_writeGuard, Cond.selects RX3 yX3_writeGuard yX3_writeGuard, Cond.code yX3_writeGuard cX3_writeGuard 5 (some .boolean), Cond.fieldLink RX3 16 "PairedCellsModel" "guards" "[I", Cond.fieldLink RX3 19 "PairedCellsModel" "guardBytes" "[I", Cond.methodLink RX3 63 yX3_isCut, Cond.instanceMethod yX3_isCut, Cond.selects RX3 yX3_isCut yX3_isCut]
def wsX3_flush_r2 : List Cond := [Cond.code yX3_isCut cX3_isCut 1 (some .boolean), Cond.fieldLink RX3 47 "PairedCellsModel" "cut" "I", Cond.fieldLink RX3 25 "PairedCellsModel" "on" "Z", Cond.methodLink RX3 76 yX3_empty, Cond.instanceMethod yX3_empty, Cond.selects RX3 yX3_empty yX3_empty, Cond.code yX3_empty cX3_empty 2 none, Cond.fieldLink RX3 29 "PairedCellsModel" "taken" "I"]
def wsX3_flush : List Cond := .code yX3_flush cX3_flush 4 (some .boolean) :: ((wsX3_flush_r1 ++ wsX3_flush_r2) ++ wsX30)
def wsX3_append_r1 : List Cond := [Cond.fieldLink RX3 25 "PairedCellsModel" "on" "Z", Cond.fieldLink RX3 36 "PairedCellsModel" "thrown" "I", Cond.fieldLink RX3 29 "PairedCellsModel" "taken" "I", Cond.fieldLink RX3 33 "PairedCellsModel" "open" "[I", Cond.constantLong RX3 85 (255), Cond.fieldLink RX3 67 "PairedCellsModel" "held" "I", Cond.fieldLink RX3 73 "PairedCellsModel" "next" "I", Cond.methodLink RX3 79 yX3_isFull, Cond.instanceMethod yX3_isFull, Cond.selects RX3 yX3_isFull yX3_isFull, Cond.initialized RX3, Cond.code yX3_isFull cX3_isFull 1 (some .boolean), Cond.fieldLink RX3 54 "PairedCellsModel" "current" "I", Cond.methodLink RX3 57 yX3_takesMore, Cond.instanceMethod yX3_takesMore, Cond.selects RX3 yX3_takesMore yX3_takesMore, Cond.code yX3_takesMore cX3_takesMore 4 (some .boolean), Cond.fieldLink RX3 7 "PairedCellsModel" "states" "[I", Cond.methodLink RX3 50 yX3_used, Cond.instanceMethod yX3_used, Cond.selects RX3 yX3_used yX3_used, Cond.code yX3_used cX3_used 4 (some .int), Cond.methodLink RX3 60 yX3_isErased, Cond.instanceMethod yX3_isErased]
def wsX3_append_r2 : List Cond := [Cond.selects RX3 yX3_isErased yX3_isErased, Cond.code yX3_isErased cX3_isErased 4 (some .boolean), Cond.fieldLink RX3 16 "PairedCellsModel" "guards" "[I", Cond.methodLink RX3 82 yX3_flush, Cond.instanceMethod yX3_flush, Cond.selects RX3 yX3_flush yX3_flush, Cond.code yX3_flush cX3_flush 4 (some .boolean), Cond.fieldLink RX3 13 "PairedCellsModel" "bytes" "[I", Cond.methodLink RX3 70 yX3_writeGuard, Cond.instanceMethod yX3_writeGuard, Cond.selects RX3 yX3_writeGuard yX3_writeGuard, Cond.code yX3_writeGuard cX3_writeGuard 5 (some .boolean), Cond.fieldLink RX3 19 "PairedCellsModel" "guardBytes" "[I", Cond.methodLink RX3 63 yX3_isCut, Cond.instanceMethod yX3_isCut, Cond.selects RX3 yX3_isCut yX3_isCut, Cond.code yX3_isCut cX3_isCut 1 (some .boolean), Cond.fieldLink RX3 47 "PairedCellsModel" "cut" "I", Cond.methodLink RX3 76 yX3_empty, Cond.instanceMethod yX3_empty, Cond.selects RX3 yX3_empty yX3_empty, Cond.code yX3_empty cX3_empty 2 none]
def wsX3_append : List Cond := .code yX3_append cX3_append 5 (some .int) :: ((wsX3_append_r1 ++ wsX3_append_r2) ++ wsX30)
def wsX3_sync_r1 : List Cond := [Cond.fieldLink RX3 25 "PairedCellsModel" "on" "Z", Cond.fieldLink RX3 67 "PairedCellsModel" "held" "I", Cond.fieldLink RX3 36 "PairedCellsModel" "thrown" "I", Cond.fieldLink RX3 73 "PairedCellsModel" "next" "I", Cond.methodLink RX3 79 yX3_isFull, Cond.instanceMethod yX3_isFull, Cond.selects RX3 yX3_isFull yX3_isFull, Cond.initialized RX3, Cond.code yX3_isFull cX3_isFull 1 (some .boolean), Cond.fieldLink RX3 54 "PairedCellsModel" "current" "I", Cond.methodLink RX3 57 yX3_takesMore, Cond.instanceMethod yX3_takesMore, Cond.selects RX3 yX3_takesMore yX3_takesMore, Cond.code yX3_takesMore cX3_takesMore 4 (some .boolean), Cond.fieldLink RX3 7 "PairedCellsModel" "states" "[I", Cond.methodLink RX3 50 yX3_used, Cond.instanceMethod yX3_used, Cond.selects RX3 yX3_used yX3_used, Cond.code yX3_used cX3_used 4 (some .int), Cond.methodLink RX3 60 yX3_isErased, Cond.instanceMethod yX3_isErased, Cond.selects RX3 yX3_isErased yX3_isErased, Cond.code yX3_isErased cX3_isErased 4 (some .boolean), Cond.fieldLink RX3 16 "PairedCellsModel" "guards" "[I"]
def wsX3_sync_r2 : List Cond := [Cond.methodLink RX3 82 yX3_flush, Cond.instanceMethod yX3_flush, Cond.selects RX3 yX3_flush yX3_flush, Cond.code yX3_flush cX3_flush 4 (some .boolean), Cond.fieldLink RX3 33 "PairedCellsModel" "open" "[I", Cond.fieldLink RX3 13 "PairedCellsModel" "bytes" "[I", Cond.methodLink RX3 70 yX3_writeGuard, Cond.instanceMethod yX3_writeGuard, Cond.selects RX3 yX3_writeGuard yX3_writeGuard, Cond.code yX3_writeGuard cX3_writeGuard 5 (some .boolean), Cond.fieldLink RX3 19 "PairedCellsModel" "guardBytes" "[I", Cond.methodLink RX3 63 yX3_isCut, Cond.instanceMethod yX3_isCut, Cond.selects RX3 yX3_isCut yX3_isCut, Cond.code yX3_isCut cX3_isCut 1 (some .boolean), Cond.fieldLink RX3 47 "PairedCellsModel" "cut" "I", Cond.methodLink RX3 76 yX3_empty, Cond.instanceMethod yX3_empty, Cond.selects RX3 yX3_empty yX3_empty, Cond.code yX3_empty cX3_empty 2 none, Cond.fieldLink RX3 29 "PairedCellsModel" "taken" "I"]
def wsX3_sync : List Cond := .code yX3_sync cX3_sync 1 (some .int) :: ((wsX3_sync_r1 ++ wsX3_sync_r2) ++ wsX30)
def wsX3_cutAfter : List Cond := .code yX3_cutAfter cX3_cutAfter 2 none :: ([.fieldLink RX3 36 "PairedCellsModel" "thrown" "I", .fieldLink RX3 47 "PairedCellsModel" "cut" "I"] ++ wsX30)
def wsX3_off : List Cond := .code yX3_off cX3_off 1 (some .int) :: ([.fieldLink RX3 25 "PairedCellsModel" "on" "Z", .fieldLink RX3 36 "PairedCellsModel" "thrown" "I", .fieldLink RX3 67 "PairedCellsModel" "held" "I"] ++ wsX30)
def wsX3_firstOf : List Cond := .code yX3_firstOf cX3_firstOf 2 (some .int) :: ([.methodLink RX3 87 yX3_byteOf, .instanceMethod yX3_byteOf, .selects RX3 yX3_byteOf yX3_byteOf, .initialized RX3, .code yX3_byteOf cX3_byteOf 6 (some .int), .fieldLink RX3 7 "PairedCellsModel" "states" "[I", .fieldLink RX3 13 "PairedCellsModel" "bytes" "[I", .fieldLink RX3 19 "PairedCellsModel" "guardBytes" "[I", .methodLink RX3 39 yX3_isCovered, .instanceMethod yX3_isCovered, .selects RX3 yX3_isCovered yX3_isCovered, .code yX3_isCovered cX3_isCovered 3 (some .boolean)] ++ wsX30)
def wsX3_lastOf : List Cond := .code yX3_lastOf cX3_lastOf 2 (some .int) :: ([.methodLink RX3 91 yX3_firstOf, .instanceMethod yX3_firstOf, .selects RX3 yX3_firstOf yX3_firstOf, .initialized RX3, .code yX3_firstOf cX3_firstOf 2 (some .int), .methodLink RX3 87 yX3_byteOf, .instanceMethod yX3_byteOf, .selects RX3 yX3_byteOf yX3_byteOf, .code yX3_byteOf cX3_byteOf 6 (some .int), .fieldLink RX3 7 "PairedCellsModel" "states" "[I", .fieldLink RX3 13 "PairedCellsModel" "bytes" "[I", .fieldLink RX3 19 "PairedCellsModel" "guardBytes" "[I", .methodLink RX3 39 yX3_isCovered, .instanceMethod yX3_isCovered, .selects RX3 yX3_isCovered yX3_isCovered, .code yX3_isCovered cX3_isCovered 3 (some .boolean)] ++ wsX30)
def wsX3_greatestIn_r1 : List Cond := [Cond.methodLink RX3 94 yX3_isReadable, Cond.instanceMethod yX3_isReadable, Cond.selects RX3 yX3_isReadable yX3_isReadable, Cond.initialized RX3, Cond.code yX3_isReadable cX3_isReadable 2 (some .boolean), Cond.fieldLink RX3 7 "PairedCellsModel" "states" "[I", Cond.methodLink RX3 43 yX3_isRebuilt, Cond.instanceMethod yX3_isRebuilt, Cond.selects RX3 yX3_isRebuilt yX3_isRebuilt, Cond.code yX3_isRebuilt cX3_isRebuilt 5 (some .boolean), Cond.fieldLink RX3 16 "PairedCellsModel" "guards" "[I", Cond.methodLink RX3 39 yX3_isCovered, Cond.instanceMethod yX3_isCovered, Cond.selects RX3 yX3_isCovered yX3_isCovered, Cond.code yX3_isCovered cX3_isCovered 3 (some .boolean), Cond.fieldLink RX3 19 "PairedCellsModel" "guardBytes" "[I", Cond.methodLink RX3 97 yX3_lastOf, Cond.instanceMethod yX3_lastOf, Cond.selects RX3 yX3_lastOf yX3_lastOf, Cond.code yX3_lastOf cX3_lastOf 2 (some .int), Cond.methodLink RX3 91 yX3_firstOf, Cond.instanceMethod yX3_firstOf, Cond.selects RX3 yX3_firstOf yX3_firstOf, Cond.code yX3_firstOf cX3_firstOf 2 (some .int)]
def wsX3_greatestIn_r2 : List Cond := [Cond.methodLink RX3 87 yX3_byteOf, Cond.instanceMethod yX3_byteOf, Cond.selects RX3 yX3_byteOf yX3_byteOf, Cond.code yX3_byteOf cX3_byteOf 6 (some .int), Cond.fieldLink RX3 13 "PairedCellsModel" "bytes" "[I"]
def wsX3_greatestIn : List Cond := .code yX3_greatestIn cX3_greatestIn 4 (some .int) :: ((wsX3_greatestIn_r1 ++ wsX3_greatestIn_r2) ++ wsX30)
def wsX3_start_r1 : List Cond := [Cond.fieldLink RX3 25 "PairedCellsModel" "on" "Z", Cond.fieldLink RX3 36 "PairedCellsModel" "thrown" "I", Cond.fieldLink RX3 54 "PairedCellsModel" "current" "I", Cond.fieldLink RX3 107 "PairedCellsModel" "least" "I", Cond.fieldLink RX3 73 "PairedCellsModel" "next" "I", Cond.methodLink RX3 76 yX3_empty, Cond.instanceMethod yX3_empty, Cond.selects RX3 yX3_empty yX3_empty, Cond.initialized RX3, Cond.code yX3_empty cX3_empty 2 none, Cond.fieldLink RX3 67 "PairedCellsModel" "held" "I", Cond.fieldLink RX3 29 "PairedCellsModel" "taken" "I", Cond.fieldLink RX3 33 "PairedCellsModel" "open" "[I", Cond.methodLink RX3 100 yX3_greatestIn, Cond.instanceMethod yX3_greatestIn, Cond.selects RX3 yX3_greatestIn yX3_greatestIn, Cond.code yX3_greatestIn cX3_greatestIn 4 (some .int), Cond.methodLink RX3 94 yX3_isReadable, Cond.instanceMethod yX3_isReadable, Cond.selects RX3 yX3_isReadable yX3_isReadable, Cond.code yX3_isReadable cX3_isReadable 2 (some .boolean), Cond.fieldLink RX3 7 "PairedCellsModel" "states" "[I", Cond.methodLink RX3 43 yX3_isRebuilt, Cond.instanceMethod yX3_isRebuilt]
def wsX3_start_r2 : List Cond := [Cond.selects RX3 yX3_isRebuilt yX3_isRebuilt, Cond.code yX3_isRebuilt cX3_isRebuilt 5 (some .boolean), Cond.fieldLink RX3 16 "PairedCellsModel" "guards" "[I", Cond.methodLink RX3 39 yX3_isCovered, Cond.instanceMethod yX3_isCovered, Cond.selects RX3 yX3_isCovered yX3_isCovered, Cond.code yX3_isCovered cX3_isCovered 3 (some .boolean), Cond.fieldLink RX3 19 "PairedCellsModel" "guardBytes" "[I", Cond.methodLink RX3 97 yX3_lastOf, Cond.instanceMethod yX3_lastOf, Cond.selects RX3 yX3_lastOf yX3_lastOf, Cond.code yX3_lastOf cX3_lastOf 2 (some .int), Cond.methodLink RX3 91 yX3_firstOf, Cond.instanceMethod yX3_firstOf, Cond.selects RX3 yX3_firstOf yX3_firstOf, Cond.code yX3_firstOf cX3_firstOf 2 (some .int), Cond.methodLink RX3 87 yX3_byteOf, Cond.instanceMethod yX3_byteOf, Cond.selects RX3 yX3_byteOf yX3_byteOf, Cond.code yX3_byteOf cX3_byteOf 6 (some .int), Cond.fieldLink RX3 13 "PairedCellsModel" "bytes" "[I", Cond.methodLink RX3 60 yX3_isErased, Cond.instanceMethod yX3_isErased, Cond.selects RX3 yX3_isErased yX3_isErased]
def wsX3_start_r3 : List Cond := [Cond.code yX3_isErased cX3_isErased 4 (some .boolean), Cond.methodLink RX3 103 yX3_eraseBlock, Cond.instanceMethod yX3_eraseBlock, Cond.selects RX3 yX3_eraseBlock yX3_eraseBlock, Cond.code yX3_eraseBlock cX3_eraseBlock 3 none, Cond.fieldLink RX3 22 "PairedCellsModel" "erased" "[I"]
def wsX3_start : List Cond := .code yX3_start cX3_start 6 (some .int) :: ((wsX3_start_r1 ++ (wsX3_start_r2 ++ wsX3_start_r3)) ++ wsX30)
def wsX3_trim_r1 : List Cond := [Cond.fieldLink RX3 25 "PairedCellsModel" "on" "Z", Cond.fieldLink RX3 107 "PairedCellsModel" "least" "I", Cond.fieldLink RX3 73 "PairedCellsModel" "next" "I", Cond.fieldLink RX3 36 "PairedCellsModel" "thrown" "I", Cond.fieldLink RX3 54 "PairedCellsModel" "current" "I", Cond.methodLink RX3 60 yX3_isErased, Cond.instanceMethod yX3_isErased, Cond.selects RX3 yX3_isErased yX3_isErased, Cond.initialized RX3, Cond.code yX3_isErased cX3_isErased 4 (some .boolean), Cond.fieldLink RX3 16 "PairedCellsModel" "guards" "[I", Cond.fieldLink RX3 7 "PairedCellsModel" "states" "[I", Cond.methodLink RX3 100 yX3_greatestIn, Cond.instanceMethod yX3_greatestIn, Cond.selects RX3 yX3_greatestIn yX3_greatestIn, Cond.code yX3_greatestIn cX3_greatestIn 4 (some .int), Cond.methodLink RX3 94 yX3_isReadable, Cond.instanceMethod yX3_isReadable, Cond.selects RX3 yX3_isReadable yX3_isReadable, Cond.code yX3_isReadable cX3_isReadable 2 (some .boolean), Cond.methodLink RX3 43 yX3_isRebuilt, Cond.instanceMethod yX3_isRebuilt, Cond.selects RX3 yX3_isRebuilt yX3_isRebuilt, Cond.code yX3_isRebuilt cX3_isRebuilt 5 (some .boolean)]
def wsX3_trim_r2 : List Cond := [Cond.methodLink RX3 39 yX3_isCovered, Cond.instanceMethod yX3_isCovered, Cond.selects RX3 yX3_isCovered yX3_isCovered, Cond.code yX3_isCovered cX3_isCovered 3 (some .boolean), Cond.fieldLink RX3 19 "PairedCellsModel" "guardBytes" "[I", Cond.methodLink RX3 97 yX3_lastOf, Cond.instanceMethod yX3_lastOf, Cond.selects RX3 yX3_lastOf yX3_lastOf, Cond.code yX3_lastOf cX3_lastOf 2 (some .int), Cond.methodLink RX3 91 yX3_firstOf, Cond.instanceMethod yX3_firstOf, Cond.selects RX3 yX3_firstOf yX3_firstOf, Cond.code yX3_firstOf cX3_firstOf 2 (some .int), Cond.methodLink RX3 87 yX3_byteOf, Cond.instanceMethod yX3_byteOf, Cond.selects RX3 yX3_byteOf yX3_byteOf, Cond.code yX3_byteOf cX3_byteOf 6 (some .int), Cond.fieldLink RX3 13 "PairedCellsModel" "bytes" "[I", Cond.methodLink RX3 103 yX3_eraseBlock, Cond.instanceMethod yX3_eraseBlock, Cond.selects RX3 yX3_eraseBlock yX3_eraseBlock, Cond.code yX3_eraseBlock cX3_eraseBlock 3 none, Cond.fieldLink RX3 22 "PairedCellsModel" "erased" "[I"]
def wsX3_trim : List Cond := .code yX3_trim cX3_trim 4 (some .int) :: ((wsX3_trim_r1 ++ wsX3_trim_r2) ++ wsX30)
def wsX3_first : List Cond := .code yX3_first cX3_first 1 (some .int) :: ([.fieldLink RX3 25 "PairedCellsModel" "on" "Z", .fieldLink RX3 36 "PairedCellsModel" "thrown" "I", .fieldLink RX3 107 "PairedCellsModel" "least" "I"] ++ wsX30)
def wsX3_count : List Cond := .code yX3_count cX3_count 1 (some .int) :: ([.fieldLink RX3 25 "PairedCellsModel" "on" "Z", .fieldLink RX3 36 "PairedCellsModel" "thrown" "I", .fieldLink RX3 73 "PairedCellsModel" "next" "I"] ++ wsX30)
def wsX3_foundByte : List Cond := .code yX3_foundByte cX3_foundByte 2 (some .int) :: ([.fieldLink RX3 110 "PairedCellsModel" "foundPage" "I", .fieldLink RX3 33 "PairedCellsModel" "open" "[I", .methodLink RX3 87 yX3_byteOf, .instanceMethod yX3_byteOf, .selects RX3 yX3_byteOf yX3_byteOf, .initialized RX3, .code yX3_byteOf cX3_byteOf 6 (some .int), .fieldLink RX3 7 "PairedCellsModel" "states" "[I", .fieldLink RX3 13 "PairedCellsModel" "bytes" "[I", .fieldLink RX3 19 "PairedCellsModel" "guardBytes" "[I", .methodLink RX3 39 yX3_isCovered, .instanceMethod yX3_isCovered, .selects RX3 yX3_isCovered yX3_isCovered, .code yX3_isCovered cX3_isCovered 3 (some .boolean)] ++ wsX30)
def wsX3_find_r1 : List Cond := [Cond.fieldLink RX3 110 "PairedCellsModel" "foundPage" "I", Cond.fieldLink RX3 113 "PairedCellsModel" "foundAt" "I", Cond.fieldLink RX3 73 "PairedCellsModel" "next" "I", Cond.fieldLink RX3 67 "PairedCellsModel" "held" "I", Cond.methodLink RX3 94 yX3_isReadable, Cond.instanceMethod yX3_isReadable, Cond.selects RX3 yX3_isReadable yX3_isReadable, Cond.initialized RX3, Cond.code yX3_isReadable cX3_isReadable 2 (some .boolean), Cond.fieldLink RX3 7 "PairedCellsModel" "states" "[I", Cond.methodLink RX3 43 yX3_isRebuilt, Cond.instanceMethod yX3_isRebuilt, Cond.selects RX3 yX3_isRebuilt yX3_isRebuilt, Cond.code yX3_isRebuilt cX3_isRebuilt 5 (some .boolean), Cond.fieldLink RX3 16 "PairedCellsModel" "guards" "[I", Cond.methodLink RX3 39 yX3_isCovered, Cond.instanceMethod yX3_isCovered, Cond.selects RX3 yX3_isCovered yX3_isCovered, Cond.code yX3_isCovered cX3_isCovered 3 (some .boolean), Cond.fieldLink RX3 19 "PairedCellsModel" "guardBytes" "[I", Cond.methodLink RX3 91 yX3_firstOf, Cond.instanceMethod yX3_firstOf, Cond.selects RX3 yX3_firstOf yX3_firstOf, Cond.code yX3_firstOf cX3_firstOf 2 (some .int)]
def wsX3_find_r2 : List Cond := [Cond.methodLink RX3 87 yX3_byteOf, Cond.instanceMethod yX3_byteOf, Cond.selects RX3 yX3_byteOf yX3_byteOf, Cond.code yX3_byteOf cX3_byteOf 6 (some .int), Cond.fieldLink RX3 13 "PairedCellsModel" "bytes" "[I", Cond.methodLink RX3 97 yX3_lastOf, Cond.instanceMethod yX3_lastOf, Cond.selects RX3 yX3_lastOf yX3_lastOf, Cond.code yX3_lastOf cX3_lastOf 2 (some .int), Cond.methodLink RX3 116 yX3_foundByte, Cond.instanceMethod yX3_foundByte, Cond.selects RX3 yX3_foundByte yX3_foundByte, Cond.code yX3_foundByte cX3_foundByte 2 (some .int), Cond.fieldLink RX3 33 "PairedCellsModel" "open" "[I"]
def wsX3_find : List Cond := .code yX3_find cX3_find 4 none :: ((wsX3_find_r1 ++ wsX3_find_r2) ++ wsX30)
def wsX3_length_r1 : List Cond := [Cond.fieldLink RX3 25 "PairedCellsModel" "on" "Z", Cond.fieldLink RX3 107 "PairedCellsModel" "least" "I", Cond.fieldLink RX3 73 "PairedCellsModel" "next" "I", Cond.fieldLink RX3 36 "PairedCellsModel" "thrown" "I", Cond.fieldLink RX3 110 "PairedCellsModel" "foundPage" "I", Cond.fieldLink RX3 113 "PairedCellsModel" "foundAt" "I", Cond.methodLink RX3 119 yX3_find, Cond.instanceMethod yX3_find, Cond.selects RX3 yX3_find yX3_find, Cond.initialized RX3, Cond.code yX3_find cX3_find 4 none, Cond.fieldLink RX3 67 "PairedCellsModel" "held" "I", Cond.methodLink RX3 94 yX3_isReadable, Cond.instanceMethod yX3_isReadable, Cond.selects RX3 yX3_isReadable yX3_isReadable, Cond.code yX3_isReadable cX3_isReadable 2 (some .boolean), Cond.fieldLink RX3 7 "PairedCellsModel" "states" "[I", Cond.methodLink RX3 43 yX3_isRebuilt, Cond.instanceMethod yX3_isRebuilt, Cond.selects RX3 yX3_isRebuilt yX3_isRebuilt, Cond.code yX3_isRebuilt cX3_isRebuilt 5 (some .boolean), Cond.fieldLink RX3 16 "PairedCellsModel" "guards" "[I", Cond.methodLink RX3 39 yX3_isCovered, Cond.instanceMethod yX3_isCovered]
def wsX3_length_r2 : List Cond := [Cond.selects RX3 yX3_isCovered yX3_isCovered, Cond.code yX3_isCovered cX3_isCovered 3 (some .boolean), Cond.fieldLink RX3 19 "PairedCellsModel" "guardBytes" "[I", Cond.methodLink RX3 91 yX3_firstOf, Cond.instanceMethod yX3_firstOf, Cond.selects RX3 yX3_firstOf yX3_firstOf, Cond.code yX3_firstOf cX3_firstOf 2 (some .int), Cond.methodLink RX3 87 yX3_byteOf, Cond.instanceMethod yX3_byteOf, Cond.selects RX3 yX3_byteOf yX3_byteOf, Cond.code yX3_byteOf cX3_byteOf 6 (some .int), Cond.fieldLink RX3 13 "PairedCellsModel" "bytes" "[I", Cond.methodLink RX3 97 yX3_lastOf, Cond.instanceMethod yX3_lastOf, Cond.selects RX3 yX3_lastOf yX3_lastOf, Cond.code yX3_lastOf cX3_lastOf 2 (some .int), Cond.methodLink RX3 116 yX3_foundByte, Cond.instanceMethod yX3_foundByte, Cond.selects RX3 yX3_foundByte yX3_foundByte, Cond.code yX3_foundByte cX3_foundByte 2 (some .int), Cond.fieldLink RX3 33 "PairedCellsModel" "open" "[I"]
def wsX3_length : List Cond := .code yX3_length cX3_length 2 (some .int) :: ((wsX3_length_r1 ++ wsX3_length_r2) ++ wsX30)
def wsX3_event_r1 : List Cond := [Cond.fieldLink RX3 25 "PairedCellsModel" "on" "Z", Cond.fieldLink RX3 107 "PairedCellsModel" "least" "I", Cond.fieldLink RX3 73 "PairedCellsModel" "next" "I", Cond.fieldLink RX3 36 "PairedCellsModel" "thrown" "I", Cond.fieldLink RX3 110 "PairedCellsModel" "foundPage" "I", Cond.fieldLink RX3 113 "PairedCellsModel" "foundAt" "I", Cond.methodLink RX3 119 yX3_find, Cond.instanceMethod yX3_find, Cond.selects RX3 yX3_find yX3_find, Cond.initialized RX3, Cond.code yX3_find cX3_find 4 none, Cond.fieldLink RX3 67 "PairedCellsModel" "held" "I", Cond.methodLink RX3 94 yX3_isReadable, Cond.instanceMethod yX3_isReadable, Cond.selects RX3 yX3_isReadable yX3_isReadable, Cond.code yX3_isReadable cX3_isReadable 2 (some .boolean), Cond.fieldLink RX3 7 "PairedCellsModel" "states" "[I", Cond.methodLink RX3 43 yX3_isRebuilt, Cond.instanceMethod yX3_isRebuilt, Cond.selects RX3 yX3_isRebuilt yX3_isRebuilt, Cond.code yX3_isRebuilt cX3_isRebuilt 5 (some .boolean), Cond.fieldLink RX3 16 "PairedCellsModel" "guards" "[I", Cond.methodLink RX3 39 yX3_isCovered, Cond.instanceMethod yX3_isCovered]
def wsX3_event_r2 : List Cond := [Cond.selects RX3 yX3_isCovered yX3_isCovered, Cond.code yX3_isCovered cX3_isCovered 3 (some .boolean), Cond.fieldLink RX3 19 "PairedCellsModel" "guardBytes" "[I", Cond.methodLink RX3 91 yX3_firstOf, Cond.instanceMethod yX3_firstOf, Cond.selects RX3 yX3_firstOf yX3_firstOf, Cond.code yX3_firstOf cX3_firstOf 2 (some .int), Cond.methodLink RX3 87 yX3_byteOf, Cond.instanceMethod yX3_byteOf, Cond.selects RX3 yX3_byteOf yX3_byteOf, Cond.code yX3_byteOf cX3_byteOf 6 (some .int), Cond.fieldLink RX3 13 "PairedCellsModel" "bytes" "[I", Cond.methodLink RX3 97 yX3_lastOf, Cond.instanceMethod yX3_lastOf, Cond.selects RX3 yX3_lastOf yX3_lastOf, Cond.code yX3_lastOf cX3_lastOf 2 (some .int), Cond.methodLink RX3 116 yX3_foundByte, Cond.instanceMethod yX3_foundByte, Cond.selects RX3 yX3_foundByte yX3_foundByte, Cond.code yX3_foundByte cX3_foundByte 2 (some .int), Cond.fieldLink RX3 33 "PairedCellsModel" "open" "[I"]
def wsX3_event : List Cond := .code yX3_event cX3_event 5 (some .long) :: ((wsX3_event_r1 ++ wsX3_event_r2) ++ wsX30)
def wsX3_noPage : List Cond := .code yX3_noPage cX3_noPage 2 (some .boolean) :: ([])
def wsX3_place : List Cond := .code yX3_place cX3_place 3 (some .int) :: ([])
def wsX3_ruin : List Cond := .code yX3_ruin cX3_ruin 4 (some .boolean) :: ([.fieldLink RX3 36 "PairedCellsModel" "thrown" "I", .fieldLink RX3 7 "PairedCellsModel" "states" "[I", .methodLink RX3 122 yX3_noPage, .static yX3_noPage, .initialized RX3, .code yX3_noPage cX3_noPage 2 (some .boolean), .methodLink RX3 125 yX3_place, .static yX3_place, .code yX3_place cX3_place 3 (some .int)] ++ wsX30)
def wsX3_page : List Cond := .code yX3_page cX3_page 5 (some .int) :: ([.fieldLink RX3 36 "PairedCellsModel" "thrown" "I", .fieldLink RX3 7 "PairedCellsModel" "states" "[I", .methodLink RX3 122 yX3_noPage, .static yX3_noPage, .initialized RX3, .code yX3_noPage cX3_noPage 2 (some .boolean), .methodLink RX3 125 yX3_place, .static yX3_place, .code yX3_place cX3_place 3 (some .int), .methodLink RX3 43 yX3_isRebuilt, .instanceMethod yX3_isRebuilt, .selects RX3 yX3_isRebuilt yX3_isRebuilt, .code yX3_isRebuilt cX3_isRebuilt 5 (some .boolean), .fieldLink RX3 16 "PairedCellsModel" "guards" "[I", .methodLink RX3 39 yX3_isCovered, .instanceMethod yX3_isCovered, .selects RX3 yX3_isCovered yX3_isCovered, .code yX3_isCovered cX3_isCovered 3 (some .boolean), .fieldLink RX3 19 "PairedCellsModel" "guardBytes" "[I"] ++ wsX30)
def wsX3_at_r1 : List Cond := [Cond.fieldLink RX3 36 "PairedCellsModel" "thrown" "I", Cond.methodLink RX3 122 yX3_noPage, Cond.static yX3_noPage, Cond.initialized RX3, Cond.code yX3_noPage cX3_noPage 2 (some .boolean), Cond.methodLink RX3 125 yX3_place, Cond.static yX3_place, Cond.code yX3_place cX3_place 3 (some .int), Cond.methodLink RX3 94 yX3_isReadable, Cond.instanceMethod yX3_isReadable, Cond.selects RX3 yX3_isReadable yX3_isReadable, Cond.code yX3_isReadable cX3_isReadable 2 (some .boolean), Cond.fieldLink RX3 7 "PairedCellsModel" "states" "[I", Cond.methodLink RX3 43 yX3_isRebuilt, Cond.instanceMethod yX3_isRebuilt, Cond.selects RX3 yX3_isRebuilt yX3_isRebuilt, Cond.code yX3_isRebuilt cX3_isRebuilt 5 (some .boolean), Cond.fieldLink RX3 16 "PairedCellsModel" "guards" "[I", Cond.methodLink RX3 39 yX3_isCovered, Cond.instanceMethod yX3_isCovered, Cond.selects RX3 yX3_isCovered yX3_isCovered, Cond.code yX3_isCovered cX3_isCovered 3 (some .boolean), Cond.fieldLink RX3 19 "PairedCellsModel" "guardBytes" "[I", Cond.methodLink RX3 87 yX3_byteOf]
def wsX3_at_r2 : List Cond := [Cond.instanceMethod yX3_byteOf, Cond.selects RX3 yX3_byteOf yX3_byteOf, Cond.code yX3_byteOf cX3_byteOf 6 (some .int), Cond.fieldLink RX3 13 "PairedCellsModel" "bytes" "[I"]
def wsX3_at : List Cond := .code yX3_at cX3_at 6 (some .int) :: ((wsX3_at_r1 ++ wsX3_at_r2) ++ wsX30)
def wsX3_guard : List Cond := .code yX3_guard cX3_guard 2 (some .int) :: ([.fieldLink RX3 36 "PairedCellsModel" "thrown" "I", .fieldLink RX3 16 "PairedCellsModel" "guards" "[I"] ++ wsX30)
def wsX3_guarded : List Cond := .code yX3_guarded cX3_guarded 3 (some .int) :: ([.fieldLink RX3 36 "PairedCellsModel" "thrown" "I", .fieldLink RX3 16 "PairedCellsModel" "guards" "[I", .fieldLink RX3 19 "PairedCellsModel" "guardBytes" "[I"] ++ wsX30)
def wsX3_told : List Cond := .code yX3_told cX3_told 4 (some .int) :: ([.fieldLink RX3 36 "PairedCellsModel" "thrown" "I", .fieldLink RX3 22 "PairedCellsModel" "erased" "[I", .fieldLink RX3 54 "PairedCellsModel" "current" "I", .fieldLink RX3 25 "PairedCellsModel" "on" "Z", .fieldLink RX3 47 "PairedCellsModel" "cut" "I", .methodLink RX3 60 yX3_isErased, .instanceMethod yX3_isErased, .selects RX3 yX3_isErased yX3_isErased, .initialized RX3, .code yX3_isErased cX3_isErased 4 (some .boolean), .fieldLink RX3 16 "PairedCellsModel" "guards" "[I", .fieldLink RX3 7 "PairedCellsModel" "states" "[I"] ++ wsX30)
def wsJ9_max_7cf53 : List Cond := .code yJ9_max_7cf53 cJ9_max_7cf53 2 (some .int) :: ([])
def wsL_append_r1 : List Cond := [Cond.classLink RL 13 "java/lang/IllegalStateException", Cond.classLink RL 15 "java/lang/IllegalArgumentException", Cond.classLink RL 17 "java/lang/UnsupportedOperationException", Cond.methodLink RL 7 yX2_append, Cond.instanceMethod yX2_append, Cond.selects RX2 yX2_append yX2_append, Cond.initialized RX2, Cond.code yX2_append cX2_append 4 (some .int), Cond.classLink RX2 46 "java/lang/IllegalArgumentException", Cond.initialized "java/lang/IllegalArgumentException", Cond.fieldLink RX2 18 "PairedCells" "openPage" "LPairedCells$EventPage;", Cond.fieldLink RX2 32 "PairedCells" "nextEvent" "I", Cond.methodLink RX2 43 yX2_requirePower, Cond.instanceMethod yX2_requirePower, Cond.selects RX2 yX2_requirePower yX2_requirePower, Cond.code yX2_requirePower cX2_requirePower 1 none, Cond.classLink RX2 74 "java/lang/IllegalStateException", Cond.initialized "java/lang/IllegalStateException", Cond.fieldLink RX2 38 "PairedCells" "powerOn" "Z", Cond.methodLink RX2 53 yX1_fits, Cond.instanceMethod yX1_fits, Cond.selects RX1 yX1_fits yX1_fits, Cond.initialized RX1, Cond.code yX1_fits cX1_fits 2 (some .boolean)]
def wsL_append_r2 : List Cond := [Cond.methodLink RX1 21 yX1_events, Cond.instanceMethod yX1_events, Cond.selects RX1 yX1_events yX1_events, Cond.code yX1_events cX1_events 1 (some .int), Cond.fieldLink RX1 9 "PairedCells$EventPage" "bytes" "[I", Cond.methodLink RX1 35 yX1_placeOfRow, Cond.instanceMethod yX1_placeOfRow, Cond.selects RX1 yX1_placeOfRow yX1_placeOfRow, Cond.code yX1_placeOfRow cX1_placeOfRow 4 (some .int), Cond.methodLink RX2 57 yX2_flush, Cond.instanceMethod yX2_flush, Cond.selects RX2 yX2_flush yX2_flush, Cond.code yX2_flush cX2_flush 3 (some .boolean), Cond.fieldLink RX2 25 "PairedCells" "current" "I", Cond.fieldLink RX2 11 "PairedCells" "blocks" "[LPairedCells$Block;", Cond.methodLink RX2 175 yX2_blockToProgram, Cond.instanceMethod yX2_blockToProgram, Cond.selects RX2 yX2_blockToProgram yX2_blockToProgram, Cond.code yX2_blockToProgram cX2_blockToProgram 2 (some .int), Cond.classLink RX2 198 "java/lang/UnsupportedOperationException", Cond.initialized "java/lang/UnsupportedOperationException", Cond.methodLink RX2 195 yX0_takesMore, Cond.instanceMethod yX0_takesMore, Cond.selects RX0 yX0_takesMore yX0_takesMore]
def wsL_append_r3 : List Cond := [Cond.initialized RX0, Cond.code yX0_takesMore cX0_takesMore 2 (some .boolean), Cond.fieldLink RX0 9 "PairedCells$Block" "states" "[I", Cond.methodLink RX0 28 yX0_nextPlace, Cond.instanceMethod yX0_nextPlace, Cond.selects RX0 yX0_nextPlace yX0_nextPlace, Cond.code yX0_nextPlace cX0_nextPlace 2 (some .int), Cond.methodLink RX2 90 yX0_isErased, Cond.instanceMethod yX0_isErased, Cond.selects RX0 yX0_isErased yX0_isErased, Cond.code yX0_isErased cX0_isErased 1 (some .boolean), Cond.methodLink RX2 178 yX0_nextPlace, Cond.methodLink RX2 181 yX2_programGuard, Cond.instanceMethod yX2_programGuard, Cond.selects RX2 yX2_programGuard yX2_programGuard, Cond.code yX2_programGuard cX2_programGuard 2 (some .boolean), Cond.methodLink RX2 185 yX2_cutIsDue, Cond.instanceMethod yX2_cutIsDue, Cond.selects RX2 yX2_cutIsDue yX2_cutIsDue, Cond.code yX2_cutIsDue cX2_cutIsDue 1 (some .boolean), Cond.fieldLink RX2 35 "PairedCells" "cutIn" "I", Cond.methodLink RX2 203 yX0_writeGuard, Cond.instanceMethod yX0_writeGuard, Cond.selects RX0 yX0_writeGuard yX0_writeGuard]
def wsL_append_r4 : List Cond := [Cond.code yX0_writeGuard cX0_writeGuard 3 none, Cond.fieldLink RX0 18 "PairedCells$Block" "guardBytes" "[I", Cond.fieldLink RX0 15 "PairedCells$Block" "bytes" "[I", Cond.fieldLink RX0 21 "PairedCells$Block" "guardState" "I", Cond.methodLink RX0 32 yJ7_fill_53178, Cond.static yJ7_fill_53178, Cond.initialized RJ7, Cond.code yJ7_fill_53178 cJ7_fill_53178 4 none, Cond.methodLink RX2 188 yX0_cutAt, Cond.instanceMethod yX0_cutAt, Cond.selects RX0 yX0_cutAt yX0_cutAt, Cond.code yX0_cutAt cX0_cutAt 2 none, Cond.methodLink RX2 191 yX0_write, Cond.instanceMethod yX0_write, Cond.selects RX0 yX0_write yX0_write, Cond.code yX0_write cX0_write 3 none, Cond.methodLink RX0 41 arraycopyName, Cond.native arraycopyName, Cond.static arraycopyName, Cond.initialized "java/lang/System", Cond.methodLink RX2 79 yX1_clear, Cond.instanceMethod yX1_clear, Cond.selects RX1 yX1_clear yX1_clear, Cond.code yX1_clear cX1_clear 1 none]
def wsL_append_r5 : List Cond := [Cond.methodLink RX1 15 yJ7_fill_53178, Cond.methodLink RX2 61 yX1_add, Cond.instanceMethod yX1_add, Cond.selects RX1 yX1_add yX1_add, Cond.code yX1_add cX1_add 7 none, Cond.constantLong RX1 39 (255), Cond.methodLink RX1 28 yX1_isEmpty, Cond.instanceMethod yX1_isEmpty, Cond.selects RX1 yX1_isEmpty yX1_isEmpty, Cond.code yX1_isEmpty cX1_isEmpty 1 (some .boolean)]
def wsL_append : List Cond := .codeWith yL_append cL_append 6 (some .int) [(0, 11, 14, 13), (0, 11, 18, 15), (0, 11, 22, 17)] :: ((wsL_append_r1 ++ (wsL_append_r2 ++ (wsL_append_r3 ++ (wsL_append_r4 ++ wsL_append_r5)))) ++ wsX20 ++ wsX10 ++ wsX00 ++ (vx_atS RX2 50 "java/lang/IllegalArgumentException" ["java/lang/RuntimeException", "java/lang/Exception"]).filter goodWord ++ (vx_atS RX2 78 "java/lang/IllegalStateException" ["java/lang/RuntimeException", "java/lang/Exception"]).filter goodWord ++ (vx_atS RX2 202 "java/lang/UnsupportedOperationException" ["java/lang/RuntimeException", "java/lang/Exception"]).filter goodWord)
def wsL_sync_r1 : List Cond := [Cond.classLink RL 13 "java/lang/IllegalStateException", Cond.classLink RL 17 "java/lang/UnsupportedOperationException", Cond.methodLink RL 19 yX2_sync, Cond.instanceMethod yX2_sync, Cond.selects RX2 yX2_sync yX2_sync, Cond.initialized RX2, Cond.code yX2_sync cX2_sync 1 (some .int), Cond.fieldLink RX2 18 "PairedCells" "openPage" "LPairedCells$EventPage;", Cond.fieldLink RX2 32 "PairedCells" "nextEvent" "I", Cond.methodLink RX2 43 yX2_requirePower, Cond.instanceMethod yX2_requirePower, Cond.selects RX2 yX2_requirePower yX2_requirePower, Cond.code yX2_requirePower cX2_requirePower 1 none, Cond.classLink RX2 74 "java/lang/IllegalStateException", Cond.initialized "java/lang/IllegalStateException", Cond.fieldLink RX2 38 "PairedCells" "powerOn" "Z", Cond.methodLink RX2 65 yX1_isEmpty, Cond.instanceMethod yX1_isEmpty, Cond.selects RX1 yX1_isEmpty yX1_isEmpty, Cond.initialized RX1, Cond.code yX1_isEmpty cX1_isEmpty 1 (some .boolean), Cond.methodLink RX1 21 yX1_events, Cond.instanceMethod yX1_events, Cond.selects RX1 yX1_events yX1_events]
def wsL_sync_r2 : List Cond := [Cond.code yX1_events cX1_events 1 (some .int), Cond.fieldLink RX1 9 "PairedCells$EventPage" "bytes" "[I", Cond.methodLink RX2 57 yX2_flush, Cond.instanceMethod yX2_flush, Cond.selects RX2 yX2_flush yX2_flush, Cond.code yX2_flush cX2_flush 3 (some .boolean), Cond.fieldLink RX2 25 "PairedCells" "current" "I", Cond.fieldLink RX2 11 "PairedCells" "blocks" "[LPairedCells$Block;", Cond.methodLink RX2 175 yX2_blockToProgram, Cond.instanceMethod yX2_blockToProgram, Cond.selects RX2 yX2_blockToProgram yX2_blockToProgram, Cond.code yX2_blockToProgram cX2_blockToProgram 2 (some .int), Cond.classLink RX2 198 "java/lang/UnsupportedOperationException", Cond.initialized "java/lang/UnsupportedOperationException", Cond.methodLink RX2 195 yX0_takesMore, Cond.instanceMethod yX0_takesMore, Cond.selects RX0 yX0_takesMore yX0_takesMore, Cond.initialized RX0, Cond.code yX0_takesMore cX0_takesMore 2 (some .boolean), Cond.fieldLink RX0 9 "PairedCells$Block" "states" "[I", Cond.methodLink RX0 28 yX0_nextPlace, Cond.instanceMethod yX0_nextPlace, Cond.selects RX0 yX0_nextPlace yX0_nextPlace, Cond.code yX0_nextPlace cX0_nextPlace 2 (some .int)]
def wsL_sync_r3 : List Cond := [Cond.methodLink RX2 90 yX0_isErased, Cond.instanceMethod yX0_isErased, Cond.selects RX0 yX0_isErased yX0_isErased, Cond.code yX0_isErased cX0_isErased 1 (some .boolean), Cond.methodLink RX2 178 yX0_nextPlace, Cond.methodLink RX2 181 yX2_programGuard, Cond.instanceMethod yX2_programGuard, Cond.selects RX2 yX2_programGuard yX2_programGuard, Cond.code yX2_programGuard cX2_programGuard 2 (some .boolean), Cond.methodLink RX2 185 yX2_cutIsDue, Cond.instanceMethod yX2_cutIsDue, Cond.selects RX2 yX2_cutIsDue yX2_cutIsDue, Cond.code yX2_cutIsDue cX2_cutIsDue 1 (some .boolean), Cond.fieldLink RX2 35 "PairedCells" "cutIn" "I", Cond.methodLink RX2 203 yX0_writeGuard, Cond.instanceMethod yX0_writeGuard, Cond.selects RX0 yX0_writeGuard yX0_writeGuard, Cond.code yX0_writeGuard cX0_writeGuard 3 none, Cond.fieldLink RX0 18 "PairedCells$Block" "guardBytes" "[I", Cond.fieldLink RX0 15 "PairedCells$Block" "bytes" "[I", Cond.fieldLink RX0 21 "PairedCells$Block" "guardState" "I", Cond.methodLink RX0 32 yJ7_fill_53178, Cond.static yJ7_fill_53178, Cond.initialized RJ7]
def wsL_sync_r4 : List Cond := [Cond.code yJ7_fill_53178 cJ7_fill_53178 4 none, Cond.methodLink RX2 188 yX0_cutAt, Cond.instanceMethod yX0_cutAt, Cond.selects RX0 yX0_cutAt yX0_cutAt, Cond.code yX0_cutAt cX0_cutAt 2 none, Cond.methodLink RX2 191 yX0_write, Cond.instanceMethod yX0_write, Cond.selects RX0 yX0_write yX0_write, Cond.code yX0_write cX0_write 3 none, Cond.methodLink RX0 41 arraycopyName, Cond.native arraycopyName, Cond.static arraycopyName, Cond.initialized "java/lang/System", Cond.methodLink RX2 79 yX1_clear, Cond.instanceMethod yX1_clear, Cond.selects RX1 yX1_clear yX1_clear, Cond.code yX1_clear cX1_clear 1 none, Cond.methodLink RX1 15 yJ7_fill_53178]
def wsL_sync : List Cond := .codeWith yL_sync cL_sync 3 (some .int) [(0, 8, 11, 13), (0, 8, 14, 17)] :: ((wsL_sync_r1 ++ (wsL_sync_r2 ++ (wsL_sync_r3 ++ wsL_sync_r4))) ++ wsX20 ++ wsX10 ++ wsX00 ++ (vx_atS RX2 78 "java/lang/IllegalStateException" ["java/lang/RuntimeException", "java/lang/Exception"]).filter goodWord ++ (vx_atS RX2 202 "java/lang/UnsupportedOperationException" ["java/lang/RuntimeException", "java/lang/Exception"]).filter goodWord)
def wsL_cutAfter : List Cond := .codeWith yL_cutAfter cL_cutAfter 3 (some .int) [(0, 5, 8, 15)] :: ([.classLink RL 15 "java/lang/IllegalArgumentException", .methodLink RL 23 yX2_cutAfter, .instanceMethod yX2_cutAfter, .selects RX2 yX2_cutAfter yX2_cutAfter, .initialized RX2, .code yX2_cutAfter cX2_cutAfter 2 none, .classLink RX2 46 "java/lang/IllegalArgumentException", .initialized "java/lang/IllegalArgumentException", .fieldLink RX2 35 "PairedCells" "cutIn" "I"] ++ wsX20 ++ (vx_atS RX2 50 "java/lang/IllegalArgumentException" ["java/lang/RuntimeException", "java/lang/Exception"]).filter goodWord)
def wsL_off : List Cond := .codeWith yL_off cL_off 3 (some .int) [(0, 8, 11, 13)] :: ([.classLink RL 13 "java/lang/IllegalStateException", .methodLink RL 27 yX2_off, .instanceMethod yX2_off, .selects RX2 yX2_off yX2_off, .initialized RX2, .code yX2_off cX2_off 1 (some .int), .fieldLink RX2 38 "PairedCells" "powerOn" "Z", .fieldLink RX2 18 "PairedCells" "openPage" "LPairedCells$EventPage;", .methodLink RX2 43 yX2_requirePower, .instanceMethod yX2_requirePower, .selects RX2 yX2_requirePower yX2_requirePower, .code yX2_requirePower cX2_requirePower 1 none, .classLink RX2 74 "java/lang/IllegalStateException", .initialized "java/lang/IllegalStateException", .methodLink RX2 70 yX1_events, .instanceMethod yX1_events, .selects RX1 yX1_events yX1_events, .initialized RX1, .code yX1_events cX1_events 1 (some .int), .fieldLink RX1 9 "PairedCells$EventPage" "bytes" "[I"] ++ wsX20 ++ wsX10 ++ (vx_atS RX2 78 "java/lang/IllegalStateException" ["java/lang/RuntimeException", "java/lang/Exception"]).filter goodWord)
def wsL_start_r1 : List Cond := [Cond.classLink RL 13 "java/lang/IllegalStateException", Cond.methodLink RL 30 yX2_start, Cond.instanceMethod yX2_start, Cond.selects RX2 yX2_start yX2_start, Cond.initialized RX2, Cond.code yX2_start cX2_start 1 (some .int), Cond.classLink RX2 74 "java/lang/IllegalStateException", Cond.initialized "java/lang/IllegalStateException", Cond.fieldLink RX2 38 "PairedCells" "powerOn" "Z", Cond.fieldLink RX2 18 "PairedCells" "openPage" "LPairedCells$EventPage;", Cond.fieldLink RX2 32 "PairedCells" "nextEvent" "I", Cond.methodLink RX2 79 yX1_clear, Cond.instanceMethod yX1_clear, Cond.selects RX1 yX1_clear yX1_clear, Cond.initialized RX1, Cond.code yX1_clear cX1_clear 1 none, Cond.fieldLink RX1 9 "PairedCells$EventPage" "bytes" "[I", Cond.methodLink RX1 15 yJ7_fill_53178, Cond.static yJ7_fill_53178, Cond.initialized RJ7, Cond.code yJ7_fill_53178 cJ7_fill_53178 4 none, Cond.methodLink RX2 82 yX2_eraseUnreadableBlocks, Cond.instanceMethod yX2_eraseUnreadableBlocks, Cond.selects RX2 yX2_eraseUnreadableBlocks yX2_eraseUnreadableBlocks]
def wsL_start_r2 : List Cond := [Cond.code yX2_eraseUnreadableBlocks cX2_eraseUnreadableBlocks 2 none, Cond.fieldLink RX2 11 "PairedCells" "blocks" "[LPairedCells$Block;", Cond.methodLink RX2 90 yX0_isErased, Cond.instanceMethod yX0_isErased, Cond.selects RX0 yX0_isErased yX0_isErased, Cond.initialized RX0, Cond.code yX0_isErased cX0_isErased 1 (some .boolean), Cond.methodLink RX0 28 yX0_nextPlace, Cond.instanceMethod yX0_nextPlace, Cond.selects RX0 yX0_nextPlace yX0_nextPlace, Cond.code yX0_nextPlace cX0_nextPlace 2 (some .int), Cond.fieldLink RX0 9 "PairedCells$Block" "states" "[I", Cond.methodLink RX2 93 yX2_greatestEvent, Cond.instanceMethod yX2_greatestEvent, Cond.selects RX2 yX2_greatestEvent yX2_greatestEvent, Cond.code yX2_greatestEvent cX2_greatestEvent 4 (some .int), Cond.fieldLink RX2 22 "PairedCells" "shown" "LPairedCells$EventPage;", Cond.methodLink RX2 219 Lib.Math.max.name, Cond.static Lib.Math.max.name, Cond.initialized "java/lang/Math", Cond.code Lib.Math.max.name Lib.Math.max.code 2 (some .int), Cond.methodLink RX2 209 yX0_show, Cond.instanceMethod yX0_show, Cond.selects RX0 yX0_show yX0_show]
def wsL_start_r3 : List Cond := [Cond.code yX0_show cX0_show 4 (some .boolean), Cond.methodLink RX0 54 yX0_isReadable, Cond.instanceMethod yX0_isReadable, Cond.selects RX0 yX0_isReadable yX0_isReadable, Cond.code yX0_isReadable cX0_isReadable 2 (some .boolean), Cond.methodLink RX0 47 yX0_isRebuilt, Cond.instanceMethod yX0_isRebuilt, Cond.selects RX0 yX0_isRebuilt yX0_isRebuilt, Cond.code yX0_isRebuilt cX0_isRebuilt 3 (some .boolean), Cond.methodLink RX0 51 yX0_covers, Cond.instanceMethod yX0_covers, Cond.selects RX0 yX0_covers yX0_covers, Cond.code yX0_covers cX0_covers 2 (some .boolean), Cond.fieldLink RX0 21 "PairedCells$Block" "guardState" "I", Cond.fieldLink RX0 18 "PairedCells$Block" "guardBytes" "[I", Cond.methodLink RX0 57 yX0_byteAt, Cond.instanceMethod yX0_byteAt, Cond.selects RX0 yX0_byteAt yX0_byteAt, Cond.code yX0_byteAt cX0_byteAt 5 (some .int), Cond.fieldLink RX0 15 "PairedCells$Block" "bytes" "[I", Cond.methodLink RX2 216 yX1_lastNumber, Cond.instanceMethod yX1_lastNumber, Cond.selects RX1 yX1_lastNumber yX1_lastNumber, Cond.code yX1_lastNumber cX1_lastNumber 1 (some .int)]
def wsL_start_r4 : List Cond := [Cond.methodLink RX1 25 yX1_firstNumber, Cond.instanceMethod yX1_firstNumber, Cond.selects RX1 yX1_firstNumber yX1_firstNumber, Cond.code yX1_firstNumber cX1_firstNumber 1 (some .int), Cond.methodLink RX1 21 yX1_events, Cond.instanceMethod yX1_events, Cond.selects RX1 yX1_events yX1_events, Cond.code yX1_events cX1_events 1 (some .int), Cond.methodLink RX2 97 yX0_erase, Cond.instanceMethod yX0_erase, Cond.selects RX0 yX0_erase yX0_erase, Cond.code yX0_erase cX0_erase 1 none, Cond.fieldLink RX0 25 "PairedCells$Block" "erasures" "I", Cond.methodLink RX0 32 yJ7_fill_53178, Cond.methodLink RX2 85 yX2_findEvents, Cond.instanceMethod yX2_findEvents, Cond.selects RX2 yX2_findEvents yX2_findEvents, Cond.code yX2_findEvents cX2_findEvents 6 none, Cond.fieldLink RX2 25 "PairedCells" "current" "I", Cond.fieldLink RX2 29 "PairedCells" "firstEvent" "I", Cond.methodLink RX2 206 yX2_leastEvent, Cond.instanceMethod yX2_leastEvent, Cond.selects RX2 yX2_leastEvent yX2_leastEvent, Cond.code yX2_leastEvent cX2_leastEvent 4 (some .int)]
def wsL_start_r5 : List Cond := [Cond.methodLink RX2 213 yX1_firstNumber]
def wsL_start : List Cond := .codeWith yL_start cL_start 3 (some .int) [(0, 8, 11, 13)] :: ((wsL_start_r1 ++ (wsL_start_r2 ++ (wsL_start_r3 ++ (wsL_start_r4 ++ wsL_start_r5)))) ++ wsX20 ++ wsX10 ++ wsX00 ++ (vx_atS RX2 78 "java/lang/IllegalStateException" ["java/lang/RuntimeException", "java/lang/Exception"]).filter goodWord)
def wsL_trim_r1 : List Cond := [Cond.classLink RL 13 "java/lang/IllegalStateException", Cond.classLink RL 15 "java/lang/IllegalArgumentException", Cond.methodLink RL 33 yX2_trim, Cond.instanceMethod yX2_trim, Cond.selects RX2 yX2_trim yX2_trim, Cond.initialized RX2, Cond.code yX2_trim cX2_trim 4 (some .int), Cond.classLink RX2 46 "java/lang/IllegalArgumentException", Cond.initialized "java/lang/IllegalArgumentException", Cond.fieldLink RX2 29 "PairedCells" "firstEvent" "I", Cond.fieldLink RX2 32 "PairedCells" "nextEvent" "I", Cond.fieldLink RX2 25 "PairedCells" "current" "I", Cond.fieldLink RX2 11 "PairedCells" "blocks" "[LPairedCells$Block;", Cond.methodLink RX2 43 yX2_requirePower, Cond.instanceMethod yX2_requirePower, Cond.selects RX2 yX2_requirePower yX2_requirePower, Cond.code yX2_requirePower cX2_requirePower 1 none, Cond.classLink RX2 74 "java/lang/IllegalStateException", Cond.initialized "java/lang/IllegalStateException", Cond.fieldLink RX2 38 "PairedCells" "powerOn" "Z", Cond.methodLink RX2 90 yX0_isErased, Cond.instanceMethod yX0_isErased, Cond.selects RX0 yX0_isErased yX0_isErased, Cond.initialized RX0]
def wsL_trim_r2 : List Cond := [Cond.code yX0_isErased cX0_isErased 1 (some .boolean), Cond.methodLink RX0 28 yX0_nextPlace, Cond.instanceMethod yX0_nextPlace, Cond.selects RX0 yX0_nextPlace yX0_nextPlace, Cond.code yX0_nextPlace cX0_nextPlace 2 (some .int), Cond.fieldLink RX0 9 "PairedCells$Block" "states" "[I", Cond.methodLink RX2 93 yX2_greatestEvent, Cond.instanceMethod yX2_greatestEvent, Cond.selects RX2 yX2_greatestEvent yX2_greatestEvent, Cond.code yX2_greatestEvent cX2_greatestEvent 4 (some .int), Cond.fieldLink RX2 22 "PairedCells" "shown" "LPairedCells$EventPage;", Cond.methodLink RX2 219 Lib.Math.max.name, Cond.static Lib.Math.max.name, Cond.initialized "java/lang/Math", Cond.code Lib.Math.max.name Lib.Math.max.code 2 (some .int), Cond.methodLink RX2 209 yX0_show, Cond.instanceMethod yX0_show, Cond.selects RX0 yX0_show yX0_show, Cond.code yX0_show cX0_show 4 (some .boolean), Cond.methodLink RX0 54 yX0_isReadable, Cond.instanceMethod yX0_isReadable, Cond.selects RX0 yX0_isReadable yX0_isReadable, Cond.code yX0_isReadable cX0_isReadable 2 (some .boolean), Cond.methodLink RX0 47 yX0_isRebuilt]
def wsL_trim_r3 : List Cond := [Cond.instanceMethod yX0_isRebuilt, Cond.selects RX0 yX0_isRebuilt yX0_isRebuilt, Cond.code yX0_isRebuilt cX0_isRebuilt 3 (some .boolean), Cond.methodLink RX0 51 yX0_covers, Cond.instanceMethod yX0_covers, Cond.selects RX0 yX0_covers yX0_covers, Cond.code yX0_covers cX0_covers 2 (some .boolean), Cond.fieldLink RX0 21 "PairedCells$Block" "guardState" "I", Cond.fieldLink RX0 18 "PairedCells$Block" "guardBytes" "[I", Cond.methodLink RX0 57 yX0_byteAt, Cond.instanceMethod yX0_byteAt, Cond.selects RX0 yX0_byteAt yX0_byteAt, Cond.code yX0_byteAt cX0_byteAt 5 (some .int), Cond.fieldLink RX0 15 "PairedCells$Block" "bytes" "[I", Cond.methodLink RX2 216 yX1_lastNumber, Cond.instanceMethod yX1_lastNumber, Cond.selects RX1 yX1_lastNumber yX1_lastNumber, Cond.initialized RX1, Cond.code yX1_lastNumber cX1_lastNumber 1 (some .int), Cond.methodLink RX1 25 yX1_firstNumber, Cond.instanceMethod yX1_firstNumber, Cond.selects RX1 yX1_firstNumber yX1_firstNumber, Cond.code yX1_firstNumber cX1_firstNumber 1 (some .int), Cond.fieldLink RX1 9 "PairedCells$EventPage" "bytes" "[I"]
def wsL_trim_r4 : List Cond := [Cond.methodLink RX1 21 yX1_events, Cond.instanceMethod yX1_events, Cond.selects RX1 yX1_events yX1_events, Cond.code yX1_events cX1_events 1 (some .int), Cond.methodLink RX2 97 yX0_erase, Cond.instanceMethod yX0_erase, Cond.selects RX0 yX0_erase yX0_erase, Cond.code yX0_erase cX0_erase 1 none, Cond.fieldLink RX0 25 "PairedCells$Block" "erasures" "I", Cond.methodLink RX0 32 yJ7_fill_53178, Cond.static yJ7_fill_53178, Cond.initialized RJ7, Cond.code yJ7_fill_53178 cJ7_fill_53178 4 none]
def wsL_trim : List Cond := .codeWith yL_trim cL_trim 4 (some .int) [(0, 9, 12, 13), (0, 9, 15, 15)] :: ((wsL_trim_r1 ++ (wsL_trim_r2 ++ (wsL_trim_r3 ++ wsL_trim_r4))) ++ wsX20 ++ wsX00 ++ wsX10 ++ (vx_atS RX2 50 "java/lang/IllegalArgumentException" ["java/lang/RuntimeException", "java/lang/Exception"]).filter goodWord ++ (vx_atS RX2 78 "java/lang/IllegalStateException" ["java/lang/RuntimeException", "java/lang/Exception"]).filter goodWord)
def wsL_first : List Cond := .codeWith yL_first cL_first 3 (some .int) [(0, 8, 11, 13)] :: ([.classLink RL 13 "java/lang/IllegalStateException", .methodLink RL 37 yX2_first, .instanceMethod yX2_first, .selects RX2 yX2_first yX2_first, .initialized RX2, .code yX2_first cX2_first 1 (some .int), .fieldLink RX2 29 "PairedCells" "firstEvent" "I", .methodLink RX2 43 yX2_requirePower, .instanceMethod yX2_requirePower, .selects RX2 yX2_requirePower yX2_requirePower, .code yX2_requirePower cX2_requirePower 1 none, .classLink RX2 74 "java/lang/IllegalStateException", .initialized "java/lang/IllegalStateException", .fieldLink RX2 38 "PairedCells" "powerOn" "Z"] ++ wsX20 ++ (vx_atS RX2 78 "java/lang/IllegalStateException" ["java/lang/RuntimeException", "java/lang/Exception"]).filter goodWord)
def wsL_count : List Cond := .codeWith yL_count cL_count 3 (some .int) [(0, 8, 11, 13)] :: ([.classLink RL 13 "java/lang/IllegalStateException", .methodLink RL 40 yX2_count, .instanceMethod yX2_count, .selects RX2 yX2_count yX2_count, .initialized RX2, .code yX2_count cX2_count 1 (some .int), .fieldLink RX2 32 "PairedCells" "nextEvent" "I", .methodLink RX2 43 yX2_requirePower, .instanceMethod yX2_requirePower, .selects RX2 yX2_requirePower yX2_requirePower, .code yX2_requirePower cX2_requirePower 1 none, .classLink RX2 74 "java/lang/IllegalStateException", .initialized "java/lang/IllegalStateException", .fieldLink RX2 38 "PairedCells" "powerOn" "Z"] ++ wsX20 ++ (vx_atS RX2 78 "java/lang/IllegalStateException" ["java/lang/RuntimeException", "java/lang/Exception"]).filter goodWord)
def wsL_length_r1 : List Cond := [Cond.classLink RL 13 "java/lang/IllegalStateException", Cond.classLink RL 46 "java/lang/IndexOutOfBoundsException", Cond.methodLink RL 43 yX2_length, Cond.instanceMethod yX2_length, Cond.selects RX2 yX2_length yX2_length, Cond.initialized RX2, Cond.code yX2_length cX2_length 3 (some .int), Cond.methodLink RX2 43 yX2_requirePower, Cond.instanceMethod yX2_requirePower, Cond.selects RX2 yX2_requirePower yX2_requirePower, Cond.code yX2_requirePower cX2_requirePower 1 none, Cond.classLink RX2 74 "java/lang/IllegalStateException", Cond.initialized "java/lang/IllegalStateException", Cond.fieldLink RX2 38 "PairedCells" "powerOn" "Z", Cond.methodLink RX2 100 yX2_requireEvent, Cond.instanceMethod yX2_requireEvent, Cond.selects RX2 yX2_requireEvent yX2_requireEvent, Cond.code yX2_requireEvent cX2_requireEvent 2 none, Cond.classLink RX2 135 "java/lang/IndexOutOfBoundsException", Cond.initialized "java/lang/IndexOutOfBoundsException", Cond.fieldLink RX2 29 "PairedCells" "firstEvent" "I", Cond.fieldLink RX2 32 "PairedCells" "nextEvent" "I", Cond.methodLink RX2 104 yX2_pageWith, Cond.instanceMethod yX2_pageWith]
def wsL_length_r2 : List Cond := [Cond.selects RX2 yX2_pageWith yX2_pageWith, Cond.code yX2_pageWith cX2_pageWith 4 (some (.object "PairedCells$EventPage")), Cond.fieldLink RX2 18 "PairedCells" "openPage" "LPairedCells$EventPage;", Cond.fieldLink RX2 11 "PairedCells" "blocks" "[LPairedCells$Block;", Cond.fieldLink RX2 22 "PairedCells" "shown" "LPairedCells$EventPage;", Cond.methodLink RX2 224 yX1_holds, Cond.instanceMethod yX1_holds, Cond.selects RX1 yX1_holds yX1_holds, Cond.initialized RX1, Cond.code yX1_holds cX1_holds 2 (some .boolean), Cond.methodLink RX1 28 yX1_isEmpty, Cond.instanceMethod yX1_isEmpty, Cond.selects RX1 yX1_isEmpty yX1_isEmpty, Cond.code yX1_isEmpty cX1_isEmpty 1 (some .boolean), Cond.methodLink RX1 21 yX1_events, Cond.instanceMethod yX1_events, Cond.selects RX1 yX1_events yX1_events, Cond.code yX1_events cX1_events 1 (some .int), Cond.fieldLink RX1 9 "PairedCells$EventPage" "bytes" "[I", Cond.methodLink RX1 25 yX1_firstNumber, Cond.instanceMethod yX1_firstNumber, Cond.selects RX1 yX1_firstNumber yX1_firstNumber, Cond.code yX1_firstNumber cX1_firstNumber 1 (some .int), Cond.methodLink RX1 32 yX1_lastNumber]
def wsL_length_r3 : List Cond := [Cond.instanceMethod yX1_lastNumber, Cond.selects RX1 yX1_lastNumber yX1_lastNumber, Cond.code yX1_lastNumber cX1_lastNumber 1 (some .int), Cond.methodLink RX2 209 yX0_show, Cond.instanceMethod yX0_show, Cond.selects RX0 yX0_show yX0_show, Cond.initialized RX0, Cond.code yX0_show cX0_show 4 (some .boolean), Cond.methodLink RX0 54 yX0_isReadable, Cond.instanceMethod yX0_isReadable, Cond.selects RX0 yX0_isReadable yX0_isReadable, Cond.code yX0_isReadable cX0_isReadable 2 (some .boolean), Cond.fieldLink RX0 9 "PairedCells$Block" "states" "[I", Cond.methodLink RX0 47 yX0_isRebuilt, Cond.instanceMethod yX0_isRebuilt, Cond.selects RX0 yX0_isRebuilt yX0_isRebuilt, Cond.code yX0_isRebuilt cX0_isRebuilt 3 (some .boolean), Cond.methodLink RX0 51 yX0_covers, Cond.instanceMethod yX0_covers, Cond.selects RX0 yX0_covers yX0_covers, Cond.code yX0_covers cX0_covers 2 (some .boolean), Cond.fieldLink RX0 21 "PairedCells$Block" "guardState" "I", Cond.fieldLink RX0 18 "PairedCells$Block" "guardBytes" "[I", Cond.methodLink RX0 57 yX0_byteAt]
def wsL_length_r4 : List Cond := [Cond.instanceMethod yX0_byteAt, Cond.selects RX0 yX0_byteAt yX0_byteAt, Cond.code yX0_byteAt cX0_byteAt 5 (some .int), Cond.fieldLink RX0 15 "PairedCells$Block" "bytes" "[I", Cond.methodLink RX2 108 yX1_lengthOf, Cond.instanceMethod yX1_lengthOf, Cond.selects RX1 yX1_lengthOf yX1_lengthOf, Cond.code yX1_lengthOf cX1_lengthOf 2 (some .int), Cond.methodLink RX1 35 yX1_placeOfRow, Cond.instanceMethod yX1_placeOfRow, Cond.selects RX1 yX1_placeOfRow yX1_placeOfRow, Cond.code yX1_placeOfRow cX1_placeOfRow 4 (some .int)]
def wsL_length : List Cond := .codeWith yL_length cL_length 4 (some .int) [(0, 9, 12, 13), (0, 9, 15, 46)] :: ((wsL_length_r1 ++ (wsL_length_r2 ++ (wsL_length_r3 ++ wsL_length_r4))) ++ wsX20 ++ wsX10 ++ wsX00 ++ (vx_atS RX2 78 "java/lang/IllegalStateException" ["java/lang/RuntimeException", "java/lang/Exception"]).filter goodWord ++ (vx_atS RX2 139 "java/lang/IndexOutOfBoundsException" ["java/lang/RuntimeException", "java/lang/Exception"]).filter goodWord)
def wsL_event_r1 : List Cond := [Cond.classLink RL 13 "java/lang/IllegalStateException", Cond.classLink RL 46 "java/lang/IndexOutOfBoundsException", Cond.classLink RL 52 "java/util/NoSuchElementException", Cond.methodLink RL 48 yX2_event, Cond.instanceMethod yX2_event, Cond.selects RX2 yX2_event yX2_event, Cond.initialized RX2, Cond.code yX2_event cX2_event 3 (some .long), Cond.classLink RX2 112 "java/util/NoSuchElementException", Cond.initialized "java/util/NoSuchElementException", Cond.methodLink RX2 43 yX2_requirePower, Cond.instanceMethod yX2_requirePower, Cond.selects RX2 yX2_requirePower yX2_requirePower, Cond.code yX2_requirePower cX2_requirePower 1 none, Cond.classLink RX2 74 "java/lang/IllegalStateException", Cond.initialized "java/lang/IllegalStateException", Cond.fieldLink RX2 38 "PairedCells" "powerOn" "Z", Cond.methodLink RX2 100 yX2_requireEvent, Cond.instanceMethod yX2_requireEvent, Cond.selects RX2 yX2_requireEvent yX2_requireEvent, Cond.code yX2_requireEvent cX2_requireEvent 2 none, Cond.classLink RX2 135 "java/lang/IndexOutOfBoundsException", Cond.initialized "java/lang/IndexOutOfBoundsException", Cond.fieldLink RX2 29 "PairedCells" "firstEvent" "I"]
def wsL_event_r2 : List Cond := [Cond.fieldLink RX2 32 "PairedCells" "nextEvent" "I", Cond.methodLink RX2 104 yX2_pageWith, Cond.instanceMethod yX2_pageWith, Cond.selects RX2 yX2_pageWith yX2_pageWith, Cond.code yX2_pageWith cX2_pageWith 4 (some (.object "PairedCells$EventPage")), Cond.fieldLink RX2 18 "PairedCells" "openPage" "LPairedCells$EventPage;", Cond.fieldLink RX2 11 "PairedCells" "blocks" "[LPairedCells$Block;", Cond.fieldLink RX2 22 "PairedCells" "shown" "LPairedCells$EventPage;", Cond.methodLink RX2 224 yX1_holds, Cond.instanceMethod yX1_holds, Cond.selects RX1 yX1_holds yX1_holds, Cond.initialized RX1, Cond.code yX1_holds cX1_holds 2 (some .boolean), Cond.methodLink RX1 28 yX1_isEmpty, Cond.instanceMethod yX1_isEmpty, Cond.selects RX1 yX1_isEmpty yX1_isEmpty, Cond.code yX1_isEmpty cX1_isEmpty 1 (some .boolean), Cond.methodLink RX1 21 yX1_events, Cond.instanceMethod yX1_events, Cond.selects RX1 yX1_events yX1_events, Cond.code yX1_events cX1_events 1 (some .int), Cond.fieldLink RX1 9 "PairedCells$EventPage" "bytes" "[I", Cond.methodLink RX1 25 yX1_firstNumber, Cond.instanceMethod yX1_firstNumber]
def wsL_event_r3 : List Cond := [Cond.selects RX1 yX1_firstNumber yX1_firstNumber, Cond.code yX1_firstNumber cX1_firstNumber 1 (some .int), Cond.methodLink RX1 32 yX1_lastNumber, Cond.instanceMethod yX1_lastNumber, Cond.selects RX1 yX1_lastNumber yX1_lastNumber, Cond.code yX1_lastNumber cX1_lastNumber 1 (some .int), Cond.methodLink RX2 209 yX0_show, Cond.instanceMethod yX0_show, Cond.selects RX0 yX0_show yX0_show, Cond.initialized RX0, Cond.code yX0_show cX0_show 4 (some .boolean), Cond.methodLink RX0 54 yX0_isReadable, Cond.instanceMethod yX0_isReadable, Cond.selects RX0 yX0_isReadable yX0_isReadable, Cond.code yX0_isReadable cX0_isReadable 2 (some .boolean), Cond.fieldLink RX0 9 "PairedCells$Block" "states" "[I", Cond.methodLink RX0 47 yX0_isRebuilt, Cond.instanceMethod yX0_isRebuilt, Cond.selects RX0 yX0_isRebuilt yX0_isRebuilt, Cond.code yX0_isRebuilt cX0_isRebuilt 3 (some .boolean), Cond.methodLink RX0 51 yX0_covers, Cond.instanceMethod yX0_covers, Cond.selects RX0 yX0_covers yX0_covers, Cond.code yX0_covers cX0_covers 2 (some .boolean)]
def wsL_event_r4 : List Cond := [Cond.fieldLink RX0 21 "PairedCells$Block" "guardState" "I", Cond.fieldLink RX0 18 "PairedCells$Block" "guardBytes" "[I", Cond.methodLink RX0 57 yX0_byteAt, Cond.instanceMethod yX0_byteAt, Cond.selects RX0 yX0_byteAt yX0_byteAt, Cond.code yX0_byteAt cX0_byteAt 5 (some .int), Cond.fieldLink RX0 15 "PairedCells$Block" "bytes" "[I", Cond.methodLink RX2 117 yX1_bytesOf, Cond.instanceMethod yX1_bytesOf, Cond.selects RX1 yX1_bytesOf yX1_bytesOf, Cond.code yX1_bytesOf cX1_bytesOf 6 (some .long), Cond.methodLink RX1 35 yX1_placeOfRow, Cond.instanceMethod yX1_placeOfRow, Cond.selects RX1 yX1_placeOfRow yX1_placeOfRow, Cond.code yX1_placeOfRow cX1_placeOfRow 4 (some .int)]
def wsL_event : List Cond := .codeWith yL_event cL_event 4 (some .int) [(0, 8, 11, 13), (0, 8, 14, 46), (0, 8, 17, 52)] :: ((wsL_event_r1 ++ (wsL_event_r2 ++ (wsL_event_r3 ++ wsL_event_r4))) ++ wsX20 ++ wsX10 ++ wsX00 ++ wsNS ++ (vx_atS RX2 78 "java/lang/IllegalStateException" ["java/lang/RuntimeException", "java/lang/Exception"]).filter goodWord ++ (vx_atS RX2 139 "java/lang/IndexOutOfBoundsException" ["java/lang/RuntimeException", "java/lang/Exception"]).filter goodWord)
def wsL_ruin : List Cond := .codeWith yL_ruin cL_ruin 6 (some .int) [(0, 19, 22, 46)] :: ([.classLink RL 46 "java/lang/IndexOutOfBoundsException", .methodLink RL 54 yX2_ruin, .instanceMethod yX2_ruin, .selects RX2 yX2_ruin yX2_ruin, .initialized RX2, .code yX2_ruin cX2_ruin 4 (some .boolean), .fieldLink RX2 11 "PairedCells" "blocks" "[LPairedCells$Block;", .methodLink RX2 121 yX2_requireLine, .static yX2_requireLine, .code yX2_requireLine cX2_requireLine 2 none, .classLink RX2 135 "java/lang/IndexOutOfBoundsException", .initialized "java/lang/IndexOutOfBoundsException", .methodLink RX2 149 yX2_requireBlock, .static yX2_requireBlock, .code yX2_requireBlock cX2_requireBlock 1 none, .methodLink RX2 125 yX2_placeOf, .static yX2_placeOf, .code yX2_placeOf cX2_placeOf 2 (some .int), .methodLink RX2 129 yX0_ruinWritten, .instanceMethod yX0_ruinWritten, .selects RX0 yX0_ruinWritten yX0_ruinWritten, .initialized RX0, .code yX0_ruinWritten cX0_ruinWritten 2 (some .boolean), .fieldLink RX0 9 "PairedCells$Block" "states" "[I"] ++ wsX20 ++ wsX00 ++ (vx_atS RX2 139 "java/lang/IndexOutOfBoundsException" ["java/lang/RuntimeException", "java/lang/Exception"]).filter goodWord)
def wsL_page_r1 : List Cond := [Cond.classLink RL 46 "java/lang/IndexOutOfBoundsException", Cond.methodLink RL 58 yX2_page, Cond.instanceMethod yX2_page, Cond.selects RX2 yX2_page yX2_page, Cond.initialized RX2, Cond.code yX2_page cX2_page 4 (some .int), Cond.fieldLink RX2 11 "PairedCells" "blocks" "[LPairedCells$Block;", Cond.methodLink RX2 121 yX2_requireLine, Cond.static yX2_requireLine, Cond.code yX2_requireLine cX2_requireLine 2 none, Cond.classLink RX2 135 "java/lang/IndexOutOfBoundsException", Cond.initialized "java/lang/IndexOutOfBoundsException", Cond.methodLink RX2 149 yX2_requireBlock, Cond.static yX2_requireBlock, Cond.code yX2_requireBlock cX2_requireBlock 1 none, Cond.methodLink RX2 125 yX2_placeOf, Cond.static yX2_placeOf, Cond.code yX2_placeOf cX2_placeOf 2 (some .int), Cond.methodLink RX2 132 yX0_stateAt, Cond.instanceMethod yX0_stateAt, Cond.selects RX0 yX0_stateAt yX0_stateAt, Cond.initialized RX0, Cond.code yX0_stateAt cX0_stateAt 2 (some .int), Cond.fieldLink RX0 9 "PairedCells$Block" "states" "[I"]
def wsL_page_r2 : List Cond := [Cond.methodLink RX0 47 yX0_isRebuilt, Cond.instanceMethod yX0_isRebuilt, Cond.selects RX0 yX0_isRebuilt yX0_isRebuilt, Cond.code yX0_isRebuilt cX0_isRebuilt 3 (some .boolean), Cond.methodLink RX0 51 yX0_covers, Cond.instanceMethod yX0_covers, Cond.selects RX0 yX0_covers yX0_covers, Cond.code yX0_covers cX0_covers 2 (some .boolean), Cond.fieldLink RX0 21 "PairedCells$Block" "guardState" "I", Cond.fieldLink RX0 18 "PairedCells$Block" "guardBytes" "[I"]
def wsL_page : List Cond := .codeWith yL_page cL_page 6 (some .int) [(0, 12, 15, 46)] :: ((wsL_page_r1 ++ wsL_page_r2) ++ wsX20 ++ wsX00 ++ (vx_atS RX2 139 "java/lang/IndexOutOfBoundsException" ["java/lang/RuntimeException", "java/lang/Exception"]).filter goodWord)
def wsL_at_r1 : List Cond := [Cond.classLink RL 46 "java/lang/IndexOutOfBoundsException", Cond.classLink RL 52 "java/util/NoSuchElementException", Cond.methodLink RL 62 yX2_at, Cond.instanceMethod yX2_at, Cond.selects RX2 yX2_at yX2_at, Cond.initialized RX2, Cond.code yX2_at cX2_at 6 (some .int), Cond.classLink RX2 135 "java/lang/IndexOutOfBoundsException", Cond.initialized "java/lang/IndexOutOfBoundsException", Cond.classLink RX2 112 "java/util/NoSuchElementException", Cond.initialized "java/util/NoSuchElementException", Cond.fieldLink RX2 11 "PairedCells" "blocks" "[LPairedCells$Block;", Cond.methodLink RX2 121 yX2_requireLine, Cond.static yX2_requireLine, Cond.code yX2_requireLine cX2_requireLine 2 none, Cond.methodLink RX2 149 yX2_requireBlock, Cond.static yX2_requireBlock, Cond.code yX2_requireBlock cX2_requireBlock 1 none, Cond.methodLink RX2 125 yX2_placeOf, Cond.static yX2_placeOf, Cond.code yX2_placeOf cX2_placeOf 2 (some .int), Cond.methodLink RX2 140 yX0_isReadable, Cond.instanceMethod yX0_isReadable, Cond.selects RX0 yX0_isReadable yX0_isReadable]
def wsL_at_r2 : List Cond := [Cond.initialized RX0, Cond.code yX0_isReadable cX0_isReadable 2 (some .boolean), Cond.fieldLink RX0 9 "PairedCells$Block" "states" "[I", Cond.methodLink RX0 47 yX0_isRebuilt, Cond.instanceMethod yX0_isRebuilt, Cond.selects RX0 yX0_isRebuilt yX0_isRebuilt, Cond.code yX0_isRebuilt cX0_isRebuilt 3 (some .boolean), Cond.methodLink RX0 51 yX0_covers, Cond.instanceMethod yX0_covers, Cond.selects RX0 yX0_covers yX0_covers, Cond.code yX0_covers cX0_covers 2 (some .boolean), Cond.fieldLink RX0 21 "PairedCells$Block" "guardState" "I", Cond.fieldLink RX0 18 "PairedCells$Block" "guardBytes" "[I", Cond.methodLink RX2 145 yX0_byteAt, Cond.instanceMethod yX0_byteAt, Cond.selects RX0 yX0_byteAt yX0_byteAt, Cond.code yX0_byteAt cX0_byteAt 5 (some .int), Cond.fieldLink RX0 15 "PairedCells$Block" "bytes" "[I"]
def wsL_at : List Cond := .codeWith yL_at cL_at 7 (some .int) [(0, 14, 17, 46), (0, 14, 21, 52)] :: ((wsL_at_r1 ++ wsL_at_r2) ++ wsX20 ++ wsX00 ++ (vx_atS RX2 139 "java/lang/IndexOutOfBoundsException" ["java/lang/RuntimeException", "java/lang/Exception"]).filter goodWord ++ wsNS)
def wsL_guard : List Cond := .codeWith yL_guard cL_guard 4 (some .int) [(0, 9, 12, 46)] :: ([.classLink RL 46 "java/lang/IndexOutOfBoundsException", .methodLink RL 66 yX2_guard, .instanceMethod yX2_guard, .selects RX2 yX2_guard yX2_guard, .initialized RX2, .code yX2_guard cX2_guard 2 (some .int), .fieldLink RX2 11 "PairedCells" "blocks" "[LPairedCells$Block;", .methodLink RX2 149 yX2_requireBlock, .static yX2_requireBlock, .code yX2_requireBlock cX2_requireBlock 1 none, .classLink RX2 135 "java/lang/IndexOutOfBoundsException", .initialized "java/lang/IndexOutOfBoundsException"] ++ wsX20 ++ wsX00 ++ (vx_atS RX2 139 "java/lang/IndexOutOfBoundsException" ["java/lang/RuntimeException", "java/lang/Exception"]).filter goodWord)
def wsL_guarded : List Cond := .codeWith yL_guarded cL_guarded 5 (some .int) [(0, 10, 13, 46), (0, 10, 17, 52)] :: ([.classLink RL 46 "java/lang/IndexOutOfBoundsException", .classLink RL 52 "java/util/NoSuchElementException", .methodLink RL 69 yX2_guarded, .instanceMethod yX2_guarded, .selects RX2 yX2_guarded yX2_guarded, .initialized RX2, .code yX2_guarded cX2_guarded 3 (some .int), .classLink RX2 135 "java/lang/IndexOutOfBoundsException", .initialized "java/lang/IndexOutOfBoundsException", .classLink RX2 112 "java/util/NoSuchElementException", .initialized "java/util/NoSuchElementException", .fieldLink RX2 11 "PairedCells" "blocks" "[LPairedCells$Block;", .methodLink RX2 149 yX2_requireBlock, .static yX2_requireBlock, .code yX2_requireBlock cX2_requireBlock 1 none] ++ wsX20 ++ wsX00 ++ (vx_atS RX2 139 "java/lang/IndexOutOfBoundsException" ["java/lang/RuntimeException", "java/lang/Exception"]).filter goodWord ++ wsNS)
abbrev vwCl : List vw_C := [(RX0, TX0, 5), (RX1, TX1, 1), (RX2, TX2, 8), (RX3, TX3, 16)]
end
section
set_option maxRecDepth 20000 in
theorem ggX0_isErased_X0_nextPlace : GoodIn wsX0_isErased wsX0_nextPlace := goodIn_r _ [5, 6, 7, 8, 9, 10, 11] (by decide +kernel) (by decide +kernel)
set_option maxRecDepth 20000 in
theorem gX0_isErased_X0_nextPlace : GoodIn wsX0_isErased (wsV RX0 28 RX0 yX0_nextPlace wsX0_nextPlace) := goodIn_app (goodIn_of _ (by decide +kernel)) ggX0_isErased_X0_nextPlace
set_option maxRecDepth 20000 in
theorem ggX0_takesMore_X0_nextPlace : GoodIn wsX0_takesMore wsX0_nextPlace := goodIn_r _ [6, 1, 7, 8, 9, 10, 11] (by decide +kernel) (by decide +kernel)
set_option maxRecDepth 20000 in
theorem gX0_takesMore_X0_nextPlace : GoodIn wsX0_takesMore (wsV RX0 28 RX0 yX0_nextPlace wsX0_nextPlace) := goodIn_app (goodIn_of _ (by decide +kernel)) ggX0_takesMore_X0_nextPlace
set_option maxRecDepth 20000 in
theorem ggX0_erase_J7_fill_53178 : GoodIn wsX0_erase wsJ7_fill_53178 := goodIn_r _ [7] (by decide +kernel) (by decide +kernel)
set_option maxRecDepth 20000 in
theorem gX0_erase_J7_fill_53178 : GoodIn wsX0_erase (va_wsS RX0 32 yJ7_fill_53178 wsJ7_fill_53178) := goodIn_app (goodIn_of _ (by decide +kernel)) ggX0_erase_J7_fill_53178
set_option maxRecDepth 20000 in
theorem ggX0_writeGuard_J7_fill_53178 : GoodIn wsX0_writeGuard wsJ7_fill_53178 := goodIn_r _ [8] (by decide +kernel) (by decide +kernel)
set_option maxRecDepth 20000 in
theorem gX0_writeGuard_J7_fill_53178 : GoodIn wsX0_writeGuard (va_wsS RX0 32 yJ7_fill_53178 wsJ7_fill_53178) := goodIn_app (goodIn_of _ (by decide +kernel)) ggX0_writeGuard_J7_fill_53178
set_option maxRecDepth 20000 in
theorem ggX0_stateAt_X0_isRebuilt : GoodIn wsX0_stateAt wsX0_isRebuilt := goodIn_r _ [6, 1, 7, 8, 9, 5, 10, 11, 12, 13, 14, 15, 16, 17] (by decide +kernel) (by decide +kernel)
set_option maxRecDepth 20000 in
theorem gX0_stateAt_X0_isRebuilt : GoodIn wsX0_stateAt (wsV RX0 47 RX0 yX0_isRebuilt wsX0_isRebuilt) := goodIn_app (goodIn_of _ (by decide +kernel)) ggX0_stateAt_X0_isRebuilt
set_option maxRecDepth 20000 in
theorem ggX0_isReadable_X0_isRebuilt : GoodIn wsX0_isReadable wsX0_isRebuilt := goodIn_r _ [6, 1, 7, 8, 9, 5, 10, 11, 12, 13, 14, 15, 16, 17] (by decide +kernel) (by decide +kernel)
set_option maxRecDepth 20000 in
theorem gX0_isReadable_X0_isRebuilt : GoodIn wsX0_isReadable (wsV RX0 47 RX0 yX0_isRebuilt wsX0_isRebuilt) := goodIn_app (goodIn_of _ (by decide +kernel)) ggX0_isReadable_X0_isRebuilt
set_option maxRecDepth 20000 in
theorem ggX0_isRebuilt_X0_covers : GoodIn wsX0_isRebuilt wsX0_covers := goodIn_r _ [6, 7, 8, 9, 10, 11, 12, 13] (by decide +kernel) (by decide +kernel)
set_option maxRecDepth 20000 in
theorem gX0_isRebuilt_X0_covers : GoodIn wsX0_isRebuilt (wsV RX0 51 RX0 yX0_covers wsX0_covers) := goodIn_app (goodIn_of _ (by decide +kernel)) ggX0_isRebuilt_X0_covers
set_option maxRecDepth 20000 in
theorem ggX0_byteAt_X0_covers : GoodIn wsX0_byteAt wsX0_covers := goodIn_r _ [8, 9, 3, 10, 11, 12, 13, 14] (by decide +kernel) (by decide +kernel)
set_option maxRecDepth 20000 in
theorem gX0_byteAt_X0_covers : GoodIn wsX0_byteAt (wsV RX0 51 RX0 yX0_covers wsX0_covers) := goodIn_app (goodIn_of _ (by decide +kernel)) ggX0_byteAt_X0_covers
set_option maxRecDepth 20000 in
theorem ggX0_show_X0_isReadable : GoodIn wsX0_show wsX0_isReadable := goodIn_r _ [5, 6, 7, 8, 9, 4, 10, 11, 12, 13, 14, 15, 16, 23, 24, 25, 26, 27] (by decide +kernel) (by decide +kernel)
set_option maxRecDepth 20000 in
theorem gX0_show_X0_isReadable : GoodIn wsX0_show (wsV RX0 54 RX0 yX0_isReadable wsX0_isReadable) := goodIn_app (goodIn_of _ (by decide +kernel)) ggX0_show_X0_isReadable
set_option maxRecDepth 20000 in
theorem ggX0_show_X0_byteAt : GoodIn wsX0_show wsX0_byteAt := goodIn_r _ [20, 6, 21, 16, 11, 12, 13, 4, 14, 15, 23, 24, 25, 26, 27] (by decide +kernel) (by decide +kernel)
set_option maxRecDepth 20000 in
theorem gX0_show_X0_byteAt : GoodIn wsX0_show (wsV RX0 57 RX0 yX0_byteAt wsX0_byteAt) := goodIn_app (goodIn_of _ (by decide +kernel)) ggX0_show_X0_byteAt
set_option maxRecDepth 20000 in
theorem ggX1_clear_J7_fill_53178 : GoodIn wsX1_clear wsJ7_fill_53178 := goodIn_r _ [5] (by decide +kernel) (by decide +kernel)
set_option maxRecDepth 20000 in
theorem gX1_clear_J7_fill_53178 : GoodIn wsX1_clear (va_wsS RX1 15 yJ7_fill_53178 wsJ7_fill_53178) := goodIn_app (goodIn_of _ (by decide +kernel)) ggX1_clear_J7_fill_53178
set_option maxRecDepth 20000 in
theorem ggX1_isEmpty_X1_events : GoodIn wsX1_isEmpty wsX1_events := goodIn_r _ [5, 6, 7] (by decide +kernel) (by decide +kernel)
set_option maxRecDepth 20000 in
theorem gX1_isEmpty_X1_events : GoodIn wsX1_isEmpty (wsV RX1 21 RX1 yX1_events wsX1_events) := goodIn_app (goodIn_of _ (by decide +kernel)) ggX1_isEmpty_X1_events
set_option maxRecDepth 20000 in
theorem ggX1_lastNumber_X1_firstNumber : GoodIn wsX1_lastNumber wsX1_firstNumber := goodIn_r _ [5, 6, 11] (by decide +kernel) (by decide +kernel)
set_option maxRecDepth 20000 in
theorem gX1_lastNumber_X1_firstNumber : GoodIn wsX1_lastNumber (wsV RX1 25 RX1 yX1_firstNumber wsX1_firstNumber) := goodIn_app (goodIn_of _ (by decide +kernel)) ggX1_lastNumber_X1_firstNumber
set_option maxRecDepth 20000 in
theorem ggX1_lastNumber_X1_events : GoodIn wsX1_lastNumber wsX1_events := goodIn_r _ [10, 6, 11] (by decide +kernel) (by decide +kernel)
set_option maxRecDepth 20000 in
theorem gX1_lastNumber_X1_events : GoodIn wsX1_lastNumber (wsV RX1 21 RX1 yX1_events wsX1_events) := goodIn_app (goodIn_of _ (by decide +kernel)) ggX1_lastNumber_X1_events
set_option maxRecDepth 20000 in
theorem ggX1_holds_X1_isEmpty : GoodIn wsX1_holds wsX1_isEmpty := goodIn_r _ [5, 6, 7, 8, 4, 9, 10, 19] (by decide +kernel) (by decide +kernel)
set_option maxRecDepth 20000 in
theorem gX1_holds_X1_isEmpty : GoodIn wsX1_holds (wsV RX1 28 RX1 yX1_isEmpty wsX1_isEmpty) := goodIn_app (goodIn_of _ (by decide +kernel)) ggX1_holds_X1_isEmpty
set_option maxRecDepth 20000 in
theorem ggX1_holds_X1_firstNumber : GoodIn wsX1_holds wsX1_firstNumber := goodIn_r _ [14, 10, 19] (by decide +kernel) (by decide +kernel)
set_option maxRecDepth 20000 in
theorem gX1_holds_X1_firstNumber : GoodIn wsX1_holds (wsV RX1 25 RX1 yX1_firstNumber wsX1_firstNumber) := goodIn_app (goodIn_of _ (by decide +kernel)) ggX1_holds_X1_firstNumber
set_option maxRecDepth 20000 in
theorem ggX1_holds_X1_lastNumber : GoodIn wsX1_holds wsX1_lastNumber := goodIn_r _ [18, 11, 12, 13, 4, 14, 10, 6, 7, 8, 9, 19] (by decide +kernel) (by decide +kernel)
set_option maxRecDepth 20000 in
theorem gX1_holds_X1_lastNumber : GoodIn wsX1_holds (wsV RX1 32 RX1 yX1_lastNumber wsX1_lastNumber) := goodIn_app (goodIn_of _ (by decide +kernel)) ggX1_holds_X1_lastNumber
set_option maxRecDepth 20000 in
theorem ggX1_fits_X1_events : GoodIn wsX1_fits wsX1_events := goodIn_r _ [5, 6, 11] (by decide +kernel) (by decide +kernel)
set_option maxRecDepth 20000 in
theorem gX1_fits_X1_events : GoodIn wsX1_fits (wsV RX1 21 RX1 yX1_events wsX1_events) := goodIn_app (goodIn_of _ (by decide +kernel)) ggX1_fits_X1_events
set_option maxRecDepth 20000 in
theorem ggX1_fits_X1_placeOfRow : GoodIn wsX1_fits wsX1_placeOfRow := goodIn_r _ [10, 6, 11] (by decide +kernel) (by decide +kernel)
set_option maxRecDepth 20000 in
theorem gX1_fits_X1_placeOfRow : GoodIn wsX1_fits (wsV RX1 35 RX1 yX1_placeOfRow wsX1_placeOfRow) := goodIn_app (goodIn_of _ (by decide +kernel)) ggX1_fits_X1_placeOfRow
set_option maxRecDepth 20000 in
theorem ggX1_add_X1_events : GoodIn wsX1_add wsX1_events := goodIn_r _ [7, 1, 16] (by decide +kernel) (by decide +kernel)
set_option maxRecDepth 20000 in
theorem gX1_add_X1_events : GoodIn wsX1_add (wsV RX1 21 RX1 yX1_events wsX1_events) := goodIn_app (goodIn_of _ (by decide +kernel)) ggX1_add_X1_events
set_option maxRecDepth 20000 in
theorem ggX1_add_X1_placeOfRow : GoodIn wsX1_add wsX1_placeOfRow := goodIn_r _ [11, 1, 16] (by decide +kernel) (by decide +kernel)
set_option maxRecDepth 20000 in
theorem gX1_add_X1_placeOfRow : GoodIn wsX1_add (wsV RX1 35 RX1 yX1_placeOfRow wsX1_placeOfRow) := goodIn_app (goodIn_of _ (by decide +kernel)) ggX1_add_X1_placeOfRow
set_option maxRecDepth 20000 in
theorem ggX1_add_X1_isEmpty : GoodIn wsX1_add wsX1_isEmpty := goodIn_r _ [15, 3, 4, 5, 6, 7, 1, 16] (by decide +kernel) (by decide +kernel)
set_option maxRecDepth 20000 in
theorem gX1_add_X1_isEmpty : GoodIn wsX1_add (wsV RX1 28 RX1 yX1_isEmpty wsX1_isEmpty) := goodIn_app (goodIn_of _ (by decide +kernel)) ggX1_add_X1_isEmpty
set_option maxRecDepth 20000 in
theorem ggX1_lengthOf_X1_firstNumber : GoodIn wsX1_lengthOf wsX1_firstNumber := goodIn_r _ [6, 1, 11] (by decide +kernel) (by decide +kernel)
set_option maxRecDepth 20000 in
theorem gX1_lengthOf_X1_firstNumber : GoodIn wsX1_lengthOf (wsV RX1 25 RX1 yX1_firstNumber wsX1_firstNumber) := goodIn_app (goodIn_of _ (by decide +kernel)) ggX1_lengthOf_X1_firstNumber
set_option maxRecDepth 20000 in
theorem ggX1_lengthOf_X1_placeOfRow : GoodIn wsX1_lengthOf wsX1_placeOfRow := goodIn_r _ [10, 1, 11] (by decide +kernel) (by decide +kernel)
set_option maxRecDepth 20000 in
theorem gX1_lengthOf_X1_placeOfRow : GoodIn wsX1_lengthOf (wsV RX1 35 RX1 yX1_placeOfRow wsX1_placeOfRow) := goodIn_app (goodIn_of _ (by decide +kernel)) ggX1_lengthOf_X1_placeOfRow
set_option maxRecDepth 20000 in
theorem ggX1_bytesOf_X1_firstNumber : GoodIn wsX1_bytesOf wsX1_firstNumber := goodIn_r _ [6, 1, 11] (by decide +kernel) (by decide +kernel)
set_option maxRecDepth 20000 in
theorem gX1_bytesOf_X1_firstNumber : GoodIn wsX1_bytesOf (wsV RX1 25 RX1 yX1_firstNumber wsX1_firstNumber) := goodIn_app (goodIn_of _ (by decide +kernel)) ggX1_bytesOf_X1_firstNumber
set_option maxRecDepth 20000 in
theorem ggX1_bytesOf_X1_placeOfRow : GoodIn wsX1_bytesOf wsX1_placeOfRow := goodIn_r _ [10, 1, 11] (by decide +kernel) (by decide +kernel)
set_option maxRecDepth 20000 in
theorem gX1_bytesOf_X1_placeOfRow : GoodIn wsX1_bytesOf (wsV RX1 35 RX1 yX1_placeOfRow wsX1_placeOfRow) := goodIn_app (goodIn_of _ (by decide +kernel)) ggX1_bytesOf_X1_placeOfRow
set_option maxRecDepth 20000 in
theorem ggX2_init_X1_init : GoodIn wsX2_init wsX1_init := goodIn_r _ [19, 20, 2, 3, 21, 22, 39] (by decide +kernel) (by decide +kernel)
set_option maxRecDepth 20000 in
theorem gX2_init_X1_init_n17 : GoodIn wsX2_init (wsX1_init) := ggX2_init_X1_init
set_option maxRecDepth 20000 in
theorem ggX2_init_X0_init : GoodIn wsX2_init wsX0_init := goodIn_r _ [24, 25, 2, 3, 21, 26, 27, 28, 29, 30, 40, 41, 42, 43, 44] (by decide +kernel) (by decide +kernel)
set_option maxRecDepth 20000 in
theorem gX2_init_X0_init_n42 : GoodIn wsX2_init (wsX0_init) := ggX2_init_X0_init
set_option maxRecDepth 20000 in
theorem ggX2_append_X2_requirePower : GoodIn wsX2_append wsX2_requirePower := goodIn_ca (goodIn_r _ [9, 10, 11, 12, 100, 101, 102, 103, 104, 105, 106, 107] (by decide +kernel) (by decide +kernel)) (goodIn_sub (fun _ h => List.mem_cons_of_mem _ (List.mem_append_left _ (List.mem_append_right _ h))) (by decide +kernel))
set_option maxRecDepth 20000 in
theorem gX2_append_X2_requirePower : GoodIn wsX2_append (wsV RX2 43 RX2 yX2_requirePower wsX2_requirePower) := goodIn_app (goodIn_of _ (by decide +kernel)) ggX2_append_X2_requirePower
set_option maxRecDepth 20000 in
theorem ggX2_append_X1_fits : GoodIn wsX2_append wsX1_fits := goodIn_r _ [17, 18, 19, 20, 16, 21, 22, 23, 24, 25, 26, 108] (by decide +kernel) (by decide +kernel)
set_option maxRecDepth 20000 in
theorem gX2_append_X1_fits : GoodIn wsX2_append (wsV RX2 53 RX1 yX1_fits wsX1_fits) := goodIn_app (goodIn_of _ (by decide +kernel)) ggX2_append_X1_fits
set_option maxRecDepth 20000 in
theorem ggX2_append_X2_flush : GoodIn wsX2_append wsX2_flush := goodIn_ca (goodIn_r _ [30, 31, 32, 3, 33, 34, 35, 8, 36, 37, 38, 39, 40, 41, 42, 43, 44, 45, 46, 47, 48, 49, 50, 51, 52, 53, 54, 55, 56, 57, 58, 59, 60, 61, 62, 12, 63, 64, 65, 66, 67, 68, 69, 70, 71, 72, 73, 74, 75, 76, 77, 78, 79, 80, 81, 82, 83, 84, 85, 86, 87, 88, 16, 89, 22, 90, 100, 101, 102, 103, 104, 105, 106, 107, 109, 110, 111, 112, 113, 108] (by decide +kernel) (by decide +kernel)) (goodIn_sub (fun _ h => List.mem_cons_of_mem _ (List.mem_append_right _ h)) (by decide +kernel))
set_option maxRecDepth 20000 in
theorem gX2_append_X2_flush : GoodIn wsX2_append (wsV RX2 57 RX2 yX2_flush wsX2_flush) := goodIn_app (goodIn_of _ (by decide +kernel)) ggX2_append_X2_flush
set_option maxRecDepth 20000 in
theorem ggX2_append_X1_add : GoodIn wsX2_append wsX1_add := goodIn_r _ [94, 22, 95, 18, 19, 20, 16, 21, 23, 24, 25, 26, 96, 97, 98, 99, 108] (by decide +kernel) (by decide +kernel)
set_option maxRecDepth 20000 in
theorem gX2_append_X1_add : GoodIn wsX2_append (wsV RX2 61 RX1 yX1_add wsX1_add) := goodIn_app (goodIn_of _ (by decide +kernel)) ggX2_append_X1_add
set_option maxRecDepth 20000 in
theorem ggX2_sync_X2_requirePower : GoodIn wsX2_sync wsX2_requirePower := goodIn_ca (goodIn_r _ [7, 8, 9, 10, 85, 86, 87, 88, 89, 90, 91, 92] (by decide +kernel) (by decide +kernel)) (goodIn_sub (fun _ h => List.mem_cons_of_mem _ (List.mem_append_left _ (List.mem_append_right _ h))) (by decide +kernel))
set_option maxRecDepth 20000 in
theorem gX2_sync_X2_requirePower : GoodIn wsX2_sync (wsV RX2 43 RX2 yX2_requirePower wsX2_requirePower) := goodIn_app (goodIn_of _ (by decide +kernel)) ggX2_sync_X2_requirePower
set_option maxRecDepth 20000 in
theorem ggX2_sync_X1_isEmpty : GoodIn wsX2_sync wsX1_isEmpty := goodIn_r _ [15, 16, 17, 18, 14, 19, 20, 93] (by decide +kernel) (by decide +kernel)
set_option maxRecDepth 20000 in
theorem gX2_sync_X1_isEmpty : GoodIn wsX2_sync (wsV RX2 65 RX1 yX1_isEmpty wsX1_isEmpty) := goodIn_app (goodIn_of _ (by decide +kernel)) ggX2_sync_X1_isEmpty
set_option maxRecDepth 20000 in
theorem ggX2_sync_X2_flush : GoodIn wsX2_sync wsX2_flush := goodIn_ca (goodIn_r _ [24, 25, 26, 1, 27, 28, 29, 6, 30, 31, 32, 33, 34, 35, 36, 37, 38, 39, 40, 41, 42, 43, 44, 45, 46, 47, 48, 49, 50, 51, 52, 53, 54, 55, 56, 10, 57, 58, 59, 60, 61, 62, 63, 64, 65, 66, 67, 68, 69, 70, 71, 72, 73, 74, 75, 76, 77, 78, 79, 80, 81, 82, 14, 83, 20, 84, 85, 86, 87, 88, 89, 90, 91, 92, 94, 95, 96, 97, 98, 93] (by decide +kernel) (by decide +kernel)) (goodIn_sub (fun _ h => List.mem_cons_of_mem _ (List.mem_append_right _ h)) (by decide +kernel))
set_option maxRecDepth 20000 in
theorem gX2_sync_X2_flush : GoodIn wsX2_sync (wsV RX2 57 RX2 yX2_flush wsX2_flush) := goodIn_app (goodIn_of _ (by decide +kernel)) ggX2_sync_X2_flush
set_option maxRecDepth 20000 in
theorem ggX2_off_X2_requirePower : GoodIn wsX2_off wsX2_requirePower := goodIn_ca (goodIn_r _ [7, 8, 9, 1, 16, 17, 18, 19, 20, 21, 22, 23] (by decide +kernel) (by decide +kernel)) (goodIn_sub (fun _ h => List.mem_cons_of_mem _ (List.mem_append_right _ h)) (by decide +kernel))
set_option maxRecDepth 20000 in
theorem gX2_off_X2_requirePower : GoodIn wsX2_off (wsV RX2 43 RX2 yX2_requirePower wsX2_requirePower) := goodIn_app (goodIn_of _ (by decide +kernel)) ggX2_off_X2_requirePower
set_option maxRecDepth 20000 in
theorem ggX2_off_X1_events : GoodIn wsX2_off wsX1_events := goodIn_r _ [14, 15, 24] (by decide +kernel) (by decide +kernel)
set_option maxRecDepth 20000 in
theorem gX2_off_X1_events : GoodIn wsX2_off (wsV RX2 70 RX1 yX1_events wsX1_events) := goodIn_app (goodIn_of _ (by decide +kernel)) ggX2_off_X1_events
set_option maxRecDepth 20000 in
theorem ggX2_start_X1_clear : GoodIn wsX2_start wsX1_clear := goodIn_r _ [10, 11, 12, 13, 14, 15, 101] (by decide +kernel) (by decide +kernel)
set_option maxRecDepth 20000 in
theorem gX2_start_X1_clear : GoodIn wsX2_start (wsV RX2 79 RX1 yX1_clear wsX1_clear) := goodIn_app (goodIn_of _ (by decide +kernel)) ggX2_start_X1_clear
set_option maxRecDepth 20000 in
theorem ggX2_start_X2_eraseUnreadableBlocks : GoodIn wsX2_start wsX2_eraseUnreadableBlocks := goodIn_r _ [20, 21, 22, 23, 24, 25, 26, 27, 28, 29, 30, 31, 32, 33, 34, 19, 35, 36, 37, 38, 39, 40, 41, 42, 43, 44, 45, 46, 47, 48, 49, 50, 51, 52, 53, 54, 55, 56, 57, 58, 59, 60, 61, 62, 63, 64, 65, 66, 9, 67, 68, 69, 70, 71, 11, 72, 73, 74, 75, 76, 77, 78, 79, 80, 81, 13, 14, 15, 93, 94, 95, 96, 97, 98, 99, 100, 102, 103, 104, 105, 106, 101] (by decide +kernel) (by decide +kernel)
set_option maxRecDepth 20000 in
theorem gX2_start_X2_eraseUnreadableBlocks : GoodIn wsX2_start (wsV RX2 82 RX2 yX2_eraseUnreadableBlocks wsX2_eraseUnreadableBlocks) := goodIn_app (goodIn_of _ (by decide +kernel)) ggX2_start_X2_eraseUnreadableBlocks
set_option maxRecDepth 20000 in
theorem ggX2_start_X2_findEvents : GoodIn wsX2_start wsX2_findEvents := goodIn_r _ [85, 86, 21, 87, 5, 88, 89, 90, 19, 91, 36, 41, 42, 43, 25, 44, 45, 46, 47, 48, 31, 49, 50, 51, 52, 53, 54, 55, 56, 57, 58, 59, 60, 61, 62, 63, 92, 69, 70, 9, 71, 11, 32, 33, 34, 35, 37, 38, 39, 40, 64, 65, 66, 67, 68, 72, 73, 74, 75, 93, 94, 95, 96, 97, 98, 99, 100, 101, 102, 103, 104, 105, 106] (by decide +kernel) (by decide +kernel)
set_option maxRecDepth 20000 in
theorem gX2_start_X2_findEvents : GoodIn wsX2_start (wsV RX2 85 RX2 yX2_findEvents wsX2_findEvents) := goodIn_app (goodIn_of _ (by decide +kernel)) ggX2_start_X2_findEvents
set_option maxRecDepth 20000 in
theorem ggX2_trim_X2_requirePower : GoodIn wsX2_trim wsX2_requirePower := goodIn_ca (goodIn_r _ [11, 12, 13, 14, 80, 81, 82, 83, 84, 85, 86, 87] (by decide +kernel) (by decide +kernel)) (goodIn_sub (fun _ h => List.mem_cons_of_mem _ (List.mem_append_right _ h)) (by decide +kernel))
set_option maxRecDepth 20000 in
theorem gX2_trim_X2_requirePower : GoodIn wsX2_trim (wsV RX2 43 RX2 yX2_requirePower wsX2_requirePower) := goodIn_app (goodIn_of _ (by decide +kernel)) ggX2_trim_X2_requirePower
set_option maxRecDepth 20000 in
theorem ggX2_trim_X0_isErased : GoodIn wsX2_trim wsX0_isErased := goodIn_r _ [19, 20, 21, 22, 18, 23, 24, 88, 89, 90, 91, 92] (by decide +kernel) (by decide +kernel)
set_option maxRecDepth 20000 in
theorem gX2_trim_X0_isErased : GoodIn wsX2_trim (wsV RX2 90 RX0 yX0_isErased wsX0_isErased) := goodIn_app (goodIn_of _ (by decide +kernel)) ggX2_trim_X0_isErased
set_option maxRecDepth 20000 in
theorem ggX2_trim_X2_greatestEvent : GoodIn wsX2_trim wsX2_greatestEvent := goodIn_r _ [28, 29, 30, 31, 32, 33, 34, 35, 36, 18, 37, 38, 39, 40, 41, 24, 42, 43, 44, 45, 46, 47, 48, 49, 50, 51, 52, 53, 54, 55, 56, 57, 58, 59, 60, 61, 62, 63, 64, 65, 66, 67, 68, 69, 70, 80, 81, 82, 83, 84, 85, 86, 87, 93, 88, 89, 90, 91, 92] (by decide +kernel) (by decide +kernel)
set_option maxRecDepth 20000 in
theorem gX2_trim_X2_greatestEvent : GoodIn wsX2_trim (wsV RX2 93 RX2 yX2_greatestEvent wsX2_greatestEvent) := goodIn_app (goodIn_of _ (by decide +kernel)) ggX2_trim_X2_greatestEvent
set_option maxRecDepth 20000 in
theorem ggX2_trim_X0_erase : GoodIn wsX2_trim wsX0_erase := goodIn_r _ [74, 24, 50, 75, 76, 77, 78, 79, 88, 89, 90, 91, 92] (by decide +kernel) (by decide +kernel)
set_option maxRecDepth 20000 in
theorem gX2_trim_X0_erase : GoodIn wsX2_trim (wsV RX2 97 RX0 yX0_erase wsX0_erase) := goodIn_app (goodIn_of _ (by decide +kernel)) ggX2_trim_X0_erase
set_option maxRecDepth 20000 in
theorem ggX2_first_X2_requirePower : GoodIn wsX2_first wsX2_requirePower := goodIn_ca (goodIn_r _ [6, 7, 8, 9, 10, 11, 12, 13, 14, 15, 16, 17] (by decide +kernel) (by decide +kernel)) (goodIn_sub (fun _ h => List.mem_cons_of_mem _ (List.mem_append_right _ h)) (by decide +kernel))
set_option maxRecDepth 20000 in
theorem gX2_first_X2_requirePower : GoodIn wsX2_first (wsV RX2 43 RX2 yX2_requirePower wsX2_requirePower) := goodIn_app (goodIn_of _ (by decide +kernel)) ggX2_first_X2_requirePower
set_option maxRecDepth 20000 in
theorem ggX2_count_X2_requirePower : GoodIn wsX2_count wsX2_requirePower := goodIn_ca (goodIn_r _ [6, 7, 8, 9, 10, 11, 12, 13, 14, 15, 16, 17] (by decide +kernel) (by decide +kernel)) (goodIn_sub (fun _ h => List.mem_cons_of_mem _ (List.mem_append_right _ h)) (by decide +kernel))
set_option maxRecDepth 20000 in
theorem gX2_count_X2_requirePower : GoodIn wsX2_count (wsV RX2 43 RX2 yX2_requirePower wsX2_requirePower) := goodIn_app (goodIn_of _ (by decide +kernel)) ggX2_count_X2_requirePower
set_option maxRecDepth 20000 in
theorem ggX2_length_X2_requirePower : GoodIn wsX2_length wsX2_requirePower := goodIn_ca (goodIn_r _ [5, 6, 7, 8, 79, 80, 81, 82, 83, 84, 85, 86] (by decide +kernel) (by decide +kernel)) (goodIn_sub (fun _ h => List.mem_cons_of_mem _ (List.mem_append_left _ (List.mem_append_right _ h))) (by decide +kernel))
set_option maxRecDepth 20000 in
theorem gX2_length_X2_requirePower : GoodIn wsX2_length (wsV RX2 43 RX2 yX2_requirePower wsX2_requirePower) := goodIn_app (goodIn_of _ (by decide +kernel)) ggX2_length_X2_requirePower
set_option maxRecDepth 20000 in
theorem ggX2_length_X2_requireEvent : GoodIn wsX2_length wsX2_requireEvent := goodIn_ca (goodIn_r _ [12, 13, 14, 15, 16, 79, 80, 81, 82, 83, 84, 85, 86] (by decide +kernel) (by decide +kernel)) (goodIn_sub (fun _ h => List.mem_cons_of_mem _ (List.mem_append_right _ h)) (by decide +kernel))
set_option maxRecDepth 20000 in
theorem gX2_length_X2_requireEvent : GoodIn wsX2_length (wsV RX2 100 RX2 yX2_requireEvent wsX2_requireEvent) := goodIn_app (goodIn_of _ (by decide +kernel)) ggX2_length_X2_requireEvent
set_option maxRecDepth 20000 in
theorem ggX2_length_X2_pageWith : GoodIn wsX2_length wsX2_pageWith := goodIn_r _ [20, 21, 22, 23, 24, 25, 26, 27, 28, 29, 30, 31, 32, 33, 34, 35, 36, 37, 38, 39, 40, 41, 42, 43, 44, 45, 46, 47, 48, 49, 50, 51, 52, 53, 54, 55, 56, 57, 58, 59, 60, 61, 62, 63, 64, 65, 66, 67, 68, 69, 70, 79, 80, 81, 82, 83, 84, 85, 86, 87, 88, 89, 90, 91, 92] (by decide +kernel) (by decide +kernel)
set_option maxRecDepth 20000 in
theorem gX2_length_X2_pageWith : GoodIn wsX2_length (wsV RX2 104 RX2 yX2_pageWith wsX2_pageWith) := goodIn_app (goodIn_of _ (by decide +kernel)) ggX2_length_X2_pageWith
set_option maxRecDepth 20000 in
theorem ggX2_length_X1_lengthOf : GoodIn wsX2_length wsX1_lengthOf := goodIn_r _ [74, 37, 38, 39, 40, 27, 41, 75, 76, 77, 78, 87] (by decide +kernel) (by decide +kernel)
set_option maxRecDepth 20000 in
theorem gX2_length_X1_lengthOf : GoodIn wsX2_length (wsV RX2 108 RX1 yX1_lengthOf wsX1_lengthOf) := goodIn_app (goodIn_of _ (by decide +kernel)) ggX2_length_X1_lengthOf
set_option maxRecDepth 20000 in
theorem ggX2_event_X2_requirePower : GoodIn wsX2_event wsX2_requirePower := goodIn_ca (goodIn_r _ [7, 8, 9, 10, 81, 82, 83, 84, 85, 86, 87, 88] (by decide +kernel) (by decide +kernel)) (goodIn_sub (fun _ h => List.mem_cons_of_mem _ (List.mem_append_left _ (List.mem_append_right _ h))) (by decide +kernel))
set_option maxRecDepth 20000 in
theorem gX2_event_X2_requirePower : GoodIn wsX2_event (wsV RX2 43 RX2 yX2_requirePower wsX2_requirePower) := goodIn_app (goodIn_of _ (by decide +kernel)) ggX2_event_X2_requirePower
set_option maxRecDepth 20000 in
theorem ggX2_event_X2_requireEvent : GoodIn wsX2_event wsX2_requireEvent := goodIn_ca (goodIn_r _ [14, 15, 16, 17, 18, 81, 82, 83, 84, 85, 86, 87, 88] (by decide +kernel) (by decide +kernel)) (goodIn_sub (fun _ h => List.mem_cons_of_mem _ (List.mem_append_right _ h)) (by decide +kernel))
set_option maxRecDepth 20000 in
theorem gX2_event_X2_requireEvent : GoodIn wsX2_event (wsV RX2 100 RX2 yX2_requireEvent wsX2_requireEvent) := goodIn_app (goodIn_of _ (by decide +kernel)) ggX2_event_X2_requireEvent
set_option maxRecDepth 20000 in
theorem ggX2_event_X2_pageWith : GoodIn wsX2_event wsX2_pageWith := goodIn_r _ [22, 23, 24, 25, 26, 27, 28, 29, 30, 31, 32, 33, 34, 35, 36, 37, 38, 39, 40, 41, 42, 43, 44, 45, 46, 47, 48, 49, 50, 51, 52, 53, 54, 55, 56, 57, 58, 59, 60, 61, 62, 63, 64, 65, 66, 67, 68, 69, 70, 71, 72, 81, 82, 83, 84, 85, 86, 87, 88, 89, 90, 91, 92, 93, 94] (by decide +kernel) (by decide +kernel)
set_option maxRecDepth 20000 in
theorem gX2_event_X2_pageWith : GoodIn wsX2_event (wsV RX2 104 RX2 yX2_pageWith wsX2_pageWith) := goodIn_app (goodIn_of _ (by decide +kernel)) ggX2_event_X2_pageWith
set_option maxRecDepth 20000 in
theorem ggX2_event_X1_bytesOf : GoodIn wsX2_event wsX1_bytesOf := goodIn_r _ [76, 39, 40, 41, 42, 29, 43, 77, 78, 79, 80, 89] (by decide +kernel) (by decide +kernel)
set_option maxRecDepth 20000 in
theorem gX2_event_X1_bytesOf : GoodIn wsX2_event (wsV RX2 117 RX1 yX1_bytesOf wsX1_bytesOf) := goodIn_app (goodIn_of _ (by decide +kernel)) ggX2_event_X1_bytesOf
set_option maxRecDepth 20000 in
theorem ggX2_ruin_X2_requireLine : GoodIn wsX2_ruin wsX2_requireLine := goodIn_ca (goodIn_r _ [5, 6, 7, 8, 9, 4, 10] (by decide +kernel) (by decide +kernel)) (goodIn_sub (fun _ h => List.mem_cons_of_mem _ (List.mem_append_right _ h)) (by decide +kernel))
set_option maxRecDepth 20000 in
theorem gX2_ruin_X2_requireLine : GoodIn wsX2_ruin (va_wsS RX2 121 yX2_requireLine wsX2_requireLine) := goodIn_app (goodIn_of _ (by decide +kernel)) ggX2_ruin_X2_requireLine
set_option maxRecDepth 20000 in
theorem ggX2_ruin_X2_placeOf : GoodIn wsX2_ruin wsX2_placeOf := goodIn_r _ [13] (by decide +kernel) (by decide +kernel)
set_option maxRecDepth 20000 in
theorem gX2_ruin_X2_placeOf : GoodIn wsX2_ruin (va_wsS RX2 125 yX2_placeOf wsX2_placeOf) := goodIn_app (goodIn_of _ (by decide +kernel)) ggX2_ruin_X2_placeOf
set_option maxRecDepth 20000 in
theorem ggX2_ruin_X0_ruinWritten : GoodIn wsX2_ruin wsX0_ruinWritten := goodIn_r _ [18, 19, 28, 29, 30, 31, 32] (by decide +kernel) (by decide +kernel)
set_option maxRecDepth 20000 in
theorem gX2_ruin_X0_ruinWritten : GoodIn wsX2_ruin (wsV RX2 129 RX0 yX0_ruinWritten wsX0_ruinWritten) := goodIn_app (goodIn_of _ (by decide +kernel)) ggX2_ruin_X0_ruinWritten
set_option maxRecDepth 20000 in
theorem ggX2_page_X2_requireLine : GoodIn wsX2_page wsX2_requireLine := goodIn_ca (goodIn_r _ [5, 6, 7, 8, 9, 4, 10] (by decide +kernel) (by decide +kernel)) (goodIn_sub (fun _ h => List.mem_cons_of_mem _ (List.mem_append_right _ h)) (by decide +kernel))
set_option maxRecDepth 20000 in
theorem gX2_page_X2_requireLine : GoodIn wsX2_page (va_wsS RX2 121 yX2_requireLine wsX2_requireLine) := goodIn_app (goodIn_of _ (by decide +kernel)) ggX2_page_X2_requireLine
set_option maxRecDepth 20000 in
theorem ggX2_page_X2_placeOf : GoodIn wsX2_page wsX2_placeOf := goodIn_r _ [13] (by decide +kernel) (by decide +kernel)
set_option maxRecDepth 20000 in
theorem gX2_page_X2_placeOf : GoodIn wsX2_page (va_wsS RX2 125 yX2_placeOf wsX2_placeOf) := goodIn_app (goodIn_of _ (by decide +kernel)) ggX2_page_X2_placeOf
set_option maxRecDepth 20000 in
theorem ggX2_page_X0_stateAt : GoodIn wsX2_page wsX0_stateAt := goodIn_r _ [18, 19, 20, 21, 22, 17, 23, 24, 25, 26, 27, 28, 29, 38, 39, 40, 41, 42] (by decide +kernel) (by decide +kernel)
set_option maxRecDepth 20000 in
theorem gX2_page_X0_stateAt : GoodIn wsX2_page (wsV RX2 132 RX0 yX0_stateAt wsX0_stateAt) := goodIn_app (goodIn_of _ (by decide +kernel)) ggX2_page_X0_stateAt
set_option maxRecDepth 20000 in
theorem ggX2_at_X2_requireLine : GoodIn wsX2_at wsX2_requireLine := goodIn_ca (goodIn_r _ [9, 1, 2, 10, 11, 8, 12] (by decide +kernel) (by decide +kernel)) (goodIn_sub (fun _ h => List.mem_cons_of_mem _ (List.mem_append_left _ (List.mem_append_right _ h))) (by decide +kernel))
set_option maxRecDepth 20000 in
theorem gX2_at_X2_requireLine : GoodIn wsX2_at (va_wsS RX2 121 yX2_requireLine wsX2_requireLine) := goodIn_app (goodIn_of _ (by decide +kernel)) ggX2_at_X2_requireLine
set_option maxRecDepth 20000 in
theorem ggX2_at_X2_placeOf : GoodIn wsX2_at wsX2_placeOf := goodIn_r _ [15] (by decide +kernel) (by decide +kernel)
set_option maxRecDepth 20000 in
theorem gX2_at_X2_placeOf : GoodIn wsX2_at (va_wsS RX2 125 yX2_placeOf wsX2_placeOf) := goodIn_app (goodIn_of _ (by decide +kernel)) ggX2_at_X2_placeOf
set_option maxRecDepth 20000 in
theorem ggX2_at_X0_isReadable : GoodIn wsX2_at wsX0_isReadable := goodIn_r _ [20, 21, 22, 23, 24, 19, 25, 26, 27, 28, 29, 30, 31, 45, 46, 47, 48, 49] (by decide +kernel) (by decide +kernel)
set_option maxRecDepth 20000 in
theorem gX2_at_X0_isReadable : GoodIn wsX2_at (wsV RX2 140 RX0 yX0_isReadable wsX0_isReadable) := goodIn_app (goodIn_of _ (by decide +kernel)) ggX2_at_X0_isReadable
set_option maxRecDepth 20000 in
theorem ggX2_at_X0_byteAt : GoodIn wsX2_at wsX0_byteAt := goodIn_r _ [35, 21, 36, 31, 26, 27, 28, 19, 29, 30, 45, 46, 47, 48, 49] (by decide +kernel) (by decide +kernel)
set_option maxRecDepth 20000 in
theorem gX2_at_X0_byteAt : GoodIn wsX2_at (wsV RX2 145 RX0 yX0_byteAt wsX0_byteAt) := goodIn_app (goodIn_of _ (by decide +kernel)) ggX2_at_X0_byteAt
set_option maxRecDepth 20000 in
theorem ggX2_guard_X2_requireBlock : GoodIn wsX2_guard wsX2_requireBlock := goodIn_ca (goodIn_r _ [5, 6, 7] (by decide +kernel) (by decide +kernel)) (goodIn_sub (fun _ h => List.mem_cons_of_mem _ (List.mem_append_right _ h)) (by decide +kernel))
set_option maxRecDepth 20000 in
theorem gX2_guard_X2_requireBlock : GoodIn wsX2_guard (va_wsS RX2 149 yX2_requireBlock wsX2_requireBlock) := goodIn_app (goodIn_of _ (by decide +kernel)) ggX2_guard_X2_requireBlock
set_option maxRecDepth 20000 in
theorem ggX2_guarded_X2_requireBlock : GoodIn wsX2_guarded wsX2_requireBlock := goodIn_ca (goodIn_r _ [9, 1, 2] (by decide +kernel) (by decide +kernel)) (goodIn_sub (fun _ h => List.mem_cons_of_mem _ (List.mem_append_left _ (List.mem_append_right _ h))) (by decide +kernel))
set_option maxRecDepth 20000 in
theorem gX2_guarded_X2_requireBlock : GoodIn wsX2_guarded (va_wsS RX2 149 yX2_requireBlock wsX2_requireBlock) := goodIn_app (goodIn_of _ (by decide +kernel)) ggX2_guarded_X2_requireBlock
set_option maxRecDepth 20000 in
theorem ggX2_told_X2_erasedBlocks : GoodIn wsX2_told wsX2_erasedBlocks := goodIn_r _ [9, 1, 10, 11, 12, 13, 14, 15, 16, 17, 18, 19, 20, 21, 22, 23, 24, 25, 26, 27, 28, 29, 30, 31, 32] (by decide +kernel) (by decide +kernel)
set_option maxRecDepth 20000 in
theorem gX2_told_X2_erasedBlocks : GoodIn wsX2_told (wsV RX2 164 RX2 yX2_erasedBlocks wsX2_erasedBlocks) := goodIn_app (goodIn_of _ (by decide +kernel)) ggX2_told_X2_erasedBlocks
set_option maxRecDepth 20000 in
theorem ggX2_requireLine_X2_requireBlock : GoodIn wsX2_requireLine wsX2_requireBlock := goodIn_ca (goodIn_r _ [6, 1, 2] (by decide +kernel) (by decide +kernel)) (goodIn_sub (fun _ h => List.mem_cons_of_mem _ (List.mem_append_right _ h)) (by decide +kernel))
set_option maxRecDepth 20000 in
theorem gX2_requireLine_X2_requireBlock : GoodIn wsX2_requireLine (va_wsS RX2 149 yX2_requireBlock wsX2_requireBlock) := goodIn_app (goodIn_of _ (by decide +kernel)) ggX2_requireLine_X2_requireBlock
set_option maxRecDepth 20000 in
theorem ggX2_flush_X2_blockToProgram : GoodIn wsX2_flush wsX2_blockToProgram := goodIn_ca (goodIn_r _ [8, 9, 10, 2, 1, 11, 12, 13, 14, 15, 16, 17, 18, 19, 20, 21, 22, 23, 24, 66, 67, 68, 69, 70, 71, 72, 73, 74, 75, 76, 77, 78] (by decide +kernel) (by decide +kernel)) (goodIn_sub (fun _ h => List.mem_cons_of_mem _ (List.mem_append_right _ h)) (by decide +kernel))
set_option maxRecDepth 20000 in
theorem gX2_flush_X2_blockToProgram : GoodIn wsX2_flush (wsV RX2 175 RX2 yX2_blockToProgram wsX2_blockToProgram) := goodIn_app (goodIn_of _ (by decide +kernel)) ggX2_flush_X2_blockToProgram
set_option maxRecDepth 20000 in
theorem ggX2_flush_X0_nextPlace : GoodIn wsX2_flush wsX0_nextPlace := goodIn_r _ [20, 16, 74, 75, 76, 77, 78] (by decide +kernel) (by decide +kernel)
set_option maxRecDepth 20000 in
theorem gX2_flush_X0_nextPlace : GoodIn wsX2_flush (wsV RX2 178 RX0 yX0_nextPlace wsX0_nextPlace) := goodIn_app (goodIn_of _ (by decide +kernel)) ggX2_flush_X0_nextPlace
set_option maxRecDepth 20000 in
theorem ggX2_flush_X2_programGuard : GoodIn wsX2_flush wsX2_programGuard := goodIn_r _ [29, 30, 31, 32, 7, 33, 34, 35, 36, 37, 38, 14, 39, 40, 16, 41, 42, 43, 44, 45, 46, 74, 75, 76, 77, 78, 66, 67, 68, 69, 70, 71, 72, 73] (by decide +kernel) (by decide +kernel)
set_option maxRecDepth 20000 in
theorem gX2_flush_X2_programGuard : GoodIn wsX2_flush (wsV RX2 181 RX2 yX2_programGuard wsX2_programGuard) := goodIn_app (goodIn_of _ (by decide +kernel)) ggX2_flush_X2_programGuard
set_option maxRecDepth 20000 in
theorem ggX2_flush_X2_cutIsDue : GoodIn wsX2_flush wsX2_cutIsDue := goodIn_r _ [33, 34, 35, 66, 67, 68, 69, 70, 71, 72, 73] (by decide +kernel) (by decide +kernel)
set_option maxRecDepth 20000 in
theorem gX2_flush_X2_cutIsDue : GoodIn wsX2_flush (wsV RX2 185 RX2 yX2_cutIsDue wsX2_cutIsDue) := goodIn_app (goodIn_of _ (by decide +kernel)) ggX2_flush_X2_cutIsDue
set_option maxRecDepth 20000 in
theorem ggX2_flush_X0_cutAt : GoodIn wsX2_flush wsX0_cutAt := goodIn_r _ [50, 16, 74, 75, 76, 77, 78] (by decide +kernel) (by decide +kernel)
set_option maxRecDepth 20000 in
theorem gX2_flush_X0_cutAt : GoodIn wsX2_flush (wsV RX2 188 RX0 yX0_cutAt wsX0_cutAt) := goodIn_app (goodIn_of _ (by decide +kernel)) ggX2_flush_X0_cutAt
set_option maxRecDepth 20000 in
theorem ggX2_flush_X0_write : GoodIn wsX2_flush wsX0_write := goodIn_r _ [54, 16, 41, 55, 56, 57, 58, 74, 75, 76, 77, 78, 79] (by decide +kernel) (by decide +kernel)
set_option maxRecDepth 20000 in
theorem gX2_flush_X0_write : GoodIn wsX2_flush (wsV RX2 191 RX0 yX0_write wsX0_write) := goodIn_app (goodIn_of _ (by decide +kernel)) ggX2_flush_X0_write
set_option maxRecDepth 20000 in
theorem ggX2_flush_X1_clear : GoodIn wsX2_flush wsX1_clear := goodIn_r _ [63, 64, 65, 44, 45, 46, 79] (by decide +kernel) (by decide +kernel)
set_option maxRecDepth 20000 in
theorem gX2_flush_X1_clear : GoodIn wsX2_flush (wsV RX2 79 RX1 yX1_clear wsX1_clear) := goodIn_app (goodIn_of _ (by decide +kernel)) ggX2_flush_X1_clear
set_option maxRecDepth 20000 in
theorem ggX2_blockToProgram_X0_takesMore : GoodIn wsX2_blockToProgram wsX0_takesMore := goodIn_r _ [9, 10, 11, 12, 13, 8, 14, 27, 28, 29, 30, 31] (by decide +kernel) (by decide +kernel)
set_option maxRecDepth 20000 in
theorem gX2_blockToProgram_X0_takesMore : GoodIn wsX2_blockToProgram (wsV RX2 195 RX0 yX0_takesMore wsX0_takesMore) := goodIn_app (goodIn_of _ (by decide +kernel)) ggX2_blockToProgram_X0_takesMore
set_option maxRecDepth 20000 in
theorem ggX2_blockToProgram_X0_isErased : GoodIn wsX2_blockToProgram wsX0_isErased := goodIn_r _ [18, 11, 12, 13, 8, 14, 10, 27, 28, 29, 30, 31] (by decide +kernel) (by decide +kernel)
set_option maxRecDepth 20000 in
theorem gX2_blockToProgram_X0_isErased : GoodIn wsX2_blockToProgram (wsV RX2 90 RX0 yX0_isErased wsX0_isErased) := goodIn_app (goodIn_of _ (by decide +kernel)) ggX2_blockToProgram_X0_isErased
set_option maxRecDepth 20000 in
theorem ggX2_programGuard_X2_cutIsDue : GoodIn wsX2_programGuard wsX2_cutIsDue := goodIn_r _ [5, 6, 7, 26, 27, 28, 29, 30, 31, 32, 33] (by decide +kernel) (by decide +kernel)
set_option maxRecDepth 20000 in
theorem gX2_programGuard_X2_cutIsDue : GoodIn wsX2_programGuard (wsV RX2 185 RX2 yX2_cutIsDue wsX2_cutIsDue) := goodIn_app (goodIn_of _ (by decide +kernel)) ggX2_programGuard_X2_cutIsDue
set_option maxRecDepth 20000 in
theorem ggX2_programGuard_X0_writeGuard : GoodIn wsX2_programGuard wsX0_writeGuard := goodIn_r _ [12, 13, 14, 15, 16, 17, 18, 19, 20, 21, 22, 23, 24, 25] (by decide +kernel) (by decide +kernel)
set_option maxRecDepth 20000 in
theorem gX2_programGuard_X0_writeGuard : GoodIn wsX2_programGuard (wsV RX2 203 RX0 yX0_writeGuard wsX0_writeGuard) := goodIn_app (goodIn_of _ (by decide +kernel)) ggX2_programGuard_X0_writeGuard
set_option maxRecDepth 20000 in
theorem ggX2_eraseUnreadableBlocks_X0_isErased : GoodIn wsX2_eraseUnreadableBlocks wsX0_isErased := goodIn_r _ [6, 7, 8, 9, 5, 10, 11, 76, 77, 78, 79, 80] (by decide +kernel) (by decide +kernel)
set_option maxRecDepth 20000 in
theorem gX2_eraseUnreadableBlocks_X0_isErased : GoodIn wsX2_eraseUnreadableBlocks (wsV RX2 90 RX0 yX0_isErased wsX0_isErased) := goodIn_app (goodIn_of _ (by decide +kernel)) ggX2_eraseUnreadableBlocks_X0_isErased
set_option maxRecDepth 20000 in
theorem ggX2_eraseUnreadableBlocks_X2_greatestEvent : GoodIn wsX2_eraseUnreadableBlocks wsX2_greatestEvent := goodIn_r _ [16, 17, 18, 19, 20, 21, 22, 23, 24, 5, 25, 26, 27, 28, 29, 11, 30, 31, 32, 33, 34, 35, 36, 37, 38, 39, 40, 41, 42, 43, 44, 45, 46, 47, 48, 49, 50, 51, 52, 53, 54, 55, 56, 57, 58, 68, 69, 70, 71, 72, 73, 74, 75, 81, 76, 77, 78, 79, 80] (by decide +kernel) (by decide +kernel)
set_option maxRecDepth 20000 in
theorem gX2_eraseUnreadableBlocks_X2_greatestEvent : GoodIn wsX2_eraseUnreadableBlocks (wsV RX2 93 RX2 yX2_greatestEvent wsX2_greatestEvent) := goodIn_app (goodIn_of _ (by decide +kernel)) ggX2_eraseUnreadableBlocks_X2_greatestEvent
set_option maxRecDepth 20000 in
theorem ggX2_eraseUnreadableBlocks_X0_erase : GoodIn wsX2_eraseUnreadableBlocks wsX0_erase := goodIn_r _ [62, 11, 38, 63, 64, 65, 66, 67, 76, 77, 78, 79, 80] (by decide +kernel) (by decide +kernel)
set_option maxRecDepth 20000 in
theorem gX2_eraseUnreadableBlocks_X0_erase : GoodIn wsX2_eraseUnreadableBlocks (wsV RX2 97 RX0 yX0_erase wsX0_erase) := goodIn_app (goodIn_of _ (by decide +kernel)) ggX2_eraseUnreadableBlocks_X0_erase
set_option maxRecDepth 20000 in
theorem ggX2_findEvents_X2_leastEvent : GoodIn wsX2_findEvents wsX2_leastEvent := goodIn_r _ [9, 10, 11, 12, 13, 14, 15, 16, 17, 18, 19, 20, 21, 22, 23, 24, 25, 26, 27, 28, 29, 30, 31, 32, 33, 34, 35, 36, 37, 38, 39, 40, 41, 59, 60, 61, 62, 63, 64, 65, 66, 67, 68, 69, 70, 71, 72] (by decide +kernel) (by decide +kernel)
set_option maxRecDepth 20000 in
theorem gX2_findEvents_X2_leastEvent : GoodIn wsX2_findEvents (wsV RX2 206 RX2 yX2_leastEvent wsX2_leastEvent) := goodIn_app (goodIn_of _ (by decide +kernel)) ggX2_findEvents_X2_leastEvent
set_option maxRecDepth 20000 in
theorem ggX2_findEvents_X2_greatestEvent : GoodIn wsX2_findEvents wsX2_greatestEvent := goodIn_r _ [45, 10, 46, 47, 48, 49, 11, 12, 13, 14, 15, 16, 17, 18, 19, 20, 21, 22, 23, 24, 25, 26, 27, 28, 29, 30, 31, 32, 33, 34, 35, 50, 51, 52, 39, 53, 54, 37, 38, 40, 41, 55, 56, 57, 58, 59, 60, 61, 62, 63, 64, 65, 66, 67, 68, 69, 70, 71, 72] (by decide +kernel) (by decide +kernel)
set_option maxRecDepth 20000 in
theorem gX2_findEvents_X2_greatestEvent : GoodIn wsX2_findEvents (wsV RX2 93 RX2 yX2_greatestEvent wsX2_greatestEvent) := goodIn_app (goodIn_of _ (by decide +kernel)) ggX2_findEvents_X2_greatestEvent
set_option maxRecDepth 20000 in
theorem ggX2_leastEvent_X0_show : GoodIn wsX2_leastEvent wsX0_show := goodIn_r _ [6, 7, 8, 9, 5, 10, 11, 12, 13, 14, 15, 16, 17, 18, 19, 20, 21, 22, 23, 24, 25, 26, 41, 42, 43, 44, 45, 46] (by decide +kernel) (by decide +kernel)
set_option maxRecDepth 20000 in
theorem gX2_leastEvent_X0_show : GoodIn wsX2_leastEvent (wsV RX2 209 RX0 yX0_show wsX0_show) := goodIn_app (goodIn_of _ (by decide +kernel)) ggX2_leastEvent_X0_show
set_option maxRecDepth 20000 in
theorem ggX2_leastEvent_X1_firstNumber : GoodIn wsX2_leastEvent wsX1_firstNumber := goodIn_r _ [31, 32, 41] (by decide +kernel) (by decide +kernel)
set_option maxRecDepth 20000 in
theorem gX2_leastEvent_X1_firstNumber : GoodIn wsX2_leastEvent (wsV RX2 213 RX1 yX1_firstNumber wsX1_firstNumber) := goodIn_app (goodIn_of _ (by decide +kernel)) ggX2_leastEvent_X1_firstNumber
set_option maxRecDepth 20000 in
theorem ggX2_greatestEvent_X0_show : GoodIn wsX2_greatestEvent wsX0_show := goodIn_r _ [10, 11, 12, 13, 9, 14, 15, 16, 17, 18, 19, 20, 21, 22, 23, 24, 25, 26, 27, 28, 29, 30, 53, 54, 55, 56, 57, 58] (by decide +kernel) (by decide +kernel)
set_option maxRecDepth 20000 in
theorem gX2_greatestEvent_X0_show : GoodIn wsX2_greatestEvent (wsV RX2 209 RX0 yX0_show wsX0_show) := goodIn_app (goodIn_of _ (by decide +kernel)) ggX2_greatestEvent_X0_show
set_option maxRecDepth 20000 in
theorem ggX2_greatestEvent_X1_lastNumber : GoodIn wsX2_greatestEvent wsX1_lastNumber := goodIn_r _ [35, 36, 37, 38, 34, 39, 40, 41, 42, 43, 44, 53] (by decide +kernel) (by decide +kernel)
set_option maxRecDepth 20000 in
theorem gX2_greatestEvent_X1_lastNumber : GoodIn wsX2_greatestEvent (wsV RX2 216 RX1 yX1_lastNumber wsX1_lastNumber) := goodIn_app (goodIn_of _ (by decide +kernel)) ggX2_greatestEvent_X1_lastNumber
set_option maxRecDepth 20000 in
theorem ggX2_pageWith_X1_holds : GoodIn wsX2_pageWith wsX1_holds := goodIn_r _ [8, 9, 10, 11, 7, 12, 13, 14, 15, 16, 17, 18, 19, 20, 21, 22, 23, 24, 25, 59] (by decide +kernel) (by decide +kernel)
set_option maxRecDepth 20000 in
theorem gX2_pageWith_X1_holds : GoodIn wsX2_pageWith (wsV RX2 224 RX1 yX1_holds wsX1_holds) := goodIn_app (goodIn_of _ (by decide +kernel)) ggX2_pageWith_X1_holds
set_option maxRecDepth 20000 in
theorem ggX2_pageWith_X0_show : GoodIn wsX2_pageWith wsX0_show := goodIn_r _ [30, 31, 32, 33, 29, 34, 35, 36, 37, 38, 39, 40, 41, 42, 43, 44, 45, 46, 47, 48, 49, 50, 59, 60, 61, 62, 63, 64] (by decide +kernel) (by decide +kernel)
set_option maxRecDepth 20000 in
theorem gX2_pageWith_X0_show : GoodIn wsX2_pageWith (wsV RX2 209 RX0 yX0_show wsX0_show) := goodIn_app (goodIn_of _ (by decide +kernel)) ggX2_pageWith_X0_show
set_option maxRecDepth 20000 in
theorem ggX2_erasedBlocks_X0_isErased : GoodIn wsX2_erasedBlocks wsX0_isErased := goodIn_r _ [6, 7, 8, 9, 5, 10, 11, 20, 21, 22, 23, 24] (by decide +kernel) (by decide +kernel)
set_option maxRecDepth 20000 in
theorem gX2_erasedBlocks_X0_isErased : GoodIn wsX2_erasedBlocks (wsV RX2 90 RX0 yX0_isErased wsX0_isErased) := goodIn_app (goodIn_of _ (by decide +kernel)) ggX2_erasedBlocks_X0_isErased
set_option maxRecDepth 20000 in
theorem ggX3_isRebuilt_X3_isCovered : GoodIn wsX3_isRebuilt wsX3_isCovered := goodIn_r _ [7, 8, 9, 10, 11, 12, 13, 14, 15, 16, 17, 18, 19, 20, 21, 22, 23, 24] (by decide +kernel) (by decide +kernel)
set_option maxRecDepth 20000 in
theorem gX3_isRebuilt_X3_isCovered : GoodIn wsX3_isRebuilt (wsV RX3 39 RX3 yX3_isCovered wsX3_isCovered) := goodIn_app (goodIn_of _ (by decide +kernel)) ggX3_isRebuilt_X3_isCovered
set_option maxRecDepth 20000 in
theorem ggX3_isReadable_X3_isRebuilt : GoodIn wsX3_isReadable wsX3_isRebuilt := goodIn_r _ [6, 1, 7, 8, 9, 10, 5, 11, 12, 13, 14, 15, 16, 17, 18, 19, 20, 21, 22, 23, 24, 25, 26, 27, 28] (by decide +kernel) (by decide +kernel)
set_option maxRecDepth 20000 in
theorem gX3_isReadable_X3_isRebuilt : GoodIn wsX3_isReadable (wsV RX3 43 RX3 yX3_isRebuilt wsX3_isRebuilt) := goodIn_app (goodIn_of _ (by decide +kernel)) ggX3_isReadable_X3_isRebuilt
set_option maxRecDepth 20000 in
theorem ggX3_byteOf_X3_isCovered : GoodIn wsX3_byteOf wsX3_isCovered := goodIn_r _ [8, 3, 9, 10, 11, 12, 13, 14, 15, 16, 17, 18, 19, 20, 21, 22, 23, 24] (by decide +kernel) (by decide +kernel)
set_option maxRecDepth 20000 in
theorem gX3_byteOf_X3_isCovered : GoodIn wsX3_byteOf (wsV RX3 39 RX3 yX3_isCovered wsX3_isCovered) := goodIn_app (goodIn_of _ (by decide +kernel)) ggX3_byteOf_X3_isCovered
set_option maxRecDepth 20000 in
theorem ggX3_takesMore_X3_used : GoodIn wsX3_takesMore wsX3_used := goodIn_r _ [6, 1, 7, 8, 9, 10, 11, 12, 13, 14, 15, 16, 17, 18, 19, 20, 21, 22] (by decide +kernel) (by decide +kernel)
set_option maxRecDepth 20000 in
theorem gX3_takesMore_X3_used : GoodIn wsX3_takesMore (wsV RX3 50 RX3 yX3_used wsX3_used) := goodIn_app (goodIn_of _ (by decide +kernel)) ggX3_takesMore_X3_used
set_option maxRecDepth 20000 in
theorem ggX3_isFull_X3_takesMore : GoodIn wsX3_isFull wsX3_takesMore := goodIn_r _ [6, 7, 8, 9, 10, 5, 11, 17, 18, 19, 20, 21, 22, 23, 24, 25, 26, 27, 28, 29, 30, 31, 32] (by decide +kernel) (by decide +kernel)
set_option maxRecDepth 20000 in
theorem gX3_isFull_X3_takesMore : GoodIn wsX3_isFull (wsV RX3 57 RX3 yX3_takesMore wsX3_takesMore) := goodIn_app (goodIn_of _ (by decide +kernel)) ggX3_isFull_X3_takesMore
set_option maxRecDepth 20000 in
theorem ggX3_isFull_X3_isErased : GoodIn wsX3_isFull wsX3_isErased := goodIn_r _ [15, 16, 7, 17, 18, 19, 20, 21, 22, 23, 24, 25, 26, 27, 28, 29, 30, 31, 32] (by decide +kernel) (by decide +kernel)
set_option maxRecDepth 20000 in
theorem gX3_isFull_X3_isErased : GoodIn wsX3_isFull (wsV RX3 60 RX3 yX3_isErased wsX3_isErased) := goodIn_app (goodIn_of _ (by decide +kernel)) ggX3_isFull_X3_isErased
set_option maxRecDepth 20000 in
theorem ggX3_writeGuard_X3_isCut : GoodIn wsX3_writeGuard wsX3_isCut := goodIn_r _ [10, 11, 12, 13, 14, 15, 16, 17, 18, 19, 20, 21, 22, 23, 24, 25, 26, 27, 28] (by decide +kernel) (by decide +kernel)
set_option maxRecDepth 20000 in
theorem gX3_writeGuard_X3_isCut : GoodIn wsX3_writeGuard (wsV RX3 63 RX3 yX3_isCut wsX3_isCut) := goodIn_app (goodIn_of _ (by decide +kernel)) ggX3_writeGuard_X3_isCut
set_option maxRecDepth 20000 in
theorem ggX3_flush_X3_takesMore : GoodIn wsX3_flush wsX3_takesMore := goodIn_r _ [11, 2, 12, 13, 14, 10, 15, 33, 34, 35, 36, 37, 38, 39, 40, 41, 42, 43, 44, 45, 46, 47, 48] (by decide +kernel) (by decide +kernel)
set_option maxRecDepth 20000 in
theorem gX3_flush_X3_takesMore : GoodIn wsX3_flush (wsV RX3 57 RX3 yX3_takesMore wsX3_takesMore) := goodIn_app (goodIn_of _ (by decide +kernel)) ggX3_flush_X3_takesMore
set_option maxRecDepth 20000 in
theorem ggX3_flush_X3_used : GoodIn wsX3_flush wsX3_used := goodIn_r _ [15, 2, 33, 34, 35, 36, 37, 38, 39, 40, 41, 42, 43, 44, 45, 46, 47, 48] (by decide +kernel) (by decide +kernel)
set_option maxRecDepth 20000 in
theorem gX3_flush_X3_used : GoodIn wsX3_flush (wsV RX3 50 RX3 yX3_used wsX3_used) := goodIn_app (goodIn_of _ (by decide +kernel)) ggX3_flush_X3_used
set_option maxRecDepth 20000 in
theorem ggX3_flush_X3_writeGuard : GoodIn wsX3_flush wsX3_writeGuard := goodIn_r _ [19, 1, 20, 21, 2, 6, 22, 23, 24, 10, 25, 26, 27, 33, 34, 35, 36, 37, 38, 39, 40, 41, 42, 43, 44, 45, 46, 47, 48] (by decide +kernel) (by decide +kernel)
set_option maxRecDepth 20000 in
theorem gX3_flush_X3_writeGuard : GoodIn wsX3_flush (wsV RX3 70 RX3 yX3_writeGuard wsX3_writeGuard) := goodIn_app (goodIn_of _ (by decide +kernel)) ggX3_flush_X3_writeGuard
set_option maxRecDepth 20000 in
theorem ggX3_flush_X3_isCut : GoodIn wsX3_flush wsX3_isCut := goodIn_r _ [25, 26, 27, 33, 34, 35, 36, 37, 38, 39, 40, 41, 42, 43, 44, 45, 46, 47, 48] (by decide +kernel) (by decide +kernel)
set_option maxRecDepth 20000 in
theorem gX3_flush_X3_isCut : GoodIn wsX3_flush (wsV RX3 63 RX3 yX3_isCut wsX3_isCut) := goodIn_app (goodIn_of _ (by decide +kernel)) ggX3_flush_X3_isCut
set_option maxRecDepth 20000 in
theorem ggX3_flush_X3_empty : GoodIn wsX3_flush wsX3_empty := goodIn_r _ [31, 4, 32, 5, 33, 34, 35, 36, 37, 38, 39, 40, 41, 42, 43, 44, 45, 46, 47, 48] (by decide +kernel) (by decide +kernel)
set_option maxRecDepth 20000 in
theorem gX3_flush_X3_empty : GoodIn wsX3_flush (wsV RX3 76 RX3 yX3_empty wsX3_empty) := goodIn_app (goodIn_of _ (by decide +kernel)) ggX3_flush_X3_empty
set_option maxRecDepth 20000 in
theorem ggX3_append_X3_isFull : GoodIn wsX3_append wsX3_isFull := goodIn_r _ [12, 13, 14, 15, 16, 11, 17, 18, 19, 20, 21, 22, 23, 24, 25, 26, 27, 47, 48, 49, 50, 51, 52, 53, 54, 55, 56, 57, 58, 59, 60, 61, 62] (by decide +kernel) (by decide +kernel)
set_option maxRecDepth 20000 in
theorem gX3_append_X3_isFull : GoodIn wsX3_append (wsV RX3 79 RX3 yX3_isFull wsX3_isFull) := goodIn_app (goodIn_of _ (by decide +kernel)) ggX3_append_X3_isFull
set_option maxRecDepth 20000 in
theorem ggX3_append_X3_flush : GoodIn wsX3_append wsX3_flush := goodIn_r _ [31, 13, 18, 7, 6, 4, 32, 14, 15, 16, 11, 17, 19, 20, 21, 22, 33, 34, 35, 36, 27, 37, 38, 39, 40, 41, 42, 1, 43, 44, 45, 46, 3, 47, 48, 49, 50, 51, 52, 53, 54, 55, 56, 57, 58, 59, 60, 61, 62] (by decide +kernel) (by decide +kernel)
set_option maxRecDepth 20000 in
theorem gX3_append_X3_flush : GoodIn wsX3_append (wsV RX3 82 RX3 yX3_flush wsX3_flush) := goodIn_app (goodIn_of _ (by decide +kernel)) ggX3_append_X3_flush
set_option maxRecDepth 20000 in
theorem ggX3_sync_X3_isFull : GoodIn wsX3_sync wsX3_isFull := goodIn_r _ [9, 10, 11, 12, 13, 8, 14, 15, 16, 17, 18, 19, 20, 21, 22, 23, 24, 46, 47, 48, 49, 50, 51, 52, 53, 54, 55, 56, 57, 58, 59, 60, 61] (by decide +kernel) (by decide +kernel)
set_option maxRecDepth 20000 in
theorem gX3_sync_X3_isFull : GoodIn wsX3_sync (wsV RX3 79 RX3 yX3_isFull wsX3_isFull) := goodIn_app (goodIn_of _ (by decide +kernel)) ggX3_sync_X3_isFull
set_option maxRecDepth 20000 in
theorem ggX3_sync_X3_flush : GoodIn wsX3_sync wsX3_flush := goodIn_r _ [28, 10, 15, 4, 2, 29, 30, 11, 12, 13, 8, 14, 16, 17, 18, 19, 31, 32, 33, 34, 24, 35, 36, 37, 38, 39, 40, 1, 41, 42, 43, 44, 45, 46, 47, 48, 49, 50, 51, 52, 53, 54, 55, 56, 57, 58, 59, 60, 61] (by decide +kernel) (by decide +kernel)
set_option maxRecDepth 20000 in
theorem gX3_sync_X3_flush : GoodIn wsX3_sync (wsV RX3 82 RX3 yX3_flush wsX3_flush) := goodIn_app (goodIn_of _ (by decide +kernel)) ggX3_sync_X3_flush
set_option maxRecDepth 20000 in
theorem ggX3_firstOf_X3_byteOf : GoodIn wsX3_firstOf wsX3_byteOf := goodIn_r _ [5, 6, 7, 8, 9, 10, 11, 4, 12, 13, 14, 15, 16, 17, 18, 19, 20, 21, 22, 23, 24, 25, 26, 27, 28] (by decide +kernel) (by decide +kernel)
set_option maxRecDepth 20000 in
theorem gX3_firstOf_X3_byteOf : GoodIn wsX3_firstOf (wsV RX3 87 RX3 yX3_byteOf wsX3_byteOf) := goodIn_app (goodIn_of _ (by decide +kernel)) ggX3_firstOf_X3_byteOf
set_option maxRecDepth 20000 in
theorem ggX3_lastOf_X3_firstOf : GoodIn wsX3_lastOf wsX3_firstOf := goodIn_r _ [5, 6, 7, 8, 4, 9, 10, 11, 12, 13, 14, 15, 16, 17, 18, 19, 20, 21, 22, 23, 24, 25, 26, 27, 28, 29, 30, 31, 32] (by decide +kernel) (by decide +kernel)
set_option maxRecDepth 20000 in
theorem gX3_lastOf_X3_firstOf : GoodIn wsX3_lastOf (wsV RX3 91 RX3 yX3_firstOf wsX3_firstOf) := goodIn_app (goodIn_of _ (by decide +kernel)) ggX3_lastOf_X3_firstOf
set_option maxRecDepth 20000 in
theorem ggX3_lastOf_X3_byteOf : GoodIn wsX3_lastOf wsX3_byteOf := goodIn_r _ [9, 10, 11, 12, 13, 14, 15, 4, 16, 17, 18, 19, 20, 21, 22, 23, 24, 25, 26, 27, 28, 29, 30, 31, 32] (by decide +kernel) (by decide +kernel)
set_option maxRecDepth 20000 in
theorem gX3_lastOf_X3_byteOf : GoodIn wsX3_lastOf (wsV RX3 87 RX3 yX3_byteOf wsX3_byteOf) := goodIn_app (goodIn_of _ (by decide +kernel)) ggX3_lastOf_X3_byteOf
set_option maxRecDepth 20000 in
theorem ggX3_greatestIn_X3_isReadable : GoodIn wsX3_greatestIn wsX3_isReadable := goodIn_r _ [5, 6, 7, 8, 9, 4, 10, 11, 12, 13, 14, 15, 16, 30, 31, 32, 33, 34, 35, 36, 37, 38, 39, 40, 41, 42, 43, 44, 45] (by decide +kernel) (by decide +kernel)
set_option maxRecDepth 20000 in
theorem gX3_greatestIn_X3_isReadable : GoodIn wsX3_greatestIn (wsV RX3 94 RX3 yX3_isReadable wsX3_isReadable) := goodIn_app (goodIn_of _ (by decide +kernel)) ggX3_greatestIn_X3_isReadable
set_option maxRecDepth 20000 in
theorem ggX3_greatestIn_X3_lastOf : GoodIn wsX3_greatestIn wsX3_lastOf := goodIn_r _ [20, 21, 22, 23, 4, 24, 25, 26, 27, 28, 6, 29, 16, 12, 13, 14, 15, 30, 31, 32, 33, 34, 35, 36, 37, 38, 39, 40, 41, 42, 43, 44, 45] (by decide +kernel) (by decide +kernel)
set_option maxRecDepth 20000 in
theorem gX3_greatestIn_X3_lastOf : GoodIn wsX3_greatestIn (wsV RX3 97 RX3 yX3_lastOf wsX3_lastOf) := goodIn_app (goodIn_of _ (by decide +kernel)) ggX3_greatestIn_X3_lastOf
set_option maxRecDepth 20000 in
theorem ggX3_start_X3_empty : GoodIn wsX3_start wsX3_empty := goodIn_r _ [10, 11, 12, 13, 55, 56, 57, 58, 59, 60, 61, 62, 63, 64, 65, 66, 67, 68, 69, 70] (by decide +kernel) (by decide +kernel)
set_option maxRecDepth 20000 in
theorem gX3_start_X3_empty : GoodIn wsX3_start (wsV RX3 76 RX3 yX3_empty wsX3_empty) := goodIn_app (goodIn_of _ (by decide +kernel)) ggX3_start_X3_empty
set_option maxRecDepth 20000 in
theorem ggX3_start_X3_greatestIn : GoodIn wsX3_start wsX3_greatestIn := goodIn_r _ [17, 18, 19, 20, 9, 21, 22, 23, 24, 25, 26, 27, 28, 29, 30, 31, 32, 33, 34, 35, 36, 37, 38, 39, 40, 41, 42, 43, 44, 45, 55, 56, 57, 58, 59, 60, 61, 62, 63, 64, 65, 66, 67, 68, 69, 70] (by decide +kernel) (by decide +kernel)
set_option maxRecDepth 20000 in
theorem gX3_start_X3_greatestIn : GoodIn wsX3_start (wsV RX3 100 RX3 yX3_greatestIn wsX3_greatestIn) := goodIn_app (goodIn_of _ (by decide +kernel)) ggX3_start_X3_greatestIn
set_option maxRecDepth 20000 in
theorem ggX3_start_X3_isErased : GoodIn wsX3_start wsX3_isErased := goodIn_r _ [49, 27, 22, 55, 56, 57, 58, 59, 60, 61, 62, 63, 64, 65, 66, 67, 68, 69, 70] (by decide +kernel) (by decide +kernel)
set_option maxRecDepth 20000 in
theorem gX3_start_X3_isErased : GoodIn wsX3_start (wsV RX3 60 RX3 yX3_isErased wsX3_isErased) := goodIn_app (goodIn_of _ (by decide +kernel)) ggX3_start_X3_isErased
set_option maxRecDepth 20000 in
theorem ggX3_start_X3_eraseBlock : GoodIn wsX3_start wsX3_eraseBlock := goodIn_r _ [53, 22, 27, 54, 55, 56, 57, 58, 59, 60, 61, 62, 63, 64, 65, 66, 67, 68, 69, 70] (by decide +kernel) (by decide +kernel)
set_option maxRecDepth 20000 in
theorem gX3_start_X3_eraseBlock : GoodIn wsX3_start (wsV RX3 103 RX3 yX3_eraseBlock wsX3_eraseBlock) := goodIn_app (goodIn_of _ (by decide +kernel)) ggX3_start_X3_eraseBlock
set_option maxRecDepth 20000 in
theorem ggX3_start_X3_isReadable : GoodIn wsX3_start wsX3_isReadable := goodIn_r _ [21, 22, 23, 24, 25, 9, 26, 27, 28, 29, 30, 31, 32, 55, 56, 57, 58, 59, 60, 61, 62, 63, 64, 65, 66, 67, 68, 69, 70] (by decide +kernel) (by decide +kernel)
set_option maxRecDepth 20000 in
theorem gX3_start_X3_isReadable : GoodIn wsX3_start (wsV RX3 94 RX3 yX3_isReadable wsX3_isReadable) := goodIn_app (goodIn_of _ (by decide +kernel)) ggX3_start_X3_isReadable
set_option maxRecDepth 20000 in
theorem ggX3_start_X3_firstOf : GoodIn wsX3_start wsX3_firstOf := goodIn_r _ [40, 41, 42, 43, 9, 44, 22, 45, 32, 28, 29, 30, 31, 55, 56, 57, 58, 59, 60, 61, 62, 63, 64, 65, 66, 67, 68, 69, 70] (by decide +kernel) (by decide +kernel)
set_option maxRecDepth 20000 in
theorem gX3_start_X3_firstOf : GoodIn wsX3_start (wsV RX3 91 RX3 yX3_firstOf wsX3_firstOf) := goodIn_app (goodIn_of _ (by decide +kernel)) ggX3_start_X3_firstOf
set_option maxRecDepth 20000 in
theorem ggX3_trim_X3_isErased : GoodIn wsX3_trim wsX3_isErased := goodIn_r _ [10, 11, 12, 48, 49, 50, 51, 52, 53, 54, 55, 56, 57, 58, 59, 60, 61, 62, 63] (by decide +kernel) (by decide +kernel)
set_option maxRecDepth 20000 in
theorem gX3_trim_X3_isErased : GoodIn wsX3_trim (wsV RX3 60 RX3 yX3_isErased wsX3_isErased) := goodIn_app (goodIn_of _ (by decide +kernel)) ggX3_trim_X3_isErased
set_option maxRecDepth 20000 in
theorem ggX3_trim_X3_greatestIn : GoodIn wsX3_trim wsX3_greatestIn := goodIn_r _ [16, 17, 18, 19, 9, 20, 12, 21, 22, 23, 24, 11, 25, 26, 27, 28, 29, 30, 31, 32, 33, 34, 35, 36, 37, 38, 39, 40, 41, 42, 48, 49, 50, 51, 52, 53, 54, 55, 56, 57, 58, 59, 60, 61, 62, 63] (by decide +kernel) (by decide +kernel)
set_option maxRecDepth 20000 in
theorem gX3_trim_X3_greatestIn : GoodIn wsX3_trim (wsV RX3 100 RX3 yX3_greatestIn wsX3_greatestIn) := goodIn_app (goodIn_of _ (by decide +kernel)) ggX3_trim_X3_greatestIn
set_option maxRecDepth 20000 in
theorem ggX3_trim_X3_eraseBlock : GoodIn wsX3_trim wsX3_eraseBlock := goodIn_r _ [46, 12, 11, 47, 48, 49, 50, 51, 52, 53, 54, 55, 56, 57, 58, 59, 60, 61, 62, 63] (by decide +kernel) (by decide +kernel)
set_option maxRecDepth 20000 in
theorem gX3_trim_X3_eraseBlock : GoodIn wsX3_trim (wsV RX3 103 RX3 yX3_eraseBlock wsX3_eraseBlock) := goodIn_app (goodIn_of _ (by decide +kernel)) ggX3_trim_X3_eraseBlock
set_option maxRecDepth 20000 in
theorem ggX3_find_X3_isReadable : GoodIn wsX3_find wsX3_isReadable := goodIn_r _ [9, 10, 11, 12, 13, 8, 14, 15, 16, 17, 18, 19, 20, 39, 40, 41, 42, 43, 44, 45, 46, 47, 48, 49, 50, 51, 52, 53, 54] (by decide +kernel) (by decide +kernel)
set_option maxRecDepth 20000 in
theorem gX3_find_X3_isReadable : GoodIn wsX3_find (wsV RX3 94 RX3 yX3_isReadable wsX3_isReadable) := goodIn_app (goodIn_of _ (by decide +kernel)) ggX3_find_X3_isReadable
set_option maxRecDepth 20000 in
theorem ggX3_find_X3_firstOf : GoodIn wsX3_find wsX3_firstOf := goodIn_r _ [24, 25, 26, 27, 8, 28, 10, 29, 20, 16, 17, 18, 19, 39, 40, 41, 42, 43, 44, 45, 46, 47, 48, 49, 50, 51, 52, 53, 54] (by decide +kernel) (by decide +kernel)
set_option maxRecDepth 20000 in
theorem gX3_find_X3_firstOf : GoodIn wsX3_find (wsV RX3 91 RX3 yX3_firstOf wsX3_firstOf) := goodIn_app (goodIn_of _ (by decide +kernel)) ggX3_find_X3_firstOf
set_option maxRecDepth 20000 in
theorem ggX3_find_X3_lastOf : GoodIn wsX3_find wsX3_lastOf := goodIn_r _ [33, 21, 22, 23, 8, 24, 25, 26, 27, 28, 10, 29, 20, 16, 17, 18, 19, 39, 40, 41, 42, 43, 44, 45, 46, 47, 48, 49, 50, 51, 52, 53, 54] (by decide +kernel) (by decide +kernel)
set_option maxRecDepth 20000 in
theorem gX3_find_X3_lastOf : GoodIn wsX3_find (wsV RX3 97 RX3 yX3_lastOf wsX3_lastOf) := goodIn_app (goodIn_of _ (by decide +kernel)) ggX3_find_X3_lastOf
set_option maxRecDepth 20000 in
theorem ggX3_find_X3_foundByte : GoodIn wsX3_find wsX3_foundByte := goodIn_r _ [37, 1, 38, 25, 26, 27, 8, 28, 10, 29, 20, 16, 17, 18, 19, 39, 40, 41, 42, 43, 44, 45, 46, 47, 48, 49, 50, 51, 52, 53, 54] (by decide +kernel) (by decide +kernel)
set_option maxRecDepth 20000 in
theorem gX3_find_X3_foundByte : GoodIn wsX3_find (wsV RX3 116 RX3 yX3_foundByte wsX3_foundByte) := goodIn_app (goodIn_of _ (by decide +kernel)) ggX3_find_X3_foundByte
set_option maxRecDepth 20000 in
theorem ggX3_foundByte_X3_byteOf : GoodIn wsX3_foundByte wsX3_byteOf := goodIn_r _ [7, 8, 9, 10, 11, 12, 13, 6, 14, 15, 16, 17, 18, 19, 20, 21, 22, 23, 24, 25, 26, 27, 28, 29, 30] (by decide +kernel) (by decide +kernel)
set_option maxRecDepth 20000 in
theorem gX3_foundByte_X3_byteOf : GoodIn wsX3_foundByte (wsV RX3 87 RX3 yX3_byteOf wsX3_byteOf) := goodIn_app (goodIn_of _ (by decide +kernel)) ggX3_foundByte_X3_byteOf
set_option maxRecDepth 20000 in
theorem ggX3_length_X3_find : GoodIn wsX3_length wsX3_find := goodIn_r _ [11, 5, 6, 3, 12, 13, 14, 15, 10, 16, 17, 18, 19, 20, 21, 22, 23, 24, 25, 26, 27, 28, 29, 30, 31, 32, 33, 34, 35, 36, 37, 38, 39, 40, 41, 42, 43, 44, 45, 46, 47, 48, 49, 50, 51, 52, 53, 54, 55, 56, 57, 58, 59, 60, 61] (by decide +kernel) (by decide +kernel)
set_option maxRecDepth 20000 in
theorem gX3_length_X3_find : GoodIn wsX3_length (wsV RX3 119 RX3 yX3_find wsX3_find) := goodIn_app (goodIn_of _ (by decide +kernel)) ggX3_length_X3_find
set_option maxRecDepth 20000 in
theorem ggX3_length_X3_foundByte : GoodIn wsX3_length wsX3_foundByte := goodIn_r _ [44, 5, 45, 32, 33, 34, 10, 35, 17, 36, 27, 23, 24, 25, 26, 46, 47, 48, 49, 50, 51, 52, 53, 54, 55, 56, 57, 58, 59, 60, 61] (by decide +kernel) (by decide +kernel)
set_option maxRecDepth 20000 in
theorem gX3_length_X3_foundByte : GoodIn wsX3_length (wsV RX3 116 RX3 yX3_foundByte wsX3_foundByte) := goodIn_app (goodIn_of _ (by decide +kernel)) ggX3_length_X3_foundByte
set_option maxRecDepth 20000 in
theorem ggX3_event_X3_find : GoodIn wsX3_event wsX3_find := goodIn_r _ [11, 5, 6, 3, 12, 13, 14, 15, 10, 16, 17, 18, 19, 20, 21, 22, 23, 24, 25, 26, 27, 28, 29, 30, 31, 32, 33, 34, 35, 36, 37, 38, 39, 40, 41, 42, 43, 44, 45, 46, 47, 48, 49, 50, 51, 52, 53, 54, 55, 56, 57, 58, 59, 60, 61] (by decide +kernel) (by decide +kernel)
set_option maxRecDepth 20000 in
theorem gX3_event_X3_find : GoodIn wsX3_event (wsV RX3 119 RX3 yX3_find wsX3_find) := goodIn_app (goodIn_of _ (by decide +kernel)) ggX3_event_X3_find
set_option maxRecDepth 20000 in
theorem ggX3_event_X3_foundByte : GoodIn wsX3_event wsX3_foundByte := goodIn_r _ [44, 5, 45, 32, 33, 34, 10, 35, 17, 36, 27, 23, 24, 25, 26, 46, 47, 48, 49, 50, 51, 52, 53, 54, 55, 56, 57, 58, 59, 60, 61] (by decide +kernel) (by decide +kernel)
set_option maxRecDepth 20000 in
theorem gX3_event_X3_foundByte : GoodIn wsX3_event (wsV RX3 116 RX3 yX3_foundByte wsX3_foundByte) := goodIn_app (goodIn_of _ (by decide +kernel)) ggX3_event_X3_foundByte
set_option maxRecDepth 20000 in
theorem ggX3_ruin_X3_noPage : GoodIn wsX3_ruin wsX3_noPage := goodIn_r _ [6] (by decide +kernel) (by decide +kernel)
set_option maxRecDepth 20000 in
theorem gX3_ruin_X3_noPage : GoodIn wsX3_ruin (va_wsS RX3 122 yX3_noPage wsX3_noPage) := goodIn_app (goodIn_of _ (by decide +kernel)) ggX3_ruin_X3_noPage
set_option maxRecDepth 20000 in
theorem ggX3_ruin_X3_place : GoodIn wsX3_ruin wsX3_place := goodIn_r _ [9] (by decide +kernel) (by decide +kernel)
set_option maxRecDepth 20000 in
theorem gX3_ruin_X3_place : GoodIn wsX3_ruin (va_wsS RX3 125 yX3_place wsX3_place) := goodIn_app (goodIn_of _ (by decide +kernel)) ggX3_ruin_X3_place
set_option maxRecDepth 20000 in
theorem ggX3_page_X3_noPage : GoodIn wsX3_page wsX3_noPage := goodIn_r _ [6] (by decide +kernel) (by decide +kernel)
set_option maxRecDepth 20000 in
theorem gX3_page_X3_noPage : GoodIn wsX3_page (va_wsS RX3 122 yX3_noPage wsX3_noPage) := goodIn_app (goodIn_of _ (by decide +kernel)) ggX3_page_X3_noPage
set_option maxRecDepth 20000 in
theorem ggX3_page_X3_place : GoodIn wsX3_page wsX3_place := goodIn_r _ [9] (by decide +kernel) (by decide +kernel)
set_option maxRecDepth 20000 in
theorem gX3_page_X3_place : GoodIn wsX3_page (va_wsS RX3 125 yX3_place wsX3_place) := goodIn_app (goodIn_of _ (by decide +kernel)) ggX3_page_X3_place
set_option maxRecDepth 20000 in
theorem ggX3_page_X3_isRebuilt : GoodIn wsX3_page wsX3_isRebuilt := goodIn_r _ [13, 2, 14, 15, 16, 17, 5, 18, 19, 20, 21, 22, 23, 24, 25, 26, 27, 28, 29, 30, 31, 32, 33, 34, 35] (by decide +kernel) (by decide +kernel)
set_option maxRecDepth 20000 in
theorem gX3_page_X3_isRebuilt : GoodIn wsX3_page (wsV RX3 43 RX3 yX3_isRebuilt wsX3_isRebuilt) := goodIn_app (goodIn_of _ (by decide +kernel)) ggX3_page_X3_isRebuilt
set_option maxRecDepth 20000 in
theorem ggX3_at_X3_noPage : GoodIn wsX3_at wsX3_noPage := goodIn_r _ [5] (by decide +kernel) (by decide +kernel)
set_option maxRecDepth 20000 in
theorem gX3_at_X3_noPage : GoodIn wsX3_at (va_wsS RX3 122 yX3_noPage wsX3_noPage) := goodIn_app (goodIn_of _ (by decide +kernel)) ggX3_at_X3_noPage
set_option maxRecDepth 20000 in
theorem ggX3_at_X3_place : GoodIn wsX3_at wsX3_place := goodIn_r _ [8] (by decide +kernel) (by decide +kernel)
set_option maxRecDepth 20000 in
theorem gX3_at_X3_place : GoodIn wsX3_at (va_wsS RX3 125 yX3_place wsX3_place) := goodIn_app (goodIn_of _ (by decide +kernel)) ggX3_at_X3_place
set_option maxRecDepth 20000 in
theorem ggX3_at_X3_isReadable : GoodIn wsX3_at wsX3_isReadable := goodIn_r _ [12, 13, 14, 15, 16, 4, 17, 18, 19, 20, 21, 22, 23, 29, 30, 31, 32, 33, 34, 35, 36, 37, 38, 39, 40, 41, 42, 43, 44] (by decide +kernel) (by decide +kernel)
set_option maxRecDepth 20000 in
theorem gX3_at_X3_isReadable : GoodIn wsX3_at (wsV RX3 94 RX3 yX3_isReadable wsX3_isReadable) := goodIn_app (goodIn_of _ (by decide +kernel)) ggX3_at_X3_isReadable
set_option maxRecDepth 20000 in
theorem ggX3_at_X3_byteOf : GoodIn wsX3_at wsX3_byteOf := goodIn_r _ [27, 13, 28, 23, 19, 20, 21, 4, 22, 29, 30, 31, 32, 33, 34, 35, 36, 37, 38, 39, 40, 41, 42, 43, 44] (by decide +kernel) (by decide +kernel)
set_option maxRecDepth 20000 in
theorem gX3_at_X3_byteOf : GoodIn wsX3_at (wsV RX3 87 RX3 yX3_byteOf wsX3_byteOf) := goodIn_app (goodIn_of _ (by decide +kernel)) ggX3_at_X3_byteOf
set_option maxRecDepth 20000 in
theorem ggX3_told_X3_isErased : GoodIn wsX3_told wsX3_isErased := goodIn_r _ [10, 11, 12, 13, 14, 15, 16, 17, 18, 19, 20, 21, 22, 23, 24, 25, 26, 27, 28] (by decide +kernel) (by decide +kernel)
set_option maxRecDepth 20000 in
theorem gX3_told_X3_isErased : GoodIn wsX3_told (wsV RX3 60 RX3 yX3_isErased wsX3_isErased) := goodIn_app (goodIn_of _ (by decide +kernel)) ggX3_told_X3_isErased
set_option maxRecDepth 20000 in
theorem ggL_append_X2_append : GoodIn wsL_append wsX2_append := goodIn_ca (goodIn_ca (goodIn_ca (goodIn_r _ [8, 9, 10, 11, 12, 13, 14, 15, 7, 16, 17, 18, 19, 20, 21, 22, 23, 24, 25, 26, 27, 28, 29, 30, 31, 32, 33, 34, 35, 36, 37, 38, 39, 40, 41, 42, 43, 44, 45, 46, 47, 48, 49, 50, 51, 52, 53, 54, 55, 56, 57, 58, 59, 60, 61, 62, 63, 64, 65, 66, 67, 68, 69, 70, 71, 72, 73, 74, 75, 76, 77, 78, 79, 80, 81, 82, 83, 84, 85, 86, 87, 88, 89, 90, 91, 92, 93, 94, 95, 96, 97, 98, 99, 100, 101, 102, 103, 104, 105, 106, 107, 108, 109, 110, 111, 112, 113, 114, 115, 116, 117, 118, 119, 120] (by decide +kernel) (by decide +kernel)) (goodIn_sub (fun _ h => List.mem_cons_of_mem _ (List.mem_append_left _ (List.mem_append_left _ (List.mem_append_right _ h)))) (by decide +kernel))) (goodIn_sub (fun _ h => List.mem_cons_of_mem _ (List.mem_append_left _ (List.mem_append_right _ h))) (by decide +kernel))) (goodIn_sub (fun _ h => List.mem_cons_of_mem _ (List.mem_append_right _ h)) (by decide +kernel))
set_option maxRecDepth 20000 in
theorem gL_append_X2_append : GoodIn wsL_append (wsV RL 7 RX2 yX2_append wsX2_append) := goodIn_app (goodIn_of _ (by decide +kernel)) ggL_append_X2_append
set_option maxRecDepth 20000 in
theorem ggL_sync_X2_sync : GoodIn wsL_sync wsX2_sync := goodIn_ca (goodIn_ca (goodIn_r _ [7, 8, 9, 10, 11, 12, 6, 13, 14, 15, 16, 17, 18, 19, 20, 21, 22, 23, 24, 25, 26, 27, 28, 29, 30, 31, 32, 33, 34, 35, 36, 37, 38, 39, 40, 41, 42, 43, 44, 45, 46, 47, 48, 49, 50, 51, 52, 53, 54, 55, 56, 57, 58, 59, 60, 61, 62, 63, 64, 65, 66, 67, 68, 69, 70, 71, 72, 73, 74, 75, 76, 77, 78, 79, 80, 81, 82, 83, 84, 85, 86, 87, 88, 89, 90, 91, 92, 93, 94, 95, 96, 97, 98, 99, 100, 101, 102, 103, 104] (by decide +kernel) (by decide +kernel)) (goodIn_sub (fun _ h => List.mem_cons_of_mem _ (List.mem_append_left _ (List.mem_append_right _ h))) (by decide +kernel))) (goodIn_sub (fun _ h => List.mem_cons_of_mem _ (List.mem_append_right _ h)) (by decide +kernel))
set_option maxRecDepth 20000 in
theorem gL_sync_X2_sync : GoodIn wsL_sync (wsV RL 19 RX2 yX2_sync wsX2_sync) := goodIn_app (goodIn_of _ (by decide +kernel)) ggL_sync_X2_sync
set_option maxRecDepth 20000 in
theorem ggL_cutAfter_X2_cutAfter : GoodIn wsL_cutAfter wsX2_cutAfter := goodIn_ca (goodIn_r _ [6, 7, 8, 9, 10, 11, 12, 13, 14, 15, 16, 17] (by decide +kernel) (by decide +kernel)) (goodIn_sub (fun _ h => List.mem_cons_of_mem _ (List.mem_append_right _ h)) (by decide +kernel))
set_option maxRecDepth 20000 in
theorem gL_cutAfter_X2_cutAfter : GoodIn wsL_cutAfter (wsV RL 23 RX2 yX2_cutAfter wsX2_cutAfter) := goodIn_app (goodIn_of _ (by decide +kernel)) ggL_cutAfter_X2_cutAfter
set_option maxRecDepth 20000 in
theorem ggL_off_X2_off : GoodIn wsL_off wsX2_off := goodIn_ca (goodIn_r _ [6, 7, 8, 9, 10, 11, 5, 12, 13, 14, 15, 16, 17, 18, 19, 20, 21, 22, 23, 24, 25, 26, 27, 28, 29] (by decide +kernel) (by decide +kernel)) (goodIn_sub (fun _ h => List.mem_cons_of_mem _ (List.mem_append_right _ h)) (by decide +kernel))
set_option maxRecDepth 20000 in
theorem gL_off_X2_off : GoodIn wsL_off (wsV RL 27 RX2 yX2_off wsX2_off) := goodIn_app (goodIn_of _ (by decide +kernel)) ggL_off_X2_off
set_option maxRecDepth 20000 in
theorem ggL_start_X2_start : GoodIn wsL_start wsX2_start := goodIn_ca (goodIn_r _ [6, 7, 8, 9, 10, 11, 12, 13, 14, 15, 16, 17, 18, 19, 20, 21, 22, 23, 24, 5, 25, 26, 27, 28, 29, 30, 31, 32, 33, 34, 35, 36, 37, 38, 39, 40, 41, 42, 43, 44, 45, 46, 47, 48, 49, 50, 51, 52, 53, 54, 55, 56, 57, 58, 59, 60, 61, 62, 63, 64, 65, 66, 67, 68, 69, 70, 71, 72, 73, 74, 75, 76, 77, 78, 79, 80, 81, 82, 83, 84, 85, 86, 87, 88, 89, 90, 91, 92, 93, 94, 95, 96, 97, 98, 99, 100, 101, 102, 103, 104, 105, 106, 107, 108, 109, 110, 111] (by decide +kernel) (by decide +kernel)) (goodIn_sub (fun _ h => List.mem_cons_of_mem _ (List.mem_append_right _ h)) (by decide +kernel))
set_option maxRecDepth 20000 in
theorem gL_start_X2_start : GoodIn wsL_start (wsV RL 30 RX2 yX2_start wsX2_start) := goodIn_app (goodIn_of _ (by decide +kernel)) ggL_start_X2_start
set_option maxRecDepth 20000 in
theorem ggL_trim_X2_trim : GoodIn wsL_trim wsX2_trim := goodIn_ca (goodIn_ca (goodIn_r _ [7, 8, 9, 10, 11, 12, 13, 14, 15, 16, 6, 17, 18, 19, 20, 21, 22, 23, 24, 25, 26, 27, 28, 29, 30, 31, 32, 33, 34, 35, 36, 37, 38, 39, 40, 41, 42, 43, 44, 45, 46, 47, 48, 49, 50, 51, 52, 53, 54, 55, 56, 57, 58, 59, 60, 61, 62, 63, 64, 65, 66, 67, 68, 69, 70, 71, 72, 73, 74, 75, 76, 77, 78, 79, 80, 81, 82, 83, 84, 85, 86, 87, 88, 89, 90, 91, 92, 93, 94, 95, 96, 97, 98, 99] (by decide +kernel) (by decide +kernel)) (goodIn_sub (fun _ h => List.mem_cons_of_mem _ (List.mem_append_left _ (List.mem_append_right _ h))) (by decide +kernel))) (goodIn_sub (fun _ h => List.mem_cons_of_mem _ (List.mem_append_right _ h)) (by decide +kernel))
set_option maxRecDepth 20000 in
theorem gL_trim_X2_trim : GoodIn wsL_trim (wsV RL 33 RX2 yX2_trim wsX2_trim) := goodIn_app (goodIn_of _ (by decide +kernel)) ggL_trim_X2_trim
set_option maxRecDepth 20000 in
theorem ggL_first_X2_first : GoodIn wsL_first wsX2_first := goodIn_ca (goodIn_r _ [6, 7, 8, 9, 10, 5, 11, 12, 13, 14, 15, 16, 17, 18, 19, 20, 21, 22] (by decide +kernel) (by decide +kernel)) (goodIn_sub (fun _ h => List.mem_cons_of_mem _ (List.mem_append_right _ h)) (by decide +kernel))
set_option maxRecDepth 20000 in
theorem gL_first_X2_first : GoodIn wsL_first (wsV RL 37 RX2 yX2_first wsX2_first) := goodIn_app (goodIn_of _ (by decide +kernel)) ggL_first_X2_first
set_option maxRecDepth 20000 in
theorem ggL_count_X2_count : GoodIn wsL_count wsX2_count := goodIn_ca (goodIn_r _ [6, 7, 8, 9, 10, 5, 11, 12, 13, 14, 15, 16, 17, 18, 19, 20, 21, 22] (by decide +kernel) (by decide +kernel)) (goodIn_sub (fun _ h => List.mem_cons_of_mem _ (List.mem_append_right _ h)) (by decide +kernel))
set_option maxRecDepth 20000 in
theorem gL_count_X2_count : GoodIn wsL_count (wsV RL 40 RX2 yX2_count wsX2_count) := goodIn_app (goodIn_of _ (by decide +kernel)) ggL_count_X2_count
set_option maxRecDepth 20000 in
theorem ggL_length_X2_length : GoodIn wsL_length wsX2_length := goodIn_ca (goodIn_ca (goodIn_r _ [7, 8, 9, 10, 6, 11, 12, 13, 14, 15, 16, 17, 18, 19, 20, 21, 22, 23, 24, 25, 26, 27, 28, 29, 30, 31, 32, 33, 34, 35, 36, 37, 38, 39, 40, 41, 42, 43, 44, 45, 46, 47, 48, 49, 50, 51, 52, 53, 54, 55, 56, 57, 58, 59, 60, 61, 62, 63, 64, 65, 66, 67, 68, 69, 70, 71, 72, 73, 74, 75, 76, 77, 78, 79, 80, 81, 82, 83, 84, 85, 86, 87, 88, 89, 90, 91, 92, 93, 94, 95, 96, 97, 98] (by decide +kernel) (by decide +kernel)) (goodIn_sub (fun _ h => List.mem_cons_of_mem _ (List.mem_append_left _ (List.mem_append_right _ h))) (by decide +kernel))) (goodIn_sub (fun _ h => List.mem_cons_of_mem _ (List.mem_append_right _ h)) (by decide +kernel))
set_option maxRecDepth 20000 in
theorem gL_length_X2_length : GoodIn wsL_length (wsV RL 43 RX2 yX2_length wsX2_length) := goodIn_app (goodIn_of _ (by decide +kernel)) ggL_length_X2_length
set_option maxRecDepth 20000 in
theorem ggL_event_X2_event : GoodIn wsL_event wsX2_event := goodIn_ca (goodIn_ca (goodIn_ca (goodIn_r _ [8, 9, 10, 11, 12, 13, 7, 14, 15, 16, 17, 18, 19, 20, 21, 22, 23, 24, 25, 26, 27, 28, 29, 30, 31, 32, 33, 34, 35, 36, 37, 38, 39, 40, 41, 42, 43, 44, 45, 46, 47, 48, 49, 50, 51, 52, 53, 54, 55, 56, 57, 58, 59, 60, 61, 62, 63, 64, 65, 66, 67, 68, 69, 70, 71, 72, 73, 74, 75, 76, 77, 78, 79, 80, 81, 82, 83, 84, 85, 86, 87, 88, 89, 90, 91, 92, 93, 94, 95, 96, 97, 98, 99, 100, 101] (by decide +kernel) (by decide +kernel)) (goodIn_sub (fun _ h => List.mem_cons_of_mem _ (List.mem_append_left _ (List.mem_append_left _ (List.mem_append_right _ h)))) (by decide +kernel))) (goodIn_sub (fun _ h => List.mem_cons_of_mem _ (List.mem_append_left _ (List.mem_append_right _ h))) (by decide +kernel))) (goodIn_sub (fun _ h => List.mem_cons_of_mem _ (List.mem_append_right _ h)) (by decide +kernel))
set_option maxRecDepth 20000 in
theorem gL_event_X2_event : GoodIn wsL_event (wsV RL 48 RX2 yX2_event wsX2_event) := goodIn_app (goodIn_of _ (by decide +kernel)) ggL_event_X2_event
set_option maxRecDepth 20000 in
theorem ggL_ruin_X2_ruin : GoodIn wsL_ruin wsX2_ruin := goodIn_ca (goodIn_r _ [6, 7, 8, 9, 5, 10, 11, 12, 13, 14, 15, 16, 17, 18, 19, 20, 21, 22, 23, 24, 25, 26, 27, 28, 29, 30, 31, 32, 33, 34, 35, 36, 37] (by decide +kernel) (by decide +kernel)) (goodIn_sub (fun _ h => List.mem_cons_of_mem _ (List.mem_append_right _ h)) (by decide +kernel))
set_option maxRecDepth 20000 in
theorem gL_ruin_X2_ruin : GoodIn wsL_ruin (wsV RL 54 RX2 yX2_ruin wsX2_ruin) := goodIn_app (goodIn_of _ (by decide +kernel)) ggL_ruin_X2_ruin
set_option maxRecDepth 20000 in
theorem ggL_page_X2_page : GoodIn wsL_page wsX2_page := goodIn_ca (goodIn_r _ [6, 7, 8, 9, 5, 10, 11, 12, 13, 14, 15, 16, 17, 18, 19, 20, 21, 22, 23, 24, 25, 26, 27, 28, 29, 30, 31, 32, 33, 34, 35, 36, 37, 38, 39, 40, 41, 42, 43, 44, 45, 46, 47] (by decide +kernel) (by decide +kernel)) (goodIn_sub (fun _ h => List.mem_cons_of_mem _ (List.mem_append_right _ h)) (by decide +kernel))
set_option maxRecDepth 20000 in
theorem gL_page_X2_page : GoodIn wsL_page (wsV RL 58 RX2 yX2_page wsX2_page) := goodIn_app (goodIn_of _ (by decide +kernel)) ggL_page_X2_page
set_option maxRecDepth 20000 in
theorem ggL_at_X2_at : GoodIn wsL_at wsX2_at := goodIn_ca (goodIn_ca (goodIn_r _ [7, 8, 9, 10, 11, 12, 13, 14, 6, 15, 16, 17, 18, 19, 20, 21, 22, 23, 24, 25, 26, 27, 28, 29, 30, 31, 32, 33, 34, 35, 36, 37, 38, 39, 40, 41, 42, 43, 44, 45, 46, 47, 48, 49, 50, 51, 52, 53, 54, 55] (by decide +kernel) (by decide +kernel)) (goodIn_sub (fun _ h => List.mem_cons_of_mem _ (List.mem_append_left _ (List.mem_append_right _ h))) (by decide +kernel))) (goodIn_sub (fun _ h => List.mem_cons_of_mem _ (List.mem_append_right _ h)) (by decide +kernel))
set_option maxRecDepth 20000 in
theorem gL_at_X2_at : GoodIn wsL_at (wsV RL 62 RX2 yX2_at wsX2_at) := goodIn_app (goodIn_of _ (by decide +kernel)) ggL_at_X2_at
set_option maxRecDepth 20000 in
theorem ggL_guard_X2_guard : GoodIn wsL_guard wsX2_guard := goodIn_ca (goodIn_r _ [6, 7, 8, 9, 5, 10, 11, 12, 13, 14, 15, 16, 17, 18, 19, 20, 21, 22, 23, 24, 25] (by decide +kernel) (by decide +kernel)) (goodIn_sub (fun _ h => List.mem_cons_of_mem _ (List.mem_append_right _ h)) (by decide +kernel))
set_option maxRecDepth 20000 in
theorem gL_guard_X2_guard : GoodIn wsL_guard (wsV RL 66 RX2 yX2_guard wsX2_guard) := goodIn_app (goodIn_of _ (by decide +kernel)) ggL_guard_X2_guard
set_option maxRecDepth 20000 in
theorem ggL_guarded_X2_guarded : GoodIn wsL_guarded wsX2_guarded := goodIn_ca (goodIn_ca (goodIn_r _ [7, 8, 9, 10, 11, 12, 13, 14, 6, 15, 16, 17, 18, 19, 20, 21, 22, 23, 24, 25, 26, 27, 28] (by decide +kernel) (by decide +kernel)) (goodIn_sub (fun _ h => List.mem_cons_of_mem _ (List.mem_append_left _ (List.mem_append_right _ h))) (by decide +kernel))) (goodIn_sub (fun _ h => List.mem_cons_of_mem _ (List.mem_append_right _ h)) (by decide +kernel))
set_option maxRecDepth 20000 in
theorem gL_guarded_X2_guarded : GoodIn wsL_guarded (wsV RL 69 RX2 yX2_guarded wsX2_guarded) := goodIn_app (goodIn_of _ (by decide +kernel)) ggL_guarded_X2_guarded
end
section
theorem dX0_init_0 : decode cX0_init 0 = .ok (.aload_n 0, 1) := by decide +kernel
theorem dX0_init_1 : decode cX0_init 1 = .ok (.invokespecial 3, 3) := by decide +kernel
theorem dX0_init_4 : decode cX0_init 4 = .ok (.aload_n 0, 1) := by decide +kernel
theorem dX0_init_5 : decode cX0_init 5 = .ok (.bipush 16, 2) := by decide +kernel
theorem dX0_init_7 : decode cX0_init 7 = .ok (.newarray .int, 2) := by decide +kernel
theorem dX0_init_9 : decode cX0_init 9 = .ok (.putfield 9, 3) := by decide +kernel
theorem dX0_init_12 : decode cX0_init 12 = .ok (.aload_n 0, 1) := by decide +kernel
theorem dX0_init_13 : decode cX0_init 13 = .ok (.sipush 256, 3) := by decide +kernel
theorem dX0_init_16 : decode cX0_init 16 = .ok (.newarray .int, 2) := by decide +kernel
theorem dX0_init_18 : decode cX0_init 18 = .ok (.putfield 15, 3) := by decide +kernel
theorem dX0_init_21 : decode cX0_init 21 = .ok (.aload_n 0, 1) := by decide +kernel
theorem dX0_init_22 : decode cX0_init 22 = .ok (.bipush 17, 2) := by decide +kernel
theorem dX0_init_24 : decode cX0_init 24 = .ok (.newarray .int, 2) := by decide +kernel
theorem dX0_init_26 : decode cX0_init 26 = .ok (.putfield 18, 3) := by decide +kernel
theorem dX0_init_29 : decode cX0_init 29 = .ok (.aload_n 0, 1) := by decide +kernel
theorem dX0_init_30 : decode cX0_init 30 = .ok (.iconst 0, 1) := by decide +kernel
theorem dX0_init_31 : decode cX0_init 31 = .ok (.putfield 21, 3) := by decide +kernel
theorem dX0_init_34 : decode cX0_init 34 = .ok (.aload_n 0, 1) := by decide +kernel
theorem dX0_init_35 : decode cX0_init 35 = .ok (.iconst 0, 1) := by decide +kernel
theorem dX0_init_36 : decode cX0_init 36 = .ok (.putfield 25, 3) := by decide +kernel
theorem dX0_init_39 : decode cX0_init 39 = .ok (.return_, 1) := by decide +kernel
theorem dX0_nextPlace_0 : decode cX0_nextPlace 0 = .ok (.iconst 0, 1) := by decide +kernel
theorem dX0_nextPlace_1 : decode cX0_nextPlace 1 = .ok (.istore_n 1, 1) := by decide +kernel
theorem dX0_nextPlace_2 : decode cX0_nextPlace 2 = .ok (.iload_n 1, 1) := by decide +kernel
theorem dX0_nextPlace_3 : decode cX0_nextPlace 3 = .ok (.bipush 16, 2) := by decide +kernel
theorem dX0_nextPlace_5 : decode cX0_nextPlace 5 = .ok (.if_icmp .ge 18, 3) := by decide +kernel
theorem dX0_nextPlace_8 : decode cX0_nextPlace 8 = .ok (.aload_n 0, 1) := by decide +kernel
theorem dX0_nextPlace_9 : decode cX0_nextPlace 9 = .ok (.getfield 9, 3) := by decide +kernel
theorem dX0_nextPlace_12 : decode cX0_nextPlace 12 = .ok (.iload_n 1, 1) := by decide +kernel
theorem dX0_nextPlace_13 : decode cX0_nextPlace 13 = .ok (.iaload, 1) := by decide +kernel
theorem dX0_nextPlace_14 : decode cX0_nextPlace 14 = .ok (.ifCond .eq 9, 3) := by decide +kernel
theorem dX0_nextPlace_17 : decode cX0_nextPlace 17 = .ok (.iinc 1 1, 3) := by decide +kernel
theorem dX0_nextPlace_20 : decode cX0_nextPlace 20 = .ok (.goto (-18), 3) := by decide +kernel
theorem dX0_nextPlace_23 : decode cX0_nextPlace 23 = .ok (.iload_n 1, 1) := by decide +kernel
theorem dX0_nextPlace_24 : decode cX0_nextPlace 24 = .ok (.ireturn, 1) := by decide +kernel
theorem dX0_isErased_0 : decode cX0_isErased 0 = .ok (.aload_n 0, 1) := by decide +kernel
theorem dX0_isErased_1 : decode cX0_isErased 1 = .ok (.invokevirtual 28, 3) := by decide +kernel
theorem dX0_isErased_4 : decode cX0_isErased 4 = .ok (.ifCond .ne 7, 3) := by decide +kernel
theorem dX0_isErased_7 : decode cX0_isErased 7 = .ok (.iconst 1, 1) := by decide +kernel
theorem dX0_isErased_8 : decode cX0_isErased 8 = .ok (.goto 4, 3) := by decide +kernel
theorem dX0_isErased_11 : decode cX0_isErased 11 = .ok (.iconst 0, 1) := by decide +kernel
theorem dX0_isErased_12 : decode cX0_isErased 12 = .ok (.ireturn, 1) := by decide +kernel
theorem dX0_takesMore_0 : decode cX0_takesMore 0 = .ok (.bipush 8, 2) := by decide +kernel
theorem dX0_takesMore_2 : decode cX0_takesMore 2 = .ok (.istore_n 1, 1) := by decide +kernel
theorem dX0_takesMore_3 : decode cX0_takesMore 3 = .ok (.iload_n 1, 1) := by decide +kernel
theorem dX0_takesMore_4 : decode cX0_takesMore 4 = .ok (.bipush 16, 2) := by decide +kernel
theorem dX0_takesMore_6 : decode cX0_takesMore 6 = .ok (.if_icmp .ge 21, 3) := by decide +kernel
theorem dX0_takesMore_9 : decode cX0_takesMore 9 = .ok (.aload_n 0, 1) := by decide +kernel
theorem dX0_takesMore_10 : decode cX0_takesMore 10 = .ok (.getfield 9, 3) := by decide +kernel
theorem dX0_takesMore_13 : decode cX0_takesMore 13 = .ok (.iload_n 1, 1) := by decide +kernel
theorem dX0_takesMore_14 : decode cX0_takesMore 14 = .ok (.iaload, 1) := by decide +kernel
theorem dX0_takesMore_15 : decode cX0_takesMore 15 = .ok (.iconst 2, 1) := by decide +kernel
theorem dX0_takesMore_16 : decode cX0_takesMore 16 = .ok (.if_icmp .ne 5, 3) := by decide +kernel
theorem dX0_takesMore_19 : decode cX0_takesMore 19 = .ok (.iconst 0, 1) := by decide +kernel
theorem dX0_takesMore_20 : decode cX0_takesMore 20 = .ok (.ireturn, 1) := by decide +kernel
theorem dX0_takesMore_21 : decode cX0_takesMore 21 = .ok (.iinc 1 1, 3) := by decide +kernel
theorem dX0_takesMore_24 : decode cX0_takesMore 24 = .ok (.goto (-21), 3) := by decide +kernel
theorem dX0_takesMore_27 : decode cX0_takesMore 27 = .ok (.aload_n 0, 1) := by decide +kernel
theorem dX0_takesMore_28 : decode cX0_takesMore 28 = .ok (.invokevirtual 28, 3) := by decide +kernel
theorem dX0_takesMore_31 : decode cX0_takesMore 31 = .ok (.bipush 16, 2) := by decide +kernel
theorem dX0_takesMore_33 : decode cX0_takesMore 33 = .ok (.if_icmp .ge 7, 3) := by decide +kernel
theorem dX0_takesMore_36 : decode cX0_takesMore 36 = .ok (.iconst 1, 1) := by decide +kernel
theorem dX0_takesMore_37 : decode cX0_takesMore 37 = .ok (.goto 4, 3) := by decide +kernel
theorem dX0_takesMore_40 : decode cX0_takesMore 40 = .ok (.iconst 0, 1) := by decide +kernel
theorem dX0_takesMore_41 : decode cX0_takesMore 41 = .ok (.ireturn, 1) := by decide +kernel
theorem dX0_erase_0 : decode cX0_erase 0 = .ok (.aload_n 0, 1) := by decide +kernel
theorem dX0_erase_1 : decode cX0_erase 1 = .ok (.getfield 9, 3) := by decide +kernel
theorem dX0_erase_4 : decode cX0_erase 4 = .ok (.iconst 0, 1) := by decide +kernel
theorem dX0_erase_5 : decode cX0_erase 5 = .ok (.invokestatic 32, 3) := by decide +kernel
theorem dX0_erase_8 : decode cX0_erase 8 = .ok (.aload_n 0, 1) := by decide +kernel
theorem dX0_erase_9 : decode cX0_erase 9 = .ok (.iconst 0, 1) := by decide +kernel
theorem dX0_erase_10 : decode cX0_erase 10 = .ok (.putfield 21, 3) := by decide +kernel
theorem dX0_erase_13 : decode cX0_erase 13 = .ok (.aload_n 0, 1) := by decide +kernel
theorem dX0_erase_14 : decode cX0_erase 14 = .ok (.dup, 1) := by decide +kernel
theorem dX0_erase_15 : decode cX0_erase 15 = .ok (.getfield 25, 3) := by decide +kernel
theorem dX0_erase_18 : decode cX0_erase 18 = .ok (.iconst 1, 1) := by decide +kernel
theorem dX0_erase_19 : decode cX0_erase 19 = .ok (.iadd, 1) := by decide +kernel
theorem dX0_erase_20 : decode cX0_erase 20 = .ok (.putfield 25, 3) := by decide +kernel
theorem dX0_erase_23 : decode cX0_erase 23 = .ok (.return_, 1) := by decide +kernel
theorem dX0_write_0 : decode cX0_write 0 = .ok (.aload_n 0, 1) := by decide +kernel
theorem dX0_write_1 : decode cX0_write 1 = .ok (.getfield 9, 3) := by decide +kernel
theorem dX0_write_4 : decode cX0_write 4 = .ok (.iload_n 1, 1) := by decide +kernel
theorem dX0_write_5 : decode cX0_write 5 = .ok (.iconst 1, 1) := by decide +kernel
theorem dX0_write_6 : decode cX0_write 6 = .ok (.iastore, 1) := by decide +kernel
theorem dX0_write_7 : decode cX0_write 7 = .ok (.aload_n 2, 1) := by decide +kernel
theorem dX0_write_8 : decode cX0_write 8 = .ok (.getfield 38, 3) := by decide +kernel
theorem dX0_write_11 : decode cX0_write 11 = .ok (.iconst 0, 1) := by decide +kernel
theorem dX0_write_12 : decode cX0_write 12 = .ok (.aload_n 0, 1) := by decide +kernel
theorem dX0_write_13 : decode cX0_write 13 = .ok (.getfield 15, 3) := by decide +kernel
theorem dX0_write_16 : decode cX0_write 16 = .ok (.iload_n 1, 1) := by decide +kernel
theorem dX0_write_17 : decode cX0_write 17 = .ok (.bipush 16, 2) := by decide +kernel
theorem dX0_write_19 : decode cX0_write 19 = .ok (.imul, 1) := by decide +kernel
theorem dX0_write_20 : decode cX0_write 20 = .ok (.bipush 16, 2) := by decide +kernel
theorem dX0_write_22 : decode cX0_write 22 = .ok (.invokestatic 41, 3) := by decide +kernel
theorem dX0_write_25 : decode cX0_write 25 = .ok (.return_, 1) := by decide +kernel
theorem dX0_cutAt_0 : decode cX0_cutAt 0 = .ok (.aload_n 0, 1) := by decide +kernel
theorem dX0_cutAt_1 : decode cX0_cutAt 1 = .ok (.getfield 9, 3) := by decide +kernel
theorem dX0_cutAt_4 : decode cX0_cutAt 4 = .ok (.iload_n 1, 1) := by decide +kernel
theorem dX0_cutAt_5 : decode cX0_cutAt 5 = .ok (.iconst 2, 1) := by decide +kernel
theorem dX0_cutAt_6 : decode cX0_cutAt 6 = .ok (.iastore, 1) := by decide +kernel
theorem dX0_cutAt_7 : decode cX0_cutAt 7 = .ok (.iload_n 1, 1) := by decide +kernel
theorem dX0_cutAt_8 : decode cX0_cutAt 8 = .ok (.bipush 8, 2) := by decide +kernel
theorem dX0_cutAt_10 : decode cX0_cutAt 10 = .ok (.if_icmp .lt 13, 3) := by decide +kernel
theorem dX0_cutAt_13 : decode cX0_cutAt 13 = .ok (.aload_n 0, 1) := by decide +kernel
theorem dX0_cutAt_14 : decode cX0_cutAt 14 = .ok (.getfield 9, 3) := by decide +kernel
theorem dX0_cutAt_17 : decode cX0_cutAt 17 = .ok (.iload_n 1, 1) := by decide +kernel
theorem dX0_cutAt_18 : decode cX0_cutAt 18 = .ok (.bipush 8, 2) := by decide +kernel
theorem dX0_cutAt_20 : decode cX0_cutAt 20 = .ok (.isub, 1) := by decide +kernel
theorem dX0_cutAt_21 : decode cX0_cutAt 21 = .ok (.iconst 2, 1) := by decide +kernel
theorem dX0_cutAt_22 : decode cX0_cutAt 22 = .ok (.iastore, 1) := by decide +kernel
theorem dX0_cutAt_23 : decode cX0_cutAt 23 = .ok (.return_, 1) := by decide +kernel
theorem dX0_ruinWritten_0 : decode cX0_ruinWritten 0 = .ok (.aload_n 0, 1) := by decide +kernel
theorem dX0_ruinWritten_1 : decode cX0_ruinWritten 1 = .ok (.getfield 9, 3) := by decide +kernel
theorem dX0_ruinWritten_4 : decode cX0_ruinWritten 4 = .ok (.iload_n 1, 1) := by decide +kernel
theorem dX0_ruinWritten_5 : decode cX0_ruinWritten 5 = .ok (.iaload, 1) := by decide +kernel
theorem dX0_ruinWritten_6 : decode cX0_ruinWritten 6 = .ok (.iconst 1, 1) := by decide +kernel
theorem dX0_ruinWritten_7 : decode cX0_ruinWritten 7 = .ok (.if_icmp .eq 5, 3) := by decide +kernel
theorem dX0_ruinWritten_10 : decode cX0_ruinWritten 10 = .ok (.iconst 0, 1) := by decide +kernel
theorem dX0_ruinWritten_11 : decode cX0_ruinWritten 11 = .ok (.ireturn, 1) := by decide +kernel
theorem dX0_ruinWritten_12 : decode cX0_ruinWritten 12 = .ok (.aload_n 0, 1) := by decide +kernel
theorem dX0_ruinWritten_13 : decode cX0_ruinWritten 13 = .ok (.getfield 9, 3) := by decide +kernel
theorem dX0_ruinWritten_16 : decode cX0_ruinWritten 16 = .ok (.iload_n 1, 1) := by decide +kernel
theorem dX0_ruinWritten_17 : decode cX0_ruinWritten 17 = .ok (.iconst 2, 1) := by decide +kernel
theorem dX0_ruinWritten_18 : decode cX0_ruinWritten 18 = .ok (.iastore, 1) := by decide +kernel
theorem dX0_ruinWritten_19 : decode cX0_ruinWritten 19 = .ok (.iconst 1, 1) := by decide +kernel
theorem dX0_ruinWritten_20 : decode cX0_ruinWritten 20 = .ok (.ireturn, 1) := by decide +kernel
theorem dX0_writeGuard_0 : decode cX0_writeGuard 0 = .ok (.aload_n 0, 1) := by decide +kernel
theorem dX0_writeGuard_1 : decode cX0_writeGuard 1 = .ok (.getfield 18, 3) := by decide +kernel
theorem dX0_writeGuard_4 : decode cX0_writeGuard 4 = .ok (.iconst 0, 1) := by decide +kernel
theorem dX0_writeGuard_5 : decode cX0_writeGuard 5 = .ok (.invokestatic 32, 3) := by decide +kernel
theorem dX0_writeGuard_8 : decode cX0_writeGuard 8 = .ok (.iconst 0, 1) := by decide +kernel
theorem dX0_writeGuard_9 : decode cX0_writeGuard 9 = .ok (.istore_n 1, 1) := by decide +kernel
theorem dX0_writeGuard_10 : decode cX0_writeGuard 10 = .ok (.iload_n 1, 1) := by decide +kernel
theorem dX0_writeGuard_11 : decode cX0_writeGuard 11 = .ok (.bipush 8, 2) := by decide +kernel
theorem dX0_writeGuard_13 : decode cX0_writeGuard 13 = .ok (.if_icmp .ge 66, 3) := by decide +kernel
theorem dX0_writeGuard_16 : decode cX0_writeGuard 16 = .ok (.aload_n 0, 1) := by decide +kernel
theorem dX0_writeGuard_17 : decode cX0_writeGuard 17 = .ok (.getfield 9, 3) := by decide +kernel
theorem dX0_writeGuard_20 : decode cX0_writeGuard 20 = .ok (.iload_n 1, 1) := by decide +kernel
theorem dX0_writeGuard_21 : decode cX0_writeGuard 21 = .ok (.iaload, 1) := by decide +kernel
theorem dX0_writeGuard_22 : decode cX0_writeGuard 22 = .ok (.iconst 1, 1) := by decide +kernel
theorem dX0_writeGuard_23 : decode cX0_writeGuard 23 = .ok (.if_icmp .ne 50, 3) := by decide +kernel
theorem dX0_writeGuard_26 : decode cX0_writeGuard 26 = .ok (.aload_n 0, 1) := by decide +kernel
theorem dX0_writeGuard_27 : decode cX0_writeGuard 27 = .ok (.getfield 18, 3) := by decide +kernel
theorem dX0_writeGuard_30 : decode cX0_writeGuard 30 = .ok (.bipush 16, 2) := by decide +kernel
theorem dX0_writeGuard_32 : decode cX0_writeGuard 32 = .ok (.dup2, 1) := by decide +kernel
theorem dX0_writeGuard_33 : decode cX0_writeGuard 33 = .ok (.iaload, 1) := by decide +kernel
theorem dX0_writeGuard_34 : decode cX0_writeGuard 34 = .ok (.iconst 1, 1) := by decide +kernel
theorem dX0_writeGuard_35 : decode cX0_writeGuard 35 = .ok (.iload_n 1, 1) := by decide +kernel
theorem dX0_writeGuard_36 : decode cX0_writeGuard 36 = .ok (.ishl, 1) := by decide +kernel
theorem dX0_writeGuard_37 : decode cX0_writeGuard 37 = .ok (.ior, 1) := by decide +kernel
theorem dX0_writeGuard_38 : decode cX0_writeGuard 38 = .ok (.iastore, 1) := by decide +kernel
theorem dX0_writeGuard_39 : decode cX0_writeGuard 39 = .ok (.iconst 0, 1) := by decide +kernel
theorem dX0_writeGuard_40 : decode cX0_writeGuard 40 = .ok (.istore_n 2, 1) := by decide +kernel
theorem dX0_writeGuard_41 : decode cX0_writeGuard 41 = .ok (.iload_n 2, 1) := by decide +kernel
theorem dX0_writeGuard_42 : decode cX0_writeGuard 42 = .ok (.bipush 16, 2) := by decide +kernel
theorem dX0_writeGuard_44 : decode cX0_writeGuard 44 = .ok (.if_icmp .ge 29, 3) := by decide +kernel
theorem dX0_writeGuard_47 : decode cX0_writeGuard 47 = .ok (.aload_n 0, 1) := by decide +kernel
theorem dX0_writeGuard_48 : decode cX0_writeGuard 48 = .ok (.getfield 18, 3) := by decide +kernel
theorem dX0_writeGuard_51 : decode cX0_writeGuard 51 = .ok (.iload_n 2, 1) := by decide +kernel
theorem dX0_writeGuard_52 : decode cX0_writeGuard 52 = .ok (.dup2, 1) := by decide +kernel
theorem dX0_writeGuard_53 : decode cX0_writeGuard 53 = .ok (.iaload, 1) := by decide +kernel
theorem dX0_writeGuard_54 : decode cX0_writeGuard 54 = .ok (.aload_n 0, 1) := by decide +kernel
theorem dX0_writeGuard_55 : decode cX0_writeGuard 55 = .ok (.getfield 15, 3) := by decide +kernel
theorem dX0_writeGuard_58 : decode cX0_writeGuard 58 = .ok (.iload_n 1, 1) := by decide +kernel
theorem dX0_writeGuard_59 : decode cX0_writeGuard 59 = .ok (.bipush 16, 2) := by decide +kernel
theorem dX0_writeGuard_61 : decode cX0_writeGuard 61 = .ok (.imul, 1) := by decide +kernel
theorem dX0_writeGuard_62 : decode cX0_writeGuard 62 = .ok (.iload_n 2, 1) := by decide +kernel
theorem dX0_writeGuard_63 : decode cX0_writeGuard 63 = .ok (.iadd, 1) := by decide +kernel
theorem dX0_writeGuard_64 : decode cX0_writeGuard 64 = .ok (.iaload, 1) := by decide +kernel
theorem dX0_writeGuard_65 : decode cX0_writeGuard 65 = .ok (.ixor, 1) := by decide +kernel
theorem dX0_writeGuard_66 : decode cX0_writeGuard 66 = .ok (.iastore, 1) := by decide +kernel
theorem dX0_writeGuard_67 : decode cX0_writeGuard 67 = .ok (.iinc 2 1, 3) := by decide +kernel
theorem dX0_writeGuard_70 : decode cX0_writeGuard 70 = .ok (.goto (-29), 3) := by decide +kernel
theorem dX0_writeGuard_73 : decode cX0_writeGuard 73 = .ok (.iinc 1 1, 3) := by decide +kernel
theorem dX0_writeGuard_76 : decode cX0_writeGuard 76 = .ok (.goto (-66), 3) := by decide +kernel
theorem dX0_writeGuard_79 : decode cX0_writeGuard 79 = .ok (.aload_n 0, 1) := by decide +kernel
theorem dX0_writeGuard_80 : decode cX0_writeGuard 80 = .ok (.iconst 1, 1) := by decide +kernel
theorem dX0_writeGuard_81 : decode cX0_writeGuard 81 = .ok (.putfield 21, 3) := by decide +kernel
theorem dX0_writeGuard_84 : decode cX0_writeGuard 84 = .ok (.return_, 1) := by decide +kernel
theorem dX0_stateAt_0 : decode cX0_stateAt 0 = .ok (.aload_n 0, 1) := by decide +kernel
theorem dX0_stateAt_1 : decode cX0_stateAt 1 = .ok (.iload_n 1, 1) := by decide +kernel
theorem dX0_stateAt_2 : decode cX0_stateAt 2 = .ok (.invokevirtual 47, 3) := by decide +kernel
theorem dX0_stateAt_5 : decode cX0_stateAt 5 = .ok (.ifCond .eq 7, 3) := by decide +kernel
theorem dX0_stateAt_8 : decode cX0_stateAt 8 = .ok (.iconst 3, 1) := by decide +kernel
theorem dX0_stateAt_9 : decode cX0_stateAt 9 = .ok (.goto 9, 3) := by decide +kernel
theorem dX0_stateAt_12 : decode cX0_stateAt 12 = .ok (.aload_n 0, 1) := by decide +kernel
theorem dX0_stateAt_13 : decode cX0_stateAt 13 = .ok (.getfield 9, 3) := by decide +kernel
theorem dX0_stateAt_16 : decode cX0_stateAt 16 = .ok (.iload_n 1, 1) := by decide +kernel
theorem dX0_stateAt_17 : decode cX0_stateAt 17 = .ok (.iaload, 1) := by decide +kernel
theorem dX0_stateAt_18 : decode cX0_stateAt 18 = .ok (.ireturn, 1) := by decide +kernel
theorem dX0_isReadable_0 : decode cX0_isReadable 0 = .ok (.aload_n 0, 1) := by decide +kernel
theorem dX0_isReadable_1 : decode cX0_isReadable 1 = .ok (.getfield 9, 3) := by decide +kernel
theorem dX0_isReadable_4 : decode cX0_isReadable 4 = .ok (.iload_n 1, 1) := by decide +kernel
theorem dX0_isReadable_5 : decode cX0_isReadable 5 = .ok (.iaload, 1) := by decide +kernel
theorem dX0_isReadable_6 : decode cX0_isReadable 6 = .ok (.iconst 1, 1) := by decide +kernel
theorem dX0_isReadable_7 : decode cX0_isReadable 7 = .ok (.if_icmp .eq 11, 3) := by decide +kernel
theorem dX0_isReadable_10 : decode cX0_isReadable 10 = .ok (.aload_n 0, 1) := by decide +kernel
theorem dX0_isReadable_11 : decode cX0_isReadable 11 = .ok (.iload_n 1, 1) := by decide +kernel
theorem dX0_isReadable_12 : decode cX0_isReadable 12 = .ok (.invokevirtual 47, 3) := by decide +kernel
theorem dX0_isReadable_15 : decode cX0_isReadable 15 = .ok (.ifCond .eq 7, 3) := by decide +kernel
theorem dX0_isReadable_18 : decode cX0_isReadable 18 = .ok (.iconst 1, 1) := by decide +kernel
theorem dX0_isReadable_19 : decode cX0_isReadable 19 = .ok (.goto 4, 3) := by decide +kernel
theorem dX0_isReadable_22 : decode cX0_isReadable 22 = .ok (.iconst 0, 1) := by decide +kernel
theorem dX0_isReadable_23 : decode cX0_isReadable 23 = .ok (.ireturn, 1) := by decide +kernel
theorem dX0_isRebuilt_0 : decode cX0_isRebuilt 0 = .ok (.aload_n 0, 1) := by decide +kernel
theorem dX0_isRebuilt_1 : decode cX0_isRebuilt 1 = .ok (.getfield 9, 3) := by decide +kernel
theorem dX0_isRebuilt_4 : decode cX0_isRebuilt 4 = .ok (.iload_n 1, 1) := by decide +kernel
theorem dX0_isRebuilt_5 : decode cX0_isRebuilt 5 = .ok (.iaload, 1) := by decide +kernel
theorem dX0_isRebuilt_6 : decode cX0_isRebuilt 6 = .ok (.iconst 2, 1) := by decide +kernel
theorem dX0_isRebuilt_7 : decode cX0_isRebuilt 7 = .ok (.if_icmp .ne 11, 3) := by decide +kernel
theorem dX0_isRebuilt_10 : decode cX0_isRebuilt 10 = .ok (.aload_n 0, 1) := by decide +kernel
theorem dX0_isRebuilt_11 : decode cX0_isRebuilt 11 = .ok (.iload_n 1, 1) := by decide +kernel
theorem dX0_isRebuilt_12 : decode cX0_isRebuilt 12 = .ok (.invokevirtual 51, 3) := by decide +kernel
theorem dX0_isRebuilt_15 : decode cX0_isRebuilt 15 = .ok (.ifCond .ne 5, 3) := by decide +kernel
theorem dX0_isRebuilt_18 : decode cX0_isRebuilt 18 = .ok (.iconst 0, 1) := by decide +kernel
theorem dX0_isRebuilt_19 : decode cX0_isRebuilt 19 = .ok (.ireturn, 1) := by decide +kernel
theorem dX0_isRebuilt_20 : decode cX0_isRebuilt 20 = .ok (.iconst 0, 1) := by decide +kernel
theorem dX0_isRebuilt_21 : decode cX0_isRebuilt 21 = .ok (.istore_n 2, 1) := by decide +kernel
theorem dX0_isRebuilt_22 : decode cX0_isRebuilt 22 = .ok (.iload_n 2, 1) := by decide +kernel
theorem dX0_isRebuilt_23 : decode cX0_isRebuilt 23 = .ok (.bipush 8, 2) := by decide +kernel
theorem dX0_isRebuilt_25 : decode cX0_isRebuilt 25 = .ok (.if_icmp .ge 34, 3) := by decide +kernel
theorem dX0_isRebuilt_28 : decode cX0_isRebuilt 28 = .ok (.iload_n 2, 1) := by decide +kernel
theorem dX0_isRebuilt_29 : decode cX0_isRebuilt 29 = .ok (.iload_n 1, 1) := by decide +kernel
theorem dX0_isRebuilt_30 : decode cX0_isRebuilt 30 = .ok (.if_icmp .eq 23, 3) := by decide +kernel
theorem dX0_isRebuilt_33 : decode cX0_isRebuilt 33 = .ok (.aload_n 0, 1) := by decide +kernel
theorem dX0_isRebuilt_34 : decode cX0_isRebuilt 34 = .ok (.iload_n 2, 1) := by decide +kernel
theorem dX0_isRebuilt_35 : decode cX0_isRebuilt 35 = .ok (.invokevirtual 51, 3) := by decide +kernel
theorem dX0_isRebuilt_38 : decode cX0_isRebuilt 38 = .ok (.ifCond .eq 15, 3) := by decide +kernel
theorem dX0_isRebuilt_41 : decode cX0_isRebuilt 41 = .ok (.aload_n 0, 1) := by decide +kernel
theorem dX0_isRebuilt_42 : decode cX0_isRebuilt 42 = .ok (.getfield 9, 3) := by decide +kernel
theorem dX0_isRebuilt_45 : decode cX0_isRebuilt 45 = .ok (.iload_n 2, 1) := by decide +kernel
theorem dX0_isRebuilt_46 : decode cX0_isRebuilt 46 = .ok (.iaload, 1) := by decide +kernel
theorem dX0_isRebuilt_47 : decode cX0_isRebuilt 47 = .ok (.iconst 1, 1) := by decide +kernel
theorem dX0_isRebuilt_48 : decode cX0_isRebuilt 48 = .ok (.if_icmp .eq 5, 3) := by decide +kernel
theorem dX0_isRebuilt_51 : decode cX0_isRebuilt 51 = .ok (.iconst 0, 1) := by decide +kernel
theorem dX0_isRebuilt_52 : decode cX0_isRebuilt 52 = .ok (.ireturn, 1) := by decide +kernel
theorem dX0_isRebuilt_53 : decode cX0_isRebuilt 53 = .ok (.iinc 2 1, 3) := by decide +kernel
theorem dX0_isRebuilt_56 : decode cX0_isRebuilt 56 = .ok (.goto (-34), 3) := by decide +kernel
theorem dX0_isRebuilt_59 : decode cX0_isRebuilt 59 = .ok (.iconst 1, 1) := by decide +kernel
theorem dX0_isRebuilt_60 : decode cX0_isRebuilt 60 = .ok (.ireturn, 1) := by decide +kernel
theorem dX0_covers_0 : decode cX0_covers 0 = .ok (.aload_n 0, 1) := by decide +kernel
theorem dX0_covers_1 : decode cX0_covers 1 = .ok (.getfield 21, 3) := by decide +kernel
theorem dX0_covers_4 : decode cX0_covers 4 = .ok (.iconst 1, 1) := by decide +kernel
theorem dX0_covers_5 : decode cX0_covers 5 = .ok (.if_icmp .ne 28, 3) := by decide +kernel
theorem dX0_covers_8 : decode cX0_covers 8 = .ok (.iload_n 1, 1) := by decide +kernel
theorem dX0_covers_9 : decode cX0_covers 9 = .ok (.bipush 8, 2) := by decide +kernel
theorem dX0_covers_11 : decode cX0_covers 11 = .ok (.if_icmp .ge 22, 3) := by decide +kernel
theorem dX0_covers_14 : decode cX0_covers 14 = .ok (.aload_n 0, 1) := by decide +kernel
theorem dX0_covers_15 : decode cX0_covers 15 = .ok (.getfield 18, 3) := by decide +kernel
theorem dX0_covers_18 : decode cX0_covers 18 = .ok (.bipush 16, 2) := by decide +kernel
theorem dX0_covers_20 : decode cX0_covers 20 = .ok (.iaload, 1) := by decide +kernel
theorem dX0_covers_21 : decode cX0_covers 21 = .ok (.iload_n 1, 1) := by decide +kernel
theorem dX0_covers_22 : decode cX0_covers 22 = .ok (.ishr, 1) := by decide +kernel
theorem dX0_covers_23 : decode cX0_covers 23 = .ok (.iconst 1, 1) := by decide +kernel
theorem dX0_covers_24 : decode cX0_covers 24 = .ok (.iand, 1) := by decide +kernel
theorem dX0_covers_25 : decode cX0_covers 25 = .ok (.iconst 1, 1) := by decide +kernel
theorem dX0_covers_26 : decode cX0_covers 26 = .ok (.if_icmp .ne 7, 3) := by decide +kernel
theorem dX0_covers_29 : decode cX0_covers 29 = .ok (.iconst 1, 1) := by decide +kernel
theorem dX0_covers_30 : decode cX0_covers 30 = .ok (.goto 4, 3) := by decide +kernel
theorem dX0_covers_33 : decode cX0_covers 33 = .ok (.iconst 0, 1) := by decide +kernel
theorem dX0_covers_34 : decode cX0_covers 34 = .ok (.ireturn, 1) := by decide +kernel
theorem dX0_byteAt_0 : decode cX0_byteAt 0 = .ok (.aload_n 0, 1) := by decide +kernel
theorem dX0_byteAt_1 : decode cX0_byteAt 1 = .ok (.getfield 9, 3) := by decide +kernel
theorem dX0_byteAt_4 : decode cX0_byteAt 4 = .ok (.iload_n 1, 1) := by decide +kernel
theorem dX0_byteAt_5 : decode cX0_byteAt 5 = .ok (.iaload, 1) := by decide +kernel
theorem dX0_byteAt_6 : decode cX0_byteAt 6 = .ok (.iconst 1, 1) := by decide +kernel
theorem dX0_byteAt_7 : decode cX0_byteAt 7 = .ok (.if_icmp .ne 15, 3) := by decide +kernel
theorem dX0_byteAt_10 : decode cX0_byteAt 10 = .ok (.aload_n 0, 1) := by decide +kernel
theorem dX0_byteAt_11 : decode cX0_byteAt 11 = .ok (.getfield 15, 3) := by decide +kernel
theorem dX0_byteAt_14 : decode cX0_byteAt 14 = .ok (.iload_n 1, 1) := by decide +kernel
theorem dX0_byteAt_15 : decode cX0_byteAt 15 = .ok (.bipush 16, 2) := by decide +kernel
theorem dX0_byteAt_17 : decode cX0_byteAt 17 = .ok (.imul, 1) := by decide +kernel
theorem dX0_byteAt_18 : decode cX0_byteAt 18 = .ok (.iload_n 2, 1) := by decide +kernel
theorem dX0_byteAt_19 : decode cX0_byteAt 19 = .ok (.iadd, 1) := by decide +kernel
theorem dX0_byteAt_20 : decode cX0_byteAt 20 = .ok (.iaload, 1) := by decide +kernel
theorem dX0_byteAt_21 : decode cX0_byteAt 21 = .ok (.ireturn, 1) := by decide +kernel
theorem dX0_byteAt_22 : decode cX0_byteAt 22 = .ok (.aload_n 0, 1) := by decide +kernel
theorem dX0_byteAt_23 : decode cX0_byteAt 23 = .ok (.getfield 18, 3) := by decide +kernel
theorem dX0_byteAt_26 : decode cX0_byteAt 26 = .ok (.iload_n 2, 1) := by decide +kernel
theorem dX0_byteAt_27 : decode cX0_byteAt 27 = .ok (.iaload, 1) := by decide +kernel
theorem dX0_byteAt_28 : decode cX0_byteAt 28 = .ok (.istore_n 3, 1) := by decide +kernel
theorem dX0_byteAt_29 : decode cX0_byteAt 29 = .ok (.iconst 0, 1) := by decide +kernel
theorem dX0_byteAt_30 : decode cX0_byteAt 30 = .ok (.istore 4, 2) := by decide +kernel
theorem dX0_byteAt_32 : decode cX0_byteAt 32 = .ok (.iload 4, 2) := by decide +kernel
theorem dX0_byteAt_34 : decode cX0_byteAt 34 = .ok (.bipush 8, 2) := by decide +kernel
theorem dX0_byteAt_36 : decode cX0_byteAt 36 = .ok (.if_icmp .ge 39, 3) := by decide +kernel
theorem dX0_byteAt_39 : decode cX0_byteAt 39 = .ok (.iload 4, 2) := by decide +kernel
theorem dX0_byteAt_41 : decode cX0_byteAt 41 = .ok (.iload_n 1, 1) := by decide +kernel
theorem dX0_byteAt_42 : decode cX0_byteAt 42 = .ok (.if_icmp .eq 27, 3) := by decide +kernel
theorem dX0_byteAt_45 : decode cX0_byteAt 45 = .ok (.aload_n 0, 1) := by decide +kernel
theorem dX0_byteAt_46 : decode cX0_byteAt 46 = .ok (.iload 4, 2) := by decide +kernel
theorem dX0_byteAt_48 : decode cX0_byteAt 48 = .ok (.invokevirtual 51, 3) := by decide +kernel
theorem dX0_byteAt_51 : decode cX0_byteAt 51 = .ok (.ifCond .eq 18, 3) := by decide +kernel
theorem dX0_byteAt_54 : decode cX0_byteAt 54 = .ok (.iload_n 3, 1) := by decide +kernel
theorem dX0_byteAt_55 : decode cX0_byteAt 55 = .ok (.aload_n 0, 1) := by decide +kernel
theorem dX0_byteAt_56 : decode cX0_byteAt 56 = .ok (.getfield 15, 3) := by decide +kernel
theorem dX0_byteAt_59 : decode cX0_byteAt 59 = .ok (.iload 4, 2) := by decide +kernel
theorem dX0_byteAt_61 : decode cX0_byteAt 61 = .ok (.bipush 16, 2) := by decide +kernel
theorem dX0_byteAt_63 : decode cX0_byteAt 63 = .ok (.imul, 1) := by decide +kernel
theorem dX0_byteAt_64 : decode cX0_byteAt 64 = .ok (.iload_n 2, 1) := by decide +kernel
theorem dX0_byteAt_65 : decode cX0_byteAt 65 = .ok (.iadd, 1) := by decide +kernel
theorem dX0_byteAt_66 : decode cX0_byteAt 66 = .ok (.iaload, 1) := by decide +kernel
theorem dX0_byteAt_67 : decode cX0_byteAt 67 = .ok (.ixor, 1) := by decide +kernel
theorem dX0_byteAt_68 : decode cX0_byteAt 68 = .ok (.istore_n 3, 1) := by decide +kernel
theorem dX0_byteAt_69 : decode cX0_byteAt 69 = .ok (.iinc 4 1, 3) := by decide +kernel
theorem dX0_byteAt_72 : decode cX0_byteAt 72 = .ok (.goto (-40), 3) := by decide +kernel
theorem dX0_byteAt_75 : decode cX0_byteAt 75 = .ok (.iload_n 3, 1) := by decide +kernel
theorem dX0_byteAt_76 : decode cX0_byteAt 76 = .ok (.ireturn, 1) := by decide +kernel
theorem dX0_show_0 : decode cX0_show 0 = .ok (.aload_n 0, 1) := by decide +kernel
theorem dX0_show_1 : decode cX0_show 1 = .ok (.iload_n 1, 1) := by decide +kernel
theorem dX0_show_2 : decode cX0_show 2 = .ok (.invokevirtual 54, 3) := by decide +kernel
theorem dX0_show_5 : decode cX0_show 5 = .ok (.ifCond .ne 5, 3) := by decide +kernel
theorem dX0_show_8 : decode cX0_show 8 = .ok (.iconst 0, 1) := by decide +kernel
theorem dX0_show_9 : decode cX0_show 9 = .ok (.ireturn, 1) := by decide +kernel
theorem dX0_show_10 : decode cX0_show 10 = .ok (.iconst 0, 1) := by decide +kernel
theorem dX0_show_11 : decode cX0_show 11 = .ok (.istore_n 3, 1) := by decide +kernel
theorem dX0_show_12 : decode cX0_show 12 = .ok (.iload_n 3, 1) := by decide +kernel
theorem dX0_show_13 : decode cX0_show 13 = .ok (.bipush 16, 2) := by decide +kernel
theorem dX0_show_15 : decode cX0_show 15 = .ok (.if_icmp .ge 21, 3) := by decide +kernel
theorem dX0_show_18 : decode cX0_show 18 = .ok (.aload_n 2, 1) := by decide +kernel
theorem dX0_show_19 : decode cX0_show 19 = .ok (.getfield 38, 3) := by decide +kernel
theorem dX0_show_22 : decode cX0_show 22 = .ok (.iload_n 3, 1) := by decide +kernel
theorem dX0_show_23 : decode cX0_show 23 = .ok (.aload_n 0, 1) := by decide +kernel
theorem dX0_show_24 : decode cX0_show 24 = .ok (.iload_n 1, 1) := by decide +kernel
theorem dX0_show_25 : decode cX0_show 25 = .ok (.iload_n 3, 1) := by decide +kernel
theorem dX0_show_26 : decode cX0_show 26 = .ok (.invokevirtual 57, 3) := by decide +kernel
theorem dX0_show_29 : decode cX0_show 29 = .ok (.iastore, 1) := by decide +kernel
theorem dX0_show_30 : decode cX0_show 30 = .ok (.iinc 3 1, 3) := by decide +kernel
theorem dX0_show_33 : decode cX0_show 33 = .ok (.goto (-21), 3) := by decide +kernel
theorem dX0_show_36 : decode cX0_show 36 = .ok (.iconst 1, 1) := by decide +kernel
theorem dX0_show_37 : decode cX0_show 37 = .ok (.ireturn, 1) := by decide +kernel
theorem dX1_init_0 : decode cX1_init 0 = .ok (.aload_n 0, 1) := by decide +kernel
theorem dX1_init_1 : decode cX1_init 1 = .ok (.invokespecial 3, 3) := by decide +kernel
theorem dX1_init_4 : decode cX1_init 4 = .ok (.aload_n 0, 1) := by decide +kernel
theorem dX1_init_5 : decode cX1_init 5 = .ok (.bipush 16, 2) := by decide +kernel
theorem dX1_init_7 : decode cX1_init 7 = .ok (.newarray .int, 2) := by decide +kernel
theorem dX1_init_9 : decode cX1_init 9 = .ok (.putfield 9, 3) := by decide +kernel
theorem dX1_init_12 : decode cX1_init 12 = .ok (.return_, 1) := by decide +kernel
theorem dX1_clear_0 : decode cX1_clear 0 = .ok (.aload_n 0, 1) := by decide +kernel
theorem dX1_clear_1 : decode cX1_clear 1 = .ok (.getfield 9, 3) := by decide +kernel
theorem dX1_clear_4 : decode cX1_clear 4 = .ok (.iconst 0, 1) := by decide +kernel
theorem dX1_clear_5 : decode cX1_clear 5 = .ok (.invokestatic 15, 3) := by decide +kernel
theorem dX1_clear_8 : decode cX1_clear 8 = .ok (.return_, 1) := by decide +kernel
theorem dX1_events_0 : decode cX1_events 0 = .ok (.aload_n 0, 1) := by decide +kernel
theorem dX1_events_1 : decode cX1_events 1 = .ok (.getfield 9, 3) := by decide +kernel
theorem dX1_events_4 : decode cX1_events 4 = .ok (.iconst 0, 1) := by decide +kernel
theorem dX1_events_5 : decode cX1_events 5 = .ok (.iaload, 1) := by decide +kernel
theorem dX1_events_6 : decode cX1_events 6 = .ok (.ireturn, 1) := by decide +kernel
theorem dX1_isEmpty_0 : decode cX1_isEmpty 0 = .ok (.aload_n 0, 1) := by decide +kernel
theorem dX1_isEmpty_1 : decode cX1_isEmpty 1 = .ok (.invokevirtual 21, 3) := by decide +kernel
theorem dX1_isEmpty_4 : decode cX1_isEmpty 4 = .ok (.ifCond .ne 7, 3) := by decide +kernel
theorem dX1_isEmpty_7 : decode cX1_isEmpty 7 = .ok (.iconst 1, 1) := by decide +kernel
theorem dX1_isEmpty_8 : decode cX1_isEmpty 8 = .ok (.goto 4, 3) := by decide +kernel
theorem dX1_isEmpty_11 : decode cX1_isEmpty 11 = .ok (.iconst 0, 1) := by decide +kernel
theorem dX1_isEmpty_12 : decode cX1_isEmpty 12 = .ok (.ireturn, 1) := by decide +kernel
theorem dX1_firstNumber_0 : decode cX1_firstNumber 0 = .ok (.aload_n 0, 1) := by decide +kernel
theorem dX1_firstNumber_1 : decode cX1_firstNumber 1 = .ok (.getfield 9, 3) := by decide +kernel
theorem dX1_firstNumber_4 : decode cX1_firstNumber 4 = .ok (.iconst 1, 1) := by decide +kernel
theorem dX1_firstNumber_5 : decode cX1_firstNumber 5 = .ok (.iaload, 1) := by decide +kernel
theorem dX1_firstNumber_6 : decode cX1_firstNumber 6 = .ok (.bipush 8, 2) := by decide +kernel
theorem dX1_firstNumber_8 : decode cX1_firstNumber 8 = .ok (.ishl, 1) := by decide +kernel
theorem dX1_firstNumber_9 : decode cX1_firstNumber 9 = .ok (.aload_n 0, 1) := by decide +kernel
theorem dX1_firstNumber_10 : decode cX1_firstNumber 10 = .ok (.getfield 9, 3) := by decide +kernel
theorem dX1_firstNumber_13 : decode cX1_firstNumber 13 = .ok (.iconst 2, 1) := by decide +kernel
theorem dX1_firstNumber_14 : decode cX1_firstNumber 14 = .ok (.iaload, 1) := by decide +kernel
theorem dX1_firstNumber_15 : decode cX1_firstNumber 15 = .ok (.ior, 1) := by decide +kernel
theorem dX1_firstNumber_16 : decode cX1_firstNumber 16 = .ok (.ireturn, 1) := by decide +kernel
theorem dX1_lastNumber_0 : decode cX1_lastNumber 0 = .ok (.aload_n 0, 1) := by decide +kernel
theorem dX1_lastNumber_1 : decode cX1_lastNumber 1 = .ok (.invokevirtual 25, 3) := by decide +kernel
theorem dX1_lastNumber_4 : decode cX1_lastNumber 4 = .ok (.aload_n 0, 1) := by decide +kernel
theorem dX1_lastNumber_5 : decode cX1_lastNumber 5 = .ok (.invokevirtual 21, 3) := by decide +kernel
theorem dX1_lastNumber_8 : decode cX1_lastNumber 8 = .ok (.iadd, 1) := by decide +kernel
theorem dX1_lastNumber_9 : decode cX1_lastNumber 9 = .ok (.iconst 1, 1) := by decide +kernel
theorem dX1_lastNumber_10 : decode cX1_lastNumber 10 = .ok (.isub, 1) := by decide +kernel
theorem dX1_lastNumber_11 : decode cX1_lastNumber 11 = .ok (.ireturn, 1) := by decide +kernel
theorem dX1_holds_0 : decode cX1_holds 0 = .ok (.aload_n 0, 1) := by decide +kernel
theorem dX1_holds_1 : decode cX1_holds 1 = .ok (.invokevirtual 28, 3) := by decide +kernel
theorem dX1_holds_4 : decode cX1_holds 4 = .ok (.ifCond .ne 23, 3) := by decide +kernel
theorem dX1_holds_7 : decode cX1_holds 7 = .ok (.iload_n 1, 1) := by decide +kernel
theorem dX1_holds_8 : decode cX1_holds 8 = .ok (.aload_n 0, 1) := by decide +kernel
theorem dX1_holds_9 : decode cX1_holds 9 = .ok (.invokevirtual 25, 3) := by decide +kernel
theorem dX1_holds_12 : decode cX1_holds 12 = .ok (.if_icmp .lt 15, 3) := by decide +kernel
theorem dX1_holds_15 : decode cX1_holds 15 = .ok (.iload_n 1, 1) := by decide +kernel
theorem dX1_holds_16 : decode cX1_holds 16 = .ok (.aload_n 0, 1) := by decide +kernel
theorem dX1_holds_17 : decode cX1_holds 17 = .ok (.invokevirtual 32, 3) := by decide +kernel
theorem dX1_holds_20 : decode cX1_holds 20 = .ok (.if_icmp .gt 7, 3) := by decide +kernel
theorem dX1_holds_23 : decode cX1_holds 23 = .ok (.iconst 1, 1) := by decide +kernel
theorem dX1_holds_24 : decode cX1_holds 24 = .ok (.goto 4, 3) := by decide +kernel
theorem dX1_holds_27 : decode cX1_holds 27 = .ok (.iconst 0, 1) := by decide +kernel
theorem dX1_holds_28 : decode cX1_holds 28 = .ok (.ireturn, 1) := by decide +kernel
theorem dX1_fits_0 : decode cX1_fits 0 = .ok (.aload_n 0, 1) := by decide +kernel
theorem dX1_fits_1 : decode cX1_fits 1 = .ok (.aload_n 0, 1) := by decide +kernel
theorem dX1_fits_2 : decode cX1_fits 2 = .ok (.invokevirtual 21, 3) := by decide +kernel
theorem dX1_fits_5 : decode cX1_fits 5 = .ok (.invokevirtual 35, 3) := by decide +kernel
theorem dX1_fits_8 : decode cX1_fits 8 = .ok (.iconst 1, 1) := by decide +kernel
theorem dX1_fits_9 : decode cX1_fits 9 = .ok (.iadd, 1) := by decide +kernel
theorem dX1_fits_10 : decode cX1_fits 10 = .ok (.iload_n 1, 1) := by decide +kernel
theorem dX1_fits_11 : decode cX1_fits 11 = .ok (.iadd, 1) := by decide +kernel
theorem dX1_fits_12 : decode cX1_fits 12 = .ok (.bipush 16, 2) := by decide +kernel
theorem dX1_fits_14 : decode cX1_fits 14 = .ok (.if_icmp .gt 7, 3) := by decide +kernel
theorem dX1_fits_17 : decode cX1_fits 17 = .ok (.iconst 1, 1) := by decide +kernel
theorem dX1_fits_18 : decode cX1_fits 18 = .ok (.goto 4, 3) := by decide +kernel
theorem dX1_fits_21 : decode cX1_fits 21 = .ok (.iconst 0, 1) := by decide +kernel
theorem dX1_fits_22 : decode cX1_fits 22 = .ok (.ireturn, 1) := by decide +kernel
theorem dX1_add_0 : decode cX1_add 0 = .ok (.aload_n 0, 1) := by decide +kernel
theorem dX1_add_1 : decode cX1_add 1 = .ok (.aload_n 0, 1) := by decide +kernel
theorem dX1_add_2 : decode cX1_add 2 = .ok (.invokevirtual 21, 3) := by decide +kernel
theorem dX1_add_5 : decode cX1_add 5 = .ok (.invokevirtual 35, 3) := by decide +kernel
theorem dX1_add_8 : decode cX1_add 8 = .ok (.istore 5, 2) := by decide +kernel
theorem dX1_add_10 : decode cX1_add 10 = .ok (.aload_n 0, 1) := by decide +kernel
theorem dX1_add_11 : decode cX1_add 11 = .ok (.invokevirtual 28, 3) := by decide +kernel
theorem dX1_add_14 : decode cX1_add 14 = .ok (.ifCond .eq 28, 3) := by decide +kernel
theorem dX1_add_17 : decode cX1_add 17 = .ok (.aload_n 0, 1) := by decide +kernel
theorem dX1_add_18 : decode cX1_add 18 = .ok (.getfield 9, 3) := by decide +kernel
theorem dX1_add_21 : decode cX1_add 21 = .ok (.iconst 1, 1) := by decide +kernel
theorem dX1_add_22 : decode cX1_add 22 = .ok (.iload_n 1, 1) := by decide +kernel
theorem dX1_add_23 : decode cX1_add 23 = .ok (.bipush 8, 2) := by decide +kernel
theorem dX1_add_25 : decode cX1_add 25 = .ok (.ishr, 1) := by decide +kernel
theorem dX1_add_26 : decode cX1_add 26 = .ok (.sipush 255, 3) := by decide +kernel
theorem dX1_add_29 : decode cX1_add 29 = .ok (.iand, 1) := by decide +kernel
theorem dX1_add_30 : decode cX1_add 30 = .ok (.iastore, 1) := by decide +kernel
theorem dX1_add_31 : decode cX1_add 31 = .ok (.aload_n 0, 1) := by decide +kernel
theorem dX1_add_32 : decode cX1_add 32 = .ok (.getfield 9, 3) := by decide +kernel
theorem dX1_add_35 : decode cX1_add 35 = .ok (.iconst 2, 1) := by decide +kernel
theorem dX1_add_36 : decode cX1_add 36 = .ok (.iload_n 1, 1) := by decide +kernel
theorem dX1_add_37 : decode cX1_add 37 = .ok (.sipush 255, 3) := by decide +kernel
theorem dX1_add_40 : decode cX1_add 40 = .ok (.iand, 1) := by decide +kernel
theorem dX1_add_41 : decode cX1_add 41 = .ok (.iastore, 1) := by decide +kernel
theorem dX1_add_42 : decode cX1_add 42 = .ok (.aload_n 0, 1) := by decide +kernel
theorem dX1_add_43 : decode cX1_add 43 = .ok (.getfield 9, 3) := by decide +kernel
theorem dX1_add_46 : decode cX1_add 46 = .ok (.iconst 0, 1) := by decide +kernel
theorem dX1_add_47 : decode cX1_add 47 = .ok (.dup2, 1) := by decide +kernel
theorem dX1_add_48 : decode cX1_add 48 = .ok (.iaload, 1) := by decide +kernel
theorem dX1_add_49 : decode cX1_add 49 = .ok (.iconst 1, 1) := by decide +kernel
theorem dX1_add_50 : decode cX1_add 50 = .ok (.iadd, 1) := by decide +kernel
theorem dX1_add_51 : decode cX1_add 51 = .ok (.iastore, 1) := by decide +kernel
theorem dX1_add_52 : decode cX1_add 52 = .ok (.aload_n 0, 1) := by decide +kernel
theorem dX1_add_53 : decode cX1_add 53 = .ok (.getfield 9, 3) := by decide +kernel
theorem dX1_add_56 : decode cX1_add 56 = .ok (.iload 5, 2) := by decide +kernel
theorem dX1_add_58 : decode cX1_add 58 = .ok (.iload_n 2, 1) := by decide +kernel
theorem dX1_add_59 : decode cX1_add 59 = .ok (.iastore, 1) := by decide +kernel
theorem dX1_add_60 : decode cX1_add 60 = .ok (.iconst 0, 1) := by decide +kernel
theorem dX1_add_61 : decode cX1_add 61 = .ok (.istore 6, 2) := by decide +kernel
theorem dX1_add_63 : decode cX1_add 63 = .ok (.iload 6, 2) := by decide +kernel
theorem dX1_add_65 : decode cX1_add 65 = .ok (.iload_n 2, 1) := by decide +kernel
theorem dX1_add_66 : decode cX1_add 66 = .ok (.if_icmp .ge 33, 3) := by decide +kernel
theorem dX1_add_69 : decode cX1_add 69 = .ok (.aload_n 0, 1) := by decide +kernel
theorem dX1_add_70 : decode cX1_add 70 = .ok (.getfield 9, 3) := by decide +kernel
theorem dX1_add_73 : decode cX1_add 73 = .ok (.iload 5, 2) := by decide +kernel
theorem dX1_add_75 : decode cX1_add 75 = .ok (.iconst 1, 1) := by decide +kernel
theorem dX1_add_76 : decode cX1_add 76 = .ok (.iadd, 1) := by decide +kernel
theorem dX1_add_77 : decode cX1_add 77 = .ok (.iload 6, 2) := by decide +kernel
theorem dX1_add_79 : decode cX1_add 79 = .ok (.iadd, 1) := by decide +kernel
theorem dX1_add_80 : decode cX1_add 80 = .ok (.lload_n 3, 1) := by decide +kernel
theorem dX1_add_81 : decode cX1_add 81 = .ok (.bipush 8, 2) := by decide +kernel
theorem dX1_add_83 : decode cX1_add 83 = .ok (.iload 6, 2) := by decide +kernel
theorem dX1_add_85 : decode cX1_add 85 = .ok (.imul, 1) := by decide +kernel
theorem dX1_add_86 : decode cX1_add 86 = .ok (.lshr, 1) := by decide +kernel
theorem dX1_add_87 : decode cX1_add 87 = .ok (.ldc2_w 39, 3) := by decide +kernel
theorem dX1_add_90 : decode cX1_add 90 = .ok (.land, 1) := by decide +kernel
theorem dX1_add_91 : decode cX1_add 91 = .ok (.l2i, 1) := by decide +kernel
theorem dX1_add_92 : decode cX1_add 92 = .ok (.iastore, 1) := by decide +kernel
theorem dX1_add_93 : decode cX1_add 93 = .ok (.iinc 6 1, 3) := by decide +kernel
theorem dX1_add_96 : decode cX1_add 96 = .ok (.goto (-33), 3) := by decide +kernel
theorem dX1_add_99 : decode cX1_add 99 = .ok (.return_, 1) := by decide +kernel
theorem dX1_lengthOf_0 : decode cX1_lengthOf 0 = .ok (.aload_n 0, 1) := by decide +kernel
theorem dX1_lengthOf_1 : decode cX1_lengthOf 1 = .ok (.getfield 9, 3) := by decide +kernel
theorem dX1_lengthOf_4 : decode cX1_lengthOf 4 = .ok (.aload_n 0, 1) := by decide +kernel
theorem dX1_lengthOf_5 : decode cX1_lengthOf 5 = .ok (.iload_n 1, 1) := by decide +kernel
theorem dX1_lengthOf_6 : decode cX1_lengthOf 6 = .ok (.aload_n 0, 1) := by decide +kernel
theorem dX1_lengthOf_7 : decode cX1_lengthOf 7 = .ok (.invokevirtual 25, 3) := by decide +kernel
theorem dX1_lengthOf_10 : decode cX1_lengthOf 10 = .ok (.isub, 1) := by decide +kernel
theorem dX1_lengthOf_11 : decode cX1_lengthOf 11 = .ok (.invokevirtual 35, 3) := by decide +kernel
theorem dX1_lengthOf_14 : decode cX1_lengthOf 14 = .ok (.iaload, 1) := by decide +kernel
theorem dX1_lengthOf_15 : decode cX1_lengthOf 15 = .ok (.ireturn, 1) := by decide +kernel
theorem dX1_bytesOf_0 : decode cX1_bytesOf 0 = .ok (.aload_n 0, 1) := by decide +kernel
theorem dX1_bytesOf_1 : decode cX1_bytesOf 1 = .ok (.iload_n 1, 1) := by decide +kernel
theorem dX1_bytesOf_2 : decode cX1_bytesOf 2 = .ok (.aload_n 0, 1) := by decide +kernel
theorem dX1_bytesOf_3 : decode cX1_bytesOf 3 = .ok (.invokevirtual 25, 3) := by decide +kernel
theorem dX1_bytesOf_6 : decode cX1_bytesOf 6 = .ok (.isub, 1) := by decide +kernel
theorem dX1_bytesOf_7 : decode cX1_bytesOf 7 = .ok (.invokevirtual 35, 3) := by decide +kernel
theorem dX1_bytesOf_10 : decode cX1_bytesOf 10 = .ok (.istore_n 2, 1) := by decide +kernel
theorem dX1_bytesOf_11 : decode cX1_bytesOf 11 = .ok (.lconst 0, 1) := by decide +kernel
theorem dX1_bytesOf_12 : decode cX1_bytesOf 12 = .ok (.lstore_n 3, 1) := by decide +kernel
theorem dX1_bytesOf_13 : decode cX1_bytesOf 13 = .ok (.aload_n 0, 1) := by decide +kernel
theorem dX1_bytesOf_14 : decode cX1_bytesOf 14 = .ok (.getfield 9, 3) := by decide +kernel
theorem dX1_bytesOf_17 : decode cX1_bytesOf 17 = .ok (.iload_n 2, 1) := by decide +kernel
theorem dX1_bytesOf_18 : decode cX1_bytesOf 18 = .ok (.iaload, 1) := by decide +kernel
theorem dX1_bytesOf_19 : decode cX1_bytesOf 19 = .ok (.istore 5, 2) := by decide +kernel
theorem dX1_bytesOf_21 : decode cX1_bytesOf 21 = .ok (.iload 5, 2) := by decide +kernel
theorem dX1_bytesOf_23 : decode cX1_bytesOf 23 = .ok (.ifCond .le 25, 3) := by decide +kernel
theorem dX1_bytesOf_26 : decode cX1_bytesOf 26 = .ok (.lload_n 3, 1) := by decide +kernel
theorem dX1_bytesOf_27 : decode cX1_bytesOf 27 = .ok (.bipush 8, 2) := by decide +kernel
theorem dX1_bytesOf_29 : decode cX1_bytesOf 29 = .ok (.lshl, 1) := by decide +kernel
theorem dX1_bytesOf_30 : decode cX1_bytesOf 30 = .ok (.aload_n 0, 1) := by decide +kernel
theorem dX1_bytesOf_31 : decode cX1_bytesOf 31 = .ok (.getfield 9, 3) := by decide +kernel
theorem dX1_bytesOf_34 : decode cX1_bytesOf 34 = .ok (.iload_n 2, 1) := by decide +kernel
theorem dX1_bytesOf_35 : decode cX1_bytesOf 35 = .ok (.iload 5, 2) := by decide +kernel
theorem dX1_bytesOf_37 : decode cX1_bytesOf 37 = .ok (.iadd, 1) := by decide +kernel
theorem dX1_bytesOf_38 : decode cX1_bytesOf 38 = .ok (.iaload, 1) := by decide +kernel
theorem dX1_bytesOf_39 : decode cX1_bytesOf 39 = .ok (.i2l, 1) := by decide +kernel
theorem dX1_bytesOf_40 : decode cX1_bytesOf 40 = .ok (.lor, 1) := by decide +kernel
theorem dX1_bytesOf_41 : decode cX1_bytesOf 41 = .ok (.lstore_n 3, 1) := by decide +kernel
theorem dX1_bytesOf_42 : decode cX1_bytesOf 42 = .ok (.iinc 5 (-1), 3) := by decide +kernel
theorem dX1_bytesOf_45 : decode cX1_bytesOf 45 = .ok (.goto (-24), 3) := by decide +kernel
theorem dX1_bytesOf_48 : decode cX1_bytesOf 48 = .ok (.lload_n 3, 1) := by decide +kernel
theorem dX1_bytesOf_49 : decode cX1_bytesOf 49 = .ok (.lreturn, 1) := by decide +kernel
theorem dX1_placeOfRow_0 : decode cX1_placeOfRow 0 = .ok (.iconst 3, 1) := by decide +kernel
theorem dX1_placeOfRow_1 : decode cX1_placeOfRow 1 = .ok (.istore_n 2, 1) := by decide +kernel
theorem dX1_placeOfRow_2 : decode cX1_placeOfRow 2 = .ok (.iconst 0, 1) := by decide +kernel
theorem dX1_placeOfRow_3 : decode cX1_placeOfRow 3 = .ok (.istore_n 3, 1) := by decide +kernel
theorem dX1_placeOfRow_4 : decode cX1_placeOfRow 4 = .ok (.iload_n 3, 1) := by decide +kernel
theorem dX1_placeOfRow_5 : decode cX1_placeOfRow 5 = .ok (.iload_n 1, 1) := by decide +kernel
theorem dX1_placeOfRow_6 : decode cX1_placeOfRow 6 = .ok (.if_icmp .ge 20, 3) := by decide +kernel
theorem dX1_placeOfRow_9 : decode cX1_placeOfRow 9 = .ok (.iload_n 2, 1) := by decide +kernel
theorem dX1_placeOfRow_10 : decode cX1_placeOfRow 10 = .ok (.iconst 1, 1) := by decide +kernel
theorem dX1_placeOfRow_11 : decode cX1_placeOfRow 11 = .ok (.aload_n 0, 1) := by decide +kernel
theorem dX1_placeOfRow_12 : decode cX1_placeOfRow 12 = .ok (.getfield 9, 3) := by decide +kernel
theorem dX1_placeOfRow_15 : decode cX1_placeOfRow 15 = .ok (.iload_n 2, 1) := by decide +kernel
theorem dX1_placeOfRow_16 : decode cX1_placeOfRow 16 = .ok (.iaload, 1) := by decide +kernel
theorem dX1_placeOfRow_17 : decode cX1_placeOfRow 17 = .ok (.iadd, 1) := by decide +kernel
theorem dX1_placeOfRow_18 : decode cX1_placeOfRow 18 = .ok (.iadd, 1) := by decide +kernel
theorem dX1_placeOfRow_19 : decode cX1_placeOfRow 19 = .ok (.istore_n 2, 1) := by decide +kernel
theorem dX1_placeOfRow_20 : decode cX1_placeOfRow 20 = .ok (.iinc 3 1, 3) := by decide +kernel
theorem dX1_placeOfRow_23 : decode cX1_placeOfRow 23 = .ok (.goto (-19), 3) := by decide +kernel
theorem dX1_placeOfRow_26 : decode cX1_placeOfRow 26 = .ok (.iload_n 2, 1) := by decide +kernel
theorem dX1_placeOfRow_27 : decode cX1_placeOfRow 27 = .ok (.ireturn, 1) := by decide +kernel
theorem dX2_init_0 : decode cX2_init 0 = .ok (.aload_n 0, 1) := by decide +kernel
theorem dX2_init_1 : decode cX2_init 1 = .ok (.invokespecial 3, 3) := by decide +kernel
theorem dX2_init_4 : decode cX2_init 4 = .ok (.aload_n 0, 1) := by decide +kernel
theorem dX2_init_5 : decode cX2_init 5 = .ok (.bipush 6, 2) := by decide +kernel
theorem dX2_init_7 : decode cX2_init 7 = .ok (.anewarray 9, 3) := by decide +kernel
theorem dX2_init_10 : decode cX2_init 10 = .ok (.putfield 11, 3) := by decide +kernel
theorem dX2_init_13 : decode cX2_init 13 = .ok (.aload_n 0, 1) := by decide +kernel
theorem dX2_init_14 : decode cX2_init 14 = .ok (.new 15, 3) := by decide +kernel
theorem dX2_init_17 : decode cX2_init 17 = .ok (.dup, 1) := by decide +kernel
theorem dX2_init_18 : decode cX2_init 18 = .ok (.invokespecial 17, 3) := by decide +kernel
theorem dX2_init_21 : decode cX2_init 21 = .ok (.putfield 18, 3) := by decide +kernel
theorem dX2_init_24 : decode cX2_init 24 = .ok (.aload_n 0, 1) := by decide +kernel
theorem dX2_init_25 : decode cX2_init 25 = .ok (.new 15, 3) := by decide +kernel
theorem dX2_init_28 : decode cX2_init 28 = .ok (.dup, 1) := by decide +kernel
theorem dX2_init_29 : decode cX2_init 29 = .ok (.invokespecial 17, 3) := by decide +kernel
theorem dX2_init_32 : decode cX2_init 32 = .ok (.putfield 22, 3) := by decide +kernel
theorem dX2_init_35 : decode cX2_init 35 = .ok (.aload_n 0, 1) := by decide +kernel
theorem dX2_init_36 : decode cX2_init 36 = .ok (.iconst 0, 1) := by decide +kernel
theorem dX2_init_37 : decode cX2_init 37 = .ok (.putfield 25, 3) := by decide +kernel
theorem dX2_init_40 : decode cX2_init 40 = .ok (.aload_n 0, 1) := by decide +kernel
theorem dX2_init_41 : decode cX2_init 41 = .ok (.iconst 0, 1) := by decide +kernel
theorem dX2_init_42 : decode cX2_init 42 = .ok (.putfield 29, 3) := by decide +kernel
theorem dX2_init_45 : decode cX2_init 45 = .ok (.aload_n 0, 1) := by decide +kernel
theorem dX2_init_46 : decode cX2_init 46 = .ok (.iconst 0, 1) := by decide +kernel
theorem dX2_init_47 : decode cX2_init 47 = .ok (.putfield 32, 3) := by decide +kernel
theorem dX2_init_50 : decode cX2_init 50 = .ok (.aload_n 0, 1) := by decide +kernel
theorem dX2_init_51 : decode cX2_init 51 = .ok (.iconst 0, 1) := by decide +kernel
theorem dX2_init_52 : decode cX2_init 52 = .ok (.putfield 35, 3) := by decide +kernel
theorem dX2_init_55 : decode cX2_init 55 = .ok (.aload_n 0, 1) := by decide +kernel
theorem dX2_init_56 : decode cX2_init 56 = .ok (.iconst 1, 1) := by decide +kernel
theorem dX2_init_57 : decode cX2_init 57 = .ok (.putfield 38, 3) := by decide +kernel
theorem dX2_init_60 : decode cX2_init 60 = .ok (.iconst 0, 1) := by decide +kernel
theorem dX2_init_61 : decode cX2_init 61 = .ok (.istore_n 1, 1) := by decide +kernel
theorem dX2_init_62 : decode cX2_init 62 = .ok (.iload_n 1, 1) := by decide +kernel
theorem dX2_init_63 : decode cX2_init 63 = .ok (.bipush 6, 2) := by decide +kernel
theorem dX2_init_65 : decode cX2_init 65 = .ok (.if_icmp .ge 22, 3) := by decide +kernel
theorem dX2_init_68 : decode cX2_init 68 = .ok (.aload_n 0, 1) := by decide +kernel
theorem dX2_init_69 : decode cX2_init 69 = .ok (.getfield 11, 3) := by decide +kernel
theorem dX2_init_72 : decode cX2_init 72 = .ok (.iload_n 1, 1) := by decide +kernel
theorem dX2_init_73 : decode cX2_init 73 = .ok (.new 9, 3) := by decide +kernel
theorem dX2_init_76 : decode cX2_init 76 = .ok (.dup, 1) := by decide +kernel
theorem dX2_init_77 : decode cX2_init 77 = .ok (.invokespecial 42, 3) := by decide +kernel
theorem dX2_init_80 : decode cX2_init 80 = .ok (.aastore, 1) := by decide +kernel
theorem dX2_init_81 : decode cX2_init 81 = .ok (.iinc 1 1, 3) := by decide +kernel
theorem dX2_init_84 : decode cX2_init 84 = .ok (.goto (-22), 3) := by decide +kernel
theorem dX2_init_87 : decode cX2_init 87 = .ok (.return_, 1) := by decide +kernel
theorem dX2_append_0 : decode cX2_append 0 = .ok (.aload_n 0, 1) := by decide +kernel
theorem dX2_append_1 : decode cX2_append 1 = .ok (.invokevirtual 43, 3) := by decide +kernel
theorem dX2_append_4 : decode cX2_append 4 = .ok (.iload_n 1, 1) := by decide +kernel
theorem dX2_append_5 : decode cX2_append 5 = .ok (.iconst 1, 1) := by decide +kernel
theorem dX2_append_6 : decode cX2_append 6 = .ok (.if_icmp .lt 9, 3) := by decide +kernel
theorem dX2_append_9 : decode cX2_append 9 = .ok (.iload_n 1, 1) := by decide +kernel
theorem dX2_append_10 : decode cX2_append 10 = .ok (.bipush 6, 2) := by decide +kernel
theorem dX2_append_12 : decode cX2_append 12 = .ok (.if_icmp .le 13, 3) := by decide +kernel
theorem dX2_append_15 : decode cX2_append 15 = .ok (.new 46, 3) := by decide +kernel
theorem dX2_append_18 : decode cX2_append 18 = .ok (.dup, 1) := by decide +kernel
theorem dX2_append_19 : decode cX2_append 19 = .ok (.ldc 48, 2) := by decide +kernel
theorem dX2_append_21 : decode cX2_append 21 = .ok (.invokespecial 50, 3) := by decide +kernel
theorem dX2_append_24 : decode cX2_append 24 = .ok (.athrow, 1) := by decide +kernel
theorem dX2_append_25 : decode cX2_append 25 = .ok (.aload_n 0, 1) := by decide +kernel
theorem dX2_append_26 : decode cX2_append 26 = .ok (.getfield 18, 3) := by decide +kernel
theorem dX2_append_29 : decode cX2_append 29 = .ok (.iload_n 1, 1) := by decide +kernel
theorem dX2_append_30 : decode cX2_append 30 = .ok (.invokevirtual 53, 3) := by decide +kernel
theorem dX2_append_33 : decode cX2_append 33 = .ok (.ifCond .ne 13, 3) := by decide +kernel
theorem dX2_append_36 : decode cX2_append 36 = .ok (.aload_n 0, 1) := by decide +kernel
theorem dX2_append_37 : decode cX2_append 37 = .ok (.invokevirtual 57, 3) := by decide +kernel
theorem dX2_append_40 : decode cX2_append 40 = .ok (.ifCond .ne 6, 3) := by decide +kernel
theorem dX2_append_43 : decode cX2_append 43 = .ok (.bipush (-2), 2) := by decide +kernel
theorem dX2_append_45 : decode cX2_append 45 = .ok (.ireturn, 1) := by decide +kernel
theorem dX2_append_46 : decode cX2_append 46 = .ok (.aload_n 0, 1) := by decide +kernel
theorem dX2_append_47 : decode cX2_append 47 = .ok (.getfield 18, 3) := by decide +kernel
theorem dX2_append_50 : decode cX2_append 50 = .ok (.aload_n 0, 1) := by decide +kernel
theorem dX2_append_51 : decode cX2_append 51 = .ok (.getfield 32, 3) := by decide +kernel
theorem dX2_append_54 : decode cX2_append 54 = .ok (.iload_n 1, 1) := by decide +kernel
theorem dX2_append_55 : decode cX2_append 55 = .ok (.lload_n 2, 1) := by decide +kernel
theorem dX2_append_56 : decode cX2_append 56 = .ok (.invokevirtual 61, 3) := by decide +kernel
theorem dX2_append_59 : decode cX2_append 59 = .ok (.aload_n 0, 1) := by decide +kernel
theorem dX2_append_60 : decode cX2_append 60 = .ok (.dup, 1) := by decide +kernel
theorem dX2_append_61 : decode cX2_append 61 = .ok (.getfield 32, 3) := by decide +kernel
theorem dX2_append_64 : decode cX2_append 64 = .ok (.iconst 1, 1) := by decide +kernel
theorem dX2_append_65 : decode cX2_append 65 = .ok (.iadd, 1) := by decide +kernel
theorem dX2_append_66 : decode cX2_append 66 = .ok (.putfield 32, 3) := by decide +kernel
theorem dX2_append_69 : decode cX2_append 69 = .ok (.aload_n 0, 1) := by decide +kernel
theorem dX2_append_70 : decode cX2_append 70 = .ok (.getfield 32, 3) := by decide +kernel
theorem dX2_append_73 : decode cX2_append 73 = .ok (.iconst 1, 1) := by decide +kernel
theorem dX2_append_74 : decode cX2_append 74 = .ok (.isub, 1) := by decide +kernel
theorem dX2_append_75 : decode cX2_append 75 = .ok (.ireturn, 1) := by decide +kernel
theorem dX2_sync_0 : decode cX2_sync 0 = .ok (.aload_n 0, 1) := by decide +kernel
theorem dX2_sync_1 : decode cX2_sync 1 = .ok (.invokevirtual 43, 3) := by decide +kernel
theorem dX2_sync_4 : decode cX2_sync 4 = .ok (.aload_n 0, 1) := by decide +kernel
theorem dX2_sync_5 : decode cX2_sync 5 = .ok (.getfield 18, 3) := by decide +kernel
theorem dX2_sync_8 : decode cX2_sync 8 = .ok (.invokevirtual 65, 3) := by decide +kernel
theorem dX2_sync_11 : decode cX2_sync 11 = .ok (.ifCond .ne 13, 3) := by decide +kernel
theorem dX2_sync_14 : decode cX2_sync 14 = .ok (.aload_n 0, 1) := by decide +kernel
theorem dX2_sync_15 : decode cX2_sync 15 = .ok (.invokevirtual 57, 3) := by decide +kernel
theorem dX2_sync_18 : decode cX2_sync 18 = .ok (.ifCond .ne 6, 3) := by decide +kernel
theorem dX2_sync_21 : decode cX2_sync 21 = .ok (.bipush (-2), 2) := by decide +kernel
theorem dX2_sync_23 : decode cX2_sync 23 = .ok (.ireturn, 1) := by decide +kernel
theorem dX2_sync_24 : decode cX2_sync 24 = .ok (.aload_n 0, 1) := by decide +kernel
theorem dX2_sync_25 : decode cX2_sync 25 = .ok (.getfield 32, 3) := by decide +kernel
theorem dX2_sync_28 : decode cX2_sync 28 = .ok (.ireturn, 1) := by decide +kernel
theorem dX2_cutAfter_0 : decode cX2_cutAfter 0 = .ok (.iload_n 1, 1) := by decide +kernel
theorem dX2_cutAfter_1 : decode cX2_cutAfter 1 = .ok (.ifCond .lt 9, 3) := by decide +kernel
theorem dX2_cutAfter_4 : decode cX2_cutAfter 4 = .ok (.iload_n 1, 1) := by decide +kernel
theorem dX2_cutAfter_5 : decode cX2_cutAfter 5 = .ok (.bipush 60, 2) := by decide +kernel
theorem dX2_cutAfter_7 : decode cX2_cutAfter 7 = .ok (.if_icmp .le 13, 3) := by decide +kernel
theorem dX2_cutAfter_10 : decode cX2_cutAfter 10 = .ok (.new 46, 3) := by decide +kernel
theorem dX2_cutAfter_13 : decode cX2_cutAfter 13 = .ok (.dup, 1) := by decide +kernel
theorem dX2_cutAfter_14 : decode cX2_cutAfter 14 = .ok (.ldc 68, 2) := by decide +kernel
theorem dX2_cutAfter_16 : decode cX2_cutAfter 16 = .ok (.invokespecial 50, 3) := by decide +kernel
theorem dX2_cutAfter_19 : decode cX2_cutAfter 19 = .ok (.athrow, 1) := by decide +kernel
theorem dX2_cutAfter_20 : decode cX2_cutAfter 20 = .ok (.aload_n 0, 1) := by decide +kernel
theorem dX2_cutAfter_21 : decode cX2_cutAfter 21 = .ok (.iload_n 1, 1) := by decide +kernel
theorem dX2_cutAfter_22 : decode cX2_cutAfter 22 = .ok (.putfield 35, 3) := by decide +kernel
theorem dX2_cutAfter_25 : decode cX2_cutAfter 25 = .ok (.return_, 1) := by decide +kernel
theorem dX2_off_0 : decode cX2_off 0 = .ok (.aload_n 0, 1) := by decide +kernel
theorem dX2_off_1 : decode cX2_off 1 = .ok (.invokevirtual 43, 3) := by decide +kernel
theorem dX2_off_4 : decode cX2_off 4 = .ok (.aload_n 0, 1) := by decide +kernel
theorem dX2_off_5 : decode cX2_off 5 = .ok (.iconst 0, 1) := by decide +kernel
theorem dX2_off_6 : decode cX2_off 6 = .ok (.putfield 38, 3) := by decide +kernel
theorem dX2_off_9 : decode cX2_off 9 = .ok (.aload_n 0, 1) := by decide +kernel
theorem dX2_off_10 : decode cX2_off 10 = .ok (.getfield 18, 3) := by decide +kernel
theorem dX2_off_13 : decode cX2_off 13 = .ok (.invokevirtual 70, 3) := by decide +kernel
theorem dX2_off_16 : decode cX2_off 16 = .ok (.ireturn, 1) := by decide +kernel
theorem dX2_start_0 : decode cX2_start 0 = .ok (.aload_n 0, 1) := by decide +kernel
theorem dX2_start_1 : decode cX2_start 1 = .ok (.getfield 38, 3) := by decide +kernel
theorem dX2_start_4 : decode cX2_start 4 = .ok (.ifCond .eq 13, 3) := by decide +kernel
theorem dX2_start_7 : decode cX2_start 7 = .ok (.new 74, 3) := by decide +kernel
theorem dX2_start_10 : decode cX2_start 10 = .ok (.dup, 1) := by decide +kernel
theorem dX2_start_11 : decode cX2_start 11 = .ok (.ldc 76, 2) := by decide +kernel
theorem dX2_start_13 : decode cX2_start 13 = .ok (.invokespecial 78, 3) := by decide +kernel
theorem dX2_start_16 : decode cX2_start 16 = .ok (.athrow, 1) := by decide +kernel
theorem dX2_start_17 : decode cX2_start 17 = .ok (.aload_n 0, 1) := by decide +kernel
theorem dX2_start_18 : decode cX2_start 18 = .ok (.getfield 18, 3) := by decide +kernel
theorem dX2_start_21 : decode cX2_start 21 = .ok (.invokevirtual 79, 3) := by decide +kernel
theorem dX2_start_24 : decode cX2_start 24 = .ok (.aload_n 0, 1) := by decide +kernel
theorem dX2_start_25 : decode cX2_start 25 = .ok (.invokevirtual 82, 3) := by decide +kernel
theorem dX2_start_28 : decode cX2_start 28 = .ok (.aload_n 0, 1) := by decide +kernel
theorem dX2_start_29 : decode cX2_start 29 = .ok (.invokevirtual 85, 3) := by decide +kernel
theorem dX2_start_32 : decode cX2_start 32 = .ok (.aload_n 0, 1) := by decide +kernel
theorem dX2_start_33 : decode cX2_start 33 = .ok (.iconst 1, 1) := by decide +kernel
theorem dX2_start_34 : decode cX2_start 34 = .ok (.putfield 38, 3) := by decide +kernel
theorem dX2_start_37 : decode cX2_start 37 = .ok (.aload_n 0, 1) := by decide +kernel
theorem dX2_start_38 : decode cX2_start 38 = .ok (.getfield 32, 3) := by decide +kernel
theorem dX2_start_41 : decode cX2_start 41 = .ok (.ireturn, 1) := by decide +kernel
theorem dX2_trim_0 : decode cX2_trim 0 = .ok (.aload_n 0, 1) := by decide +kernel
theorem dX2_trim_1 : decode cX2_trim 1 = .ok (.invokevirtual 43, 3) := by decide +kernel
theorem dX2_trim_4 : decode cX2_trim 4 = .ok (.iload_n 1, 1) := by decide +kernel
theorem dX2_trim_5 : decode cX2_trim 5 = .ok (.aload_n 0, 1) := by decide +kernel
theorem dX2_trim_6 : decode cX2_trim 6 = .ok (.getfield 29, 3) := by decide +kernel
theorem dX2_trim_9 : decode cX2_trim 9 = .ok (.if_icmp .lt 11, 3) := by decide +kernel
theorem dX2_trim_12 : decode cX2_trim 12 = .ok (.iload_n 1, 1) := by decide +kernel
theorem dX2_trim_13 : decode cX2_trim 13 = .ok (.aload_n 0, 1) := by decide +kernel
theorem dX2_trim_14 : decode cX2_trim 14 = .ok (.getfield 32, 3) := by decide +kernel
theorem dX2_trim_17 : decode cX2_trim 17 = .ok (.if_icmp .le 13, 3) := by decide +kernel
theorem dX2_trim_20 : decode cX2_trim 20 = .ok (.new 46, 3) := by decide +kernel
theorem dX2_trim_23 : decode cX2_trim 23 = .ok (.dup, 1) := by decide +kernel
theorem dX2_trim_24 : decode cX2_trim 24 = .ok (.ldc 88, 2) := by decide +kernel
theorem dX2_trim_26 : decode cX2_trim 26 = .ok (.invokespecial 50, 3) := by decide +kernel
theorem dX2_trim_29 : decode cX2_trim 29 = .ok (.athrow, 1) := by decide +kernel
theorem dX2_trim_30 : decode cX2_trim 30 = .ok (.aload_n 0, 1) := by decide +kernel
theorem dX2_trim_31 : decode cX2_trim 31 = .ok (.iload_n 1, 1) := by decide +kernel
theorem dX2_trim_32 : decode cX2_trim 32 = .ok (.putfield 29, 3) := by decide +kernel
theorem dX2_trim_35 : decode cX2_trim 35 = .ok (.iconst 0, 1) := by decide +kernel
theorem dX2_trim_36 : decode cX2_trim 36 = .ok (.istore_n 2, 1) := by decide +kernel
theorem dX2_trim_37 : decode cX2_trim 37 = .ok (.iconst 0, 1) := by decide +kernel
theorem dX2_trim_38 : decode cX2_trim 38 = .ok (.istore_n 3, 1) := by decide +kernel
theorem dX2_trim_39 : decode cX2_trim 39 = .ok (.iload_n 3, 1) := by decide +kernel
theorem dX2_trim_40 : decode cX2_trim 40 = .ok (.bipush 6, 2) := by decide +kernel
theorem dX2_trim_42 : decode cX2_trim 42 = .ok (.if_icmp .ge 55, 3) := by decide +kernel
theorem dX2_trim_45 : decode cX2_trim 45 = .ok (.iload_n 3, 1) := by decide +kernel
theorem dX2_trim_46 : decode cX2_trim 46 = .ok (.aload_n 0, 1) := by decide +kernel
theorem dX2_trim_47 : decode cX2_trim 47 = .ok (.getfield 25, 3) := by decide +kernel
theorem dX2_trim_50 : decode cX2_trim 50 = .ok (.if_icmp .eq 41, 3) := by decide +kernel
theorem dX2_trim_53 : decode cX2_trim 53 = .ok (.aload_n 0, 1) := by decide +kernel
theorem dX2_trim_54 : decode cX2_trim 54 = .ok (.getfield 11, 3) := by decide +kernel
theorem dX2_trim_57 : decode cX2_trim 57 = .ok (.iload_n 3, 1) := by decide +kernel
theorem dX2_trim_58 : decode cX2_trim 58 = .ok (.aaload, 1) := by decide +kernel
theorem dX2_trim_59 : decode cX2_trim 59 = .ok (.invokevirtual 90, 3) := by decide +kernel
theorem dX2_trim_62 : decode cX2_trim 62 = .ok (.ifCond .ne 29, 3) := by decide +kernel
theorem dX2_trim_65 : decode cX2_trim 65 = .ok (.aload_n 0, 1) := by decide +kernel
theorem dX2_trim_66 : decode cX2_trim 66 = .ok (.aload_n 0, 1) := by decide +kernel
theorem dX2_trim_67 : decode cX2_trim 67 = .ok (.getfield 11, 3) := by decide +kernel
theorem dX2_trim_70 : decode cX2_trim 70 = .ok (.iload_n 3, 1) := by decide +kernel
theorem dX2_trim_71 : decode cX2_trim 71 = .ok (.aaload, 1) := by decide +kernel
theorem dX2_trim_72 : decode cX2_trim 72 = .ok (.invokevirtual 93, 3) := by decide +kernel
theorem dX2_trim_75 : decode cX2_trim 75 = .ok (.iload_n 1, 1) := by decide +kernel
theorem dX2_trim_76 : decode cX2_trim 76 = .ok (.if_icmp .ge 15, 3) := by decide +kernel
theorem dX2_trim_79 : decode cX2_trim 79 = .ok (.aload_n 0, 1) := by decide +kernel
theorem dX2_trim_80 : decode cX2_trim 80 = .ok (.getfield 11, 3) := by decide +kernel
theorem dX2_trim_83 : decode cX2_trim 83 = .ok (.iload_n 3, 1) := by decide +kernel
theorem dX2_trim_84 : decode cX2_trim 84 = .ok (.aaload, 1) := by decide +kernel
theorem dX2_trim_85 : decode cX2_trim 85 = .ok (.invokevirtual 97, 3) := by decide +kernel
theorem dX2_trim_88 : decode cX2_trim 88 = .ok (.iinc 2 1, 3) := by decide +kernel
theorem dX2_trim_91 : decode cX2_trim 91 = .ok (.iinc 3 1, 3) := by decide +kernel
theorem dX2_trim_94 : decode cX2_trim 94 = .ok (.goto (-55), 3) := by decide +kernel
theorem dX2_trim_97 : decode cX2_trim 97 = .ok (.iload_n 2, 1) := by decide +kernel
theorem dX2_trim_98 : decode cX2_trim 98 = .ok (.ireturn, 1) := by decide +kernel
theorem dX2_first_0 : decode cX2_first 0 = .ok (.aload_n 0, 1) := by decide +kernel
theorem dX2_first_1 : decode cX2_first 1 = .ok (.invokevirtual 43, 3) := by decide +kernel
theorem dX2_first_4 : decode cX2_first 4 = .ok (.aload_n 0, 1) := by decide +kernel
theorem dX2_first_5 : decode cX2_first 5 = .ok (.getfield 29, 3) := by decide +kernel
theorem dX2_first_8 : decode cX2_first 8 = .ok (.ireturn, 1) := by decide +kernel
theorem dX2_count_0 : decode cX2_count 0 = .ok (.aload_n 0, 1) := by decide +kernel
theorem dX2_count_1 : decode cX2_count 1 = .ok (.invokevirtual 43, 3) := by decide +kernel
theorem dX2_count_4 : decode cX2_count 4 = .ok (.aload_n 0, 1) := by decide +kernel
theorem dX2_count_5 : decode cX2_count 5 = .ok (.getfield 32, 3) := by decide +kernel
theorem dX2_count_8 : decode cX2_count 8 = .ok (.ireturn, 1) := by decide +kernel
theorem dX2_length_0 : decode cX2_length 0 = .ok (.aload_n 0, 1) := by decide +kernel
theorem dX2_length_1 : decode cX2_length 1 = .ok (.invokevirtual 43, 3) := by decide +kernel
theorem dX2_length_4 : decode cX2_length 4 = .ok (.aload_n 0, 1) := by decide +kernel
theorem dX2_length_5 : decode cX2_length 5 = .ok (.iload_n 1, 1) := by decide +kernel
theorem dX2_length_6 : decode cX2_length 6 = .ok (.invokevirtual 100, 3) := by decide +kernel
theorem dX2_length_9 : decode cX2_length 9 = .ok (.aload_n 0, 1) := by decide +kernel
theorem dX2_length_10 : decode cX2_length 10 = .ok (.iload_n 1, 1) := by decide +kernel
theorem dX2_length_11 : decode cX2_length 11 = .ok (.invokevirtual 104, 3) := by decide +kernel
theorem dX2_length_14 : decode cX2_length 14 = .ok (.astore_n 2, 1) := by decide +kernel
theorem dX2_length_15 : decode cX2_length 15 = .ok (.aload_n 2, 1) := by decide +kernel
theorem dX2_length_16 : decode cX2_length 16 = .ok (.ifnonnull 7, 3) := by decide +kernel
theorem dX2_length_19 : decode cX2_length 19 = .ok (.iconst (-1), 1) := by decide +kernel
theorem dX2_length_20 : decode cX2_length 20 = .ok (.goto 8, 3) := by decide +kernel
theorem dX2_length_23 : decode cX2_length 23 = .ok (.aload_n 2, 1) := by decide +kernel
theorem dX2_length_24 : decode cX2_length 24 = .ok (.iload_n 1, 1) := by decide +kernel
theorem dX2_length_25 : decode cX2_length 25 = .ok (.invokevirtual 108, 3) := by decide +kernel
theorem dX2_length_28 : decode cX2_length 28 = .ok (.ireturn, 1) := by decide +kernel
theorem dX2_event_0 : decode cX2_event 0 = .ok (.aload_n 0, 1) := by decide +kernel
theorem dX2_event_1 : decode cX2_event 1 = .ok (.invokevirtual 43, 3) := by decide +kernel
theorem dX2_event_4 : decode cX2_event 4 = .ok (.aload_n 0, 1) := by decide +kernel
theorem dX2_event_5 : decode cX2_event 5 = .ok (.iload_n 1, 1) := by decide +kernel
theorem dX2_event_6 : decode cX2_event 6 = .ok (.invokevirtual 100, 3) := by decide +kernel
theorem dX2_event_9 : decode cX2_event 9 = .ok (.aload_n 0, 1) := by decide +kernel
theorem dX2_event_10 : decode cX2_event 10 = .ok (.iload_n 1, 1) := by decide +kernel
theorem dX2_event_11 : decode cX2_event 11 = .ok (.invokevirtual 104, 3) := by decide +kernel
theorem dX2_event_14 : decode cX2_event 14 = .ok (.astore_n 2, 1) := by decide +kernel
theorem dX2_event_15 : decode cX2_event 15 = .ok (.aload_n 2, 1) := by decide +kernel
theorem dX2_event_16 : decode cX2_event 16 = .ok (.ifnonnull 13, 3) := by decide +kernel
theorem dX2_event_19 : decode cX2_event 19 = .ok (.new 112, 3) := by decide +kernel
theorem dX2_event_22 : decode cX2_event 22 = .ok (.dup, 1) := by decide +kernel
theorem dX2_event_23 : decode cX2_event 23 = .ok (.ldc 114, 2) := by decide +kernel
theorem dX2_event_25 : decode cX2_event 25 = .ok (.invokespecial 116, 3) := by decide +kernel
theorem dX2_event_28 : decode cX2_event 28 = .ok (.athrow, 1) := by decide +kernel
theorem dX2_event_29 : decode cX2_event 29 = .ok (.aload_n 2, 1) := by decide +kernel
theorem dX2_event_30 : decode cX2_event 30 = .ok (.iload_n 1, 1) := by decide +kernel
theorem dX2_event_31 : decode cX2_event 31 = .ok (.invokevirtual 117, 3) := by decide +kernel
theorem dX2_event_34 : decode cX2_event 34 = .ok (.lreturn, 1) := by decide +kernel
theorem dX2_ruin_0 : decode cX2_ruin 0 = .ok (.iload_n 1, 1) := by decide +kernel
theorem dX2_ruin_1 : decode cX2_ruin 1 = .ok (.iload_n 2, 1) := by decide +kernel
theorem dX2_ruin_2 : decode cX2_ruin 2 = .ok (.invokestatic 121, 3) := by decide +kernel
theorem dX2_ruin_5 : decode cX2_ruin 5 = .ok (.aload_n 0, 1) := by decide +kernel
theorem dX2_ruin_6 : decode cX2_ruin 6 = .ok (.getfield 11, 3) := by decide +kernel
theorem dX2_ruin_9 : decode cX2_ruin 9 = .ok (.iload_n 1, 1) := by decide +kernel
theorem dX2_ruin_10 : decode cX2_ruin 10 = .ok (.aaload, 1) := by decide +kernel
theorem dX2_ruin_11 : decode cX2_ruin 11 = .ok (.iload_n 2, 1) := by decide +kernel
theorem dX2_ruin_12 : decode cX2_ruin 12 = .ok (.iload_n 3, 1) := by decide +kernel
theorem dX2_ruin_13 : decode cX2_ruin 13 = .ok (.invokestatic 125, 3) := by decide +kernel
theorem dX2_ruin_16 : decode cX2_ruin 16 = .ok (.invokevirtual 129, 3) := by decide +kernel
theorem dX2_ruin_19 : decode cX2_ruin 19 = .ok (.ireturn, 1) := by decide +kernel
theorem dX2_page_0 : decode cX2_page 0 = .ok (.iload_n 1, 1) := by decide +kernel
theorem dX2_page_1 : decode cX2_page 1 = .ok (.iload_n 2, 1) := by decide +kernel
theorem dX2_page_2 : decode cX2_page 2 = .ok (.invokestatic 121, 3) := by decide +kernel
theorem dX2_page_5 : decode cX2_page 5 = .ok (.aload_n 0, 1) := by decide +kernel
theorem dX2_page_6 : decode cX2_page 6 = .ok (.getfield 11, 3) := by decide +kernel
theorem dX2_page_9 : decode cX2_page 9 = .ok (.iload_n 1, 1) := by decide +kernel
theorem dX2_page_10 : decode cX2_page 10 = .ok (.aaload, 1) := by decide +kernel
theorem dX2_page_11 : decode cX2_page 11 = .ok (.iload_n 2, 1) := by decide +kernel
theorem dX2_page_12 : decode cX2_page 12 = .ok (.iload_n 3, 1) := by decide +kernel
theorem dX2_page_13 : decode cX2_page 13 = .ok (.invokestatic 125, 3) := by decide +kernel
theorem dX2_page_16 : decode cX2_page 16 = .ok (.invokevirtual 132, 3) := by decide +kernel
theorem dX2_page_19 : decode cX2_page 19 = .ok (.ireturn, 1) := by decide +kernel
theorem dX2_at_0 : decode cX2_at 0 = .ok (.iload_n 1, 1) := by decide +kernel
theorem dX2_at_1 : decode cX2_at 1 = .ok (.iload_n 2, 1) := by decide +kernel
theorem dX2_at_2 : decode cX2_at 2 = .ok (.invokestatic 121, 3) := by decide +kernel
theorem dX2_at_5 : decode cX2_at 5 = .ok (.iload 4, 2) := by decide +kernel
theorem dX2_at_7 : decode cX2_at 7 = .ok (.ifCond .lt 10, 3) := by decide +kernel
theorem dX2_at_10 : decode cX2_at 10 = .ok (.iload 4, 2) := by decide +kernel
theorem dX2_at_12 : decode cX2_at 12 = .ok (.bipush 16, 2) := by decide +kernel
theorem dX2_at_14 : decode cX2_at 14 = .ok (.if_icmp .lt 13, 3) := by decide +kernel
theorem dX2_at_17 : decode cX2_at 17 = .ok (.new 135, 3) := by decide +kernel
theorem dX2_at_20 : decode cX2_at 20 = .ok (.dup, 1) := by decide +kernel
theorem dX2_at_21 : decode cX2_at 21 = .ok (.ldc 137, 2) := by decide +kernel
theorem dX2_at_23 : decode cX2_at 23 = .ok (.invokespecial 139, 3) := by decide +kernel
theorem dX2_at_26 : decode cX2_at 26 = .ok (.athrow, 1) := by decide +kernel
theorem dX2_at_27 : decode cX2_at 27 = .ok (.iload_n 2, 1) := by decide +kernel
theorem dX2_at_28 : decode cX2_at 28 = .ok (.iload_n 3, 1) := by decide +kernel
theorem dX2_at_29 : decode cX2_at 29 = .ok (.invokestatic 125, 3) := by decide +kernel
theorem dX2_at_32 : decode cX2_at 32 = .ok (.istore 5, 2) := by decide +kernel
theorem dX2_at_34 : decode cX2_at 34 = .ok (.aload_n 0, 1) := by decide +kernel
theorem dX2_at_35 : decode cX2_at 35 = .ok (.getfield 11, 3) := by decide +kernel
theorem dX2_at_38 : decode cX2_at 38 = .ok (.iload_n 1, 1) := by decide +kernel
theorem dX2_at_39 : decode cX2_at 39 = .ok (.aaload, 1) := by decide +kernel
theorem dX2_at_40 : decode cX2_at 40 = .ok (.iload 5, 2) := by decide +kernel
theorem dX2_at_42 : decode cX2_at 42 = .ok (.invokevirtual 140, 3) := by decide +kernel
theorem dX2_at_45 : decode cX2_at 45 = .ok (.ifCond .ne 13, 3) := by decide +kernel
theorem dX2_at_48 : decode cX2_at 48 = .ok (.new 112, 3) := by decide +kernel
theorem dX2_at_51 : decode cX2_at 51 = .ok (.dup, 1) := by decide +kernel
theorem dX2_at_52 : decode cX2_at 52 = .ok (.ldc 143, 2) := by decide +kernel
theorem dX2_at_54 : decode cX2_at 54 = .ok (.invokespecial 116, 3) := by decide +kernel
theorem dX2_at_57 : decode cX2_at 57 = .ok (.athrow, 1) := by decide +kernel
theorem dX2_at_58 : decode cX2_at 58 = .ok (.aload_n 0, 1) := by decide +kernel
theorem dX2_at_59 : decode cX2_at 59 = .ok (.getfield 11, 3) := by decide +kernel
theorem dX2_at_62 : decode cX2_at 62 = .ok (.iload_n 1, 1) := by decide +kernel
theorem dX2_at_63 : decode cX2_at 63 = .ok (.aaload, 1) := by decide +kernel
theorem dX2_at_64 : decode cX2_at 64 = .ok (.iload 5, 2) := by decide +kernel
theorem dX2_at_66 : decode cX2_at 66 = .ok (.iload 4, 2) := by decide +kernel
theorem dX2_at_68 : decode cX2_at 68 = .ok (.invokevirtual 145, 3) := by decide +kernel
theorem dX2_at_71 : decode cX2_at 71 = .ok (.ireturn, 1) := by decide +kernel
theorem dX2_guard_0 : decode cX2_guard 0 = .ok (.iload_n 1, 1) := by decide +kernel
theorem dX2_guard_1 : decode cX2_guard 1 = .ok (.invokestatic 149, 3) := by decide +kernel
theorem dX2_guard_4 : decode cX2_guard 4 = .ok (.aload_n 0, 1) := by decide +kernel
theorem dX2_guard_5 : decode cX2_guard 5 = .ok (.getfield 11, 3) := by decide +kernel
theorem dX2_guard_8 : decode cX2_guard 8 = .ok (.iload_n 1, 1) := by decide +kernel
theorem dX2_guard_9 : decode cX2_guard 9 = .ok (.aaload, 1) := by decide +kernel
theorem dX2_guard_10 : decode cX2_guard 10 = .ok (.getfield 152, 3) := by decide +kernel
theorem dX2_guard_13 : decode cX2_guard 13 = .ok (.ireturn, 1) := by decide +kernel
theorem dX2_guarded_0 : decode cX2_guarded 0 = .ok (.iload_n 1, 1) := by decide +kernel
theorem dX2_guarded_1 : decode cX2_guarded 1 = .ok (.invokestatic 149, 3) := by decide +kernel
theorem dX2_guarded_4 : decode cX2_guarded 4 = .ok (.iload_n 2, 1) := by decide +kernel
theorem dX2_guarded_5 : decode cX2_guarded 5 = .ok (.ifCond .lt 9, 3) := by decide +kernel
theorem dX2_guarded_8 : decode cX2_guarded 8 = .ok (.iload_n 2, 1) := by decide +kernel
theorem dX2_guarded_9 : decode cX2_guarded 9 = .ok (.bipush 17, 2) := by decide +kernel
theorem dX2_guarded_11 : decode cX2_guarded 11 = .ok (.if_icmp .lt 13, 3) := by decide +kernel
theorem dX2_guarded_14 : decode cX2_guarded 14 = .ok (.new 135, 3) := by decide +kernel
theorem dX2_guarded_17 : decode cX2_guarded 17 = .ok (.dup, 1) := by decide +kernel
theorem dX2_guarded_18 : decode cX2_guarded 18 = .ok (.ldc 137, 2) := by decide +kernel
theorem dX2_guarded_20 : decode cX2_guarded 20 = .ok (.invokespecial 139, 3) := by decide +kernel
theorem dX2_guarded_23 : decode cX2_guarded 23 = .ok (.athrow, 1) := by decide +kernel
theorem dX2_guarded_24 : decode cX2_guarded 24 = .ok (.aload_n 0, 1) := by decide +kernel
theorem dX2_guarded_25 : decode cX2_guarded 25 = .ok (.getfield 11, 3) := by decide +kernel
theorem dX2_guarded_28 : decode cX2_guarded 28 = .ok (.iload_n 1, 1) := by decide +kernel
theorem dX2_guarded_29 : decode cX2_guarded 29 = .ok (.aaload, 1) := by decide +kernel
theorem dX2_guarded_30 : decode cX2_guarded 30 = .ok (.getfield 152, 3) := by decide +kernel
theorem dX2_guarded_33 : decode cX2_guarded 33 = .ok (.iconst 1, 1) := by decide +kernel
theorem dX2_guarded_34 : decode cX2_guarded 34 = .ok (.if_icmp .eq 13, 3) := by decide +kernel
theorem dX2_guarded_37 : decode cX2_guarded 37 = .ok (.new 112, 3) := by decide +kernel
theorem dX2_guarded_40 : decode cX2_guarded 40 = .ok (.dup, 1) := by decide +kernel
theorem dX2_guarded_41 : decode cX2_guarded 41 = .ok (.ldc 155, 2) := by decide +kernel
theorem dX2_guarded_43 : decode cX2_guarded 43 = .ok (.invokespecial 116, 3) := by decide +kernel
theorem dX2_guarded_46 : decode cX2_guarded 46 = .ok (.athrow, 1) := by decide +kernel
theorem dX2_guarded_47 : decode cX2_guarded 47 = .ok (.aload_n 0, 1) := by decide +kernel
theorem dX2_guarded_48 : decode cX2_guarded 48 = .ok (.getfield 11, 3) := by decide +kernel
theorem dX2_guarded_51 : decode cX2_guarded 51 = .ok (.iload_n 1, 1) := by decide +kernel
theorem dX2_guarded_52 : decode cX2_guarded 52 = .ok (.aaload, 1) := by decide +kernel
theorem dX2_guarded_53 : decode cX2_guarded 53 = .ok (.getfield 157, 3) := by decide +kernel
theorem dX2_guarded_56 : decode cX2_guarded 56 = .ok (.iload_n 2, 1) := by decide +kernel
theorem dX2_guarded_57 : decode cX2_guarded 57 = .ok (.iaload, 1) := by decide +kernel
theorem dX2_guarded_58 : decode cX2_guarded 58 = .ok (.ireturn, 1) := by decide +kernel
theorem dX2_told_0 : decode cX2_told 0 = .ok (.iload_n 1, 1) := by decide +kernel
theorem dX2_told_1 : decode cX2_told 1 = .ok (.bipush 10, 2) := by decide +kernel
theorem dX2_told_3 : decode cX2_told 3 = .ok (.if_icmp .lt 22, 3) := by decide +kernel
theorem dX2_told_6 : decode cX2_told 6 = .ok (.iload_n 1, 1) := by decide +kernel
theorem dX2_told_7 : decode cX2_told 7 = .ok (.bipush 16, 2) := by decide +kernel
theorem dX2_told_9 : decode cX2_told 9 = .ok (.if_icmp .ge 16, 3) := by decide +kernel
theorem dX2_told_12 : decode cX2_told 12 = .ok (.aload_n 0, 1) := by decide +kernel
theorem dX2_told_13 : decode cX2_told 13 = .ok (.getfield 11, 3) := by decide +kernel
theorem dX2_told_16 : decode cX2_told 16 = .ok (.iload_n 1, 1) := by decide +kernel
theorem dX2_told_17 : decode cX2_told 17 = .ok (.bipush 10, 2) := by decide +kernel
theorem dX2_told_19 : decode cX2_told 19 = .ok (.isub, 1) := by decide +kernel
theorem dX2_told_20 : decode cX2_told 20 = .ok (.aaload, 1) := by decide +kernel
theorem dX2_told_21 : decode cX2_told 21 = .ok (.getfield 161, 3) := by decide +kernel
theorem dX2_told_24 : decode cX2_told 24 = .ok (.ireturn, 1) := by decide +kernel
theorem dX2_told_25 : decode cX2_told 25 = .ok (.iload_n 1, 1) := by decide +kernel
theorem dX2_told_26 : decode cX2_told 26 = .ok (.tableswitch 58 0 3 #[30, 35, 48, 53], 30) := by decide +kernel
theorem dX2_told_56 : decode cX2_told 56 = .ok (.aload_n 0, 1) := by decide +kernel
theorem dX2_told_57 : decode cX2_told 57 = .ok (.getfield 25, 3) := by decide +kernel
theorem dX2_told_60 : decode cX2_told 60 = .ok (.ireturn, 1) := by decide +kernel
theorem dX2_told_61 : decode cX2_told 61 = .ok (.aload_n 0, 1) := by decide +kernel
theorem dX2_told_62 : decode cX2_told 62 = .ok (.getfield 38, 3) := by decide +kernel
theorem dX2_told_65 : decode cX2_told 65 = .ok (.ifCond .eq 7, 3) := by decide +kernel
theorem dX2_told_68 : decode cX2_told 68 = .ok (.iconst 1, 1) := by decide +kernel
theorem dX2_told_69 : decode cX2_told 69 = .ok (.goto 4, 3) := by decide +kernel
theorem dX2_told_72 : decode cX2_told 72 = .ok (.iconst 0, 1) := by decide +kernel
theorem dX2_told_73 : decode cX2_told 73 = .ok (.ireturn, 1) := by decide +kernel
theorem dX2_told_74 : decode cX2_told 74 = .ok (.aload_n 0, 1) := by decide +kernel
theorem dX2_told_75 : decode cX2_told 75 = .ok (.invokevirtual 164, 3) := by decide +kernel
theorem dX2_told_78 : decode cX2_told 78 = .ok (.ireturn, 1) := by decide +kernel
theorem dX2_told_79 : decode cX2_told 79 = .ok (.aload_n 0, 1) := by decide +kernel
theorem dX2_told_80 : decode cX2_told 80 = .ok (.getfield 35, 3) := by decide +kernel
theorem dX2_told_83 : decode cX2_told 83 = .ok (.ireturn, 1) := by decide +kernel
theorem dX2_told_84 : decode cX2_told 84 = .ok (.iconst (-1), 1) := by decide +kernel
theorem dX2_told_85 : decode cX2_told 85 = .ok (.ireturn, 1) := by decide +kernel
theorem dX2_requirePower_0 : decode cX2_requirePower 0 = .ok (.aload_n 0, 1) := by decide +kernel
theorem dX2_requirePower_1 : decode cX2_requirePower 1 = .ok (.getfield 38, 3) := by decide +kernel
theorem dX2_requirePower_4 : decode cX2_requirePower 4 = .ok (.ifCond .ne 13, 3) := by decide +kernel
theorem dX2_requirePower_7 : decode cX2_requirePower 7 = .ok (.new 74, 3) := by decide +kernel
theorem dX2_requirePower_10 : decode cX2_requirePower 10 = .ok (.dup, 1) := by decide +kernel
theorem dX2_requirePower_11 : decode cX2_requirePower 11 = .ok (.ldc 167, 2) := by decide +kernel
theorem dX2_requirePower_13 : decode cX2_requirePower 13 = .ok (.invokespecial 78, 3) := by decide +kernel
theorem dX2_requirePower_16 : decode cX2_requirePower 16 = .ok (.athrow, 1) := by decide +kernel
theorem dX2_requirePower_17 : decode cX2_requirePower 17 = .ok (.return_, 1) := by decide +kernel
theorem dX2_requireEvent_0 : decode cX2_requireEvent 0 = .ok (.iload_n 1, 1) := by decide +kernel
theorem dX2_requireEvent_1 : decode cX2_requireEvent 1 = .ok (.aload_n 0, 1) := by decide +kernel
theorem dX2_requireEvent_2 : decode cX2_requireEvent 2 = .ok (.getfield 29, 3) := by decide +kernel
theorem dX2_requireEvent_5 : decode cX2_requireEvent 5 = .ok (.if_icmp .lt 11, 3) := by decide +kernel
theorem dX2_requireEvent_8 : decode cX2_requireEvent 8 = .ok (.iload_n 1, 1) := by decide +kernel
theorem dX2_requireEvent_9 : decode cX2_requireEvent 9 = .ok (.aload_n 0, 1) := by decide +kernel
theorem dX2_requireEvent_10 : decode cX2_requireEvent 10 = .ok (.getfield 32, 3) := by decide +kernel
theorem dX2_requireEvent_13 : decode cX2_requireEvent 13 = .ok (.if_icmp .lt 13, 3) := by decide +kernel
theorem dX2_requireEvent_16 : decode cX2_requireEvent 16 = .ok (.new 135, 3) := by decide +kernel
theorem dX2_requireEvent_19 : decode cX2_requireEvent 19 = .ok (.dup, 1) := by decide +kernel
theorem dX2_requireEvent_20 : decode cX2_requireEvent 20 = .ok (.ldc 169, 2) := by decide +kernel
theorem dX2_requireEvent_22 : decode cX2_requireEvent 22 = .ok (.invokespecial 139, 3) := by decide +kernel
theorem dX2_requireEvent_25 : decode cX2_requireEvent 25 = .ok (.athrow, 1) := by decide +kernel
theorem dX2_requireEvent_26 : decode cX2_requireEvent 26 = .ok (.return_, 1) := by decide +kernel
theorem dX2_requireBlock_0 : decode cX2_requireBlock 0 = .ok (.iload_n 0, 1) := by decide +kernel
theorem dX2_requireBlock_1 : decode cX2_requireBlock 1 = .ok (.ifCond .lt 9, 3) := by decide +kernel
theorem dX2_requireBlock_4 : decode cX2_requireBlock 4 = .ok (.iload_n 0, 1) := by decide +kernel
theorem dX2_requireBlock_5 : decode cX2_requireBlock 5 = .ok (.bipush 6, 2) := by decide +kernel
theorem dX2_requireBlock_7 : decode cX2_requireBlock 7 = .ok (.if_icmp .lt 13, 3) := by decide +kernel
theorem dX2_requireBlock_10 : decode cX2_requireBlock 10 = .ok (.new 135, 3) := by decide +kernel
theorem dX2_requireBlock_13 : decode cX2_requireBlock 13 = .ok (.dup, 1) := by decide +kernel
theorem dX2_requireBlock_14 : decode cX2_requireBlock 14 = .ok (.ldc 171, 2) := by decide +kernel
theorem dX2_requireBlock_16 : decode cX2_requireBlock 16 = .ok (.invokespecial 139, 3) := by decide +kernel
theorem dX2_requireBlock_19 : decode cX2_requireBlock 19 = .ok (.athrow, 1) := by decide +kernel
theorem dX2_requireBlock_20 : decode cX2_requireBlock 20 = .ok (.return_, 1) := by decide +kernel
theorem dX2_requireLine_0 : decode cX2_requireLine 0 = .ok (.iload_n 0, 1) := by decide +kernel
theorem dX2_requireLine_1 : decode cX2_requireLine 1 = .ok (.invokestatic 149, 3) := by decide +kernel
theorem dX2_requireLine_4 : decode cX2_requireLine 4 = .ok (.iload_n 1, 1) := by decide +kernel
theorem dX2_requireLine_5 : decode cX2_requireLine 5 = .ok (.ifCond .lt 9, 3) := by decide +kernel
theorem dX2_requireLine_8 : decode cX2_requireLine 8 = .ok (.iload_n 1, 1) := by decide +kernel
theorem dX2_requireLine_9 : decode cX2_requireLine 9 = .ok (.bipush 8, 2) := by decide +kernel
theorem dX2_requireLine_11 : decode cX2_requireLine 11 = .ok (.if_icmp .lt 13, 3) := by decide +kernel
theorem dX2_requireLine_14 : decode cX2_requireLine 14 = .ok (.new 135, 3) := by decide +kernel
theorem dX2_requireLine_17 : decode cX2_requireLine 17 = .ok (.dup, 1) := by decide +kernel
theorem dX2_requireLine_18 : decode cX2_requireLine 18 = .ok (.ldc 173, 2) := by decide +kernel
theorem dX2_requireLine_20 : decode cX2_requireLine 20 = .ok (.invokespecial 139, 3) := by decide +kernel
theorem dX2_requireLine_23 : decode cX2_requireLine 23 = .ok (.athrow, 1) := by decide +kernel
theorem dX2_requireLine_24 : decode cX2_requireLine 24 = .ok (.return_, 1) := by decide +kernel
theorem dX2_placeOf_0 : decode cX2_placeOf 0 = .ok (.iload_n 1, 1) := by decide +kernel
theorem dX2_placeOf_1 : decode cX2_placeOf 1 = .ok (.ifCond .eq 10, 3) := by decide +kernel
theorem dX2_placeOf_4 : decode cX2_placeOf 4 = .ok (.bipush 8, 2) := by decide +kernel
theorem dX2_placeOf_6 : decode cX2_placeOf 6 = .ok (.iload_n 0, 1) := by decide +kernel
theorem dX2_placeOf_7 : decode cX2_placeOf 7 = .ok (.iadd, 1) := by decide +kernel
theorem dX2_placeOf_8 : decode cX2_placeOf 8 = .ok (.goto 4, 3) := by decide +kernel
theorem dX2_placeOf_11 : decode cX2_placeOf 11 = .ok (.iload_n 0, 1) := by decide +kernel
theorem dX2_placeOf_12 : decode cX2_placeOf 12 = .ok (.ireturn, 1) := by decide +kernel
theorem dX2_flush_0 : decode cX2_flush 0 = .ok (.aload_n 0, 1) := by decide +kernel
theorem dX2_flush_1 : decode cX2_flush 1 = .ok (.aload_n 0, 1) := by decide +kernel
theorem dX2_flush_2 : decode cX2_flush 2 = .ok (.invokevirtual 175, 3) := by decide +kernel
theorem dX2_flush_5 : decode cX2_flush 5 = .ok (.putfield 25, 3) := by decide +kernel
theorem dX2_flush_8 : decode cX2_flush 8 = .ok (.aload_n 0, 1) := by decide +kernel
theorem dX2_flush_9 : decode cX2_flush 9 = .ok (.getfield 11, 3) := by decide +kernel
theorem dX2_flush_12 : decode cX2_flush 12 = .ok (.aload_n 0, 1) := by decide +kernel
theorem dX2_flush_13 : decode cX2_flush 13 = .ok (.getfield 25, 3) := by decide +kernel
theorem dX2_flush_16 : decode cX2_flush 16 = .ok (.aaload, 1) := by decide +kernel
theorem dX2_flush_17 : decode cX2_flush 17 = .ok (.astore_n 1, 1) := by decide +kernel
theorem dX2_flush_18 : decode cX2_flush 18 = .ok (.aload_n 1, 1) := by decide +kernel
theorem dX2_flush_19 : decode cX2_flush 19 = .ok (.invokevirtual 178, 3) := by decide +kernel
theorem dX2_flush_22 : decode cX2_flush 22 = .ok (.istore_n 2, 1) := by decide +kernel
theorem dX2_flush_23 : decode cX2_flush 23 = .ok (.iload_n 2, 1) := by decide +kernel
theorem dX2_flush_24 : decode cX2_flush 24 = .ok (.bipush 8, 2) := by decide +kernel
theorem dX2_flush_26 : decode cX2_flush 26 = .ok (.if_icmp .ne 13, 3) := by decide +kernel
theorem dX2_flush_29 : decode cX2_flush 29 = .ok (.aload_n 0, 1) := by decide +kernel
theorem dX2_flush_30 : decode cX2_flush 30 = .ok (.aload_n 1, 1) := by decide +kernel
theorem dX2_flush_31 : decode cX2_flush 31 = .ok (.invokevirtual 181, 3) := by decide +kernel
theorem dX2_flush_34 : decode cX2_flush 34 = .ok (.ifCond .ne 5, 3) := by decide +kernel
theorem dX2_flush_37 : decode cX2_flush 37 = .ok (.iconst 0, 1) := by decide +kernel
theorem dX2_flush_38 : decode cX2_flush 38 = .ok (.ireturn, 1) := by decide +kernel
theorem dX2_flush_39 : decode cX2_flush 39 = .ok (.aload_n 0, 1) := by decide +kernel
theorem dX2_flush_40 : decode cX2_flush 40 = .ok (.invokevirtual 185, 3) := by decide +kernel
theorem dX2_flush_43 : decode cX2_flush 43 = .ok (.ifCond .eq 10, 3) := by decide +kernel
theorem dX2_flush_46 : decode cX2_flush 46 = .ok (.aload_n 1, 1) := by decide +kernel
theorem dX2_flush_47 : decode cX2_flush 47 = .ok (.iload_n 2, 1) := by decide +kernel
theorem dX2_flush_48 : decode cX2_flush 48 = .ok (.invokevirtual 188, 3) := by decide +kernel
theorem dX2_flush_51 : decode cX2_flush 51 = .ok (.iconst 0, 1) := by decide +kernel
theorem dX2_flush_52 : decode cX2_flush 52 = .ok (.ireturn, 1) := by decide +kernel
theorem dX2_flush_53 : decode cX2_flush 53 = .ok (.aload_n 1, 1) := by decide +kernel
theorem dX2_flush_54 : decode cX2_flush 54 = .ok (.iload_n 2, 1) := by decide +kernel
theorem dX2_flush_55 : decode cX2_flush 55 = .ok (.aload_n 0, 1) := by decide +kernel
theorem dX2_flush_56 : decode cX2_flush 56 = .ok (.getfield 18, 3) := by decide +kernel
theorem dX2_flush_59 : decode cX2_flush 59 = .ok (.invokevirtual 191, 3) := by decide +kernel
theorem dX2_flush_62 : decode cX2_flush 62 = .ok (.aload_n 0, 1) := by decide +kernel
theorem dX2_flush_63 : decode cX2_flush 63 = .ok (.getfield 18, 3) := by decide +kernel
theorem dX2_flush_66 : decode cX2_flush 66 = .ok (.invokevirtual 79, 3) := by decide +kernel
theorem dX2_flush_69 : decode cX2_flush 69 = .ok (.iconst 1, 1) := by decide +kernel
theorem dX2_flush_70 : decode cX2_flush 70 = .ok (.ireturn, 1) := by decide +kernel
theorem dX2_blockToProgram_0 : decode cX2_blockToProgram 0 = .ok (.aload_n 0, 1) := by decide +kernel
theorem dX2_blockToProgram_1 : decode cX2_blockToProgram 1 = .ok (.getfield 11, 3) := by decide +kernel
theorem dX2_blockToProgram_4 : decode cX2_blockToProgram 4 = .ok (.aload_n 0, 1) := by decide +kernel
theorem dX2_blockToProgram_5 : decode cX2_blockToProgram 5 = .ok (.getfield 25, 3) := by decide +kernel
theorem dX2_blockToProgram_8 : decode cX2_blockToProgram 8 = .ok (.aaload, 1) := by decide +kernel
theorem dX2_blockToProgram_9 : decode cX2_blockToProgram 9 = .ok (.invokevirtual 195, 3) := by decide +kernel
theorem dX2_blockToProgram_12 : decode cX2_blockToProgram 12 = .ok (.ifCond .eq 8, 3) := by decide +kernel
theorem dX2_blockToProgram_15 : decode cX2_blockToProgram 15 = .ok (.aload_n 0, 1) := by decide +kernel
theorem dX2_blockToProgram_16 : decode cX2_blockToProgram 16 = .ok (.getfield 25, 3) := by decide +kernel
theorem dX2_blockToProgram_19 : decode cX2_blockToProgram 19 = .ok (.ireturn, 1) := by decide +kernel
theorem dX2_blockToProgram_20 : decode cX2_blockToProgram 20 = .ok (.aload_n 0, 1) := by decide +kernel
theorem dX2_blockToProgram_21 : decode cX2_blockToProgram 21 = .ok (.getfield 25, 3) := by decide +kernel
theorem dX2_blockToProgram_24 : decode cX2_blockToProgram 24 = .ok (.iconst 1, 1) := by decide +kernel
theorem dX2_blockToProgram_25 : decode cX2_blockToProgram 25 = .ok (.iadd, 1) := by decide +kernel
theorem dX2_blockToProgram_26 : decode cX2_blockToProgram 26 = .ok (.bipush 6, 2) := by decide +kernel
theorem dX2_blockToProgram_28 : decode cX2_blockToProgram 28 = .ok (.irem, 1) := by decide +kernel
theorem dX2_blockToProgram_29 : decode cX2_blockToProgram 29 = .ok (.istore_n 1, 1) := by decide +kernel
theorem dX2_blockToProgram_30 : decode cX2_blockToProgram 30 = .ok (.aload_n 0, 1) := by decide +kernel
theorem dX2_blockToProgram_31 : decode cX2_blockToProgram 31 = .ok (.getfield 11, 3) := by decide +kernel
theorem dX2_blockToProgram_34 : decode cX2_blockToProgram 34 = .ok (.iload_n 1, 1) := by decide +kernel
theorem dX2_blockToProgram_35 : decode cX2_blockToProgram 35 = .ok (.aaload, 1) := by decide +kernel
theorem dX2_blockToProgram_36 : decode cX2_blockToProgram 36 = .ok (.invokevirtual 90, 3) := by decide +kernel
theorem dX2_blockToProgram_39 : decode cX2_blockToProgram 39 = .ok (.ifCond .ne 13, 3) := by decide +kernel
theorem dX2_blockToProgram_42 : decode cX2_blockToProgram 42 = .ok (.new 198, 3) := by decide +kernel
theorem dX2_blockToProgram_45 : decode cX2_blockToProgram 45 = .ok (.dup, 1) := by decide +kernel
theorem dX2_blockToProgram_46 : decode cX2_blockToProgram 46 = .ok (.ldc 200, 2) := by decide +kernel
theorem dX2_blockToProgram_48 : decode cX2_blockToProgram 48 = .ok (.invokespecial 202, 3) := by decide +kernel
theorem dX2_blockToProgram_51 : decode cX2_blockToProgram 51 = .ok (.athrow, 1) := by decide +kernel
theorem dX2_blockToProgram_52 : decode cX2_blockToProgram 52 = .ok (.iload_n 1, 1) := by decide +kernel
theorem dX2_blockToProgram_53 : decode cX2_blockToProgram 53 = .ok (.ireturn, 1) := by decide +kernel
theorem dX2_programGuard_0 : decode cX2_programGuard 0 = .ok (.aload_n 0, 1) := by decide +kernel
theorem dX2_programGuard_1 : decode cX2_programGuard 1 = .ok (.invokevirtual 185, 3) := by decide +kernel
theorem dX2_programGuard_4 : decode cX2_programGuard 4 = .ok (.ifCond .eq 10, 3) := by decide +kernel
theorem dX2_programGuard_7 : decode cX2_programGuard 7 = .ok (.aload_n 1, 1) := by decide +kernel
theorem dX2_programGuard_8 : decode cX2_programGuard 8 = .ok (.iconst 2, 1) := by decide +kernel
theorem dX2_programGuard_9 : decode cX2_programGuard 9 = .ok (.putfield 152, 3) := by decide +kernel
theorem dX2_programGuard_12 : decode cX2_programGuard 12 = .ok (.iconst 0, 1) := by decide +kernel
theorem dX2_programGuard_13 : decode cX2_programGuard 13 = .ok (.ireturn, 1) := by decide +kernel
theorem dX2_programGuard_14 : decode cX2_programGuard 14 = .ok (.aload_n 1, 1) := by decide +kernel
theorem dX2_programGuard_15 : decode cX2_programGuard 15 = .ok (.invokevirtual 203, 3) := by decide +kernel
theorem dX2_programGuard_18 : decode cX2_programGuard 18 = .ok (.iconst 1, 1) := by decide +kernel
theorem dX2_programGuard_19 : decode cX2_programGuard 19 = .ok (.ireturn, 1) := by decide +kernel
theorem dX2_cutIsDue_0 : decode cX2_cutIsDue 0 = .ok (.aload_n 0, 1) := by decide +kernel
theorem dX2_cutIsDue_1 : decode cX2_cutIsDue 1 = .ok (.getfield 35, 3) := by decide +kernel
theorem dX2_cutIsDue_4 : decode cX2_cutIsDue 4 = .ok (.ifCond .ne 5, 3) := by decide +kernel
theorem dX2_cutIsDue_7 : decode cX2_cutIsDue 7 = .ok (.iconst 0, 1) := by decide +kernel
theorem dX2_cutIsDue_8 : decode cX2_cutIsDue 8 = .ok (.ireturn, 1) := by decide +kernel
theorem dX2_cutIsDue_9 : decode cX2_cutIsDue 9 = .ok (.aload_n 0, 1) := by decide +kernel
theorem dX2_cutIsDue_10 : decode cX2_cutIsDue 10 = .ok (.dup, 1) := by decide +kernel
theorem dX2_cutIsDue_11 : decode cX2_cutIsDue 11 = .ok (.getfield 35, 3) := by decide +kernel
theorem dX2_cutIsDue_14 : decode cX2_cutIsDue 14 = .ok (.iconst 1, 1) := by decide +kernel
theorem dX2_cutIsDue_15 : decode cX2_cutIsDue 15 = .ok (.isub, 1) := by decide +kernel
theorem dX2_cutIsDue_16 : decode cX2_cutIsDue 16 = .ok (.putfield 35, 3) := by decide +kernel
theorem dX2_cutIsDue_19 : decode cX2_cutIsDue 19 = .ok (.aload_n 0, 1) := by decide +kernel
theorem dX2_cutIsDue_20 : decode cX2_cutIsDue 20 = .ok (.getfield 35, 3) := by decide +kernel
theorem dX2_cutIsDue_23 : decode cX2_cutIsDue 23 = .ok (.ifCond .le 5, 3) := by decide +kernel
theorem dX2_cutIsDue_26 : decode cX2_cutIsDue 26 = .ok (.iconst 0, 1) := by decide +kernel
theorem dX2_cutIsDue_27 : decode cX2_cutIsDue 27 = .ok (.ireturn, 1) := by decide +kernel
theorem dX2_cutIsDue_28 : decode cX2_cutIsDue 28 = .ok (.aload_n 0, 1) := by decide +kernel
theorem dX2_cutIsDue_29 : decode cX2_cutIsDue 29 = .ok (.iconst 0, 1) := by decide +kernel
theorem dX2_cutIsDue_30 : decode cX2_cutIsDue 30 = .ok (.putfield 38, 3) := by decide +kernel
theorem dX2_cutIsDue_33 : decode cX2_cutIsDue 33 = .ok (.iconst 1, 1) := by decide +kernel
theorem dX2_cutIsDue_34 : decode cX2_cutIsDue 34 = .ok (.ireturn, 1) := by decide +kernel
theorem dX2_eraseUnreadableBlocks_0 : decode cX2_eraseUnreadableBlocks 0 = .ok (.iconst 0, 1) := by decide +kernel
theorem dX2_eraseUnreadableBlocks_1 : decode cX2_eraseUnreadableBlocks 1 = .ok (.istore_n 1, 1) := by decide +kernel
theorem dX2_eraseUnreadableBlocks_2 : decode cX2_eraseUnreadableBlocks 2 = .ok (.iload_n 1, 1) := by decide +kernel
theorem dX2_eraseUnreadableBlocks_3 : decode cX2_eraseUnreadableBlocks 3 = .ok (.bipush 6, 2) := by decide +kernel
theorem dX2_eraseUnreadableBlocks_5 : decode cX2_eraseUnreadableBlocks 5 = .ok (.if_icmp .ge 44, 3) := by decide +kernel
theorem dX2_eraseUnreadableBlocks_8 : decode cX2_eraseUnreadableBlocks 8 = .ok (.aload_n 0, 1) := by decide +kernel
theorem dX2_eraseUnreadableBlocks_9 : decode cX2_eraseUnreadableBlocks 9 = .ok (.getfield 11, 3) := by decide +kernel
theorem dX2_eraseUnreadableBlocks_12 : decode cX2_eraseUnreadableBlocks 12 = .ok (.iload_n 1, 1) := by decide +kernel
theorem dX2_eraseUnreadableBlocks_13 : decode cX2_eraseUnreadableBlocks 13 = .ok (.aaload, 1) := by decide +kernel
theorem dX2_eraseUnreadableBlocks_14 : decode cX2_eraseUnreadableBlocks 14 = .ok (.invokevirtual 90, 3) := by decide +kernel
theorem dX2_eraseUnreadableBlocks_17 : decode cX2_eraseUnreadableBlocks 17 = .ok (.ifCond .ne 26, 3) := by decide +kernel
theorem dX2_eraseUnreadableBlocks_20 : decode cX2_eraseUnreadableBlocks 20 = .ok (.aload_n 0, 1) := by decide +kernel
theorem dX2_eraseUnreadableBlocks_21 : decode cX2_eraseUnreadableBlocks 21 = .ok (.aload_n 0, 1) := by decide +kernel
theorem dX2_eraseUnreadableBlocks_22 : decode cX2_eraseUnreadableBlocks 22 = .ok (.getfield 11, 3) := by decide +kernel
theorem dX2_eraseUnreadableBlocks_25 : decode cX2_eraseUnreadableBlocks 25 = .ok (.iload_n 1, 1) := by decide +kernel
theorem dX2_eraseUnreadableBlocks_26 : decode cX2_eraseUnreadableBlocks 26 = .ok (.aaload, 1) := by decide +kernel
theorem dX2_eraseUnreadableBlocks_27 : decode cX2_eraseUnreadableBlocks 27 = .ok (.invokevirtual 93, 3) := by decide +kernel
theorem dX2_eraseUnreadableBlocks_30 : decode cX2_eraseUnreadableBlocks 30 = .ok (.iconst (-1), 1) := by decide +kernel
theorem dX2_eraseUnreadableBlocks_31 : decode cX2_eraseUnreadableBlocks 31 = .ok (.if_icmp .ne 12, 3) := by decide +kernel
theorem dX2_eraseUnreadableBlocks_34 : decode cX2_eraseUnreadableBlocks 34 = .ok (.aload_n 0, 1) := by decide +kernel
theorem dX2_eraseUnreadableBlocks_35 : decode cX2_eraseUnreadableBlocks 35 = .ok (.getfield 11, 3) := by decide +kernel
theorem dX2_eraseUnreadableBlocks_38 : decode cX2_eraseUnreadableBlocks 38 = .ok (.iload_n 1, 1) := by decide +kernel
theorem dX2_eraseUnreadableBlocks_39 : decode cX2_eraseUnreadableBlocks 39 = .ok (.aaload, 1) := by decide +kernel
theorem dX2_eraseUnreadableBlocks_40 : decode cX2_eraseUnreadableBlocks 40 = .ok (.invokevirtual 97, 3) := by decide +kernel
theorem dX2_eraseUnreadableBlocks_43 : decode cX2_eraseUnreadableBlocks 43 = .ok (.iinc 1 1, 3) := by decide +kernel
theorem dX2_eraseUnreadableBlocks_46 : decode cX2_eraseUnreadableBlocks 46 = .ok (.goto (-44), 3) := by decide +kernel
theorem dX2_eraseUnreadableBlocks_49 : decode cX2_eraseUnreadableBlocks 49 = .ok (.return_, 1) := by decide +kernel
theorem dX2_findEvents_0 : decode cX2_findEvents 0 = .ok (.iconst (-1), 1) := by decide +kernel
theorem dX2_findEvents_1 : decode cX2_findEvents 1 = .ok (.istore_n 1, 1) := by decide +kernel
theorem dX2_findEvents_2 : decode cX2_findEvents 2 = .ok (.iconst (-1), 1) := by decide +kernel
theorem dX2_findEvents_3 : decode cX2_findEvents 3 = .ok (.istore_n 2, 1) := by decide +kernel
theorem dX2_findEvents_4 : decode cX2_findEvents 4 = .ok (.aload_n 0, 1) := by decide +kernel
theorem dX2_findEvents_5 : decode cX2_findEvents 5 = .ok (.iconst 0, 1) := by decide +kernel
theorem dX2_findEvents_6 : decode cX2_findEvents 6 = .ok (.putfield 25, 3) := by decide +kernel
theorem dX2_findEvents_9 : decode cX2_findEvents 9 = .ok (.iconst 0, 1) := by decide +kernel
theorem dX2_findEvents_10 : decode cX2_findEvents 10 = .ok (.istore_n 3, 1) := by decide +kernel
theorem dX2_findEvents_11 : decode cX2_findEvents 11 = .ok (.iload_n 3, 1) := by decide +kernel
theorem dX2_findEvents_12 : decode cX2_findEvents 12 = .ok (.bipush 6, 2) := by decide +kernel
theorem dX2_findEvents_14 : decode cX2_findEvents 14 = .ok (.if_icmp .ge 67, 3) := by decide +kernel
theorem dX2_findEvents_17 : decode cX2_findEvents 17 = .ok (.aload_n 0, 1) := by decide +kernel
theorem dX2_findEvents_18 : decode cX2_findEvents 18 = .ok (.aload_n 0, 1) := by decide +kernel
theorem dX2_findEvents_19 : decode cX2_findEvents 19 = .ok (.getfield 11, 3) := by decide +kernel
theorem dX2_findEvents_22 : decode cX2_findEvents 22 = .ok (.iload_n 3, 1) := by decide +kernel
theorem dX2_findEvents_23 : decode cX2_findEvents 23 = .ok (.aaload, 1) := by decide +kernel
theorem dX2_findEvents_24 : decode cX2_findEvents 24 = .ok (.invokevirtual 206, 3) := by decide +kernel
theorem dX2_findEvents_27 : decode cX2_findEvents 27 = .ok (.istore 4, 2) := by decide +kernel
theorem dX2_findEvents_29 : decode cX2_findEvents 29 = .ok (.aload_n 0, 1) := by decide +kernel
theorem dX2_findEvents_30 : decode cX2_findEvents 30 = .ok (.aload_n 0, 1) := by decide +kernel
theorem dX2_findEvents_31 : decode cX2_findEvents 31 = .ok (.getfield 11, 3) := by decide +kernel
theorem dX2_findEvents_34 : decode cX2_findEvents 34 = .ok (.iload_n 3, 1) := by decide +kernel
theorem dX2_findEvents_35 : decode cX2_findEvents 35 = .ok (.aaload, 1) := by decide +kernel
theorem dX2_findEvents_36 : decode cX2_findEvents 36 = .ok (.invokevirtual 93, 3) := by decide +kernel
theorem dX2_findEvents_39 : decode cX2_findEvents 39 = .ok (.istore 5, 2) := by decide +kernel
theorem dX2_findEvents_41 : decode cX2_findEvents 41 = .ok (.iload 4, 2) := by decide +kernel
theorem dX2_findEvents_43 : decode cX2_findEvents 43 = .ok (.iconst (-1), 1) := by decide +kernel
theorem dX2_findEvents_44 : decode cX2_findEvents 44 = .ok (.if_icmp .eq 17, 3) := by decide +kernel
theorem dX2_findEvents_47 : decode cX2_findEvents 47 = .ok (.iload_n 1, 1) := by decide +kernel
theorem dX2_findEvents_48 : decode cX2_findEvents 48 = .ok (.iconst (-1), 1) := by decide +kernel
theorem dX2_findEvents_49 : decode cX2_findEvents 49 = .ok (.if_icmp .eq 9, 3) := by decide +kernel
theorem dX2_findEvents_52 : decode cX2_findEvents 52 = .ok (.iload 4, 2) := by decide +kernel
theorem dX2_findEvents_54 : decode cX2_findEvents 54 = .ok (.iload_n 1, 1) := by decide +kernel
theorem dX2_findEvents_55 : decode cX2_findEvents 55 = .ok (.if_icmp .ge 6, 3) := by decide +kernel
theorem dX2_findEvents_58 : decode cX2_findEvents 58 = .ok (.iload 4, 2) := by decide +kernel
theorem dX2_findEvents_60 : decode cX2_findEvents 60 = .ok (.istore_n 1, 1) := by decide +kernel
theorem dX2_findEvents_61 : decode cX2_findEvents 61 = .ok (.iload 5, 2) := by decide +kernel
theorem dX2_findEvents_63 : decode cX2_findEvents 63 = .ok (.iload_n 2, 1) := by decide +kernel
theorem dX2_findEvents_64 : decode cX2_findEvents 64 = .ok (.if_icmp .le 11, 3) := by decide +kernel
theorem dX2_findEvents_67 : decode cX2_findEvents 67 = .ok (.iload 5, 2) := by decide +kernel
theorem dX2_findEvents_69 : decode cX2_findEvents 69 = .ok (.istore_n 2, 1) := by decide +kernel
theorem dX2_findEvents_70 : decode cX2_findEvents 70 = .ok (.aload_n 0, 1) := by decide +kernel
theorem dX2_findEvents_71 : decode cX2_findEvents 71 = .ok (.iload_n 3, 1) := by decide +kernel
theorem dX2_findEvents_72 : decode cX2_findEvents 72 = .ok (.putfield 25, 3) := by decide +kernel
theorem dX2_findEvents_75 : decode cX2_findEvents 75 = .ok (.iinc 3 1, 3) := by decide +kernel
theorem dX2_findEvents_78 : decode cX2_findEvents 78 = .ok (.goto (-67), 3) := by decide +kernel
theorem dX2_findEvents_81 : decode cX2_findEvents 81 = .ok (.aload_n 0, 1) := by decide +kernel
theorem dX2_findEvents_82 : decode cX2_findEvents 82 = .ok (.iload_n 1, 1) := by decide +kernel
theorem dX2_findEvents_83 : decode cX2_findEvents 83 = .ok (.iconst (-1), 1) := by decide +kernel
theorem dX2_findEvents_84 : decode cX2_findEvents 84 = .ok (.if_icmp .ne 7, 3) := by decide +kernel
theorem dX2_findEvents_87 : decode cX2_findEvents 87 = .ok (.iconst 0, 1) := by decide +kernel
theorem dX2_findEvents_88 : decode cX2_findEvents 88 = .ok (.goto 4, 3) := by decide +kernel
theorem dX2_findEvents_91 : decode cX2_findEvents 91 = .ok (.iload_n 1, 1) := by decide +kernel
theorem dX2_findEvents_92 : decode cX2_findEvents 92 = .ok (.putfield 29, 3) := by decide +kernel
theorem dX2_findEvents_95 : decode cX2_findEvents 95 = .ok (.aload_n 0, 1) := by decide +kernel
theorem dX2_findEvents_96 : decode cX2_findEvents 96 = .ok (.iload_n 2, 1) := by decide +kernel
theorem dX2_findEvents_97 : decode cX2_findEvents 97 = .ok (.iconst 1, 1) := by decide +kernel
theorem dX2_findEvents_98 : decode cX2_findEvents 98 = .ok (.iadd, 1) := by decide +kernel
theorem dX2_findEvents_99 : decode cX2_findEvents 99 = .ok (.putfield 32, 3) := by decide +kernel
theorem dX2_findEvents_102 : decode cX2_findEvents 102 = .ok (.return_, 1) := by decide +kernel
theorem dX2_leastEvent_0 : decode cX2_leastEvent 0 = .ok (.iconst (-1), 1) := by decide +kernel
theorem dX2_leastEvent_1 : decode cX2_leastEvent 1 = .ok (.istore_n 2, 1) := by decide +kernel
theorem dX2_leastEvent_2 : decode cX2_leastEvent 2 = .ok (.iconst 0, 1) := by decide +kernel
theorem dX2_leastEvent_3 : decode cX2_leastEvent 3 = .ok (.istore_n 3, 1) := by decide +kernel
theorem dX2_leastEvent_4 : decode cX2_leastEvent 4 = .ok (.iload_n 3, 1) := by decide +kernel
theorem dX2_leastEvent_5 : decode cX2_leastEvent 5 = .ok (.bipush 16, 2) := by decide +kernel
theorem dX2_leastEvent_7 : decode cX2_leastEvent 7 = .ok (.if_icmp .ge 45, 3) := by decide +kernel
theorem dX2_leastEvent_10 : decode cX2_leastEvent 10 = .ok (.aload_n 1, 1) := by decide +kernel
theorem dX2_leastEvent_11 : decode cX2_leastEvent 11 = .ok (.iload_n 3, 1) := by decide +kernel
theorem dX2_leastEvent_12 : decode cX2_leastEvent 12 = .ok (.aload_n 0, 1) := by decide +kernel
theorem dX2_leastEvent_13 : decode cX2_leastEvent 13 = .ok (.getfield 22, 3) := by decide +kernel
theorem dX2_leastEvent_16 : decode cX2_leastEvent 16 = .ok (.invokevirtual 209, 3) := by decide +kernel
theorem dX2_leastEvent_19 : decode cX2_leastEvent 19 = .ok (.ifCond .eq 27, 3) := by decide +kernel
theorem dX2_leastEvent_22 : decode cX2_leastEvent 22 = .ok (.iload_n 2, 1) := by decide +kernel
theorem dX2_leastEvent_23 : decode cX2_leastEvent 23 = .ok (.iconst (-1), 1) := by decide +kernel
theorem dX2_leastEvent_24 : decode cX2_leastEvent 24 = .ok (.if_icmp .eq 14, 3) := by decide +kernel
theorem dX2_leastEvent_27 : decode cX2_leastEvent 27 = .ok (.aload_n 0, 1) := by decide +kernel
theorem dX2_leastEvent_28 : decode cX2_leastEvent 28 = .ok (.getfield 22, 3) := by decide +kernel
theorem dX2_leastEvent_31 : decode cX2_leastEvent 31 = .ok (.invokevirtual 213, 3) := by decide +kernel
theorem dX2_leastEvent_34 : decode cX2_leastEvent 34 = .ok (.iload_n 2, 1) := by decide +kernel
theorem dX2_leastEvent_35 : decode cX2_leastEvent 35 = .ok (.if_icmp .ge 11, 3) := by decide +kernel
theorem dX2_leastEvent_38 : decode cX2_leastEvent 38 = .ok (.aload_n 0, 1) := by decide +kernel
theorem dX2_leastEvent_39 : decode cX2_leastEvent 39 = .ok (.getfield 22, 3) := by decide +kernel
theorem dX2_leastEvent_42 : decode cX2_leastEvent 42 = .ok (.invokevirtual 213, 3) := by decide +kernel
theorem dX2_leastEvent_45 : decode cX2_leastEvent 45 = .ok (.istore_n 2, 1) := by decide +kernel
theorem dX2_leastEvent_46 : decode cX2_leastEvent 46 = .ok (.iinc 3 1, 3) := by decide +kernel
theorem dX2_leastEvent_49 : decode cX2_leastEvent 49 = .ok (.goto (-45), 3) := by decide +kernel
theorem dX2_leastEvent_52 : decode cX2_leastEvent 52 = .ok (.iload_n 2, 1) := by decide +kernel
theorem dX2_leastEvent_53 : decode cX2_leastEvent 53 = .ok (.ireturn, 1) := by decide +kernel
theorem dX2_greatestEvent_0 : decode cX2_greatestEvent 0 = .ok (.iconst (-1), 1) := by decide +kernel
theorem dX2_greatestEvent_1 : decode cX2_greatestEvent 1 = .ok (.istore_n 2, 1) := by decide +kernel
theorem dX2_greatestEvent_2 : decode cX2_greatestEvent 2 = .ok (.iconst 0, 1) := by decide +kernel
theorem dX2_greatestEvent_3 : decode cX2_greatestEvent 3 = .ok (.istore_n 3, 1) := by decide +kernel
theorem dX2_greatestEvent_4 : decode cX2_greatestEvent 4 = .ok (.iload_n 3, 1) := by decide +kernel
theorem dX2_greatestEvent_5 : decode cX2_greatestEvent 5 = .ok (.bipush 16, 2) := by decide +kernel
theorem dX2_greatestEvent_7 : decode cX2_greatestEvent 7 = .ok (.if_icmp .ge 33, 3) := by decide +kernel
theorem dX2_greatestEvent_10 : decode cX2_greatestEvent 10 = .ok (.aload_n 1, 1) := by decide +kernel
theorem dX2_greatestEvent_11 : decode cX2_greatestEvent 11 = .ok (.iload_n 3, 1) := by decide +kernel
theorem dX2_greatestEvent_12 : decode cX2_greatestEvent 12 = .ok (.aload_n 0, 1) := by decide +kernel
theorem dX2_greatestEvent_13 : decode cX2_greatestEvent 13 = .ok (.getfield 22, 3) := by decide +kernel
theorem dX2_greatestEvent_16 : decode cX2_greatestEvent 16 = .ok (.invokevirtual 209, 3) := by decide +kernel
theorem dX2_greatestEvent_19 : decode cX2_greatestEvent 19 = .ok (.ifCond .eq 15, 3) := by decide +kernel
theorem dX2_greatestEvent_22 : decode cX2_greatestEvent 22 = .ok (.iload_n 2, 1) := by decide +kernel
theorem dX2_greatestEvent_23 : decode cX2_greatestEvent 23 = .ok (.aload_n 0, 1) := by decide +kernel
theorem dX2_greatestEvent_24 : decode cX2_greatestEvent 24 = .ok (.getfield 22, 3) := by decide +kernel
theorem dX2_greatestEvent_27 : decode cX2_greatestEvent 27 = .ok (.invokevirtual 216, 3) := by decide +kernel
theorem dX2_greatestEvent_30 : decode cX2_greatestEvent 30 = .ok (.invokestatic 219, 3) := by decide +kernel
theorem dX2_greatestEvent_33 : decode cX2_greatestEvent 33 = .ok (.istore_n 2, 1) := by decide +kernel
theorem dX2_greatestEvent_34 : decode cX2_greatestEvent 34 = .ok (.iinc 3 1, 3) := by decide +kernel
theorem dX2_greatestEvent_37 : decode cX2_greatestEvent 37 = .ok (.goto (-33), 3) := by decide +kernel
theorem dX2_greatestEvent_40 : decode cX2_greatestEvent 40 = .ok (.iload_n 2, 1) := by decide +kernel
theorem dX2_greatestEvent_41 : decode cX2_greatestEvent 41 = .ok (.ireturn, 1) := by decide +kernel
theorem dX2_pageWith_0 : decode cX2_pageWith 0 = .ok (.aload_n 0, 1) := by decide +kernel
theorem dX2_pageWith_1 : decode cX2_pageWith 1 = .ok (.getfield 18, 3) := by decide +kernel
theorem dX2_pageWith_4 : decode cX2_pageWith 4 = .ok (.iload_n 1, 1) := by decide +kernel
theorem dX2_pageWith_5 : decode cX2_pageWith 5 = .ok (.invokevirtual 224, 3) := by decide +kernel
theorem dX2_pageWith_8 : decode cX2_pageWith 8 = .ok (.ifCond .eq 8, 3) := by decide +kernel
theorem dX2_pageWith_11 : decode cX2_pageWith 11 = .ok (.aload_n 0, 1) := by decide +kernel
theorem dX2_pageWith_12 : decode cX2_pageWith 12 = .ok (.getfield 18, 3) := by decide +kernel
theorem dX2_pageWith_15 : decode cX2_pageWith 15 = .ok (.areturn, 1) := by decide +kernel
theorem dX2_pageWith_16 : decode cX2_pageWith 16 = .ok (.iconst 0, 1) := by decide +kernel
theorem dX2_pageWith_17 : decode cX2_pageWith 17 = .ok (.istore_n 2, 1) := by decide +kernel
theorem dX2_pageWith_18 : decode cX2_pageWith 18 = .ok (.iload_n 2, 1) := by decide +kernel
theorem dX2_pageWith_19 : decode cX2_pageWith 19 = .ok (.bipush 6, 2) := by decide +kernel
theorem dX2_pageWith_21 : decode cX2_pageWith 21 = .ok (.if_icmp .ge 56, 3) := by decide +kernel
theorem dX2_pageWith_24 : decode cX2_pageWith 24 = .ok (.iconst 0, 1) := by decide +kernel
theorem dX2_pageWith_25 : decode cX2_pageWith 25 = .ok (.istore_n 3, 1) := by decide +kernel
theorem dX2_pageWith_26 : decode cX2_pageWith 26 = .ok (.iload_n 3, 1) := by decide +kernel
theorem dX2_pageWith_27 : decode cX2_pageWith 27 = .ok (.bipush 16, 2) := by decide +kernel
theorem dX2_pageWith_29 : decode cX2_pageWith 29 = .ok (.if_icmp .ge 42, 3) := by decide +kernel
theorem dX2_pageWith_32 : decode cX2_pageWith 32 = .ok (.aload_n 0, 1) := by decide +kernel
theorem dX2_pageWith_33 : decode cX2_pageWith 33 = .ok (.getfield 11, 3) := by decide +kernel
theorem dX2_pageWith_36 : decode cX2_pageWith 36 = .ok (.iload_n 2, 1) := by decide +kernel
theorem dX2_pageWith_37 : decode cX2_pageWith 37 = .ok (.aaload, 1) := by decide +kernel
theorem dX2_pageWith_38 : decode cX2_pageWith 38 = .ok (.iload_n 3, 1) := by decide +kernel
theorem dX2_pageWith_39 : decode cX2_pageWith 39 = .ok (.aload_n 0, 1) := by decide +kernel
theorem dX2_pageWith_40 : decode cX2_pageWith 40 = .ok (.getfield 22, 3) := by decide +kernel
theorem dX2_pageWith_43 : decode cX2_pageWith 43 = .ok (.invokevirtual 209, 3) := by decide +kernel
theorem dX2_pageWith_46 : decode cX2_pageWith 46 = .ok (.ifCond .eq 19, 3) := by decide +kernel
theorem dX2_pageWith_49 : decode cX2_pageWith 49 = .ok (.aload_n 0, 1) := by decide +kernel
theorem dX2_pageWith_50 : decode cX2_pageWith 50 = .ok (.getfield 22, 3) := by decide +kernel
theorem dX2_pageWith_53 : decode cX2_pageWith 53 = .ok (.iload_n 1, 1) := by decide +kernel
theorem dX2_pageWith_54 : decode cX2_pageWith 54 = .ok (.invokevirtual 224, 3) := by decide +kernel
theorem dX2_pageWith_57 : decode cX2_pageWith 57 = .ok (.ifCond .eq 8, 3) := by decide +kernel
theorem dX2_pageWith_60 : decode cX2_pageWith 60 = .ok (.aload_n 0, 1) := by decide +kernel
theorem dX2_pageWith_61 : decode cX2_pageWith 61 = .ok (.getfield 22, 3) := by decide +kernel
theorem dX2_pageWith_64 : decode cX2_pageWith 64 = .ok (.areturn, 1) := by decide +kernel
theorem dX2_pageWith_65 : decode cX2_pageWith 65 = .ok (.iinc 3 1, 3) := by decide +kernel
theorem dX2_pageWith_68 : decode cX2_pageWith 68 = .ok (.goto (-42), 3) := by decide +kernel
theorem dX2_pageWith_71 : decode cX2_pageWith 71 = .ok (.iinc 2 1, 3) := by decide +kernel
theorem dX2_pageWith_74 : decode cX2_pageWith 74 = .ok (.goto (-56), 3) := by decide +kernel
theorem dX2_pageWith_77 : decode cX2_pageWith 77 = .ok (.aconst_null, 1) := by decide +kernel
theorem dX2_pageWith_78 : decode cX2_pageWith 78 = .ok (.areturn, 1) := by decide +kernel
theorem dX2_erasedBlocks_0 : decode cX2_erasedBlocks 0 = .ok (.iconst 0, 1) := by decide +kernel
theorem dX2_erasedBlocks_1 : decode cX2_erasedBlocks 1 = .ok (.istore_n 1, 1) := by decide +kernel
theorem dX2_erasedBlocks_2 : decode cX2_erasedBlocks 2 = .ok (.iconst 0, 1) := by decide +kernel
theorem dX2_erasedBlocks_3 : decode cX2_erasedBlocks 3 = .ok (.istore_n 2, 1) := by decide +kernel
theorem dX2_erasedBlocks_4 : decode cX2_erasedBlocks 4 = .ok (.iload_n 2, 1) := by decide +kernel
theorem dX2_erasedBlocks_5 : decode cX2_erasedBlocks 5 = .ok (.bipush 6, 2) := by decide +kernel
theorem dX2_erasedBlocks_7 : decode cX2_erasedBlocks 7 = .ok (.if_icmp .ge 24, 3) := by decide +kernel
theorem dX2_erasedBlocks_10 : decode cX2_erasedBlocks 10 = .ok (.aload_n 0, 1) := by decide +kernel
theorem dX2_erasedBlocks_11 : decode cX2_erasedBlocks 11 = .ok (.getfield 11, 3) := by decide +kernel
theorem dX2_erasedBlocks_14 : decode cX2_erasedBlocks 14 = .ok (.iload_n 2, 1) := by decide +kernel
theorem dX2_erasedBlocks_15 : decode cX2_erasedBlocks 15 = .ok (.aaload, 1) := by decide +kernel
theorem dX2_erasedBlocks_16 : decode cX2_erasedBlocks 16 = .ok (.invokevirtual 90, 3) := by decide +kernel
theorem dX2_erasedBlocks_19 : decode cX2_erasedBlocks 19 = .ok (.ifCond .eq 6, 3) := by decide +kernel
theorem dX2_erasedBlocks_22 : decode cX2_erasedBlocks 22 = .ok (.iinc 1 1, 3) := by decide +kernel
theorem dX2_erasedBlocks_25 : decode cX2_erasedBlocks 25 = .ok (.iinc 2 1, 3) := by decide +kernel
theorem dX2_erasedBlocks_28 : decode cX2_erasedBlocks 28 = .ok (.goto (-24), 3) := by decide +kernel
theorem dX2_erasedBlocks_31 : decode cX2_erasedBlocks 31 = .ok (.iload_n 1, 1) := by decide +kernel
theorem dX2_erasedBlocks_32 : decode cX2_erasedBlocks 32 = .ok (.ireturn, 1) := by decide +kernel
theorem dJ9_max_7cf53_0 : decode cJ9_max_7cf53 0 = .ok (.iload_n 0, 1) := by decide +kernel
theorem dJ9_max_7cf53_1 : decode cJ9_max_7cf53 1 = .ok (.iload_n 1, 1) := by decide +kernel
theorem dJ9_max_7cf53_2 : decode cJ9_max_7cf53 2 = .ok (.if_icmp .lt 7, 3) := by decide +kernel
theorem dJ9_max_7cf53_5 : decode cJ9_max_7cf53 5 = .ok (.iload_n 0, 1) := by decide +kernel
theorem dJ9_max_7cf53_6 : decode cJ9_max_7cf53 6 = .ok (.goto 4, 3) := by decide +kernel
theorem dJ9_max_7cf53_9 : decode cJ9_max_7cf53 9 = .ok (.iload_n 1, 1) := by decide +kernel
theorem dJ9_max_7cf53_10 : decode cJ9_max_7cf53 10 = .ok (.ireturn, 1) := by decide +kernel
theorem dJ7_fill_53178_0 : decode cJ7_fill_53178 0 = .ok (.iconst 0, 1) := by decide +kernel
theorem dJ7_fill_53178_1 : decode cJ7_fill_53178 1 = .ok (.istore_n 2, 1) := by decide +kernel
theorem dJ7_fill_53178_2 : decode cJ7_fill_53178 2 = .ok (.aload_n 0, 1) := by decide +kernel
theorem dJ7_fill_53178_3 : decode cJ7_fill_53178 3 = .ok (.arraylength, 1) := by decide +kernel
theorem dJ7_fill_53178_4 : decode cJ7_fill_53178 4 = .ok (.istore_n 3, 1) := by decide +kernel
theorem dJ7_fill_53178_5 : decode cJ7_fill_53178 5 = .ok (.iload_n 2, 1) := by decide +kernel
theorem dJ7_fill_53178_6 : decode cJ7_fill_53178 6 = .ok (.iload_n 3, 1) := by decide +kernel
theorem dJ7_fill_53178_7 : decode cJ7_fill_53178 7 = .ok (.if_icmp .ge 13, 3) := by decide +kernel
theorem dJ7_fill_53178_10 : decode cJ7_fill_53178 10 = .ok (.aload_n 0, 1) := by decide +kernel
theorem dJ7_fill_53178_11 : decode cJ7_fill_53178 11 = .ok (.iload_n 2, 1) := by decide +kernel
theorem dJ7_fill_53178_12 : decode cJ7_fill_53178 12 = .ok (.iload_n 1, 1) := by decide +kernel
theorem dJ7_fill_53178_13 : decode cJ7_fill_53178 13 = .ok (.iastore, 1) := by decide +kernel
theorem dJ7_fill_53178_14 : decode cJ7_fill_53178 14 = .ok (.iinc 2 1, 3) := by decide +kernel
theorem dJ7_fill_53178_17 : decode cJ7_fill_53178 17 = .ok (.goto (-12), 3) := by decide +kernel
theorem dJ7_fill_53178_20 : decode cJ7_fill_53178 20 = .ok (.return_, 1) := by decide +kernel
end
section
theorem dX3_init_0 : decode cX3_init 0 = .ok (.aload_n 0, 1) := by decide +kernel
theorem dX3_init_1 : decode cX3_init 1 = .ok (.invokespecial 1, 3) := by decide +kernel
theorem dX3_init_4 : decode cX3_init 4 = .ok (.aload_n 0, 1) := by decide +kernel
theorem dX3_init_5 : decode cX3_init 5 = .ok (.bipush 96, 2) := by decide +kernel
theorem dX3_init_7 : decode cX3_init 7 = .ok (.newarray .int, 2) := by decide +kernel
theorem dX3_init_9 : decode cX3_init 9 = .ok (.putfield 7, 3) := by decide +kernel
theorem dX3_init_12 : decode cX3_init 12 = .ok (.aload_n 0, 1) := by decide +kernel
theorem dX3_init_13 : decode cX3_init 13 = .ok (.sipush 1536, 3) := by decide +kernel
theorem dX3_init_16 : decode cX3_init 16 = .ok (.newarray .int, 2) := by decide +kernel
theorem dX3_init_18 : decode cX3_init 18 = .ok (.putfield 13, 3) := by decide +kernel
theorem dX3_init_21 : decode cX3_init 21 = .ok (.aload_n 0, 1) := by decide +kernel
theorem dX3_init_22 : decode cX3_init 22 = .ok (.bipush 6, 2) := by decide +kernel
theorem dX3_init_24 : decode cX3_init 24 = .ok (.newarray .int, 2) := by decide +kernel
theorem dX3_init_26 : decode cX3_init 26 = .ok (.putfield 16, 3) := by decide +kernel
theorem dX3_init_29 : decode cX3_init 29 = .ok (.aload_n 0, 1) := by decide +kernel
theorem dX3_init_30 : decode cX3_init 30 = .ok (.bipush 102, 2) := by decide +kernel
theorem dX3_init_32 : decode cX3_init 32 = .ok (.newarray .int, 2) := by decide +kernel
theorem dX3_init_34 : decode cX3_init 34 = .ok (.putfield 19, 3) := by decide +kernel
theorem dX3_init_37 : decode cX3_init 37 = .ok (.aload_n 0, 1) := by decide +kernel
theorem dX3_init_38 : decode cX3_init 38 = .ok (.bipush 6, 2) := by decide +kernel
theorem dX3_init_40 : decode cX3_init 40 = .ok (.newarray .int, 2) := by decide +kernel
theorem dX3_init_42 : decode cX3_init 42 = .ok (.putfield 22, 3) := by decide +kernel
theorem dX3_init_45 : decode cX3_init 45 = .ok (.aload_n 0, 1) := by decide +kernel
theorem dX3_init_46 : decode cX3_init 46 = .ok (.iconst 1, 1) := by decide +kernel
theorem dX3_init_47 : decode cX3_init 47 = .ok (.putfield 25, 3) := by decide +kernel
theorem dX3_init_50 : decode cX3_init 50 = .ok (.aload_n 0, 1) := by decide +kernel
theorem dX3_init_51 : decode cX3_init 51 = .ok (.iconst 3, 1) := by decide +kernel
theorem dX3_init_52 : decode cX3_init 52 = .ok (.putfield 29, 3) := by decide +kernel
theorem dX3_init_55 : decode cX3_init 55 = .ok (.aload_n 0, 1) := by decide +kernel
theorem dX3_init_56 : decode cX3_init 56 = .ok (.bipush 16, 2) := by decide +kernel
theorem dX3_init_58 : decode cX3_init 58 = .ok (.newarray .int, 2) := by decide +kernel
theorem dX3_init_60 : decode cX3_init 60 = .ok (.putfield 33, 3) := by decide +kernel
theorem dX3_init_63 : decode cX3_init 63 = .ok (.return_, 1) := by decide +kernel
theorem dX3_thrown_0 : decode cX3_thrown 0 = .ok (.aload_n 0, 1) := by decide +kernel
theorem dX3_thrown_1 : decode cX3_thrown 1 = .ok (.getfield 36, 3) := by decide +kernel
theorem dX3_thrown_4 : decode cX3_thrown 4 = .ok (.ireturn, 1) := by decide +kernel
theorem dX3_eraseBlock_0 : decode cX3_eraseBlock 0 = .ok (.bipush 16, 2) := by decide +kernel
theorem dX3_eraseBlock_2 : decode cX3_eraseBlock 2 = .ok (.iload_n 1, 1) := by decide +kernel
theorem dX3_eraseBlock_3 : decode cX3_eraseBlock 3 = .ok (.imul, 1) := by decide +kernel
theorem dX3_eraseBlock_4 : decode cX3_eraseBlock 4 = .ok (.istore_n 2, 1) := by decide +kernel
theorem dX3_eraseBlock_5 : decode cX3_eraseBlock 5 = .ok (.iload_n 2, 1) := by decide +kernel
theorem dX3_eraseBlock_6 : decode cX3_eraseBlock 6 = .ok (.bipush 16, 2) := by decide +kernel
theorem dX3_eraseBlock_8 : decode cX3_eraseBlock 8 = .ok (.iload_n 1, 1) := by decide +kernel
theorem dX3_eraseBlock_9 : decode cX3_eraseBlock 9 = .ok (.imul, 1) := by decide +kernel
theorem dX3_eraseBlock_10 : decode cX3_eraseBlock 10 = .ok (.bipush 16, 2) := by decide +kernel
theorem dX3_eraseBlock_12 : decode cX3_eraseBlock 12 = .ok (.iadd, 1) := by decide +kernel
theorem dX3_eraseBlock_13 : decode cX3_eraseBlock 13 = .ok (.if_icmp .ge 16, 3) := by decide +kernel
theorem dX3_eraseBlock_16 : decode cX3_eraseBlock 16 = .ok (.aload_n 0, 1) := by decide +kernel
theorem dX3_eraseBlock_17 : decode cX3_eraseBlock 17 = .ok (.getfield 7, 3) := by decide +kernel
theorem dX3_eraseBlock_20 : decode cX3_eraseBlock 20 = .ok (.iload_n 2, 1) := by decide +kernel
theorem dX3_eraseBlock_21 : decode cX3_eraseBlock 21 = .ok (.iconst 0, 1) := by decide +kernel
theorem dX3_eraseBlock_22 : decode cX3_eraseBlock 22 = .ok (.iastore, 1) := by decide +kernel
theorem dX3_eraseBlock_23 : decode cX3_eraseBlock 23 = .ok (.iinc 2 1, 3) := by decide +kernel
theorem dX3_eraseBlock_26 : decode cX3_eraseBlock 26 = .ok (.goto (-21), 3) := by decide +kernel
theorem dX3_eraseBlock_29 : decode cX3_eraseBlock 29 = .ok (.aload_n 0, 1) := by decide +kernel
theorem dX3_eraseBlock_30 : decode cX3_eraseBlock 30 = .ok (.getfield 16, 3) := by decide +kernel
theorem dX3_eraseBlock_33 : decode cX3_eraseBlock 33 = .ok (.iload_n 1, 1) := by decide +kernel
theorem dX3_eraseBlock_34 : decode cX3_eraseBlock 34 = .ok (.iconst 0, 1) := by decide +kernel
theorem dX3_eraseBlock_35 : decode cX3_eraseBlock 35 = .ok (.iastore, 1) := by decide +kernel
theorem dX3_eraseBlock_36 : decode cX3_eraseBlock 36 = .ok (.aload_n 0, 1) := by decide +kernel
theorem dX3_eraseBlock_37 : decode cX3_eraseBlock 37 = .ok (.getfield 22, 3) := by decide +kernel
theorem dX3_eraseBlock_40 : decode cX3_eraseBlock 40 = .ok (.iload_n 1, 1) := by decide +kernel
theorem dX3_eraseBlock_41 : decode cX3_eraseBlock 41 = .ok (.dup2, 1) := by decide +kernel
theorem dX3_eraseBlock_42 : decode cX3_eraseBlock 42 = .ok (.iaload, 1) := by decide +kernel
theorem dX3_eraseBlock_43 : decode cX3_eraseBlock 43 = .ok (.iconst 1, 1) := by decide +kernel
theorem dX3_eraseBlock_44 : decode cX3_eraseBlock 44 = .ok (.iadd, 1) := by decide +kernel
theorem dX3_eraseBlock_45 : decode cX3_eraseBlock 45 = .ok (.iastore, 1) := by decide +kernel
theorem dX3_eraseBlock_46 : decode cX3_eraseBlock 46 = .ok (.return_, 1) := by decide +kernel
theorem dX3_isErased_0 : decode cX3_isErased 0 = .ok (.aload_n 0, 1) := by decide +kernel
theorem dX3_isErased_1 : decode cX3_isErased 1 = .ok (.getfield 16, 3) := by decide +kernel
theorem dX3_isErased_4 : decode cX3_isErased 4 = .ok (.iload_n 1, 1) := by decide +kernel
theorem dX3_isErased_5 : decode cX3_isErased 5 = .ok (.iaload, 1) := by decide +kernel
theorem dX3_isErased_6 : decode cX3_isErased 6 = .ok (.ifCond .ne 7, 3) := by decide +kernel
theorem dX3_isErased_9 : decode cX3_isErased 9 = .ok (.iconst 1, 1) := by decide +kernel
theorem dX3_isErased_10 : decode cX3_isErased 10 = .ok (.goto 4, 3) := by decide +kernel
theorem dX3_isErased_13 : decode cX3_isErased 13 = .ok (.iconst 0, 1) := by decide +kernel
theorem dX3_isErased_14 : decode cX3_isErased 14 = .ok (.istore_n 2, 1) := by decide +kernel
theorem dX3_isErased_15 : decode cX3_isErased 15 = .ok (.bipush 16, 2) := by decide +kernel
theorem dX3_isErased_17 : decode cX3_isErased 17 = .ok (.iload_n 1, 1) := by decide +kernel
theorem dX3_isErased_18 : decode cX3_isErased 18 = .ok (.imul, 1) := by decide +kernel
theorem dX3_isErased_19 : decode cX3_isErased 19 = .ok (.istore_n 3, 1) := by decide +kernel
theorem dX3_isErased_20 : decode cX3_isErased 20 = .ok (.iload_n 3, 1) := by decide +kernel
theorem dX3_isErased_21 : decode cX3_isErased 21 = .ok (.bipush 16, 2) := by decide +kernel
theorem dX3_isErased_23 : decode cX3_isErased 23 = .ok (.iload_n 1, 1) := by decide +kernel
theorem dX3_isErased_24 : decode cX3_isErased 24 = .ok (.imul, 1) := by decide +kernel
theorem dX3_isErased_25 : decode cX3_isErased 25 = .ok (.bipush 16, 2) := by decide +kernel
theorem dX3_isErased_27 : decode cX3_isErased 27 = .ok (.iadd, 1) := by decide +kernel
theorem dX3_isErased_28 : decode cX3_isErased 28 = .ok (.if_icmp .ge 28, 3) := by decide +kernel
theorem dX3_isErased_31 : decode cX3_isErased 31 = .ok (.iload_n 2, 1) := by decide +kernel
theorem dX3_isErased_32 : decode cX3_isErased 32 = .ok (.ifCond .eq 16, 3) := by decide +kernel
theorem dX3_isErased_35 : decode cX3_isErased 35 = .ok (.aload_n 0, 1) := by decide +kernel
theorem dX3_isErased_36 : decode cX3_isErased 36 = .ok (.getfield 7, 3) := by decide +kernel
theorem dX3_isErased_39 : decode cX3_isErased 39 = .ok (.iload_n 3, 1) := by decide +kernel
theorem dX3_isErased_40 : decode cX3_isErased 40 = .ok (.iaload, 1) := by decide +kernel
theorem dX3_isErased_41 : decode cX3_isErased 41 = .ok (.ifCond .ne 7, 3) := by decide +kernel
theorem dX3_isErased_44 : decode cX3_isErased 44 = .ok (.iconst 1, 1) := by decide +kernel
theorem dX3_isErased_45 : decode cX3_isErased 45 = .ok (.goto 4, 3) := by decide +kernel
theorem dX3_isErased_48 : decode cX3_isErased 48 = .ok (.iconst 0, 1) := by decide +kernel
theorem dX3_isErased_49 : decode cX3_isErased 49 = .ok (.istore_n 2, 1) := by decide +kernel
theorem dX3_isErased_50 : decode cX3_isErased 50 = .ok (.iinc 3 1, 3) := by decide +kernel
theorem dX3_isErased_53 : decode cX3_isErased 53 = .ok (.goto (-33), 3) := by decide +kernel
theorem dX3_isErased_56 : decode cX3_isErased 56 = .ok (.iload_n 2, 1) := by decide +kernel
theorem dX3_isErased_57 : decode cX3_isErased 57 = .ok (.ireturn, 1) := by decide +kernel
theorem dX3_isCovered_0 : decode cX3_isCovered 0 = .ok (.aload_n 0, 1) := by decide +kernel
theorem dX3_isCovered_1 : decode cX3_isCovered 1 = .ok (.getfield 19, 3) := by decide +kernel
theorem dX3_isCovered_4 : decode cX3_isCovered 4 = .ok (.bipush 17, 2) := by decide +kernel
theorem dX3_isCovered_6 : decode cX3_isCovered 6 = .ok (.iload_n 1, 1) := by decide +kernel
theorem dX3_isCovered_7 : decode cX3_isCovered 7 = .ok (.imul, 1) := by decide +kernel
theorem dX3_isCovered_8 : decode cX3_isCovered 8 = .ok (.bipush 16, 2) := by decide +kernel
theorem dX3_isCovered_10 : decode cX3_isCovered 10 = .ok (.iadd, 1) := by decide +kernel
theorem dX3_isCovered_11 : decode cX3_isCovered 11 = .ok (.iaload, 1) := by decide +kernel
theorem dX3_isCovered_12 : decode cX3_isCovered 12 = .ok (.iload_n 2, 1) := by decide +kernel
theorem dX3_isCovered_13 : decode cX3_isCovered 13 = .ok (.ishr, 1) := by decide +kernel
theorem dX3_isCovered_14 : decode cX3_isCovered 14 = .ok (.iconst 1, 1) := by decide +kernel
theorem dX3_isCovered_15 : decode cX3_isCovered 15 = .ok (.iand, 1) := by decide +kernel
theorem dX3_isCovered_16 : decode cX3_isCovered 16 = .ok (.iconst 1, 1) := by decide +kernel
theorem dX3_isCovered_17 : decode cX3_isCovered 17 = .ok (.if_icmp .ne 7, 3) := by decide +kernel
theorem dX3_isCovered_20 : decode cX3_isCovered 20 = .ok (.iconst 1, 1) := by decide +kernel
theorem dX3_isCovered_21 : decode cX3_isCovered 21 = .ok (.goto 4, 3) := by decide +kernel
theorem dX3_isCovered_24 : decode cX3_isCovered 24 = .ok (.iconst 0, 1) := by decide +kernel
theorem dX3_isCovered_25 : decode cX3_isCovered 25 = .ok (.ireturn, 1) := by decide +kernel
theorem dX3_isRebuilt_0 : decode cX3_isRebuilt 0 = .ok (.iload_n 1, 1) := by decide +kernel
theorem dX3_isRebuilt_1 : decode cX3_isRebuilt 1 = .ok (.bipush 16, 2) := by decide +kernel
theorem dX3_isRebuilt_3 : decode cX3_isRebuilt 3 = .ok (.idiv, 1) := by decide +kernel
theorem dX3_isRebuilt_4 : decode cX3_isRebuilt 4 = .ok (.istore_n 2, 1) := by decide +kernel
theorem dX3_isRebuilt_5 : decode cX3_isRebuilt 5 = .ok (.iload_n 1, 1) := by decide +kernel
theorem dX3_isRebuilt_6 : decode cX3_isRebuilt 6 = .ok (.bipush 16, 2) := by decide +kernel
theorem dX3_isRebuilt_8 : decode cX3_isRebuilt 8 = .ok (.irem, 1) := by decide +kernel
theorem dX3_isRebuilt_9 : decode cX3_isRebuilt 9 = .ok (.bipush 8, 2) := by decide +kernel
theorem dX3_isRebuilt_11 : decode cX3_isRebuilt 11 = .ok (.if_icmp .ge 39, 3) := by decide +kernel
theorem dX3_isRebuilt_14 : decode cX3_isRebuilt 14 = .ok (.aload_n 0, 1) := by decide +kernel
theorem dX3_isRebuilt_15 : decode cX3_isRebuilt 15 = .ok (.getfield 7, 3) := by decide +kernel
theorem dX3_isRebuilt_18 : decode cX3_isRebuilt 18 = .ok (.iload_n 1, 1) := by decide +kernel
theorem dX3_isRebuilt_19 : decode cX3_isRebuilt 19 = .ok (.iaload, 1) := by decide +kernel
theorem dX3_isRebuilt_20 : decode cX3_isRebuilt 20 = .ok (.iconst 2, 1) := by decide +kernel
theorem dX3_isRebuilt_21 : decode cX3_isRebuilt 21 = .ok (.if_icmp .ne 29, 3) := by decide +kernel
theorem dX3_isRebuilt_24 : decode cX3_isRebuilt 24 = .ok (.aload_n 0, 1) := by decide +kernel
theorem dX3_isRebuilt_25 : decode cX3_isRebuilt 25 = .ok (.getfield 16, 3) := by decide +kernel
theorem dX3_isRebuilt_28 : decode cX3_isRebuilt 28 = .ok (.iload_n 2, 1) := by decide +kernel
theorem dX3_isRebuilt_29 : decode cX3_isRebuilt 29 = .ok (.iaload, 1) := by decide +kernel
theorem dX3_isRebuilt_30 : decode cX3_isRebuilt 30 = .ok (.iconst 1, 1) := by decide +kernel
theorem dX3_isRebuilt_31 : decode cX3_isRebuilt 31 = .ok (.if_icmp .ne 19, 3) := by decide +kernel
theorem dX3_isRebuilt_34 : decode cX3_isRebuilt 34 = .ok (.aload_n 0, 1) := by decide +kernel
theorem dX3_isRebuilt_35 : decode cX3_isRebuilt 35 = .ok (.iload_n 2, 1) := by decide +kernel
theorem dX3_isRebuilt_36 : decode cX3_isRebuilt 36 = .ok (.iload_n 1, 1) := by decide +kernel
theorem dX3_isRebuilt_37 : decode cX3_isRebuilt 37 = .ok (.bipush 16, 2) := by decide +kernel
theorem dX3_isRebuilt_39 : decode cX3_isRebuilt 39 = .ok (.irem, 1) := by decide +kernel
theorem dX3_isRebuilt_40 : decode cX3_isRebuilt 40 = .ok (.invokevirtual 39, 3) := by decide +kernel
theorem dX3_isRebuilt_43 : decode cX3_isRebuilt 43 = .ok (.ifCond .eq 7, 3) := by decide +kernel
theorem dX3_isRebuilt_46 : decode cX3_isRebuilt 46 = .ok (.iconst 1, 1) := by decide +kernel
theorem dX3_isRebuilt_47 : decode cX3_isRebuilt 47 = .ok (.goto 4, 3) := by decide +kernel
theorem dX3_isRebuilt_50 : decode cX3_isRebuilt 50 = .ok (.iconst 0, 1) := by decide +kernel
theorem dX3_isRebuilt_51 : decode cX3_isRebuilt 51 = .ok (.istore_n 3, 1) := by decide +kernel
theorem dX3_isRebuilt_52 : decode cX3_isRebuilt 52 = .ok (.iconst 0, 1) := by decide +kernel
theorem dX3_isRebuilt_53 : decode cX3_isRebuilt 53 = .ok (.istore 4, 2) := by decide +kernel
theorem dX3_isRebuilt_55 : decode cX3_isRebuilt 55 = .ok (.iload 4, 2) := by decide +kernel
theorem dX3_isRebuilt_57 : decode cX3_isRebuilt 57 = .ok (.bipush 8, 2) := by decide +kernel
theorem dX3_isRebuilt_59 : decode cX3_isRebuilt 59 = .ok (.if_icmp .ge 54, 3) := by decide +kernel
theorem dX3_isRebuilt_62 : decode cX3_isRebuilt 62 = .ok (.iload_n 3, 1) := by decide +kernel
theorem dX3_isRebuilt_63 : decode cX3_isRebuilt 63 = .ok (.ifCond .eq 50, 3) := by decide +kernel
theorem dX3_isRebuilt_66 : decode cX3_isRebuilt 66 = .ok (.iload 4, 2) := by decide +kernel
theorem dX3_isRebuilt_68 : decode cX3_isRebuilt 68 = .ok (.iload_n 1, 1) := by decide +kernel
theorem dX3_isRebuilt_69 : decode cX3_isRebuilt 69 = .ok (.bipush 16, 2) := by decide +kernel
theorem dX3_isRebuilt_71 : decode cX3_isRebuilt 71 = .ok (.irem, 1) := by decide +kernel
theorem dX3_isRebuilt_72 : decode cX3_isRebuilt 72 = .ok (.if_icmp .eq 29, 3) := by decide +kernel
theorem dX3_isRebuilt_75 : decode cX3_isRebuilt 75 = .ok (.aload_n 0, 1) := by decide +kernel
theorem dX3_isRebuilt_76 : decode cX3_isRebuilt 76 = .ok (.iload_n 2, 1) := by decide +kernel
theorem dX3_isRebuilt_77 : decode cX3_isRebuilt 77 = .ok (.iload 4, 2) := by decide +kernel
theorem dX3_isRebuilt_79 : decode cX3_isRebuilt 79 = .ok (.invokevirtual 39, 3) := by decide +kernel
theorem dX3_isRebuilt_82 : decode cX3_isRebuilt 82 = .ok (.ifCond .eq 19, 3) := by decide +kernel
theorem dX3_isRebuilt_85 : decode cX3_isRebuilt 85 = .ok (.aload_n 0, 1) := by decide +kernel
theorem dX3_isRebuilt_86 : decode cX3_isRebuilt 86 = .ok (.getfield 7, 3) := by decide +kernel
theorem dX3_isRebuilt_89 : decode cX3_isRebuilt 89 = .ok (.bipush 16, 2) := by decide +kernel
theorem dX3_isRebuilt_91 : decode cX3_isRebuilt 91 = .ok (.iload_n 2, 1) := by decide +kernel
theorem dX3_isRebuilt_92 : decode cX3_isRebuilt 92 = .ok (.imul, 1) := by decide +kernel
theorem dX3_isRebuilt_93 : decode cX3_isRebuilt 93 = .ok (.iload 4, 2) := by decide +kernel
theorem dX3_isRebuilt_95 : decode cX3_isRebuilt 95 = .ok (.iadd, 1) := by decide +kernel
theorem dX3_isRebuilt_96 : decode cX3_isRebuilt 96 = .ok (.iaload, 1) := by decide +kernel
theorem dX3_isRebuilt_97 : decode cX3_isRebuilt 97 = .ok (.iconst 1, 1) := by decide +kernel
theorem dX3_isRebuilt_98 : decode cX3_isRebuilt 98 = .ok (.if_icmp .ne 7, 3) := by decide +kernel
theorem dX3_isRebuilt_101 : decode cX3_isRebuilt 101 = .ok (.iconst 1, 1) := by decide +kernel
theorem dX3_isRebuilt_102 : decode cX3_isRebuilt 102 = .ok (.goto 4, 3) := by decide +kernel
theorem dX3_isRebuilt_105 : decode cX3_isRebuilt 105 = .ok (.iconst 0, 1) := by decide +kernel
theorem dX3_isRebuilt_106 : decode cX3_isRebuilt 106 = .ok (.istore_n 3, 1) := by decide +kernel
theorem dX3_isRebuilt_107 : decode cX3_isRebuilt 107 = .ok (.iinc 4 1, 3) := by decide +kernel
theorem dX3_isRebuilt_110 : decode cX3_isRebuilt 110 = .ok (.goto (-55), 3) := by decide +kernel
theorem dX3_isRebuilt_113 : decode cX3_isRebuilt 113 = .ok (.iload_n 3, 1) := by decide +kernel
theorem dX3_isRebuilt_114 : decode cX3_isRebuilt 114 = .ok (.ireturn, 1) := by decide +kernel
theorem dX3_isReadable_0 : decode cX3_isReadable 0 = .ok (.aload_n 0, 1) := by decide +kernel
theorem dX3_isReadable_1 : decode cX3_isReadable 1 = .ok (.getfield 7, 3) := by decide +kernel
theorem dX3_isReadable_4 : decode cX3_isReadable 4 = .ok (.iload_n 1, 1) := by decide +kernel
theorem dX3_isReadable_5 : decode cX3_isReadable 5 = .ok (.iaload, 1) := by decide +kernel
theorem dX3_isReadable_6 : decode cX3_isReadable 6 = .ok (.iconst 1, 1) := by decide +kernel
theorem dX3_isReadable_7 : decode cX3_isReadable 7 = .ok (.if_icmp .eq 11, 3) := by decide +kernel
theorem dX3_isReadable_10 : decode cX3_isReadable 10 = .ok (.aload_n 0, 1) := by decide +kernel
theorem dX3_isReadable_11 : decode cX3_isReadable 11 = .ok (.iload_n 1, 1) := by decide +kernel
theorem dX3_isReadable_12 : decode cX3_isReadable 12 = .ok (.invokevirtual 43, 3) := by decide +kernel
theorem dX3_isReadable_15 : decode cX3_isReadable 15 = .ok (.ifCond .eq 7, 3) := by decide +kernel
theorem dX3_isReadable_18 : decode cX3_isReadable 18 = .ok (.iconst 1, 1) := by decide +kernel
theorem dX3_isReadable_19 : decode cX3_isReadable 19 = .ok (.goto 4, 3) := by decide +kernel
theorem dX3_isReadable_22 : decode cX3_isReadable 22 = .ok (.iconst 0, 1) := by decide +kernel
theorem dX3_isReadable_23 : decode cX3_isReadable 23 = .ok (.ireturn, 1) := by decide +kernel
theorem dX3_byteOf_0 : decode cX3_byteOf 0 = .ok (.aload_n 0, 1) := by decide +kernel
theorem dX3_byteOf_1 : decode cX3_byteOf 1 = .ok (.getfield 7, 3) := by decide +kernel
theorem dX3_byteOf_4 : decode cX3_byteOf 4 = .ok (.iload_n 1, 1) := by decide +kernel
theorem dX3_byteOf_5 : decode cX3_byteOf 5 = .ok (.iaload, 1) := by decide +kernel
theorem dX3_byteOf_6 : decode cX3_byteOf 6 = .ok (.iconst 1, 1) := by decide +kernel
theorem dX3_byteOf_7 : decode cX3_byteOf 7 = .ok (.if_icmp .ne 15, 3) := by decide +kernel
theorem dX3_byteOf_10 : decode cX3_byteOf 10 = .ok (.aload_n 0, 1) := by decide +kernel
theorem dX3_byteOf_11 : decode cX3_byteOf 11 = .ok (.getfield 13, 3) := by decide +kernel
theorem dX3_byteOf_14 : decode cX3_byteOf 14 = .ok (.bipush 16, 2) := by decide +kernel
theorem dX3_byteOf_16 : decode cX3_byteOf 16 = .ok (.iload_n 1, 1) := by decide +kernel
theorem dX3_byteOf_17 : decode cX3_byteOf 17 = .ok (.imul, 1) := by decide +kernel
theorem dX3_byteOf_18 : decode cX3_byteOf 18 = .ok (.iload_n 2, 1) := by decide +kernel
theorem dX3_byteOf_19 : decode cX3_byteOf 19 = .ok (.iadd, 1) := by decide +kernel
theorem dX3_byteOf_20 : decode cX3_byteOf 20 = .ok (.iaload, 1) := by decide +kernel
theorem dX3_byteOf_21 : decode cX3_byteOf 21 = .ok (.ireturn, 1) := by decide +kernel
theorem dX3_byteOf_22 : decode cX3_byteOf 22 = .ok (.iload_n 1, 1) := by decide +kernel
theorem dX3_byteOf_23 : decode cX3_byteOf 23 = .ok (.bipush 16, 2) := by decide +kernel
theorem dX3_byteOf_25 : decode cX3_byteOf 25 = .ok (.idiv, 1) := by decide +kernel
theorem dX3_byteOf_26 : decode cX3_byteOf 26 = .ok (.istore_n 3, 1) := by decide +kernel
theorem dX3_byteOf_27 : decode cX3_byteOf 27 = .ok (.aload_n 0, 1) := by decide +kernel
theorem dX3_byteOf_28 : decode cX3_byteOf 28 = .ok (.getfield 19, 3) := by decide +kernel
theorem dX3_byteOf_31 : decode cX3_byteOf 31 = .ok (.bipush 17, 2) := by decide +kernel
theorem dX3_byteOf_33 : decode cX3_byteOf 33 = .ok (.iload_n 3, 1) := by decide +kernel
theorem dX3_byteOf_34 : decode cX3_byteOf 34 = .ok (.imul, 1) := by decide +kernel
theorem dX3_byteOf_35 : decode cX3_byteOf 35 = .ok (.iload_n 2, 1) := by decide +kernel
theorem dX3_byteOf_36 : decode cX3_byteOf 36 = .ok (.iadd, 1) := by decide +kernel
theorem dX3_byteOf_37 : decode cX3_byteOf 37 = .ok (.iaload, 1) := by decide +kernel
theorem dX3_byteOf_38 : decode cX3_byteOf 38 = .ok (.istore 4, 2) := by decide +kernel
theorem dX3_byteOf_40 : decode cX3_byteOf 40 = .ok (.iconst 0, 1) := by decide +kernel
theorem dX3_byteOf_41 : decode cX3_byteOf 41 = .ok (.istore 5, 2) := by decide +kernel
theorem dX3_byteOf_43 : decode cX3_byteOf 43 = .ok (.iload 5, 2) := by decide +kernel
theorem dX3_byteOf_45 : decode cX3_byteOf 45 = .ok (.bipush 8, 2) := by decide +kernel
theorem dX3_byteOf_47 : decode cX3_byteOf 47 = .ok (.if_icmp .ge 50, 3) := by decide +kernel
theorem dX3_byteOf_50 : decode cX3_byteOf 50 = .ok (.iload 5, 2) := by decide +kernel
theorem dX3_byteOf_52 : decode cX3_byteOf 52 = .ok (.iload_n 1, 1) := by decide +kernel
theorem dX3_byteOf_53 : decode cX3_byteOf 53 = .ok (.bipush 16, 2) := by decide +kernel
theorem dX3_byteOf_55 : decode cX3_byteOf 55 = .ok (.irem, 1) := by decide +kernel
theorem dX3_byteOf_56 : decode cX3_byteOf 56 = .ok (.if_icmp .eq 35, 3) := by decide +kernel
theorem dX3_byteOf_59 : decode cX3_byteOf 59 = .ok (.aload_n 0, 1) := by decide +kernel
theorem dX3_byteOf_60 : decode cX3_byteOf 60 = .ok (.iload_n 3, 1) := by decide +kernel
theorem dX3_byteOf_61 : decode cX3_byteOf 61 = .ok (.iload 5, 2) := by decide +kernel
theorem dX3_byteOf_63 : decode cX3_byteOf 63 = .ok (.invokevirtual 39, 3) := by decide +kernel
theorem dX3_byteOf_66 : decode cX3_byteOf 66 = .ok (.ifCond .eq 25, 3) := by decide +kernel
theorem dX3_byteOf_69 : decode cX3_byteOf 69 = .ok (.iload 4, 2) := by decide +kernel
theorem dX3_byteOf_71 : decode cX3_byteOf 71 = .ok (.aload_n 0, 1) := by decide +kernel
theorem dX3_byteOf_72 : decode cX3_byteOf 72 = .ok (.getfield 13, 3) := by decide +kernel
theorem dX3_byteOf_75 : decode cX3_byteOf 75 = .ok (.bipush 16, 2) := by decide +kernel
theorem dX3_byteOf_77 : decode cX3_byteOf 77 = .ok (.bipush 16, 2) := by decide +kernel
theorem dX3_byteOf_79 : decode cX3_byteOf 79 = .ok (.iload_n 3, 1) := by decide +kernel
theorem dX3_byteOf_80 : decode cX3_byteOf 80 = .ok (.imul, 1) := by decide +kernel
theorem dX3_byteOf_81 : decode cX3_byteOf 81 = .ok (.iload 5, 2) := by decide +kernel
theorem dX3_byteOf_83 : decode cX3_byteOf 83 = .ok (.iadd, 1) := by decide +kernel
theorem dX3_byteOf_84 : decode cX3_byteOf 84 = .ok (.imul, 1) := by decide +kernel
theorem dX3_byteOf_85 : decode cX3_byteOf 85 = .ok (.iload_n 2, 1) := by decide +kernel
theorem dX3_byteOf_86 : decode cX3_byteOf 86 = .ok (.iadd, 1) := by decide +kernel
theorem dX3_byteOf_87 : decode cX3_byteOf 87 = .ok (.iaload, 1) := by decide +kernel
theorem dX3_byteOf_88 : decode cX3_byteOf 88 = .ok (.ixor, 1) := by decide +kernel
theorem dX3_byteOf_89 : decode cX3_byteOf 89 = .ok (.istore 4, 2) := by decide +kernel
theorem dX3_byteOf_91 : decode cX3_byteOf 91 = .ok (.iinc 5 1, 3) := by decide +kernel
theorem dX3_byteOf_94 : decode cX3_byteOf 94 = .ok (.goto (-51), 3) := by decide +kernel
theorem dX3_byteOf_97 : decode cX3_byteOf 97 = .ok (.iload 4, 2) := by decide +kernel
theorem dX3_byteOf_99 : decode cX3_byteOf 99 = .ok (.ireturn, 1) := by decide +kernel
theorem dX3_isCut_0 : decode cX3_isCut 0 = .ok (.aload_n 0, 1) := by decide +kernel
theorem dX3_isCut_1 : decode cX3_isCut 1 = .ok (.getfield 47, 3) := by decide +kernel
theorem dX3_isCut_4 : decode cX3_isCut 4 = .ok (.ifCond .ne 5, 3) := by decide +kernel
theorem dX3_isCut_7 : decode cX3_isCut 7 = .ok (.iconst 0, 1) := by decide +kernel
theorem dX3_isCut_8 : decode cX3_isCut 8 = .ok (.ireturn, 1) := by decide +kernel
theorem dX3_isCut_9 : decode cX3_isCut 9 = .ok (.aload_n 0, 1) := by decide +kernel
theorem dX3_isCut_10 : decode cX3_isCut 10 = .ok (.dup, 1) := by decide +kernel
theorem dX3_isCut_11 : decode cX3_isCut 11 = .ok (.getfield 47, 3) := by decide +kernel
theorem dX3_isCut_14 : decode cX3_isCut 14 = .ok (.iconst 1, 1) := by decide +kernel
theorem dX3_isCut_15 : decode cX3_isCut 15 = .ok (.isub, 1) := by decide +kernel
theorem dX3_isCut_16 : decode cX3_isCut 16 = .ok (.putfield 47, 3) := by decide +kernel
theorem dX3_isCut_19 : decode cX3_isCut 19 = .ok (.aload_n 0, 1) := by decide +kernel
theorem dX3_isCut_20 : decode cX3_isCut 20 = .ok (.getfield 47, 3) := by decide +kernel
theorem dX3_isCut_23 : decode cX3_isCut 23 = .ok (.ifCond .le 5, 3) := by decide +kernel
theorem dX3_isCut_26 : decode cX3_isCut 26 = .ok (.iconst 0, 1) := by decide +kernel
theorem dX3_isCut_27 : decode cX3_isCut 27 = .ok (.ireturn, 1) := by decide +kernel
theorem dX3_isCut_28 : decode cX3_isCut 28 = .ok (.aload_n 0, 1) := by decide +kernel
theorem dX3_isCut_29 : decode cX3_isCut 29 = .ok (.iconst 0, 1) := by decide +kernel
theorem dX3_isCut_30 : decode cX3_isCut 30 = .ok (.putfield 25, 3) := by decide +kernel
theorem dX3_isCut_33 : decode cX3_isCut 33 = .ok (.iconst 1, 1) := by decide +kernel
theorem dX3_isCut_34 : decode cX3_isCut 34 = .ok (.ireturn, 1) := by decide +kernel
theorem dX3_used_0 : decode cX3_used 0 = .ok (.iconst 0, 1) := by decide +kernel
theorem dX3_used_1 : decode cX3_used 1 = .ok (.istore_n 2, 1) := by decide +kernel
theorem dX3_used_2 : decode cX3_used 2 = .ok (.bipush 16, 2) := by decide +kernel
theorem dX3_used_4 : decode cX3_used 4 = .ok (.iload_n 1, 1) := by decide +kernel
theorem dX3_used_5 : decode cX3_used 5 = .ok (.imul, 1) := by decide +kernel
theorem dX3_used_6 : decode cX3_used 6 = .ok (.istore_n 3, 1) := by decide +kernel
theorem dX3_used_7 : decode cX3_used 7 = .ok (.iload_n 3, 1) := by decide +kernel
theorem dX3_used_8 : decode cX3_used 8 = .ok (.bipush 16, 2) := by decide +kernel
theorem dX3_used_10 : decode cX3_used 10 = .ok (.iload_n 1, 1) := by decide +kernel
theorem dX3_used_11 : decode cX3_used 11 = .ok (.imul, 1) := by decide +kernel
theorem dX3_used_12 : decode cX3_used 12 = .ok (.bipush 16, 2) := by decide +kernel
theorem dX3_used_14 : decode cX3_used 14 = .ok (.iadd, 1) := by decide +kernel
theorem dX3_used_15 : decode cX3_used 15 = .ok (.if_icmp .ge 26, 3) := by decide +kernel
theorem dX3_used_18 : decode cX3_used 18 = .ok (.iload_n 2, 1) := by decide +kernel
theorem dX3_used_19 : decode cX3_used 19 = .ok (.aload_n 0, 1) := by decide +kernel
theorem dX3_used_20 : decode cX3_used 20 = .ok (.getfield 7, 3) := by decide +kernel
theorem dX3_used_23 : decode cX3_used 23 = .ok (.iload_n 3, 1) := by decide +kernel
theorem dX3_used_24 : decode cX3_used 24 = .ok (.iaload, 1) := by decide +kernel
theorem dX3_used_25 : decode cX3_used 25 = .ok (.ifCond .ne 7, 3) := by decide +kernel
theorem dX3_used_28 : decode cX3_used 28 = .ok (.iconst 0, 1) := by decide +kernel
theorem dX3_used_29 : decode cX3_used 29 = .ok (.goto 4, 3) := by decide +kernel
theorem dX3_used_32 : decode cX3_used 32 = .ok (.iconst 1, 1) := by decide +kernel
theorem dX3_used_33 : decode cX3_used 33 = .ok (.iadd, 1) := by decide +kernel
theorem dX3_used_34 : decode cX3_used 34 = .ok (.istore_n 2, 1) := by decide +kernel
theorem dX3_used_35 : decode cX3_used 35 = .ok (.iinc 3 1, 3) := by decide +kernel
theorem dX3_used_38 : decode cX3_used 38 = .ok (.goto (-31), 3) := by decide +kernel
theorem dX3_used_41 : decode cX3_used 41 = .ok (.iload_n 2, 1) := by decide +kernel
theorem dX3_used_42 : decode cX3_used 42 = .ok (.ireturn, 1) := by decide +kernel
theorem dX3_takesMore_0 : decode cX3_takesMore 0 = .ok (.aload_n 0, 1) := by decide +kernel
theorem dX3_takesMore_1 : decode cX3_takesMore 1 = .ok (.iload_n 1, 1) := by decide +kernel
theorem dX3_takesMore_2 : decode cX3_takesMore 2 = .ok (.invokevirtual 50, 3) := by decide +kernel
theorem dX3_takesMore_5 : decode cX3_takesMore 5 = .ok (.bipush 16, 2) := by decide +kernel
theorem dX3_takesMore_7 : decode cX3_takesMore 7 = .ok (.if_icmp .ge 7, 3) := by decide +kernel
theorem dX3_takesMore_10 : decode cX3_takesMore 10 = .ok (.iconst 1, 1) := by decide +kernel
theorem dX3_takesMore_11 : decode cX3_takesMore 11 = .ok (.goto 4, 3) := by decide +kernel
theorem dX3_takesMore_14 : decode cX3_takesMore 14 = .ok (.iconst 0, 1) := by decide +kernel
theorem dX3_takesMore_15 : decode cX3_takesMore 15 = .ok (.istore_n 2, 1) := by decide +kernel
theorem dX3_takesMore_16 : decode cX3_takesMore 16 = .ok (.bipush 16, 2) := by decide +kernel
theorem dX3_takesMore_18 : decode cX3_takesMore 18 = .ok (.iload_n 1, 1) := by decide +kernel
theorem dX3_takesMore_19 : decode cX3_takesMore 19 = .ok (.imul, 1) := by decide +kernel
theorem dX3_takesMore_20 : decode cX3_takesMore 20 = .ok (.bipush 8, 2) := by decide +kernel
theorem dX3_takesMore_22 : decode cX3_takesMore 22 = .ok (.iadd, 1) := by decide +kernel
theorem dX3_takesMore_23 : decode cX3_takesMore 23 = .ok (.istore_n 3, 1) := by decide +kernel
theorem dX3_takesMore_24 : decode cX3_takesMore 24 = .ok (.iload_n 3, 1) := by decide +kernel
theorem dX3_takesMore_25 : decode cX3_takesMore 25 = .ok (.bipush 16, 2) := by decide +kernel
theorem dX3_takesMore_27 : decode cX3_takesMore 27 = .ok (.iload_n 1, 1) := by decide +kernel
theorem dX3_takesMore_28 : decode cX3_takesMore 28 = .ok (.imul, 1) := by decide +kernel
theorem dX3_takesMore_29 : decode cX3_takesMore 29 = .ok (.bipush 16, 2) := by decide +kernel
theorem dX3_takesMore_31 : decode cX3_takesMore 31 = .ok (.iadd, 1) := by decide +kernel
theorem dX3_takesMore_32 : decode cX3_takesMore 32 = .ok (.if_icmp .ge 29, 3) := by decide +kernel
theorem dX3_takesMore_35 : decode cX3_takesMore 35 = .ok (.iload_n 2, 1) := by decide +kernel
theorem dX3_takesMore_36 : decode cX3_takesMore 36 = .ok (.ifCond .eq 17, 3) := by decide +kernel
theorem dX3_takesMore_39 : decode cX3_takesMore 39 = .ok (.aload_n 0, 1) := by decide +kernel
theorem dX3_takesMore_40 : decode cX3_takesMore 40 = .ok (.getfield 7, 3) := by decide +kernel
theorem dX3_takesMore_43 : decode cX3_takesMore 43 = .ok (.iload_n 3, 1) := by decide +kernel
theorem dX3_takesMore_44 : decode cX3_takesMore 44 = .ok (.iaload, 1) := by decide +kernel
theorem dX3_takesMore_45 : decode cX3_takesMore 45 = .ok (.iconst 2, 1) := by decide +kernel
theorem dX3_takesMore_46 : decode cX3_takesMore 46 = .ok (.if_icmp .eq 7, 3) := by decide +kernel
theorem dX3_takesMore_49 : decode cX3_takesMore 49 = .ok (.iconst 1, 1) := by decide +kernel
theorem dX3_takesMore_50 : decode cX3_takesMore 50 = .ok (.goto 4, 3) := by decide +kernel
theorem dX3_takesMore_53 : decode cX3_takesMore 53 = .ok (.iconst 0, 1) := by decide +kernel
theorem dX3_takesMore_54 : decode cX3_takesMore 54 = .ok (.istore_n 2, 1) := by decide +kernel
theorem dX3_takesMore_55 : decode cX3_takesMore 55 = .ok (.iinc 3 1, 3) := by decide +kernel
theorem dX3_takesMore_58 : decode cX3_takesMore 58 = .ok (.goto (-34), 3) := by decide +kernel
theorem dX3_takesMore_61 : decode cX3_takesMore 61 = .ok (.iload_n 2, 1) := by decide +kernel
theorem dX3_takesMore_62 : decode cX3_takesMore 62 = .ok (.ireturn, 1) := by decide +kernel
theorem dX3_isFull_0 : decode cX3_isFull 0 = .ok (.aload_n 0, 1) := by decide +kernel
theorem dX3_isFull_1 : decode cX3_isFull 1 = .ok (.aload_n 0, 1) := by decide +kernel
theorem dX3_isFull_2 : decode cX3_isFull 2 = .ok (.getfield 54, 3) := by decide +kernel
theorem dX3_isFull_5 : decode cX3_isFull 5 = .ok (.invokevirtual 57, 3) := by decide +kernel
theorem dX3_isFull_8 : decode cX3_isFull 8 = .ok (.ifCond .ne 23, 3) := by decide +kernel
theorem dX3_isFull_11 : decode cX3_isFull 11 = .ok (.aload_n 0, 1) := by decide +kernel
theorem dX3_isFull_12 : decode cX3_isFull 12 = .ok (.aload_n 0, 1) := by decide +kernel
theorem dX3_isFull_13 : decode cX3_isFull 13 = .ok (.getfield 54, 3) := by decide +kernel
theorem dX3_isFull_16 : decode cX3_isFull 16 = .ok (.iconst 1, 1) := by decide +kernel
theorem dX3_isFull_17 : decode cX3_isFull 17 = .ok (.iadd, 1) := by decide +kernel
theorem dX3_isFull_18 : decode cX3_isFull 18 = .ok (.bipush 6, 2) := by decide +kernel
theorem dX3_isFull_20 : decode cX3_isFull 20 = .ok (.irem, 1) := by decide +kernel
theorem dX3_isFull_21 : decode cX3_isFull 21 = .ok (.invokevirtual 60, 3) := by decide +kernel
theorem dX3_isFull_24 : decode cX3_isFull 24 = .ok (.ifCond .ne 7, 3) := by decide +kernel
theorem dX3_isFull_27 : decode cX3_isFull 27 = .ok (.iconst 1, 1) := by decide +kernel
theorem dX3_isFull_28 : decode cX3_isFull 28 = .ok (.goto 4, 3) := by decide +kernel
theorem dX3_isFull_31 : decode cX3_isFull 31 = .ok (.iconst 0, 1) := by decide +kernel
theorem dX3_isFull_32 : decode cX3_isFull 32 = .ok (.ireturn, 1) := by decide +kernel
theorem dX3_writeGuard_0 : decode cX3_writeGuard 0 = .ok (.aload_n 0, 1) := by decide +kernel
theorem dX3_writeGuard_1 : decode cX3_writeGuard 1 = .ok (.getfield 54, 3) := by decide +kernel
theorem dX3_writeGuard_4 : decode cX3_writeGuard 4 = .ok (.istore_n 1, 1) := by decide +kernel
theorem dX3_writeGuard_5 : decode cX3_writeGuard 5 = .ok (.aload_n 0, 1) := by decide +kernel
theorem dX3_writeGuard_6 : decode cX3_writeGuard 6 = .ok (.getfield 16, 3) := by decide +kernel
theorem dX3_writeGuard_9 : decode cX3_writeGuard 9 = .ok (.iload_n 1, 1) := by decide +kernel
theorem dX3_writeGuard_10 : decode cX3_writeGuard 10 = .ok (.iconst 0, 1) := by decide +kernel
theorem dX3_writeGuard_11 : decode cX3_writeGuard 11 = .ok (.iastore, 1) := by decide +kernel
theorem dX3_writeGuard_12 : decode cX3_writeGuard 12 = .ok (.aload_n 0, 1) := by decide +kernel
theorem dX3_writeGuard_13 : decode cX3_writeGuard 13 = .ok (.invokevirtual 63, 3) := by decide +kernel
theorem dX3_writeGuard_16 : decode cX3_writeGuard 16 = .ok (.ifCond .eq 12, 3) := by decide +kernel
theorem dX3_writeGuard_19 : decode cX3_writeGuard 19 = .ok (.aload_n 0, 1) := by decide +kernel
theorem dX3_writeGuard_20 : decode cX3_writeGuard 20 = .ok (.getfield 16, 3) := by decide +kernel
theorem dX3_writeGuard_23 : decode cX3_writeGuard 23 = .ok (.iload_n 1, 1) := by decide +kernel
theorem dX3_writeGuard_24 : decode cX3_writeGuard 24 = .ok (.iconst 2, 1) := by decide +kernel
theorem dX3_writeGuard_25 : decode cX3_writeGuard 25 = .ok (.iastore, 1) := by decide +kernel
theorem dX3_writeGuard_26 : decode cX3_writeGuard 26 = .ok (.iconst 0, 1) := by decide +kernel
theorem dX3_writeGuard_27 : decode cX3_writeGuard 27 = .ok (.ireturn, 1) := by decide +kernel
theorem dX3_writeGuard_28 : decode cX3_writeGuard 28 = .ok (.iconst 0, 1) := by decide +kernel
theorem dX3_writeGuard_29 : decode cX3_writeGuard 29 = .ok (.istore_n 2, 1) := by decide +kernel
theorem dX3_writeGuard_30 : decode cX3_writeGuard 30 = .ok (.iload_n 2, 1) := by decide +kernel
theorem dX3_writeGuard_31 : decode cX3_writeGuard 31 = .ok (.bipush 17, 2) := by decide +kernel
theorem dX3_writeGuard_33 : decode cX3_writeGuard 33 = .ok (.if_icmp .ge 21, 3) := by decide +kernel
theorem dX3_writeGuard_36 : decode cX3_writeGuard 36 = .ok (.aload_n 0, 1) := by decide +kernel
theorem dX3_writeGuard_37 : decode cX3_writeGuard 37 = .ok (.getfield 19, 3) := by decide +kernel
theorem dX3_writeGuard_40 : decode cX3_writeGuard 40 = .ok (.bipush 17, 2) := by decide +kernel
theorem dX3_writeGuard_42 : decode cX3_writeGuard 42 = .ok (.iload_n 1, 1) := by decide +kernel
theorem dX3_writeGuard_43 : decode cX3_writeGuard 43 = .ok (.imul, 1) := by decide +kernel
theorem dX3_writeGuard_44 : decode cX3_writeGuard 44 = .ok (.iload_n 2, 1) := by decide +kernel
theorem dX3_writeGuard_45 : decode cX3_writeGuard 45 = .ok (.iadd, 1) := by decide +kernel
theorem dX3_writeGuard_46 : decode cX3_writeGuard 46 = .ok (.iconst 0, 1) := by decide +kernel
theorem dX3_writeGuard_47 : decode cX3_writeGuard 47 = .ok (.iastore, 1) := by decide +kernel
theorem dX3_writeGuard_48 : decode cX3_writeGuard 48 = .ok (.iinc 2 1, 3) := by decide +kernel
theorem dX3_writeGuard_51 : decode cX3_writeGuard 51 = .ok (.goto (-21), 3) := by decide +kernel
theorem dX3_writeGuard_54 : decode cX3_writeGuard 54 = .ok (.iconst 0, 1) := by decide +kernel
theorem dX3_writeGuard_55 : decode cX3_writeGuard 55 = .ok (.istore_n 2, 1) := by decide +kernel
theorem dX3_writeGuard_56 : decode cX3_writeGuard 56 = .ok (.iload_n 2, 1) := by decide +kernel
theorem dX3_writeGuard_57 : decode cX3_writeGuard 57 = .ok (.bipush 8, 2) := by decide +kernel
theorem dX3_writeGuard_59 : decode cX3_writeGuard 59 = .ok (.if_icmp .ge 90, 3) := by decide +kernel
theorem dX3_writeGuard_62 : decode cX3_writeGuard 62 = .ok (.bipush 16, 2) := by decide +kernel
theorem dX3_writeGuard_64 : decode cX3_writeGuard 64 = .ok (.iload_n 1, 1) := by decide +kernel
theorem dX3_writeGuard_65 : decode cX3_writeGuard 65 = .ok (.imul, 1) := by decide +kernel
theorem dX3_writeGuard_66 : decode cX3_writeGuard 66 = .ok (.iload_n 2, 1) := by decide +kernel
theorem dX3_writeGuard_67 : decode cX3_writeGuard 67 = .ok (.iadd, 1) := by decide +kernel
theorem dX3_writeGuard_68 : decode cX3_writeGuard 68 = .ok (.istore_n 3, 1) := by decide +kernel
theorem dX3_writeGuard_69 : decode cX3_writeGuard 69 = .ok (.aload_n 0, 1) := by decide +kernel
theorem dX3_writeGuard_70 : decode cX3_writeGuard 70 = .ok (.getfield 7, 3) := by decide +kernel
theorem dX3_writeGuard_73 : decode cX3_writeGuard 73 = .ok (.iload_n 3, 1) := by decide +kernel
theorem dX3_writeGuard_74 : decode cX3_writeGuard 74 = .ok (.iaload, 1) := by decide +kernel
theorem dX3_writeGuard_75 : decode cX3_writeGuard 75 = .ok (.iconst 1, 1) := by decide +kernel
theorem dX3_writeGuard_76 : decode cX3_writeGuard 76 = .ok (.if_icmp .eq 6, 3) := by decide +kernel
theorem dX3_writeGuard_79 : decode cX3_writeGuard 79 = .ok (.goto 64, 3) := by decide +kernel
theorem dX3_writeGuard_82 : decode cX3_writeGuard 82 = .ok (.iconst 0, 1) := by decide +kernel
theorem dX3_writeGuard_83 : decode cX3_writeGuard 83 = .ok (.istore 4, 2) := by decide +kernel
theorem dX3_writeGuard_85 : decode cX3_writeGuard 85 = .ok (.iload 4, 2) := by decide +kernel
theorem dX3_writeGuard_87 : decode cX3_writeGuard 87 = .ok (.bipush 16, 2) := by decide +kernel
theorem dX3_writeGuard_89 : decode cX3_writeGuard 89 = .ok (.if_icmp .ge 36, 3) := by decide +kernel
theorem dX3_writeGuard_92 : decode cX3_writeGuard 92 = .ok (.aload_n 0, 1) := by decide +kernel
theorem dX3_writeGuard_93 : decode cX3_writeGuard 93 = .ok (.getfield 19, 3) := by decide +kernel
theorem dX3_writeGuard_96 : decode cX3_writeGuard 96 = .ok (.bipush 17, 2) := by decide +kernel
theorem dX3_writeGuard_98 : decode cX3_writeGuard 98 = .ok (.iload_n 1, 1) := by decide +kernel
theorem dX3_writeGuard_99 : decode cX3_writeGuard 99 = .ok (.imul, 1) := by decide +kernel
theorem dX3_writeGuard_100 : decode cX3_writeGuard 100 = .ok (.iload 4, 2) := by decide +kernel
theorem dX3_writeGuard_102 : decode cX3_writeGuard 102 = .ok (.iadd, 1) := by decide +kernel
theorem dX3_writeGuard_103 : decode cX3_writeGuard 103 = .ok (.dup2, 1) := by decide +kernel
theorem dX3_writeGuard_104 : decode cX3_writeGuard 104 = .ok (.iaload, 1) := by decide +kernel
theorem dX3_writeGuard_105 : decode cX3_writeGuard 105 = .ok (.aload_n 0, 1) := by decide +kernel
theorem dX3_writeGuard_106 : decode cX3_writeGuard 106 = .ok (.getfield 13, 3) := by decide +kernel
theorem dX3_writeGuard_109 : decode cX3_writeGuard 109 = .ok (.bipush 16, 2) := by decide +kernel
theorem dX3_writeGuard_111 : decode cX3_writeGuard 111 = .ok (.iload_n 3, 1) := by decide +kernel
theorem dX3_writeGuard_112 : decode cX3_writeGuard 112 = .ok (.imul, 1) := by decide +kernel
theorem dX3_writeGuard_113 : decode cX3_writeGuard 113 = .ok (.iload 4, 2) := by decide +kernel
theorem dX3_writeGuard_115 : decode cX3_writeGuard 115 = .ok (.iadd, 1) := by decide +kernel
theorem dX3_writeGuard_116 : decode cX3_writeGuard 116 = .ok (.iaload, 1) := by decide +kernel
theorem dX3_writeGuard_117 : decode cX3_writeGuard 117 = .ok (.ixor, 1) := by decide +kernel
theorem dX3_writeGuard_118 : decode cX3_writeGuard 118 = .ok (.iastore, 1) := by decide +kernel
theorem dX3_writeGuard_119 : decode cX3_writeGuard 119 = .ok (.iinc 4 1, 3) := by decide +kernel
theorem dX3_writeGuard_122 : decode cX3_writeGuard 122 = .ok (.goto (-37), 3) := by decide +kernel
theorem dX3_writeGuard_125 : decode cX3_writeGuard 125 = .ok (.aload_n 0, 1) := by decide +kernel
theorem dX3_writeGuard_126 : decode cX3_writeGuard 126 = .ok (.getfield 19, 3) := by decide +kernel
theorem dX3_writeGuard_129 : decode cX3_writeGuard 129 = .ok (.bipush 17, 2) := by decide +kernel
theorem dX3_writeGuard_131 : decode cX3_writeGuard 131 = .ok (.iload_n 1, 1) := by decide +kernel
theorem dX3_writeGuard_132 : decode cX3_writeGuard 132 = .ok (.imul, 1) := by decide +kernel
theorem dX3_writeGuard_133 : decode cX3_writeGuard 133 = .ok (.bipush 16, 2) := by decide +kernel
theorem dX3_writeGuard_135 : decode cX3_writeGuard 135 = .ok (.iadd, 1) := by decide +kernel
theorem dX3_writeGuard_136 : decode cX3_writeGuard 136 = .ok (.dup2, 1) := by decide +kernel
theorem dX3_writeGuard_137 : decode cX3_writeGuard 137 = .ok (.iaload, 1) := by decide +kernel
theorem dX3_writeGuard_138 : decode cX3_writeGuard 138 = .ok (.iconst 1, 1) := by decide +kernel
theorem dX3_writeGuard_139 : decode cX3_writeGuard 139 = .ok (.iload_n 2, 1) := by decide +kernel
theorem dX3_writeGuard_140 : decode cX3_writeGuard 140 = .ok (.ishl, 1) := by decide +kernel
theorem dX3_writeGuard_141 : decode cX3_writeGuard 141 = .ok (.ior, 1) := by decide +kernel
theorem dX3_writeGuard_142 : decode cX3_writeGuard 142 = .ok (.iastore, 1) := by decide +kernel
theorem dX3_writeGuard_143 : decode cX3_writeGuard 143 = .ok (.iinc 2 1, 3) := by decide +kernel
theorem dX3_writeGuard_146 : decode cX3_writeGuard 146 = .ok (.goto (-90), 3) := by decide +kernel
theorem dX3_writeGuard_149 : decode cX3_writeGuard 149 = .ok (.aload_n 0, 1) := by decide +kernel
theorem dX3_writeGuard_150 : decode cX3_writeGuard 150 = .ok (.getfield 16, 3) := by decide +kernel
theorem dX3_writeGuard_153 : decode cX3_writeGuard 153 = .ok (.iload_n 1, 1) := by decide +kernel
theorem dX3_writeGuard_154 : decode cX3_writeGuard 154 = .ok (.iconst 1, 1) := by decide +kernel
theorem dX3_writeGuard_155 : decode cX3_writeGuard 155 = .ok (.iastore, 1) := by decide +kernel
theorem dX3_writeGuard_156 : decode cX3_writeGuard 156 = .ok (.iconst 1, 1) := by decide +kernel
theorem dX3_writeGuard_157 : decode cX3_writeGuard 157 = .ok (.ireturn, 1) := by decide +kernel
theorem dX3_empty_0 : decode cX3_empty 0 = .ok (.aload_n 0, 1) := by decide +kernel
theorem dX3_empty_1 : decode cX3_empty 1 = .ok (.iconst 0, 1) := by decide +kernel
theorem dX3_empty_2 : decode cX3_empty 2 = .ok (.putfield 67, 3) := by decide +kernel
theorem dX3_empty_5 : decode cX3_empty 5 = .ok (.aload_n 0, 1) := by decide +kernel
theorem dX3_empty_6 : decode cX3_empty 6 = .ok (.iconst 3, 1) := by decide +kernel
theorem dX3_empty_7 : decode cX3_empty 7 = .ok (.putfield 29, 3) := by decide +kernel
theorem dX3_empty_10 : decode cX3_empty 10 = .ok (.iconst 0, 1) := by decide +kernel
theorem dX3_empty_11 : decode cX3_empty 11 = .ok (.istore_n 1, 1) := by decide +kernel
theorem dX3_empty_12 : decode cX3_empty 12 = .ok (.iload_n 1, 1) := by decide +kernel
theorem dX3_empty_13 : decode cX3_empty 13 = .ok (.bipush 16, 2) := by decide +kernel
theorem dX3_empty_15 : decode cX3_empty 15 = .ok (.if_icmp .ge 16, 3) := by decide +kernel
theorem dX3_empty_18 : decode cX3_empty 18 = .ok (.aload_n 0, 1) := by decide +kernel
theorem dX3_empty_19 : decode cX3_empty 19 = .ok (.getfield 33, 3) := by decide +kernel
theorem dX3_empty_22 : decode cX3_empty 22 = .ok (.iload_n 1, 1) := by decide +kernel
theorem dX3_empty_23 : decode cX3_empty 23 = .ok (.iconst 0, 1) := by decide +kernel
theorem dX3_empty_24 : decode cX3_empty 24 = .ok (.iastore, 1) := by decide +kernel
theorem dX3_empty_25 : decode cX3_empty 25 = .ok (.iinc 1 1, 3) := by decide +kernel
theorem dX3_empty_28 : decode cX3_empty 28 = .ok (.goto (-16), 3) := by decide +kernel
theorem dX3_empty_31 : decode cX3_empty 31 = .ok (.return_, 1) := by decide +kernel
theorem dX3_flush_0 : decode cX3_flush 0 = .ok (.aload_n 0, 1) := by decide +kernel
theorem dX3_flush_1 : decode cX3_flush 1 = .ok (.aload_n 0, 1) := by decide +kernel
theorem dX3_flush_2 : decode cX3_flush 2 = .ok (.getfield 54, 3) := by decide +kernel
theorem dX3_flush_5 : decode cX3_flush 5 = .ok (.invokevirtual 57, 3) := by decide +kernel
theorem dX3_flush_8 : decode cX3_flush 8 = .ok (.ifCond .ne 16, 3) := by decide +kernel
theorem dX3_flush_11 : decode cX3_flush 11 = .ok (.aload_n 0, 1) := by decide +kernel
theorem dX3_flush_12 : decode cX3_flush 12 = .ok (.aload_n 0, 1) := by decide +kernel
theorem dX3_flush_13 : decode cX3_flush 13 = .ok (.getfield 54, 3) := by decide +kernel
theorem dX3_flush_16 : decode cX3_flush 16 = .ok (.iconst 1, 1) := by decide +kernel
theorem dX3_flush_17 : decode cX3_flush 17 = .ok (.iadd, 1) := by decide +kernel
theorem dX3_flush_18 : decode cX3_flush 18 = .ok (.bipush 6, 2) := by decide +kernel
theorem dX3_flush_20 : decode cX3_flush 20 = .ok (.irem, 1) := by decide +kernel
theorem dX3_flush_21 : decode cX3_flush 21 = .ok (.putfield 54, 3) := by decide +kernel
theorem dX3_flush_24 : decode cX3_flush 24 = .ok (.bipush 16, 2) := by decide +kernel
theorem dX3_flush_26 : decode cX3_flush 26 = .ok (.aload_n 0, 1) := by decide +kernel
theorem dX3_flush_27 : decode cX3_flush 27 = .ok (.getfield 54, 3) := by decide +kernel
theorem dX3_flush_30 : decode cX3_flush 30 = .ok (.imul, 1) := by decide +kernel
theorem dX3_flush_31 : decode cX3_flush 31 = .ok (.aload_n 0, 1) := by decide +kernel
theorem dX3_flush_32 : decode cX3_flush 32 = .ok (.aload_n 0, 1) := by decide +kernel
theorem dX3_flush_33 : decode cX3_flush 33 = .ok (.getfield 54, 3) := by decide +kernel
theorem dX3_flush_36 : decode cX3_flush 36 = .ok (.invokevirtual 50, 3) := by decide +kernel
theorem dX3_flush_39 : decode cX3_flush 39 = .ok (.iadd, 1) := by decide +kernel
theorem dX3_flush_40 : decode cX3_flush 40 = .ok (.istore_n 1, 1) := by decide +kernel
theorem dX3_flush_41 : decode cX3_flush 41 = .ok (.iload_n 1, 1) := by decide +kernel
theorem dX3_flush_42 : decode cX3_flush 42 = .ok (.bipush 16, 2) := by decide +kernel
theorem dX3_flush_44 : decode cX3_flush 44 = .ok (.irem, 1) := by decide +kernel
theorem dX3_flush_45 : decode cX3_flush 45 = .ok (.bipush 8, 2) := by decide +kernel
theorem dX3_flush_47 : decode cX3_flush 47 = .ok (.if_icmp .ne 12, 3) := by decide +kernel
theorem dX3_flush_50 : decode cX3_flush 50 = .ok (.aload_n 0, 1) := by decide +kernel
theorem dX3_flush_51 : decode cX3_flush 51 = .ok (.invokevirtual 70, 3) := by decide +kernel
theorem dX3_flush_54 : decode cX3_flush 54 = .ok (.ifCond .ne 5, 3) := by decide +kernel
theorem dX3_flush_57 : decode cX3_flush 57 = .ok (.iconst 0, 1) := by decide +kernel
theorem dX3_flush_58 : decode cX3_flush 58 = .ok (.ireturn, 1) := by decide +kernel
theorem dX3_flush_59 : decode cX3_flush 59 = .ok (.aload_n 0, 1) := by decide +kernel
theorem dX3_flush_60 : decode cX3_flush 60 = .ok (.invokevirtual 63, 3) := by decide +kernel
theorem dX3_flush_63 : decode cX3_flush 63 = .ok (.ifCond .eq 31, 3) := by decide +kernel
theorem dX3_flush_66 : decode cX3_flush 66 = .ok (.aload_n 0, 1) := by decide +kernel
theorem dX3_flush_67 : decode cX3_flush 67 = .ok (.getfield 7, 3) := by decide +kernel
theorem dX3_flush_70 : decode cX3_flush 70 = .ok (.iload_n 1, 1) := by decide +kernel
theorem dX3_flush_71 : decode cX3_flush 71 = .ok (.iconst 2, 1) := by decide +kernel
theorem dX3_flush_72 : decode cX3_flush 72 = .ok (.iastore, 1) := by decide +kernel
theorem dX3_flush_73 : decode cX3_flush 73 = .ok (.iload_n 1, 1) := by decide +kernel
theorem dX3_flush_74 : decode cX3_flush 74 = .ok (.bipush 16, 2) := by decide +kernel
theorem dX3_flush_76 : decode cX3_flush 76 = .ok (.irem, 1) := by decide +kernel
theorem dX3_flush_77 : decode cX3_flush 77 = .ok (.bipush 7, 2) := by decide +kernel
theorem dX3_flush_79 : decode cX3_flush 79 = .ok (.if_icmp .le 13, 3) := by decide +kernel
theorem dX3_flush_82 : decode cX3_flush 82 = .ok (.aload_n 0, 1) := by decide +kernel
theorem dX3_flush_83 : decode cX3_flush 83 = .ok (.getfield 7, 3) := by decide +kernel
theorem dX3_flush_86 : decode cX3_flush 86 = .ok (.iload_n 1, 1) := by decide +kernel
theorem dX3_flush_87 : decode cX3_flush 87 = .ok (.bipush 8, 2) := by decide +kernel
theorem dX3_flush_89 : decode cX3_flush 89 = .ok (.isub, 1) := by decide +kernel
theorem dX3_flush_90 : decode cX3_flush 90 = .ok (.iconst 2, 1) := by decide +kernel
theorem dX3_flush_91 : decode cX3_flush 91 = .ok (.iastore, 1) := by decide +kernel
theorem dX3_flush_92 : decode cX3_flush 92 = .ok (.iconst 0, 1) := by decide +kernel
theorem dX3_flush_93 : decode cX3_flush 93 = .ok (.ireturn, 1) := by decide +kernel
theorem dX3_flush_94 : decode cX3_flush 94 = .ok (.aload_n 0, 1) := by decide +kernel
theorem dX3_flush_95 : decode cX3_flush 95 = .ok (.getfield 73, 3) := by decide +kernel
theorem dX3_flush_98 : decode cX3_flush 98 = .ok (.aload_n 0, 1) := by decide +kernel
theorem dX3_flush_99 : decode cX3_flush 99 = .ok (.getfield 67, 3) := by decide +kernel
theorem dX3_flush_102 : decode cX3_flush 102 = .ok (.isub, 1) := by decide +kernel
theorem dX3_flush_103 : decode cX3_flush 103 = .ok (.istore_n 2, 1) := by decide +kernel
theorem dX3_flush_104 : decode cX3_flush 104 = .ok (.aload_n 0, 1) := by decide +kernel
theorem dX3_flush_105 : decode cX3_flush 105 = .ok (.getfield 33, 3) := by decide +kernel
theorem dX3_flush_108 : decode cX3_flush 108 = .ok (.iconst 0, 1) := by decide +kernel
theorem dX3_flush_109 : decode cX3_flush 109 = .ok (.aload_n 0, 1) := by decide +kernel
theorem dX3_flush_110 : decode cX3_flush 110 = .ok (.getfield 67, 3) := by decide +kernel
theorem dX3_flush_113 : decode cX3_flush 113 = .ok (.iastore, 1) := by decide +kernel
theorem dX3_flush_114 : decode cX3_flush 114 = .ok (.aload_n 0, 1) := by decide +kernel
theorem dX3_flush_115 : decode cX3_flush 115 = .ok (.getfield 33, 3) := by decide +kernel
theorem dX3_flush_118 : decode cX3_flush 118 = .ok (.iconst 1, 1) := by decide +kernel
theorem dX3_flush_119 : decode cX3_flush 119 = .ok (.iload_n 2, 1) := by decide +kernel
theorem dX3_flush_120 : decode cX3_flush 120 = .ok (.bipush 8, 2) := by decide +kernel
theorem dX3_flush_122 : decode cX3_flush 122 = .ok (.ishr, 1) := by decide +kernel
theorem dX3_flush_123 : decode cX3_flush 123 = .ok (.sipush 255, 3) := by decide +kernel
theorem dX3_flush_126 : decode cX3_flush 126 = .ok (.iand, 1) := by decide +kernel
theorem dX3_flush_127 : decode cX3_flush 127 = .ok (.iastore, 1) := by decide +kernel
theorem dX3_flush_128 : decode cX3_flush 128 = .ok (.aload_n 0, 1) := by decide +kernel
theorem dX3_flush_129 : decode cX3_flush 129 = .ok (.getfield 33, 3) := by decide +kernel
theorem dX3_flush_132 : decode cX3_flush 132 = .ok (.iconst 2, 1) := by decide +kernel
theorem dX3_flush_133 : decode cX3_flush 133 = .ok (.iload_n 2, 1) := by decide +kernel
theorem dX3_flush_134 : decode cX3_flush 134 = .ok (.sipush 255, 3) := by decide +kernel
theorem dX3_flush_137 : decode cX3_flush 137 = .ok (.iand, 1) := by decide +kernel
theorem dX3_flush_138 : decode cX3_flush 138 = .ok (.iastore, 1) := by decide +kernel
theorem dX3_flush_139 : decode cX3_flush 139 = .ok (.iconst 0, 1) := by decide +kernel
theorem dX3_flush_140 : decode cX3_flush 140 = .ok (.istore_n 3, 1) := by decide +kernel
theorem dX3_flush_141 : decode cX3_flush 141 = .ok (.iload_n 3, 1) := by decide +kernel
theorem dX3_flush_142 : decode cX3_flush 142 = .ok (.bipush 16, 2) := by decide +kernel
theorem dX3_flush_144 : decode cX3_flush 144 = .ok (.if_icmp .ge 26, 3) := by decide +kernel
theorem dX3_flush_147 : decode cX3_flush 147 = .ok (.aload_n 0, 1) := by decide +kernel
theorem dX3_flush_148 : decode cX3_flush 148 = .ok (.getfield 13, 3) := by decide +kernel
theorem dX3_flush_151 : decode cX3_flush 151 = .ok (.bipush 16, 2) := by decide +kernel
theorem dX3_flush_153 : decode cX3_flush 153 = .ok (.iload_n 1, 1) := by decide +kernel
theorem dX3_flush_154 : decode cX3_flush 154 = .ok (.imul, 1) := by decide +kernel
theorem dX3_flush_155 : decode cX3_flush 155 = .ok (.iload_n 3, 1) := by decide +kernel
theorem dX3_flush_156 : decode cX3_flush 156 = .ok (.iadd, 1) := by decide +kernel
theorem dX3_flush_157 : decode cX3_flush 157 = .ok (.aload_n 0, 1) := by decide +kernel
theorem dX3_flush_158 : decode cX3_flush 158 = .ok (.getfield 33, 3) := by decide +kernel
theorem dX3_flush_161 : decode cX3_flush 161 = .ok (.iload_n 3, 1) := by decide +kernel
theorem dX3_flush_162 : decode cX3_flush 162 = .ok (.iaload, 1) := by decide +kernel
theorem dX3_flush_163 : decode cX3_flush 163 = .ok (.iastore, 1) := by decide +kernel
theorem dX3_flush_164 : decode cX3_flush 164 = .ok (.iinc 3 1, 3) := by decide +kernel
theorem dX3_flush_167 : decode cX3_flush 167 = .ok (.goto (-26), 3) := by decide +kernel
theorem dX3_flush_170 : decode cX3_flush 170 = .ok (.aload_n 0, 1) := by decide +kernel
theorem dX3_flush_171 : decode cX3_flush 171 = .ok (.getfield 7, 3) := by decide +kernel
theorem dX3_flush_174 : decode cX3_flush 174 = .ok (.iload_n 1, 1) := by decide +kernel
theorem dX3_flush_175 : decode cX3_flush 175 = .ok (.iconst 1, 1) := by decide +kernel
theorem dX3_flush_176 : decode cX3_flush 176 = .ok (.iastore, 1) := by decide +kernel
theorem dX3_flush_177 : decode cX3_flush 177 = .ok (.aload_n 0, 1) := by decide +kernel
theorem dX3_flush_178 : decode cX3_flush 178 = .ok (.invokevirtual 76, 3) := by decide +kernel
theorem dX3_flush_181 : decode cX3_flush 181 = .ok (.iconst 1, 1) := by decide +kernel
theorem dX3_flush_182 : decode cX3_flush 182 = .ok (.ireturn, 1) := by decide +kernel
theorem dX3_append_0 : decode cX3_append 0 = .ok (.aload_n 0, 1) := by decide +kernel
theorem dX3_append_1 : decode cX3_append 1 = .ok (.aload_n 0, 1) := by decide +kernel
theorem dX3_append_2 : decode cX3_append 2 = .ok (.getfield 25, 3) := by decide +kernel
theorem dX3_append_5 : decode cX3_append 5 = .ok (.ifCond .ne 7, 3) := by decide +kernel
theorem dX3_append_8 : decode cX3_append 8 = .ok (.iconst 1, 1) := by decide +kernel
theorem dX3_append_9 : decode cX3_append 9 = .ok (.goto 19, 3) := by decide +kernel
theorem dX3_append_12 : decode cX3_append 12 = .ok (.iload_n 1, 1) := by decide +kernel
theorem dX3_append_13 : decode cX3_append 13 = .ok (.iconst 1, 1) := by decide +kernel
theorem dX3_append_14 : decode cX3_append 14 = .ok (.if_icmp .lt 9, 3) := by decide +kernel
theorem dX3_append_17 : decode cX3_append 17 = .ok (.iload_n 1, 1) := by decide +kernel
theorem dX3_append_18 : decode cX3_append 18 = .ok (.bipush 6, 2) := by decide +kernel
theorem dX3_append_20 : decode cX3_append 20 = .ok (.if_icmp .le 7, 3) := by decide +kernel
theorem dX3_append_23 : decode cX3_append 23 = .ok (.iconst 2, 1) := by decide +kernel
theorem dX3_append_24 : decode cX3_append 24 = .ok (.goto 4, 3) := by decide +kernel
theorem dX3_append_27 : decode cX3_append 27 = .ok (.iconst 0, 1) := by decide +kernel
theorem dX3_append_28 : decode cX3_append 28 = .ok (.putfield 36, 3) := by decide +kernel
theorem dX3_append_31 : decode cX3_append 31 = .ok (.aload_n 0, 1) := by decide +kernel
theorem dX3_append_32 : decode cX3_append 32 = .ok (.getfield 36, 3) := by decide +kernel
theorem dX3_append_35 : decode cX3_append 35 = .ok (.ifCond .eq 5, 3) := by decide +kernel
theorem dX3_append_38 : decode cX3_append 38 = .ok (.iconst 0, 1) := by decide +kernel
theorem dX3_append_39 : decode cX3_append 39 = .ok (.ireturn, 1) := by decide +kernel
theorem dX3_append_40 : decode cX3_append 40 = .ok (.aload_n 0, 1) := by decide +kernel
theorem dX3_append_41 : decode cX3_append 41 = .ok (.getfield 29, 3) := by decide +kernel
theorem dX3_append_44 : decode cX3_append 44 = .ok (.iconst 1, 1) := by decide +kernel
theorem dX3_append_45 : decode cX3_append 45 = .ok (.iadd, 1) := by decide +kernel
theorem dX3_append_46 : decode cX3_append 46 = .ok (.iload_n 1, 1) := by decide +kernel
theorem dX3_append_47 : decode cX3_append 47 = .ok (.iadd, 1) := by decide +kernel
theorem dX3_append_48 : decode cX3_append 48 = .ok (.bipush 16, 2) := by decide +kernel
theorem dX3_append_50 : decode cX3_append 50 = .ok (.if_icmp .le 38, 3) := by decide +kernel
theorem dX3_append_53 : decode cX3_append 53 = .ok (.aload_n 0, 1) := by decide +kernel
theorem dX3_append_54 : decode cX3_append 54 = .ok (.aload_n 0, 1) := by decide +kernel
theorem dX3_append_55 : decode cX3_append 55 = .ok (.invokevirtual 79, 3) := by decide +kernel
theorem dX3_append_58 : decode cX3_append 58 = .ok (.ifCond .eq 7, 3) := by decide +kernel
theorem dX3_append_61 : decode cX3_append 61 = .ok (.iconst 3, 1) := by decide +kernel
theorem dX3_append_62 : decode cX3_append 62 = .ok (.goto 4, 3) := by decide +kernel
theorem dX3_append_65 : decode cX3_append 65 = .ok (.iconst 0, 1) := by decide +kernel
theorem dX3_append_66 : decode cX3_append 66 = .ok (.putfield 36, 3) := by decide +kernel
theorem dX3_append_69 : decode cX3_append 69 = .ok (.aload_n 0, 1) := by decide +kernel
theorem dX3_append_70 : decode cX3_append 70 = .ok (.getfield 36, 3) := by decide +kernel
theorem dX3_append_73 : decode cX3_append 73 = .ok (.ifCond .eq 5, 3) := by decide +kernel
theorem dX3_append_76 : decode cX3_append 76 = .ok (.iconst 0, 1) := by decide +kernel
theorem dX3_append_77 : decode cX3_append 77 = .ok (.ireturn, 1) := by decide +kernel
theorem dX3_append_78 : decode cX3_append 78 = .ok (.aload_n 0, 1) := by decide +kernel
theorem dX3_append_79 : decode cX3_append 79 = .ok (.invokevirtual 82, 3) := by decide +kernel
theorem dX3_append_82 : decode cX3_append 82 = .ok (.ifCond .ne 6, 3) := by decide +kernel
theorem dX3_append_85 : decode cX3_append 85 = .ok (.bipush (-2), 2) := by decide +kernel
theorem dX3_append_87 : decode cX3_append 87 = .ok (.ireturn, 1) := by decide +kernel
theorem dX3_append_88 : decode cX3_append 88 = .ok (.aload_n 0, 1) := by decide +kernel
theorem dX3_append_89 : decode cX3_append 89 = .ok (.getfield 33, 3) := by decide +kernel
theorem dX3_append_92 : decode cX3_append 92 = .ok (.aload_n 0, 1) := by decide +kernel
theorem dX3_append_93 : decode cX3_append 93 = .ok (.getfield 29, 3) := by decide +kernel
theorem dX3_append_96 : decode cX3_append 96 = .ok (.iload_n 1, 1) := by decide +kernel
theorem dX3_append_97 : decode cX3_append 97 = .ok (.iastore, 1) := by decide +kernel
theorem dX3_append_98 : decode cX3_append 98 = .ok (.iconst 0, 1) := by decide +kernel
theorem dX3_append_99 : decode cX3_append 99 = .ok (.istore 4, 2) := by decide +kernel
theorem dX3_append_101 : decode cX3_append 101 = .ok (.iload 4, 2) := by decide +kernel
theorem dX3_append_103 : decode cX3_append 103 = .ok (.iload_n 1, 1) := by decide +kernel
theorem dX3_append_104 : decode cX3_append 104 = .ok (.if_icmp .ge 35, 3) := by decide +kernel
theorem dX3_append_107 : decode cX3_append 107 = .ok (.aload_n 0, 1) := by decide +kernel
theorem dX3_append_108 : decode cX3_append 108 = .ok (.getfield 33, 3) := by decide +kernel
theorem dX3_append_111 : decode cX3_append 111 = .ok (.aload_n 0, 1) := by decide +kernel
theorem dX3_append_112 : decode cX3_append 112 = .ok (.getfield 29, 3) := by decide +kernel
theorem dX3_append_115 : decode cX3_append 115 = .ok (.iconst 1, 1) := by decide +kernel
theorem dX3_append_116 : decode cX3_append 116 = .ok (.iadd, 1) := by decide +kernel
theorem dX3_append_117 : decode cX3_append 117 = .ok (.iload 4, 2) := by decide +kernel
theorem dX3_append_119 : decode cX3_append 119 = .ok (.iadd, 1) := by decide +kernel
theorem dX3_append_120 : decode cX3_append 120 = .ok (.lload_n 2, 1) := by decide +kernel
theorem dX3_append_121 : decode cX3_append 121 = .ok (.bipush 8, 2) := by decide +kernel
theorem dX3_append_123 : decode cX3_append 123 = .ok (.iload 4, 2) := by decide +kernel
theorem dX3_append_125 : decode cX3_append 125 = .ok (.imul, 1) := by decide +kernel
theorem dX3_append_126 : decode cX3_append 126 = .ok (.lshr, 1) := by decide +kernel
theorem dX3_append_127 : decode cX3_append 127 = .ok (.ldc2_w 85, 3) := by decide +kernel
theorem dX3_append_130 : decode cX3_append 130 = .ok (.land, 1) := by decide +kernel
theorem dX3_append_131 : decode cX3_append 131 = .ok (.l2i, 1) := by decide +kernel
theorem dX3_append_132 : decode cX3_append 132 = .ok (.iastore, 1) := by decide +kernel
theorem dX3_append_133 : decode cX3_append 133 = .ok (.iinc 4 1, 3) := by decide +kernel
theorem dX3_append_136 : decode cX3_append 136 = .ok (.goto (-35), 3) := by decide +kernel
theorem dX3_append_139 : decode cX3_append 139 = .ok (.aload_n 0, 1) := by decide +kernel
theorem dX3_append_140 : decode cX3_append 140 = .ok (.dup, 1) := by decide +kernel
theorem dX3_append_141 : decode cX3_append 141 = .ok (.getfield 29, 3) := by decide +kernel
theorem dX3_append_144 : decode cX3_append 144 = .ok (.iload_n 1, 1) := by decide +kernel
theorem dX3_append_145 : decode cX3_append 145 = .ok (.iconst 1, 1) := by decide +kernel
theorem dX3_append_146 : decode cX3_append 146 = .ok (.iadd, 1) := by decide +kernel
theorem dX3_append_147 : decode cX3_append 147 = .ok (.iadd, 1) := by decide +kernel
theorem dX3_append_148 : decode cX3_append 148 = .ok (.putfield 29, 3) := by decide +kernel
theorem dX3_append_151 : decode cX3_append 151 = .ok (.aload_n 0, 1) := by decide +kernel
theorem dX3_append_152 : decode cX3_append 152 = .ok (.dup, 1) := by decide +kernel
theorem dX3_append_153 : decode cX3_append 153 = .ok (.getfield 67, 3) := by decide +kernel
theorem dX3_append_156 : decode cX3_append 156 = .ok (.iconst 1, 1) := by decide +kernel
theorem dX3_append_157 : decode cX3_append 157 = .ok (.iadd, 1) := by decide +kernel
theorem dX3_append_158 : decode cX3_append 158 = .ok (.putfield 67, 3) := by decide +kernel
theorem dX3_append_161 : decode cX3_append 161 = .ok (.aload_n 0, 1) := by decide +kernel
theorem dX3_append_162 : decode cX3_append 162 = .ok (.dup, 1) := by decide +kernel
theorem dX3_append_163 : decode cX3_append 163 = .ok (.getfield 73, 3) := by decide +kernel
theorem dX3_append_166 : decode cX3_append 166 = .ok (.iconst 1, 1) := by decide +kernel
theorem dX3_append_167 : decode cX3_append 167 = .ok (.iadd, 1) := by decide +kernel
theorem dX3_append_168 : decode cX3_append 168 = .ok (.putfield 73, 3) := by decide +kernel
theorem dX3_append_171 : decode cX3_append 171 = .ok (.aload_n 0, 1) := by decide +kernel
theorem dX3_append_172 : decode cX3_append 172 = .ok (.getfield 73, 3) := by decide +kernel
theorem dX3_append_175 : decode cX3_append 175 = .ok (.iconst 1, 1) := by decide +kernel
theorem dX3_append_176 : decode cX3_append 176 = .ok (.isub, 1) := by decide +kernel
theorem dX3_append_177 : decode cX3_append 177 = .ok (.ireturn, 1) := by decide +kernel
theorem dX3_sync_0 : decode cX3_sync 0 = .ok (.aload_n 0, 1) := by decide +kernel
theorem dX3_sync_1 : decode cX3_sync 1 = .ok (.aload_n 0, 1) := by decide +kernel
theorem dX3_sync_2 : decode cX3_sync 2 = .ok (.getfield 25, 3) := by decide +kernel
theorem dX3_sync_5 : decode cX3_sync 5 = .ok (.ifCond .ne 7, 3) := by decide +kernel
theorem dX3_sync_8 : decode cX3_sync 8 = .ok (.iconst 1, 1) := by decide +kernel
theorem dX3_sync_9 : decode cX3_sync 9 = .ok (.goto 22, 3) := by decide +kernel
theorem dX3_sync_12 : decode cX3_sync 12 = .ok (.aload_n 0, 1) := by decide +kernel
theorem dX3_sync_13 : decode cX3_sync 13 = .ok (.getfield 67, 3) := by decide +kernel
theorem dX3_sync_16 : decode cX3_sync 16 = .ok (.ifCond .le 14, 3) := by decide +kernel
theorem dX3_sync_19 : decode cX3_sync 19 = .ok (.aload_n 0, 1) := by decide +kernel
theorem dX3_sync_20 : decode cX3_sync 20 = .ok (.invokevirtual 79, 3) := by decide +kernel
theorem dX3_sync_23 : decode cX3_sync 23 = .ok (.ifCond .eq 7, 3) := by decide +kernel
theorem dX3_sync_26 : decode cX3_sync 26 = .ok (.iconst 2, 1) := by decide +kernel
theorem dX3_sync_27 : decode cX3_sync 27 = .ok (.goto 4, 3) := by decide +kernel
theorem dX3_sync_30 : decode cX3_sync 30 = .ok (.iconst 0, 1) := by decide +kernel
theorem dX3_sync_31 : decode cX3_sync 31 = .ok (.putfield 36, 3) := by decide +kernel
theorem dX3_sync_34 : decode cX3_sync 34 = .ok (.aload_n 0, 1) := by decide +kernel
theorem dX3_sync_35 : decode cX3_sync 35 = .ok (.getfield 36, 3) := by decide +kernel
theorem dX3_sync_38 : decode cX3_sync 38 = .ok (.ifCond .eq 5, 3) := by decide +kernel
theorem dX3_sync_41 : decode cX3_sync 41 = .ok (.iconst 0, 1) := by decide +kernel
theorem dX3_sync_42 : decode cX3_sync 42 = .ok (.ireturn, 1) := by decide +kernel
theorem dX3_sync_43 : decode cX3_sync 43 = .ok (.aload_n 0, 1) := by decide +kernel
theorem dX3_sync_44 : decode cX3_sync 44 = .ok (.getfield 67, 3) := by decide +kernel
theorem dX3_sync_47 : decode cX3_sync 47 = .ok (.ifCond .le 13, 3) := by decide +kernel
theorem dX3_sync_50 : decode cX3_sync 50 = .ok (.aload_n 0, 1) := by decide +kernel
theorem dX3_sync_51 : decode cX3_sync 51 = .ok (.invokevirtual 82, 3) := by decide +kernel
theorem dX3_sync_54 : decode cX3_sync 54 = .ok (.ifCond .ne 6, 3) := by decide +kernel
theorem dX3_sync_57 : decode cX3_sync 57 = .ok (.bipush (-2), 2) := by decide +kernel
theorem dX3_sync_59 : decode cX3_sync 59 = .ok (.ireturn, 1) := by decide +kernel
theorem dX3_sync_60 : decode cX3_sync 60 = .ok (.aload_n 0, 1) := by decide +kernel
theorem dX3_sync_61 : decode cX3_sync 61 = .ok (.getfield 73, 3) := by decide +kernel
theorem dX3_sync_64 : decode cX3_sync 64 = .ok (.ireturn, 1) := by decide +kernel
theorem dX3_cutAfter_0 : decode cX3_cutAfter 0 = .ok (.aload_n 0, 1) := by decide +kernel
theorem dX3_cutAfter_1 : decode cX3_cutAfter 1 = .ok (.iload_n 1, 1) := by decide +kernel
theorem dX3_cutAfter_2 : decode cX3_cutAfter 2 = .ok (.ifCond .lt 9, 3) := by decide +kernel
theorem dX3_cutAfter_5 : decode cX3_cutAfter 5 = .ok (.iload_n 1, 1) := by decide +kernel
theorem dX3_cutAfter_6 : decode cX3_cutAfter 6 = .ok (.bipush 60, 2) := by decide +kernel
theorem dX3_cutAfter_8 : decode cX3_cutAfter 8 = .ok (.if_icmp .le 7, 3) := by decide +kernel
theorem dX3_cutAfter_11 : decode cX3_cutAfter 11 = .ok (.iconst 1, 1) := by decide +kernel
theorem dX3_cutAfter_12 : decode cX3_cutAfter 12 = .ok (.goto 4, 3) := by decide +kernel
theorem dX3_cutAfter_15 : decode cX3_cutAfter 15 = .ok (.iconst 0, 1) := by decide +kernel
theorem dX3_cutAfter_16 : decode cX3_cutAfter 16 = .ok (.putfield 36, 3) := by decide +kernel
theorem dX3_cutAfter_19 : decode cX3_cutAfter 19 = .ok (.aload_n 0, 1) := by decide +kernel
theorem dX3_cutAfter_20 : decode cX3_cutAfter 20 = .ok (.getfield 36, 3) := by decide +kernel
theorem dX3_cutAfter_23 : decode cX3_cutAfter 23 = .ok (.ifCond .ne 8, 3) := by decide +kernel
theorem dX3_cutAfter_26 : decode cX3_cutAfter 26 = .ok (.aload_n 0, 1) := by decide +kernel
theorem dX3_cutAfter_27 : decode cX3_cutAfter 27 = .ok (.iload_n 1, 1) := by decide +kernel
theorem dX3_cutAfter_28 : decode cX3_cutAfter 28 = .ok (.putfield 47, 3) := by decide +kernel
theorem dX3_cutAfter_31 : decode cX3_cutAfter 31 = .ok (.return_, 1) := by decide +kernel
theorem dX3_off_0 : decode cX3_off 0 = .ok (.aload_n 0, 1) := by decide +kernel
theorem dX3_off_1 : decode cX3_off 1 = .ok (.aload_n 0, 1) := by decide +kernel
theorem dX3_off_2 : decode cX3_off 2 = .ok (.getfield 25, 3) := by decide +kernel
theorem dX3_off_5 : decode cX3_off 5 = .ok (.ifCond .eq 7, 3) := by decide +kernel
theorem dX3_off_8 : decode cX3_off 8 = .ok (.iconst 0, 1) := by decide +kernel
theorem dX3_off_9 : decode cX3_off 9 = .ok (.goto 4, 3) := by decide +kernel
theorem dX3_off_12 : decode cX3_off 12 = .ok (.iconst 1, 1) := by decide +kernel
theorem dX3_off_13 : decode cX3_off 13 = .ok (.putfield 36, 3) := by decide +kernel
theorem dX3_off_16 : decode cX3_off 16 = .ok (.aload_n 0, 1) := by decide +kernel
theorem dX3_off_17 : decode cX3_off 17 = .ok (.getfield 36, 3) := by decide +kernel
theorem dX3_off_20 : decode cX3_off 20 = .ok (.ifCond .eq 5, 3) := by decide +kernel
theorem dX3_off_23 : decode cX3_off 23 = .ok (.iconst 0, 1) := by decide +kernel
theorem dX3_off_24 : decode cX3_off 24 = .ok (.ireturn, 1) := by decide +kernel
theorem dX3_off_25 : decode cX3_off 25 = .ok (.aload_n 0, 1) := by decide +kernel
theorem dX3_off_26 : decode cX3_off 26 = .ok (.iconst 0, 1) := by decide +kernel
theorem dX3_off_27 : decode cX3_off 27 = .ok (.putfield 25, 3) := by decide +kernel
theorem dX3_off_30 : decode cX3_off 30 = .ok (.aload_n 0, 1) := by decide +kernel
theorem dX3_off_31 : decode cX3_off 31 = .ok (.getfield 67, 3) := by decide +kernel
theorem dX3_off_34 : decode cX3_off 34 = .ok (.ireturn, 1) := by decide +kernel
theorem dX3_firstOf_0 : decode cX3_firstOf 0 = .ok (.sipush 256, 3) := by decide +kernel
theorem dX3_firstOf_3 : decode cX3_firstOf 3 = .ok (.aload_n 0, 1) := by decide +kernel
theorem dX3_firstOf_4 : decode cX3_firstOf 4 = .ok (.iload_n 1, 1) := by decide +kernel
theorem dX3_firstOf_5 : decode cX3_firstOf 5 = .ok (.iconst 1, 1) := by decide +kernel
theorem dX3_firstOf_6 : decode cX3_firstOf 6 = .ok (.invokevirtual 87, 3) := by decide +kernel
theorem dX3_firstOf_9 : decode cX3_firstOf 9 = .ok (.imul, 1) := by decide +kernel
theorem dX3_firstOf_10 : decode cX3_firstOf 10 = .ok (.aload_n 0, 1) := by decide +kernel
theorem dX3_firstOf_11 : decode cX3_firstOf 11 = .ok (.iload_n 1, 1) := by decide +kernel
theorem dX3_firstOf_12 : decode cX3_firstOf 12 = .ok (.iconst 2, 1) := by decide +kernel
theorem dX3_firstOf_13 : decode cX3_firstOf 13 = .ok (.invokevirtual 87, 3) := by decide +kernel
theorem dX3_firstOf_16 : decode cX3_firstOf 16 = .ok (.iadd, 1) := by decide +kernel
theorem dX3_firstOf_17 : decode cX3_firstOf 17 = .ok (.ireturn, 1) := by decide +kernel
theorem dX3_lastOf_0 : decode cX3_lastOf 0 = .ok (.aload_n 0, 1) := by decide +kernel
theorem dX3_lastOf_1 : decode cX3_lastOf 1 = .ok (.iload_n 1, 1) := by decide +kernel
theorem dX3_lastOf_2 : decode cX3_lastOf 2 = .ok (.invokevirtual 91, 3) := by decide +kernel
theorem dX3_lastOf_5 : decode cX3_lastOf 5 = .ok (.aload_n 0, 1) := by decide +kernel
theorem dX3_lastOf_6 : decode cX3_lastOf 6 = .ok (.iload_n 1, 1) := by decide +kernel
theorem dX3_lastOf_7 : decode cX3_lastOf 7 = .ok (.iconst 0, 1) := by decide +kernel
theorem dX3_lastOf_8 : decode cX3_lastOf 8 = .ok (.invokevirtual 87, 3) := by decide +kernel
theorem dX3_lastOf_11 : decode cX3_lastOf 11 = .ok (.iadd, 1) := by decide +kernel
theorem dX3_lastOf_12 : decode cX3_lastOf 12 = .ok (.iconst 1, 1) := by decide +kernel
theorem dX3_lastOf_13 : decode cX3_lastOf 13 = .ok (.isub, 1) := by decide +kernel
theorem dX3_lastOf_14 : decode cX3_lastOf 14 = .ok (.ireturn, 1) := by decide +kernel
theorem dX3_greatestIn_0 : decode cX3_greatestIn 0 = .ok (.iconst (-1), 1) := by decide +kernel
theorem dX3_greatestIn_1 : decode cX3_greatestIn 1 = .ok (.istore_n 2, 1) := by decide +kernel
theorem dX3_greatestIn_2 : decode cX3_greatestIn 2 = .ok (.bipush 16, 2) := by decide +kernel
theorem dX3_greatestIn_4 : decode cX3_greatestIn 4 = .ok (.iload_n 1, 1) := by decide +kernel
theorem dX3_greatestIn_5 : decode cX3_greatestIn 5 = .ok (.imul, 1) := by decide +kernel
theorem dX3_greatestIn_6 : decode cX3_greatestIn 6 = .ok (.istore_n 3, 1) := by decide +kernel
theorem dX3_greatestIn_7 : decode cX3_greatestIn 7 = .ok (.iload_n 3, 1) := by decide +kernel
theorem dX3_greatestIn_8 : decode cX3_greatestIn 8 = .ok (.bipush 16, 2) := by decide +kernel
theorem dX3_greatestIn_10 : decode cX3_greatestIn 10 = .ok (.iload_n 1, 1) := by decide +kernel
theorem dX3_greatestIn_11 : decode cX3_greatestIn 11 = .ok (.imul, 1) := by decide +kernel
theorem dX3_greatestIn_12 : decode cX3_greatestIn 12 = .ok (.bipush 16, 2) := by decide +kernel
theorem dX3_greatestIn_14 : decode cX3_greatestIn 14 = .ok (.iadd, 1) := by decide +kernel
theorem dX3_greatestIn_15 : decode cX3_greatestIn 15 = .ok (.if_icmp .ge 36, 3) := by decide +kernel
theorem dX3_greatestIn_18 : decode cX3_greatestIn 18 = .ok (.aload_n 0, 1) := by decide +kernel
theorem dX3_greatestIn_19 : decode cX3_greatestIn 19 = .ok (.iload_n 3, 1) := by decide +kernel
theorem dX3_greatestIn_20 : decode cX3_greatestIn 20 = .ok (.invokevirtual 94, 3) := by decide +kernel
theorem dX3_greatestIn_23 : decode cX3_greatestIn 23 = .ok (.ifCond .eq 20, 3) := by decide +kernel
theorem dX3_greatestIn_26 : decode cX3_greatestIn 26 = .ok (.aload_n 0, 1) := by decide +kernel
theorem dX3_greatestIn_27 : decode cX3_greatestIn 27 = .ok (.iload_n 3, 1) := by decide +kernel
theorem dX3_greatestIn_28 : decode cX3_greatestIn 28 = .ok (.invokevirtual 97, 3) := by decide +kernel
theorem dX3_greatestIn_31 : decode cX3_greatestIn 31 = .ok (.iload_n 2, 1) := by decide +kernel
theorem dX3_greatestIn_32 : decode cX3_greatestIn 32 = .ok (.if_icmp .le 11, 3) := by decide +kernel
theorem dX3_greatestIn_35 : decode cX3_greatestIn 35 = .ok (.aload_n 0, 1) := by decide +kernel
theorem dX3_greatestIn_36 : decode cX3_greatestIn 36 = .ok (.iload_n 3, 1) := by decide +kernel
theorem dX3_greatestIn_37 : decode cX3_greatestIn 37 = .ok (.invokevirtual 97, 3) := by decide +kernel
theorem dX3_greatestIn_40 : decode cX3_greatestIn 40 = .ok (.goto 4, 3) := by decide +kernel
theorem dX3_greatestIn_43 : decode cX3_greatestIn 43 = .ok (.iload_n 2, 1) := by decide +kernel
theorem dX3_greatestIn_44 : decode cX3_greatestIn 44 = .ok (.istore_n 2, 1) := by decide +kernel
theorem dX3_greatestIn_45 : decode cX3_greatestIn 45 = .ok (.iinc 3 1, 3) := by decide +kernel
theorem dX3_greatestIn_48 : decode cX3_greatestIn 48 = .ok (.goto (-41), 3) := by decide +kernel
theorem dX3_greatestIn_51 : decode cX3_greatestIn 51 = .ok (.iload_n 2, 1) := by decide +kernel
theorem dX3_greatestIn_52 : decode cX3_greatestIn 52 = .ok (.ireturn, 1) := by decide +kernel
theorem dX3_start_0 : decode cX3_start 0 = .ok (.aload_n 0, 1) := by decide +kernel
theorem dX3_start_1 : decode cX3_start 1 = .ok (.aload_n 0, 1) := by decide +kernel
theorem dX3_start_2 : decode cX3_start 2 = .ok (.getfield 25, 3) := by decide +kernel
theorem dX3_start_5 : decode cX3_start 5 = .ok (.ifCond .eq 7, 3) := by decide +kernel
theorem dX3_start_8 : decode cX3_start 8 = .ok (.iconst 1, 1) := by decide +kernel
theorem dX3_start_9 : decode cX3_start 9 = .ok (.goto 4, 3) := by decide +kernel
theorem dX3_start_12 : decode cX3_start 12 = .ok (.iconst 0, 1) := by decide +kernel
theorem dX3_start_13 : decode cX3_start 13 = .ok (.putfield 36, 3) := by decide +kernel
theorem dX3_start_16 : decode cX3_start 16 = .ok (.aload_n 0, 1) := by decide +kernel
theorem dX3_start_17 : decode cX3_start 17 = .ok (.getfield 36, 3) := by decide +kernel
theorem dX3_start_20 : decode cX3_start 20 = .ok (.ifCond .eq 5, 3) := by decide +kernel
theorem dX3_start_23 : decode cX3_start 23 = .ok (.iconst 0, 1) := by decide +kernel
theorem dX3_start_24 : decode cX3_start 24 = .ok (.ireturn, 1) := by decide +kernel
theorem dX3_start_25 : decode cX3_start 25 = .ok (.aload_n 0, 1) := by decide +kernel
theorem dX3_start_26 : decode cX3_start 26 = .ok (.iconst 1, 1) := by decide +kernel
theorem dX3_start_27 : decode cX3_start 27 = .ok (.putfield 25, 3) := by decide +kernel
theorem dX3_start_30 : decode cX3_start 30 = .ok (.aload_n 0, 1) := by decide +kernel
theorem dX3_start_31 : decode cX3_start 31 = .ok (.invokevirtual 76, 3) := by decide +kernel
theorem dX3_start_34 : decode cX3_start 34 = .ok (.iconst (-1), 1) := by decide +kernel
theorem dX3_start_35 : decode cX3_start 35 = .ok (.istore_n 1, 1) := by decide +kernel
theorem dX3_start_36 : decode cX3_start 36 = .ok (.iconst (-1), 1) := by decide +kernel
theorem dX3_start_37 : decode cX3_start 37 = .ok (.istore_n 2, 1) := by decide +kernel
theorem dX3_start_38 : decode cX3_start 38 = .ok (.aload_n 0, 1) := by decide +kernel
theorem dX3_start_39 : decode cX3_start 39 = .ok (.iconst 0, 1) := by decide +kernel
theorem dX3_start_40 : decode cX3_start 40 = .ok (.putfield 54, 3) := by decide +kernel
theorem dX3_start_43 : decode cX3_start 43 = .ok (.iconst 0, 1) := by decide +kernel
theorem dX3_start_44 : decode cX3_start 44 = .ok (.istore_n 3, 1) := by decide +kernel
theorem dX3_start_45 : decode cX3_start 45 = .ok (.iload_n 3, 1) := by decide +kernel
theorem dX3_start_46 : decode cX3_start 46 = .ok (.bipush 6, 2) := by decide +kernel
theorem dX3_start_48 : decode cX3_start 48 = .ok (.if_icmp .ge 123, 3) := by decide +kernel
theorem dX3_start_51 : decode cX3_start 51 = .ok (.aload_n 0, 1) := by decide +kernel
theorem dX3_start_52 : decode cX3_start 52 = .ok (.iload_n 3, 1) := by decide +kernel
theorem dX3_start_53 : decode cX3_start 53 = .ok (.invokevirtual 100, 3) := by decide +kernel
theorem dX3_start_56 : decode cX3_start 56 = .ok (.istore 4, 2) := by decide +kernel
theorem dX3_start_58 : decode cX3_start 58 = .ok (.iload 4, 2) := by decide +kernel
theorem dX3_start_60 : decode cX3_start 60 = .ok (.ifCond .ge 16, 3) := by decide +kernel
theorem dX3_start_63 : decode cX3_start 63 = .ok (.aload_n 0, 1) := by decide +kernel
theorem dX3_start_64 : decode cX3_start 64 = .ok (.iload_n 3, 1) := by decide +kernel
theorem dX3_start_65 : decode cX3_start 65 = .ok (.invokevirtual 60, 3) := by decide +kernel
theorem dX3_start_68 : decode cX3_start 68 = .ok (.ifCond .ne 8, 3) := by decide +kernel
theorem dX3_start_71 : decode cX3_start 71 = .ok (.aload_n 0, 1) := by decide +kernel
theorem dX3_start_72 : decode cX3_start 72 = .ok (.iload_n 3, 1) := by decide +kernel
theorem dX3_start_73 : decode cX3_start 73 = .ok (.invokevirtual 103, 3) := by decide +kernel
theorem dX3_start_76 : decode cX3_start 76 = .ok (.aload_n 0, 1) := by decide +kernel
theorem dX3_start_77 : decode cX3_start 77 = .ok (.iload 4, 2) := by decide +kernel
theorem dX3_start_79 : decode cX3_start 79 = .ok (.iload_n 1, 1) := by decide +kernel
theorem dX3_start_80 : decode cX3_start 80 = .ok (.if_icmp .le 7, 3) := by decide +kernel
theorem dX3_start_83 : decode cX3_start 83 = .ok (.iload_n 3, 1) := by decide +kernel
theorem dX3_start_84 : decode cX3_start 84 = .ok (.goto 7, 3) := by decide +kernel
theorem dX3_start_87 : decode cX3_start 87 = .ok (.aload_n 0, 1) := by decide +kernel
theorem dX3_start_88 : decode cX3_start 88 = .ok (.getfield 54, 3) := by decide +kernel
theorem dX3_start_91 : decode cX3_start 91 = .ok (.putfield 54, 3) := by decide +kernel
theorem dX3_start_94 : decode cX3_start 94 = .ok (.iload 4, 2) := by decide +kernel
theorem dX3_start_96 : decode cX3_start 96 = .ok (.iload_n 1, 1) := by decide +kernel
theorem dX3_start_97 : decode cX3_start 97 = .ok (.if_icmp .le 8, 3) := by decide +kernel
theorem dX3_start_100 : decode cX3_start 100 = .ok (.iload 4, 2) := by decide +kernel
theorem dX3_start_102 : decode cX3_start 102 = .ok (.goto 4, 3) := by decide +kernel
theorem dX3_start_105 : decode cX3_start 105 = .ok (.iload_n 1, 1) := by decide +kernel
theorem dX3_start_106 : decode cX3_start 106 = .ok (.istore_n 1, 1) := by decide +kernel
theorem dX3_start_107 : decode cX3_start 107 = .ok (.bipush 16, 2) := by decide +kernel
theorem dX3_start_109 : decode cX3_start 109 = .ok (.iload_n 3, 1) := by decide +kernel
theorem dX3_start_110 : decode cX3_start 110 = .ok (.imul, 1) := by decide +kernel
theorem dX3_start_111 : decode cX3_start 111 = .ok (.istore 5, 2) := by decide +kernel
theorem dX3_start_113 : decode cX3_start 113 = .ok (.iload 5, 2) := by decide +kernel
theorem dX3_start_115 : decode cX3_start 115 = .ok (.bipush 16, 2) := by decide +kernel
theorem dX3_start_117 : decode cX3_start 117 = .ok (.iload_n 3, 1) := by decide +kernel
theorem dX3_start_118 : decode cX3_start 118 = .ok (.imul, 1) := by decide +kernel
theorem dX3_start_119 : decode cX3_start 119 = .ok (.bipush 16, 2) := by decide +kernel
theorem dX3_start_121 : decode cX3_start 121 = .ok (.iadd, 1) := by decide +kernel
theorem dX3_start_122 : decode cX3_start 122 = .ok (.if_icmp .ge 43, 3) := by decide +kernel
theorem dX3_start_125 : decode cX3_start 125 = .ok (.aload_n 0, 1) := by decide +kernel
theorem dX3_start_126 : decode cX3_start 126 = .ok (.iload 5, 2) := by decide +kernel
theorem dX3_start_128 : decode cX3_start 128 = .ok (.invokevirtual 94, 3) := by decide +kernel
theorem dX3_start_131 : decode cX3_start 131 = .ok (.ifCond .eq 28, 3) := by decide +kernel
theorem dX3_start_134 : decode cX3_start 134 = .ok (.iload_n 2, 1) := by decide +kernel
theorem dX3_start_135 : decode cX3_start 135 = .ok (.ifCond .lt 13, 3) := by decide +kernel
theorem dX3_start_138 : decode cX3_start 138 = .ok (.aload_n 0, 1) := by decide +kernel
theorem dX3_start_139 : decode cX3_start 139 = .ok (.iload 5, 2) := by decide +kernel
theorem dX3_start_141 : decode cX3_start 141 = .ok (.invokevirtual 91, 3) := by decide +kernel
theorem dX3_start_144 : decode cX3_start 144 = .ok (.iload_n 2, 1) := by decide +kernel
theorem dX3_start_145 : decode cX3_start 145 = .ok (.if_icmp .ge 12, 3) := by decide +kernel
theorem dX3_start_148 : decode cX3_start 148 = .ok (.aload_n 0, 1) := by decide +kernel
theorem dX3_start_149 : decode cX3_start 149 = .ok (.iload 5, 2) := by decide +kernel
theorem dX3_start_151 : decode cX3_start 151 = .ok (.invokevirtual 91, 3) := by decide +kernel
theorem dX3_start_154 : decode cX3_start 154 = .ok (.goto 4, 3) := by decide +kernel
theorem dX3_start_157 : decode cX3_start 157 = .ok (.iload_n 2, 1) := by decide +kernel
theorem dX3_start_158 : decode cX3_start 158 = .ok (.istore_n 2, 1) := by decide +kernel
theorem dX3_start_159 : decode cX3_start 159 = .ok (.iinc 5 1, 3) := by decide +kernel
theorem dX3_start_162 : decode cX3_start 162 = .ok (.goto (-49), 3) := by decide +kernel
theorem dX3_start_165 : decode cX3_start 165 = .ok (.iinc 3 1, 3) := by decide +kernel
theorem dX3_start_168 : decode cX3_start 168 = .ok (.goto (-123), 3) := by decide +kernel
theorem dX3_start_171 : decode cX3_start 171 = .ok (.aload_n 0, 1) := by decide +kernel
theorem dX3_start_172 : decode cX3_start 172 = .ok (.iload_n 2, 1) := by decide +kernel
theorem dX3_start_173 : decode cX3_start 173 = .ok (.ifCond .ge 7, 3) := by decide +kernel
theorem dX3_start_176 : decode cX3_start 176 = .ok (.iconst 0, 1) := by decide +kernel
theorem dX3_start_177 : decode cX3_start 177 = .ok (.goto 4, 3) := by decide +kernel
theorem dX3_start_180 : decode cX3_start 180 = .ok (.iload_n 2, 1) := by decide +kernel
theorem dX3_start_181 : decode cX3_start 181 = .ok (.putfield 107, 3) := by decide +kernel
theorem dX3_start_184 : decode cX3_start 184 = .ok (.aload_n 0, 1) := by decide +kernel
theorem dX3_start_185 : decode cX3_start 185 = .ok (.iload_n 1, 1) := by decide +kernel
theorem dX3_start_186 : decode cX3_start 186 = .ok (.iconst 1, 1) := by decide +kernel
theorem dX3_start_187 : decode cX3_start 187 = .ok (.iadd, 1) := by decide +kernel
theorem dX3_start_188 : decode cX3_start 188 = .ok (.putfield 73, 3) := by decide +kernel
theorem dX3_start_191 : decode cX3_start 191 = .ok (.aload_n 0, 1) := by decide +kernel
theorem dX3_start_192 : decode cX3_start 192 = .ok (.getfield 73, 3) := by decide +kernel
theorem dX3_start_195 : decode cX3_start 195 = .ok (.ireturn, 1) := by decide +kernel
theorem dX3_trim_0 : decode cX3_trim 0 = .ok (.aload_n 0, 1) := by decide +kernel
theorem dX3_trim_1 : decode cX3_trim 1 = .ok (.aload_n 0, 1) := by decide +kernel
theorem dX3_trim_2 : decode cX3_trim 2 = .ok (.getfield 25, 3) := by decide +kernel
theorem dX3_trim_5 : decode cX3_trim 5 = .ok (.ifCond .ne 7, 3) := by decide +kernel
theorem dX3_trim_8 : decode cX3_trim 8 = .ok (.iconst 1, 1) := by decide +kernel
theorem dX3_trim_9 : decode cX3_trim 9 = .ok (.goto 24, 3) := by decide +kernel
theorem dX3_trim_12 : decode cX3_trim 12 = .ok (.iload_n 1, 1) := by decide +kernel
theorem dX3_trim_13 : decode cX3_trim 13 = .ok (.aload_n 0, 1) := by decide +kernel
theorem dX3_trim_14 : decode cX3_trim 14 = .ok (.getfield 107, 3) := by decide +kernel
theorem dX3_trim_17 : decode cX3_trim 17 = .ok (.if_icmp .lt 11, 3) := by decide +kernel
theorem dX3_trim_20 : decode cX3_trim 20 = .ok (.iload_n 1, 1) := by decide +kernel
theorem dX3_trim_21 : decode cX3_trim 21 = .ok (.aload_n 0, 1) := by decide +kernel
theorem dX3_trim_22 : decode cX3_trim 22 = .ok (.getfield 73, 3) := by decide +kernel
theorem dX3_trim_25 : decode cX3_trim 25 = .ok (.if_icmp .le 7, 3) := by decide +kernel
theorem dX3_trim_28 : decode cX3_trim 28 = .ok (.iconst 2, 1) := by decide +kernel
theorem dX3_trim_29 : decode cX3_trim 29 = .ok (.goto 4, 3) := by decide +kernel
theorem dX3_trim_32 : decode cX3_trim 32 = .ok (.iconst 0, 1) := by decide +kernel
theorem dX3_trim_33 : decode cX3_trim 33 = .ok (.putfield 36, 3) := by decide +kernel
theorem dX3_trim_36 : decode cX3_trim 36 = .ok (.aload_n 0, 1) := by decide +kernel
theorem dX3_trim_37 : decode cX3_trim 37 = .ok (.getfield 36, 3) := by decide +kernel
theorem dX3_trim_40 : decode cX3_trim 40 = .ok (.ifCond .eq 5, 3) := by decide +kernel
theorem dX3_trim_43 : decode cX3_trim 43 = .ok (.iconst 0, 1) := by decide +kernel
theorem dX3_trim_44 : decode cX3_trim 44 = .ok (.ireturn, 1) := by decide +kernel
theorem dX3_trim_45 : decode cX3_trim 45 = .ok (.aload_n 0, 1) := by decide +kernel
theorem dX3_trim_46 : decode cX3_trim 46 = .ok (.iload_n 1, 1) := by decide +kernel
theorem dX3_trim_47 : decode cX3_trim 47 = .ok (.putfield 107, 3) := by decide +kernel
theorem dX3_trim_50 : decode cX3_trim 50 = .ok (.iconst 0, 1) := by decide +kernel
theorem dX3_trim_51 : decode cX3_trim 51 = .ok (.istore_n 2, 1) := by decide +kernel
theorem dX3_trim_52 : decode cX3_trim 52 = .ok (.iconst 0, 1) := by decide +kernel
theorem dX3_trim_53 : decode cX3_trim 53 = .ok (.istore_n 3, 1) := by decide +kernel
theorem dX3_trim_54 : decode cX3_trim 54 = .ok (.iload_n 3, 1) := by decide +kernel
theorem dX3_trim_55 : decode cX3_trim 55 = .ok (.bipush 6, 2) := by decide +kernel
theorem dX3_trim_57 : decode cX3_trim 57 = .ok (.if_icmp .ge 45, 3) := by decide +kernel
theorem dX3_trim_60 : decode cX3_trim 60 = .ok (.iload_n 3, 1) := by decide +kernel
theorem dX3_trim_61 : decode cX3_trim 61 = .ok (.aload_n 0, 1) := by decide +kernel
theorem dX3_trim_62 : decode cX3_trim 62 = .ok (.getfield 54, 3) := by decide +kernel
theorem dX3_trim_65 : decode cX3_trim 65 = .ok (.if_icmp .eq 31, 3) := by decide +kernel
theorem dX3_trim_68 : decode cX3_trim 68 = .ok (.aload_n 0, 1) := by decide +kernel
theorem dX3_trim_69 : decode cX3_trim 69 = .ok (.iload_n 3, 1) := by decide +kernel
theorem dX3_trim_70 : decode cX3_trim 70 = .ok (.invokevirtual 60, 3) := by decide +kernel
theorem dX3_trim_73 : decode cX3_trim 73 = .ok (.ifCond .ne 23, 3) := by decide +kernel
theorem dX3_trim_76 : decode cX3_trim 76 = .ok (.aload_n 0, 1) := by decide +kernel
theorem dX3_trim_77 : decode cX3_trim 77 = .ok (.iload_n 3, 1) := by decide +kernel
theorem dX3_trim_78 : decode cX3_trim 78 = .ok (.invokevirtual 100, 3) := by decide +kernel
theorem dX3_trim_81 : decode cX3_trim 81 = .ok (.iload_n 1, 1) := by decide +kernel
theorem dX3_trim_82 : decode cX3_trim 82 = .ok (.if_icmp .lt 6, 3) := by decide +kernel
theorem dX3_trim_85 : decode cX3_trim 85 = .ok (.goto 11, 3) := by decide +kernel
theorem dX3_trim_88 : decode cX3_trim 88 = .ok (.aload_n 0, 1) := by decide +kernel
theorem dX3_trim_89 : decode cX3_trim 89 = .ok (.iload_n 3, 1) := by decide +kernel
theorem dX3_trim_90 : decode cX3_trim 90 = .ok (.invokevirtual 103, 3) := by decide +kernel
theorem dX3_trim_93 : decode cX3_trim 93 = .ok (.iinc 2 1, 3) := by decide +kernel
theorem dX3_trim_96 : decode cX3_trim 96 = .ok (.iinc 3 1, 3) := by decide +kernel
theorem dX3_trim_99 : decode cX3_trim 99 = .ok (.goto (-45), 3) := by decide +kernel
theorem dX3_trim_102 : decode cX3_trim 102 = .ok (.iload_n 2, 1) := by decide +kernel
theorem dX3_trim_103 : decode cX3_trim 103 = .ok (.ireturn, 1) := by decide +kernel
theorem dX3_first_0 : decode cX3_first 0 = .ok (.aload_n 0, 1) := by decide +kernel
theorem dX3_first_1 : decode cX3_first 1 = .ok (.aload_n 0, 1) := by decide +kernel
theorem dX3_first_2 : decode cX3_first 2 = .ok (.getfield 25, 3) := by decide +kernel
theorem dX3_first_5 : decode cX3_first 5 = .ok (.ifCond .eq 7, 3) := by decide +kernel
theorem dX3_first_8 : decode cX3_first 8 = .ok (.iconst 0, 1) := by decide +kernel
theorem dX3_first_9 : decode cX3_first 9 = .ok (.goto 4, 3) := by decide +kernel
theorem dX3_first_12 : decode cX3_first 12 = .ok (.iconst 1, 1) := by decide +kernel
theorem dX3_first_13 : decode cX3_first 13 = .ok (.putfield 36, 3) := by decide +kernel
theorem dX3_first_16 : decode cX3_first 16 = .ok (.aload_n 0, 1) := by decide +kernel
theorem dX3_first_17 : decode cX3_first 17 = .ok (.getfield 25, 3) := by decide +kernel
theorem dX3_first_20 : decode cX3_first 20 = .ok (.ifCond .eq 10, 3) := by decide +kernel
theorem dX3_first_23 : decode cX3_first 23 = .ok (.aload_n 0, 1) := by decide +kernel
theorem dX3_first_24 : decode cX3_first 24 = .ok (.getfield 107, 3) := by decide +kernel
theorem dX3_first_27 : decode cX3_first 27 = .ok (.goto 4, 3) := by decide +kernel
theorem dX3_first_30 : decode cX3_first 30 = .ok (.iconst 0, 1) := by decide +kernel
theorem dX3_first_31 : decode cX3_first 31 = .ok (.ireturn, 1) := by decide +kernel
theorem dX3_count_0 : decode cX3_count 0 = .ok (.aload_n 0, 1) := by decide +kernel
theorem dX3_count_1 : decode cX3_count 1 = .ok (.aload_n 0, 1) := by decide +kernel
theorem dX3_count_2 : decode cX3_count 2 = .ok (.getfield 25, 3) := by decide +kernel
theorem dX3_count_5 : decode cX3_count 5 = .ok (.ifCond .eq 7, 3) := by decide +kernel
theorem dX3_count_8 : decode cX3_count 8 = .ok (.iconst 0, 1) := by decide +kernel
theorem dX3_count_9 : decode cX3_count 9 = .ok (.goto 4, 3) := by decide +kernel
theorem dX3_count_12 : decode cX3_count 12 = .ok (.iconst 1, 1) := by decide +kernel
theorem dX3_count_13 : decode cX3_count 13 = .ok (.putfield 36, 3) := by decide +kernel
theorem dX3_count_16 : decode cX3_count 16 = .ok (.aload_n 0, 1) := by decide +kernel
theorem dX3_count_17 : decode cX3_count 17 = .ok (.getfield 25, 3) := by decide +kernel
theorem dX3_count_20 : decode cX3_count 20 = .ok (.ifCond .eq 10, 3) := by decide +kernel
theorem dX3_count_23 : decode cX3_count 23 = .ok (.aload_n 0, 1) := by decide +kernel
theorem dX3_count_24 : decode cX3_count 24 = .ok (.getfield 73, 3) := by decide +kernel
theorem dX3_count_27 : decode cX3_count 27 = .ok (.goto 4, 3) := by decide +kernel
theorem dX3_count_30 : decode cX3_count 30 = .ok (.iconst 0, 1) := by decide +kernel
theorem dX3_count_31 : decode cX3_count 31 = .ok (.ireturn, 1) := by decide +kernel
theorem dX3_find_0 : decode cX3_find 0 = .ok (.aload_n 0, 1) := by decide +kernel
theorem dX3_find_1 : decode cX3_find 1 = .ok (.iconst (-1), 1) := by decide +kernel
theorem dX3_find_2 : decode cX3_find 2 = .ok (.putfield 110, 3) := by decide +kernel
theorem dX3_find_5 : decode cX3_find 5 = .ok (.aload_n 0, 1) := by decide +kernel
theorem dX3_find_6 : decode cX3_find 6 = .ok (.iconst 3, 1) := by decide +kernel
theorem dX3_find_7 : decode cX3_find 7 = .ok (.putfield 113, 3) := by decide +kernel
theorem dX3_find_10 : decode cX3_find 10 = .ok (.iconst 0, 1) := by decide +kernel
theorem dX3_find_11 : decode cX3_find 11 = .ok (.istore_n 2, 1) := by decide +kernel
theorem dX3_find_12 : decode cX3_find 12 = .ok (.iload_n 1, 1) := by decide +kernel
theorem dX3_find_13 : decode cX3_find 13 = .ok (.aload_n 0, 1) := by decide +kernel
theorem dX3_find_14 : decode cX3_find 14 = .ok (.getfield 73, 3) := by decide +kernel
theorem dX3_find_17 : decode cX3_find 17 = .ok (.aload_n 0, 1) := by decide +kernel
theorem dX3_find_18 : decode cX3_find 18 = .ok (.getfield 67, 3) := by decide +kernel
theorem dX3_find_21 : decode cX3_find 21 = .ok (.isub, 1) := by decide +kernel
theorem dX3_find_22 : decode cX3_find 22 = .ok (.if_icmp .lt 21, 3) := by decide +kernel
theorem dX3_find_25 : decode cX3_find 25 = .ok (.aload_n 0, 1) := by decide +kernel
theorem dX3_find_26 : decode cX3_find 26 = .ok (.bipush 96, 2) := by decide +kernel
theorem dX3_find_28 : decode cX3_find 28 = .ok (.putfield 110, 3) := by decide +kernel
theorem dX3_find_31 : decode cX3_find 31 = .ok (.iload_n 1, 1) := by decide +kernel
theorem dX3_find_32 : decode cX3_find 32 = .ok (.aload_n 0, 1) := by decide +kernel
theorem dX3_find_33 : decode cX3_find 33 = .ok (.getfield 73, 3) := by decide +kernel
theorem dX3_find_36 : decode cX3_find 36 = .ok (.isub, 1) := by decide +kernel
theorem dX3_find_37 : decode cX3_find 37 = .ok (.aload_n 0, 1) := by decide +kernel
theorem dX3_find_38 : decode cX3_find 38 = .ok (.getfield 67, 3) := by decide +kernel
theorem dX3_find_41 : decode cX3_find 41 = .ok (.iadd, 1) := by decide +kernel
theorem dX3_find_42 : decode cX3_find 42 = .ok (.istore_n 2, 1) := by decide +kernel
theorem dX3_find_43 : decode cX3_find 43 = .ok (.iconst 0, 1) := by decide +kernel
theorem dX3_find_44 : decode cX3_find 44 = .ok (.istore_n 3, 1) := by decide +kernel
theorem dX3_find_45 : decode cX3_find 45 = .ok (.iload_n 3, 1) := by decide +kernel
theorem dX3_find_46 : decode cX3_find 46 = .ok (.bipush 96, 2) := by decide +kernel
theorem dX3_find_48 : decode cX3_find 48 = .ok (.if_icmp .ge 55, 3) := by decide +kernel
theorem dX3_find_51 : decode cX3_find 51 = .ok (.aload_n 0, 1) := by decide +kernel
theorem dX3_find_52 : decode cX3_find 52 = .ok (.getfield 110, 3) := by decide +kernel
theorem dX3_find_55 : decode cX3_find 55 = .ok (.ifCond .ge 48, 3) := by decide +kernel
theorem dX3_find_58 : decode cX3_find 58 = .ok (.aload_n 0, 1) := by decide +kernel
theorem dX3_find_59 : decode cX3_find 59 = .ok (.iload_n 3, 1) := by decide +kernel
theorem dX3_find_60 : decode cX3_find 60 = .ok (.invokevirtual 94, 3) := by decide +kernel
theorem dX3_find_63 : decode cX3_find 63 = .ok (.ifCond .eq 34, 3) := by decide +kernel
theorem dX3_find_66 : decode cX3_find 66 = .ok (.aload_n 0, 1) := by decide +kernel
theorem dX3_find_67 : decode cX3_find 67 = .ok (.iload_n 3, 1) := by decide +kernel
theorem dX3_find_68 : decode cX3_find 68 = .ok (.invokevirtual 91, 3) := by decide +kernel
theorem dX3_find_71 : decode cX3_find 71 = .ok (.iload_n 1, 1) := by decide +kernel
theorem dX3_find_72 : decode cX3_find 72 = .ok (.if_icmp .gt 25, 3) := by decide +kernel
theorem dX3_find_75 : decode cX3_find 75 = .ok (.aload_n 0, 1) := by decide +kernel
theorem dX3_find_76 : decode cX3_find 76 = .ok (.iload_n 3, 1) := by decide +kernel
theorem dX3_find_77 : decode cX3_find 77 = .ok (.invokevirtual 97, 3) := by decide +kernel
theorem dX3_find_80 : decode cX3_find 80 = .ok (.iload_n 1, 1) := by decide +kernel
theorem dX3_find_81 : decode cX3_find 81 = .ok (.if_icmp .lt 16, 3) := by decide +kernel
theorem dX3_find_84 : decode cX3_find 84 = .ok (.aload_n 0, 1) := by decide +kernel
theorem dX3_find_85 : decode cX3_find 85 = .ok (.iload_n 3, 1) := by decide +kernel
theorem dX3_find_86 : decode cX3_find 86 = .ok (.putfield 110, 3) := by decide +kernel
theorem dX3_find_89 : decode cX3_find 89 = .ok (.iload_n 1, 1) := by decide +kernel
theorem dX3_find_90 : decode cX3_find 90 = .ok (.aload_n 0, 1) := by decide +kernel
theorem dX3_find_91 : decode cX3_find 91 = .ok (.iload_n 3, 1) := by decide +kernel
theorem dX3_find_92 : decode cX3_find 92 = .ok (.invokevirtual 91, 3) := by decide +kernel
theorem dX3_find_95 : decode cX3_find 95 = .ok (.isub, 1) := by decide +kernel
theorem dX3_find_96 : decode cX3_find 96 = .ok (.istore_n 2, 1) := by decide +kernel
theorem dX3_find_97 : decode cX3_find 97 = .ok (.iinc 3 1, 3) := by decide +kernel
theorem dX3_find_100 : decode cX3_find 100 = .ok (.goto (-55), 3) := by decide +kernel
theorem dX3_find_103 : decode cX3_find 103 = .ok (.iconst 0, 1) := by decide +kernel
theorem dX3_find_104 : decode cX3_find 104 = .ok (.istore_n 3, 1) := by decide +kernel
theorem dX3_find_105 : decode cX3_find 105 = .ok (.iload_n 3, 1) := by decide +kernel
theorem dX3_find_106 : decode cX3_find 106 = .ok (.iload_n 2, 1) := by decide +kernel
theorem dX3_find_107 : decode cX3_find 107 = .ok (.if_icmp .ge 28, 3) := by decide +kernel
theorem dX3_find_110 : decode cX3_find 110 = .ok (.aload_n 0, 1) := by decide +kernel
theorem dX3_find_111 : decode cX3_find 111 = .ok (.dup, 1) := by decide +kernel
theorem dX3_find_112 : decode cX3_find 112 = .ok (.getfield 113, 3) := by decide +kernel
theorem dX3_find_115 : decode cX3_find 115 = .ok (.iconst 1, 1) := by decide +kernel
theorem dX3_find_116 : decode cX3_find 116 = .ok (.aload_n 0, 1) := by decide +kernel
theorem dX3_find_117 : decode cX3_find 117 = .ok (.aload_n 0, 1) := by decide +kernel
theorem dX3_find_118 : decode cX3_find 118 = .ok (.getfield 113, 3) := by decide +kernel
theorem dX3_find_121 : decode cX3_find 121 = .ok (.invokevirtual 116, 3) := by decide +kernel
theorem dX3_find_124 : decode cX3_find 124 = .ok (.iadd, 1) := by decide +kernel
theorem dX3_find_125 : decode cX3_find 125 = .ok (.iadd, 1) := by decide +kernel
theorem dX3_find_126 : decode cX3_find 126 = .ok (.putfield 113, 3) := by decide +kernel
theorem dX3_find_129 : decode cX3_find 129 = .ok (.iinc 3 1, 3) := by decide +kernel
theorem dX3_find_132 : decode cX3_find 132 = .ok (.goto (-27), 3) := by decide +kernel
theorem dX3_find_135 : decode cX3_find 135 = .ok (.return_, 1) := by decide +kernel
theorem dX3_foundByte_0 : decode cX3_foundByte 0 = .ok (.aload_n 0, 1) := by decide +kernel
theorem dX3_foundByte_1 : decode cX3_foundByte 1 = .ok (.getfield 110, 3) := by decide +kernel
theorem dX3_foundByte_4 : decode cX3_foundByte 4 = .ok (.bipush 96, 2) := by decide +kernel
theorem dX3_foundByte_6 : decode cX3_foundByte 6 = .ok (.if_icmp .ne 12, 3) := by decide +kernel
theorem dX3_foundByte_9 : decode cX3_foundByte 9 = .ok (.aload_n 0, 1) := by decide +kernel
theorem dX3_foundByte_10 : decode cX3_foundByte 10 = .ok (.getfield 33, 3) := by decide +kernel
theorem dX3_foundByte_13 : decode cX3_foundByte 13 = .ok (.iload_n 1, 1) := by decide +kernel
theorem dX3_foundByte_14 : decode cX3_foundByte 14 = .ok (.iaload, 1) := by decide +kernel
theorem dX3_foundByte_15 : decode cX3_foundByte 15 = .ok (.goto 12, 3) := by decide +kernel
theorem dX3_foundByte_18 : decode cX3_foundByte 18 = .ok (.aload_n 0, 1) := by decide +kernel
theorem dX3_foundByte_19 : decode cX3_foundByte 19 = .ok (.aload_n 0, 1) := by decide +kernel
theorem dX3_foundByte_20 : decode cX3_foundByte 20 = .ok (.getfield 110, 3) := by decide +kernel
theorem dX3_foundByte_23 : decode cX3_foundByte 23 = .ok (.iload_n 1, 1) := by decide +kernel
theorem dX3_foundByte_24 : decode cX3_foundByte 24 = .ok (.invokevirtual 87, 3) := by decide +kernel
theorem dX3_foundByte_27 : decode cX3_foundByte 27 = .ok (.ireturn, 1) := by decide +kernel
theorem dX3_length_0 : decode cX3_length 0 = .ok (.aload_n 0, 1) := by decide +kernel
theorem dX3_length_1 : decode cX3_length 1 = .ok (.aload_n 0, 1) := by decide +kernel
theorem dX3_length_2 : decode cX3_length 2 = .ok (.getfield 25, 3) := by decide +kernel
theorem dX3_length_5 : decode cX3_length 5 = .ok (.ifCond .ne 7, 3) := by decide +kernel
theorem dX3_length_8 : decode cX3_length 8 = .ok (.iconst 1, 1) := by decide +kernel
theorem dX3_length_9 : decode cX3_length 9 = .ok (.goto 24, 3) := by decide +kernel
theorem dX3_length_12 : decode cX3_length 12 = .ok (.iload_n 1, 1) := by decide +kernel
theorem dX3_length_13 : decode cX3_length 13 = .ok (.aload_n 0, 1) := by decide +kernel
theorem dX3_length_14 : decode cX3_length 14 = .ok (.getfield 107, 3) := by decide +kernel
theorem dX3_length_17 : decode cX3_length 17 = .ok (.if_icmp .lt 11, 3) := by decide +kernel
theorem dX3_length_20 : decode cX3_length 20 = .ok (.iload_n 1, 1) := by decide +kernel
theorem dX3_length_21 : decode cX3_length 21 = .ok (.aload_n 0, 1) := by decide +kernel
theorem dX3_length_22 : decode cX3_length 22 = .ok (.getfield 73, 3) := by decide +kernel
theorem dX3_length_25 : decode cX3_length 25 = .ok (.if_icmp .lt 7, 3) := by decide +kernel
theorem dX3_length_28 : decode cX3_length 28 = .ok (.iconst 2, 1) := by decide +kernel
theorem dX3_length_29 : decode cX3_length 29 = .ok (.goto 4, 3) := by decide +kernel
theorem dX3_length_32 : decode cX3_length 32 = .ok (.iconst 0, 1) := by decide +kernel
theorem dX3_length_33 : decode cX3_length 33 = .ok (.putfield 36, 3) := by decide +kernel
theorem dX3_length_36 : decode cX3_length 36 = .ok (.aload_n 0, 1) := by decide +kernel
theorem dX3_length_37 : decode cX3_length 37 = .ok (.getfield 36, 3) := by decide +kernel
theorem dX3_length_40 : decode cX3_length 40 = .ok (.ifCond .eq 5, 3) := by decide +kernel
theorem dX3_length_43 : decode cX3_length 43 = .ok (.iconst 0, 1) := by decide +kernel
theorem dX3_length_44 : decode cX3_length 44 = .ok (.ireturn, 1) := by decide +kernel
theorem dX3_length_45 : decode cX3_length 45 = .ok (.aload_n 0, 1) := by decide +kernel
theorem dX3_length_46 : decode cX3_length 46 = .ok (.iload_n 1, 1) := by decide +kernel
theorem dX3_length_47 : decode cX3_length 47 = .ok (.invokevirtual 119, 3) := by decide +kernel
theorem dX3_length_50 : decode cX3_length 50 = .ok (.aload_n 0, 1) := by decide +kernel
theorem dX3_length_51 : decode cX3_length 51 = .ok (.getfield 110, 3) := by decide +kernel
theorem dX3_length_54 : decode cX3_length 54 = .ok (.ifCond .ge 7, 3) := by decide +kernel
theorem dX3_length_57 : decode cX3_length 57 = .ok (.iconst (-1), 1) := by decide +kernel
theorem dX3_length_58 : decode cX3_length 58 = .ok (.goto 11, 3) := by decide +kernel
theorem dX3_length_61 : decode cX3_length 61 = .ok (.aload_n 0, 1) := by decide +kernel
theorem dX3_length_62 : decode cX3_length 62 = .ok (.aload_n 0, 1) := by decide +kernel
theorem dX3_length_63 : decode cX3_length 63 = .ok (.getfield 113, 3) := by decide +kernel
theorem dX3_length_66 : decode cX3_length 66 = .ok (.invokevirtual 116, 3) := by decide +kernel
theorem dX3_length_69 : decode cX3_length 69 = .ok (.ireturn, 1) := by decide +kernel
theorem dX3_event_0 : decode cX3_event 0 = .ok (.aload_n 0, 1) := by decide +kernel
theorem dX3_event_1 : decode cX3_event 1 = .ok (.aload_n 0, 1) := by decide +kernel
theorem dX3_event_2 : decode cX3_event 2 = .ok (.getfield 25, 3) := by decide +kernel
theorem dX3_event_5 : decode cX3_event 5 = .ok (.ifCond .ne 7, 3) := by decide +kernel
theorem dX3_event_8 : decode cX3_event 8 = .ok (.iconst 1, 1) := by decide +kernel
theorem dX3_event_9 : decode cX3_event 9 = .ok (.goto 24, 3) := by decide +kernel
theorem dX3_event_12 : decode cX3_event 12 = .ok (.iload_n 1, 1) := by decide +kernel
theorem dX3_event_13 : decode cX3_event 13 = .ok (.aload_n 0, 1) := by decide +kernel
theorem dX3_event_14 : decode cX3_event 14 = .ok (.getfield 107, 3) := by decide +kernel
theorem dX3_event_17 : decode cX3_event 17 = .ok (.if_icmp .lt 11, 3) := by decide +kernel
theorem dX3_event_20 : decode cX3_event 20 = .ok (.iload_n 1, 1) := by decide +kernel
theorem dX3_event_21 : decode cX3_event 21 = .ok (.aload_n 0, 1) := by decide +kernel
theorem dX3_event_22 : decode cX3_event 22 = .ok (.getfield 73, 3) := by decide +kernel
theorem dX3_event_25 : decode cX3_event 25 = .ok (.if_icmp .lt 7, 3) := by decide +kernel
theorem dX3_event_28 : decode cX3_event 28 = .ok (.iconst 2, 1) := by decide +kernel
theorem dX3_event_29 : decode cX3_event 29 = .ok (.goto 4, 3) := by decide +kernel
theorem dX3_event_32 : decode cX3_event 32 = .ok (.iconst 0, 1) := by decide +kernel
theorem dX3_event_33 : decode cX3_event 33 = .ok (.putfield 36, 3) := by decide +kernel
theorem dX3_event_36 : decode cX3_event 36 = .ok (.aload_n 0, 1) := by decide +kernel
theorem dX3_event_37 : decode cX3_event 37 = .ok (.getfield 36, 3) := by decide +kernel
theorem dX3_event_40 : decode cX3_event 40 = .ok (.ifCond .eq 5, 3) := by decide +kernel
theorem dX3_event_43 : decode cX3_event 43 = .ok (.lconst 0, 1) := by decide +kernel
theorem dX3_event_44 : decode cX3_event 44 = .ok (.lreturn, 1) := by decide +kernel
theorem dX3_event_45 : decode cX3_event 45 = .ok (.aload_n 0, 1) := by decide +kernel
theorem dX3_event_46 : decode cX3_event 46 = .ok (.iload_n 1, 1) := by decide +kernel
theorem dX3_event_47 : decode cX3_event 47 = .ok (.invokevirtual 119, 3) := by decide +kernel
theorem dX3_event_50 : decode cX3_event 50 = .ok (.aload_n 0, 1) := by decide +kernel
theorem dX3_event_51 : decode cX3_event 51 = .ok (.aload_n 0, 1) := by decide +kernel
theorem dX3_event_52 : decode cX3_event 52 = .ok (.getfield 110, 3) := by decide +kernel
theorem dX3_event_55 : decode cX3_event 55 = .ok (.ifCond .ge 7, 3) := by decide +kernel
theorem dX3_event_58 : decode cX3_event 58 = .ok (.iconst 3, 1) := by decide +kernel
theorem dX3_event_59 : decode cX3_event 59 = .ok (.goto 4, 3) := by decide +kernel
theorem dX3_event_62 : decode cX3_event 62 = .ok (.iconst 0, 1) := by decide +kernel
theorem dX3_event_63 : decode cX3_event 63 = .ok (.putfield 36, 3) := by decide +kernel
theorem dX3_event_66 : decode cX3_event 66 = .ok (.lconst 0, 1) := by decide +kernel
theorem dX3_event_67 : decode cX3_event 67 = .ok (.lstore_n 2, 1) := by decide +kernel
theorem dX3_event_68 : decode cX3_event 68 = .ok (.aload_n 0, 1) := by decide +kernel
theorem dX3_event_69 : decode cX3_event 69 = .ok (.getfield 36, 3) := by decide +kernel
theorem dX3_event_72 : decode cX3_event 72 = .ok (.ifCond .ne 14, 3) := by decide +kernel
theorem dX3_event_75 : decode cX3_event 75 = .ok (.aload_n 0, 1) := by decide +kernel
theorem dX3_event_76 : decode cX3_event 76 = .ok (.aload_n 0, 1) := by decide +kernel
theorem dX3_event_77 : decode cX3_event 77 = .ok (.getfield 113, 3) := by decide +kernel
theorem dX3_event_80 : decode cX3_event 80 = .ok (.invokevirtual 116, 3) := by decide +kernel
theorem dX3_event_83 : decode cX3_event 83 = .ok (.goto 4, 3) := by decide +kernel
theorem dX3_event_86 : decode cX3_event 86 = .ok (.iconst 0, 1) := by decide +kernel
theorem dX3_event_87 : decode cX3_event 87 = .ok (.istore 4, 2) := by decide +kernel
theorem dX3_event_89 : decode cX3_event 89 = .ok (.iload 4, 2) := by decide +kernel
theorem dX3_event_91 : decode cX3_event 91 = .ok (.ifCond .le 27, 3) := by decide +kernel
theorem dX3_event_94 : decode cX3_event 94 = .ok (.lload_n 2, 1) := by decide +kernel
theorem dX3_event_95 : decode cX3_event 95 = .ok (.bipush 8, 2) := by decide +kernel
theorem dX3_event_97 : decode cX3_event 97 = .ok (.lshl, 1) := by decide +kernel
theorem dX3_event_98 : decode cX3_event 98 = .ok (.aload_n 0, 1) := by decide +kernel
theorem dX3_event_99 : decode cX3_event 99 = .ok (.aload_n 0, 1) := by decide +kernel
theorem dX3_event_100 : decode cX3_event 100 = .ok (.getfield 113, 3) := by decide +kernel
theorem dX3_event_103 : decode cX3_event 103 = .ok (.iload 4, 2) := by decide +kernel
theorem dX3_event_105 : decode cX3_event 105 = .ok (.iadd, 1) := by decide +kernel
theorem dX3_event_106 : decode cX3_event 106 = .ok (.invokevirtual 116, 3) := by decide +kernel
theorem dX3_event_109 : decode cX3_event 109 = .ok (.i2l, 1) := by decide +kernel
theorem dX3_event_110 : decode cX3_event 110 = .ok (.lor, 1) := by decide +kernel
theorem dX3_event_111 : decode cX3_event 111 = .ok (.lstore_n 2, 1) := by decide +kernel
theorem dX3_event_112 : decode cX3_event 112 = .ok (.iinc 4 (-1), 3) := by decide +kernel
theorem dX3_event_115 : decode cX3_event 115 = .ok (.goto (-26), 3) := by decide +kernel
theorem dX3_event_118 : decode cX3_event 118 = .ok (.lload_n 2, 1) := by decide +kernel
theorem dX3_event_119 : decode cX3_event 119 = .ok (.lreturn, 1) := by decide +kernel
theorem dX3_noPage_0 : decode cX3_noPage 0 = .ok (.iload_n 0, 1) := by decide +kernel
theorem dX3_noPage_1 : decode cX3_noPage 1 = .ok (.ifCond .lt 18, 3) := by decide +kernel
theorem dX3_noPage_4 : decode cX3_noPage 4 = .ok (.iload_n 0, 1) := by decide +kernel
theorem dX3_noPage_5 : decode cX3_noPage 5 = .ok (.iconst 5, 1) := by decide +kernel
theorem dX3_noPage_6 : decode cX3_noPage 6 = .ok (.if_icmp .gt 13, 3) := by decide +kernel
theorem dX3_noPage_9 : decode cX3_noPage 9 = .ok (.iload_n 1, 1) := by decide +kernel
theorem dX3_noPage_10 : decode cX3_noPage 10 = .ok (.ifCond .lt 9, 3) := by decide +kernel
theorem dX3_noPage_13 : decode cX3_noPage 13 = .ok (.iload_n 1, 1) := by decide +kernel
theorem dX3_noPage_14 : decode cX3_noPage 14 = .ok (.bipush 7, 2) := by decide +kernel
theorem dX3_noPage_16 : decode cX3_noPage 16 = .ok (.if_icmp .le 7, 3) := by decide +kernel
theorem dX3_noPage_19 : decode cX3_noPage 19 = .ok (.iconst 1, 1) := by decide +kernel
theorem dX3_noPage_20 : decode cX3_noPage 20 = .ok (.goto 4, 3) := by decide +kernel
theorem dX3_noPage_23 : decode cX3_noPage 23 = .ok (.iconst 0, 1) := by decide +kernel
theorem dX3_noPage_24 : decode cX3_noPage 24 = .ok (.ireturn, 1) := by decide +kernel
theorem dX3_place_0 : decode cX3_place 0 = .ok (.bipush 16, 2) := by decide +kernel
theorem dX3_place_2 : decode cX3_place 2 = .ok (.iload_n 0, 1) := by decide +kernel
theorem dX3_place_3 : decode cX3_place 3 = .ok (.imul, 1) := by decide +kernel
theorem dX3_place_4 : decode cX3_place 4 = .ok (.iload_n 1, 1) := by decide +kernel
theorem dX3_place_5 : decode cX3_place 5 = .ok (.iadd, 1) := by decide +kernel
theorem dX3_place_6 : decode cX3_place 6 = .ok (.iload_n 2, 1) := by decide +kernel
theorem dX3_place_7 : decode cX3_place 7 = .ok (.ifCond .eq 8, 3) := by decide +kernel
theorem dX3_place_10 : decode cX3_place 10 = .ok (.bipush 8, 2) := by decide +kernel
theorem dX3_place_12 : decode cX3_place 12 = .ok (.goto 4, 3) := by decide +kernel
theorem dX3_place_15 : decode cX3_place 15 = .ok (.iconst 0, 1) := by decide +kernel
theorem dX3_place_16 : decode cX3_place 16 = .ok (.iadd, 1) := by decide +kernel
theorem dX3_place_17 : decode cX3_place 17 = .ok (.ireturn, 1) := by decide +kernel
theorem dX3_ruin_0 : decode cX3_ruin 0 = .ok (.aload_n 0, 1) := by decide +kernel
theorem dX3_ruin_1 : decode cX3_ruin 1 = .ok (.iload_n 1, 1) := by decide +kernel
theorem dX3_ruin_2 : decode cX3_ruin 2 = .ok (.iload_n 2, 1) := by decide +kernel
theorem dX3_ruin_3 : decode cX3_ruin 3 = .ok (.invokestatic 122, 3) := by decide +kernel
theorem dX3_ruin_6 : decode cX3_ruin 6 = .ok (.ifCond .eq 7, 3) := by decide +kernel
theorem dX3_ruin_9 : decode cX3_ruin 9 = .ok (.iconst 1, 1) := by decide +kernel
theorem dX3_ruin_10 : decode cX3_ruin 10 = .ok (.goto 4, 3) := by decide +kernel
theorem dX3_ruin_13 : decode cX3_ruin 13 = .ok (.iconst 0, 1) := by decide +kernel
theorem dX3_ruin_14 : decode cX3_ruin 14 = .ok (.putfield 36, 3) := by decide +kernel
theorem dX3_ruin_17 : decode cX3_ruin 17 = .ok (.aload_n 0, 1) := by decide +kernel
theorem dX3_ruin_18 : decode cX3_ruin 18 = .ok (.getfield 36, 3) := by decide +kernel
theorem dX3_ruin_21 : decode cX3_ruin 21 = .ok (.ifCond .ne 18, 3) := by decide +kernel
theorem dX3_ruin_24 : decode cX3_ruin 24 = .ok (.aload_n 0, 1) := by decide +kernel
theorem dX3_ruin_25 : decode cX3_ruin 25 = .ok (.getfield 7, 3) := by decide +kernel
theorem dX3_ruin_28 : decode cX3_ruin 28 = .ok (.iload_n 1, 1) := by decide +kernel
theorem dX3_ruin_29 : decode cX3_ruin 29 = .ok (.iload_n 2, 1) := by decide +kernel
theorem dX3_ruin_30 : decode cX3_ruin 30 = .ok (.iload_n 3, 1) := by decide +kernel
theorem dX3_ruin_31 : decode cX3_ruin 31 = .ok (.invokestatic 125, 3) := by decide +kernel
theorem dX3_ruin_34 : decode cX3_ruin 34 = .ok (.iaload, 1) := by decide +kernel
theorem dX3_ruin_35 : decode cX3_ruin 35 = .ok (.iconst 1, 1) := by decide +kernel
theorem dX3_ruin_36 : decode cX3_ruin 36 = .ok (.if_icmp .eq 5, 3) := by decide +kernel
theorem dX3_ruin_39 : decode cX3_ruin 39 = .ok (.iconst 0, 1) := by decide +kernel
theorem dX3_ruin_40 : decode cX3_ruin 40 = .ok (.ireturn, 1) := by decide +kernel
theorem dX3_ruin_41 : decode cX3_ruin 41 = .ok (.aload_n 0, 1) := by decide +kernel
theorem dX3_ruin_42 : decode cX3_ruin 42 = .ok (.getfield 7, 3) := by decide +kernel
theorem dX3_ruin_45 : decode cX3_ruin 45 = .ok (.iload_n 1, 1) := by decide +kernel
theorem dX3_ruin_46 : decode cX3_ruin 46 = .ok (.iload_n 2, 1) := by decide +kernel
theorem dX3_ruin_47 : decode cX3_ruin 47 = .ok (.iload_n 3, 1) := by decide +kernel
theorem dX3_ruin_48 : decode cX3_ruin 48 = .ok (.invokestatic 125, 3) := by decide +kernel
theorem dX3_ruin_51 : decode cX3_ruin 51 = .ok (.iconst 2, 1) := by decide +kernel
theorem dX3_ruin_52 : decode cX3_ruin 52 = .ok (.iastore, 1) := by decide +kernel
theorem dX3_ruin_53 : decode cX3_ruin 53 = .ok (.iconst 1, 1) := by decide +kernel
theorem dX3_ruin_54 : decode cX3_ruin 54 = .ok (.ireturn, 1) := by decide +kernel
theorem dX3_page_0 : decode cX3_page 0 = .ok (.aload_n 0, 1) := by decide +kernel
theorem dX3_page_1 : decode cX3_page 1 = .ok (.iload_n 1, 1) := by decide +kernel
theorem dX3_page_2 : decode cX3_page 2 = .ok (.iload_n 2, 1) := by decide +kernel
theorem dX3_page_3 : decode cX3_page 3 = .ok (.invokestatic 122, 3) := by decide +kernel
theorem dX3_page_6 : decode cX3_page 6 = .ok (.ifCond .eq 7, 3) := by decide +kernel
theorem dX3_page_9 : decode cX3_page 9 = .ok (.iconst 1, 1) := by decide +kernel
theorem dX3_page_10 : decode cX3_page 10 = .ok (.goto 4, 3) := by decide +kernel
theorem dX3_page_13 : decode cX3_page 13 = .ok (.iconst 0, 1) := by decide +kernel
theorem dX3_page_14 : decode cX3_page 14 = .ok (.putfield 36, 3) := by decide +kernel
theorem dX3_page_17 : decode cX3_page 17 = .ok (.aload_n 0, 1) := by decide +kernel
theorem dX3_page_18 : decode cX3_page 18 = .ok (.getfield 36, 3) := by decide +kernel
theorem dX3_page_21 : decode cX3_page 21 = .ok (.ifCond .eq 5, 3) := by decide +kernel
theorem dX3_page_24 : decode cX3_page 24 = .ok (.iconst 0, 1) := by decide +kernel
theorem dX3_page_25 : decode cX3_page 25 = .ok (.ireturn, 1) := by decide +kernel
theorem dX3_page_26 : decode cX3_page 26 = .ok (.iload_n 1, 1) := by decide +kernel
theorem dX3_page_27 : decode cX3_page 27 = .ok (.iload_n 2, 1) := by decide +kernel
theorem dX3_page_28 : decode cX3_page 28 = .ok (.iload_n 3, 1) := by decide +kernel
theorem dX3_page_29 : decode cX3_page 29 = .ok (.invokestatic 125, 3) := by decide +kernel
theorem dX3_page_32 : decode cX3_page 32 = .ok (.istore 4, 2) := by decide +kernel
theorem dX3_page_34 : decode cX3_page 34 = .ok (.aload_n 0, 1) := by decide +kernel
theorem dX3_page_35 : decode cX3_page 35 = .ok (.iload 4, 2) := by decide +kernel
theorem dX3_page_37 : decode cX3_page 37 = .ok (.invokevirtual 43, 3) := by decide +kernel
theorem dX3_page_40 : decode cX3_page 40 = .ok (.ifCond .eq 7, 3) := by decide +kernel
theorem dX3_page_43 : decode cX3_page 43 = .ok (.iconst 3, 1) := by decide +kernel
theorem dX3_page_44 : decode cX3_page 44 = .ok (.goto 10, 3) := by decide +kernel
theorem dX3_page_47 : decode cX3_page 47 = .ok (.aload_n 0, 1) := by decide +kernel
theorem dX3_page_48 : decode cX3_page 48 = .ok (.getfield 7, 3) := by decide +kernel
theorem dX3_page_51 : decode cX3_page 51 = .ok (.iload 4, 2) := by decide +kernel
theorem dX3_page_53 : decode cX3_page 53 = .ok (.iaload, 1) := by decide +kernel
theorem dX3_page_54 : decode cX3_page 54 = .ok (.ireturn, 1) := by decide +kernel
theorem dX3_at_0 : decode cX3_at 0 = .ok (.aload_n 0, 1) := by decide +kernel
theorem dX3_at_1 : decode cX3_at 1 = .ok (.iload_n 1, 1) := by decide +kernel
theorem dX3_at_2 : decode cX3_at 2 = .ok (.iload_n 2, 1) := by decide +kernel
theorem dX3_at_3 : decode cX3_at 3 = .ok (.invokestatic 122, 3) := by decide +kernel
theorem dX3_at_6 : decode cX3_at 6 = .ok (.ifCond .ne 15, 3) := by decide +kernel
theorem dX3_at_9 : decode cX3_at 9 = .ok (.iload 4, 2) := by decide +kernel
theorem dX3_at_11 : decode cX3_at 11 = .ok (.ifCond .lt 10, 3) := by decide +kernel
theorem dX3_at_14 : decode cX3_at 14 = .ok (.iload 4, 2) := by decide +kernel
theorem dX3_at_16 : decode cX3_at 16 = .ok (.bipush 15, 2) := by decide +kernel
theorem dX3_at_18 : decode cX3_at 18 = .ok (.if_icmp .le 7, 3) := by decide +kernel
theorem dX3_at_21 : decode cX3_at 21 = .ok (.iconst 1, 1) := by decide +kernel
theorem dX3_at_22 : decode cX3_at 22 = .ok (.goto 4, 3) := by decide +kernel
theorem dX3_at_25 : decode cX3_at 25 = .ok (.iconst 0, 1) := by decide +kernel
theorem dX3_at_26 : decode cX3_at 26 = .ok (.putfield 36, 3) := by decide +kernel
theorem dX3_at_29 : decode cX3_at 29 = .ok (.aload_n 0, 1) := by decide +kernel
theorem dX3_at_30 : decode cX3_at 30 = .ok (.getfield 36, 3) := by decide +kernel
theorem dX3_at_33 : decode cX3_at 33 = .ok (.ifCond .eq 5, 3) := by decide +kernel
theorem dX3_at_36 : decode cX3_at 36 = .ok (.iconst 0, 1) := by decide +kernel
theorem dX3_at_37 : decode cX3_at 37 = .ok (.ireturn, 1) := by decide +kernel
theorem dX3_at_38 : decode cX3_at 38 = .ok (.iload_n 1, 1) := by decide +kernel
theorem dX3_at_39 : decode cX3_at 39 = .ok (.iload_n 2, 1) := by decide +kernel
theorem dX3_at_40 : decode cX3_at 40 = .ok (.iload_n 3, 1) := by decide +kernel
theorem dX3_at_41 : decode cX3_at 41 = .ok (.invokestatic 125, 3) := by decide +kernel
theorem dX3_at_44 : decode cX3_at 44 = .ok (.istore 5, 2) := by decide +kernel
theorem dX3_at_46 : decode cX3_at 46 = .ok (.aload_n 0, 1) := by decide +kernel
theorem dX3_at_47 : decode cX3_at 47 = .ok (.aload_n 0, 1) := by decide +kernel
theorem dX3_at_48 : decode cX3_at 48 = .ok (.iload 5, 2) := by decide +kernel
theorem dX3_at_50 : decode cX3_at 50 = .ok (.invokevirtual 94, 3) := by decide +kernel
theorem dX3_at_53 : decode cX3_at 53 = .ok (.ifCond .eq 7, 3) := by decide +kernel
theorem dX3_at_56 : decode cX3_at 56 = .ok (.iconst 0, 1) := by decide +kernel
theorem dX3_at_57 : decode cX3_at 57 = .ok (.goto 4, 3) := by decide +kernel
theorem dX3_at_60 : decode cX3_at 60 = .ok (.iconst 2, 1) := by decide +kernel
theorem dX3_at_61 : decode cX3_at 61 = .ok (.putfield 36, 3) := by decide +kernel
theorem dX3_at_64 : decode cX3_at 64 = .ok (.aload_n 0, 1) := by decide +kernel
theorem dX3_at_65 : decode cX3_at 65 = .ok (.getfield 36, 3) := by decide +kernel
theorem dX3_at_68 : decode cX3_at 68 = .ok (.ifCond .ne 14, 3) := by decide +kernel
theorem dX3_at_71 : decode cX3_at 71 = .ok (.aload_n 0, 1) := by decide +kernel
theorem dX3_at_72 : decode cX3_at 72 = .ok (.iload 5, 2) := by decide +kernel
theorem dX3_at_74 : decode cX3_at 74 = .ok (.iload 4, 2) := by decide +kernel
theorem dX3_at_76 : decode cX3_at 76 = .ok (.invokevirtual 87, 3) := by decide +kernel
theorem dX3_at_79 : decode cX3_at 79 = .ok (.goto 4, 3) := by decide +kernel
theorem dX3_at_82 : decode cX3_at 82 = .ok (.iconst 0, 1) := by decide +kernel
theorem dX3_at_83 : decode cX3_at 83 = .ok (.ireturn, 1) := by decide +kernel
theorem dX3_guard_0 : decode cX3_guard 0 = .ok (.aload_n 0, 1) := by decide +kernel
theorem dX3_guard_1 : decode cX3_guard 1 = .ok (.iload_n 1, 1) := by decide +kernel
theorem dX3_guard_2 : decode cX3_guard 2 = .ok (.ifCond .lt 8, 3) := by decide +kernel
theorem dX3_guard_5 : decode cX3_guard 5 = .ok (.iload_n 1, 1) := by decide +kernel
theorem dX3_guard_6 : decode cX3_guard 6 = .ok (.iconst 5, 1) := by decide +kernel
theorem dX3_guard_7 : decode cX3_guard 7 = .ok (.if_icmp .le 7, 3) := by decide +kernel
theorem dX3_guard_10 : decode cX3_guard 10 = .ok (.iconst 1, 1) := by decide +kernel
theorem dX3_guard_11 : decode cX3_guard 11 = .ok (.goto 4, 3) := by decide +kernel
theorem dX3_guard_14 : decode cX3_guard 14 = .ok (.iconst 0, 1) := by decide +kernel
theorem dX3_guard_15 : decode cX3_guard 15 = .ok (.putfield 36, 3) := by decide +kernel
theorem dX3_guard_18 : decode cX3_guard 18 = .ok (.aload_n 0, 1) := by decide +kernel
theorem dX3_guard_19 : decode cX3_guard 19 = .ok (.getfield 36, 3) := by decide +kernel
theorem dX3_guard_22 : decode cX3_guard 22 = .ok (.ifCond .ne 12, 3) := by decide +kernel
theorem dX3_guard_25 : decode cX3_guard 25 = .ok (.aload_n 0, 1) := by decide +kernel
theorem dX3_guard_26 : decode cX3_guard 26 = .ok (.getfield 16, 3) := by decide +kernel
theorem dX3_guard_29 : decode cX3_guard 29 = .ok (.iload_n 1, 1) := by decide +kernel
theorem dX3_guard_30 : decode cX3_guard 30 = .ok (.iaload, 1) := by decide +kernel
theorem dX3_guard_31 : decode cX3_guard 31 = .ok (.goto 4, 3) := by decide +kernel
theorem dX3_guard_34 : decode cX3_guard 34 = .ok (.iconst 0, 1) := by decide +kernel
theorem dX3_guard_35 : decode cX3_guard 35 = .ok (.ireturn, 1) := by decide +kernel
theorem dX3_guarded_0 : decode cX3_guarded 0 = .ok (.aload_n 0, 1) := by decide +kernel
theorem dX3_guarded_1 : decode cX3_guarded 1 = .ok (.iload_n 1, 1) := by decide +kernel
theorem dX3_guarded_2 : decode cX3_guarded 2 = .ok (.ifCond .lt 18, 3) := by decide +kernel
theorem dX3_guarded_5 : decode cX3_guarded 5 = .ok (.iload_n 1, 1) := by decide +kernel
theorem dX3_guarded_6 : decode cX3_guarded 6 = .ok (.iconst 5, 1) := by decide +kernel
theorem dX3_guarded_7 : decode cX3_guarded 7 = .ok (.if_icmp .gt 13, 3) := by decide +kernel
theorem dX3_guarded_10 : decode cX3_guarded 10 = .ok (.iload_n 2, 1) := by decide +kernel
theorem dX3_guarded_11 : decode cX3_guarded 11 = .ok (.ifCond .lt 9, 3) := by decide +kernel
theorem dX3_guarded_14 : decode cX3_guarded 14 = .ok (.iload_n 2, 1) := by decide +kernel
theorem dX3_guarded_15 : decode cX3_guarded 15 = .ok (.bipush 16, 2) := by decide +kernel
theorem dX3_guarded_17 : decode cX3_guarded 17 = .ok (.if_icmp .le 7, 3) := by decide +kernel
theorem dX3_guarded_20 : decode cX3_guarded 20 = .ok (.iconst 1, 1) := by decide +kernel
theorem dX3_guarded_21 : decode cX3_guarded 21 = .ok (.goto 4, 3) := by decide +kernel
theorem dX3_guarded_24 : decode cX3_guarded 24 = .ok (.iconst 0, 1) := by decide +kernel
theorem dX3_guarded_25 : decode cX3_guarded 25 = .ok (.putfield 36, 3) := by decide +kernel
theorem dX3_guarded_28 : decode cX3_guarded 28 = .ok (.aload_n 0, 1) := by decide +kernel
theorem dX3_guarded_29 : decode cX3_guarded 29 = .ok (.getfield 36, 3) := by decide +kernel
theorem dX3_guarded_32 : decode cX3_guarded 32 = .ok (.ifCond .eq 5, 3) := by decide +kernel
theorem dX3_guarded_35 : decode cX3_guarded 35 = .ok (.iconst 0, 1) := by decide +kernel
theorem dX3_guarded_36 : decode cX3_guarded 36 = .ok (.ireturn, 1) := by decide +kernel
theorem dX3_guarded_37 : decode cX3_guarded 37 = .ok (.aload_n 0, 1) := by decide +kernel
theorem dX3_guarded_38 : decode cX3_guarded 38 = .ok (.aload_n 0, 1) := by decide +kernel
theorem dX3_guarded_39 : decode cX3_guarded 39 = .ok (.getfield 16, 3) := by decide +kernel
theorem dX3_guarded_42 : decode cX3_guarded 42 = .ok (.iload_n 1, 1) := by decide +kernel
theorem dX3_guarded_43 : decode cX3_guarded 43 = .ok (.iaload, 1) := by decide +kernel
theorem dX3_guarded_44 : decode cX3_guarded 44 = .ok (.iconst 1, 1) := by decide +kernel
theorem dX3_guarded_45 : decode cX3_guarded 45 = .ok (.if_icmp .ne 7, 3) := by decide +kernel
theorem dX3_guarded_48 : decode cX3_guarded 48 = .ok (.iconst 0, 1) := by decide +kernel
theorem dX3_guarded_49 : decode cX3_guarded 49 = .ok (.goto 4, 3) := by decide +kernel
theorem dX3_guarded_52 : decode cX3_guarded 52 = .ok (.iconst 2, 1) := by decide +kernel
theorem dX3_guarded_53 : decode cX3_guarded 53 = .ok (.putfield 36, 3) := by decide +kernel
theorem dX3_guarded_56 : decode cX3_guarded 56 = .ok (.aload_n 0, 1) := by decide +kernel
theorem dX3_guarded_57 : decode cX3_guarded 57 = .ok (.getfield 36, 3) := by decide +kernel
theorem dX3_guarded_60 : decode cX3_guarded 60 = .ok (.ifCond .ne 17, 3) := by decide +kernel
theorem dX3_guarded_63 : decode cX3_guarded 63 = .ok (.aload_n 0, 1) := by decide +kernel
theorem dX3_guarded_64 : decode cX3_guarded 64 = .ok (.getfield 19, 3) := by decide +kernel
theorem dX3_guarded_67 : decode cX3_guarded 67 = .ok (.bipush 17, 2) := by decide +kernel
theorem dX3_guarded_69 : decode cX3_guarded 69 = .ok (.iload_n 1, 1) := by decide +kernel
theorem dX3_guarded_70 : decode cX3_guarded 70 = .ok (.imul, 1) := by decide +kernel
theorem dX3_guarded_71 : decode cX3_guarded 71 = .ok (.iload_n 2, 1) := by decide +kernel
theorem dX3_guarded_72 : decode cX3_guarded 72 = .ok (.iadd, 1) := by decide +kernel
theorem dX3_guarded_73 : decode cX3_guarded 73 = .ok (.iaload, 1) := by decide +kernel
theorem dX3_guarded_74 : decode cX3_guarded 74 = .ok (.goto 4, 3) := by decide +kernel
theorem dX3_guarded_77 : decode cX3_guarded 77 = .ok (.iconst 0, 1) := by decide +kernel
theorem dX3_guarded_78 : decode cX3_guarded 78 = .ok (.ireturn, 1) := by decide +kernel
theorem dX3_told_0 : decode cX3_told 0 = .ok (.aload_n 0, 1) := by decide +kernel
theorem dX3_told_1 : decode cX3_told 1 = .ok (.iconst 0, 1) := by decide +kernel
theorem dX3_told_2 : decode cX3_told 2 = .ok (.putfield 36, 3) := by decide +kernel
theorem dX3_told_5 : decode cX3_told 5 = .ok (.iconst 0, 1) := by decide +kernel
theorem dX3_told_6 : decode cX3_told 6 = .ok (.istore_n 2, 1) := by decide +kernel
theorem dX3_told_7 : decode cX3_told 7 = .ok (.iconst 0, 1) := by decide +kernel
theorem dX3_told_8 : decode cX3_told 8 = .ok (.istore_n 3, 1) := by decide +kernel
theorem dX3_told_9 : decode cX3_told 9 = .ok (.iload_n 3, 1) := by decide +kernel
theorem dX3_told_10 : decode cX3_told 10 = .ok (.bipush 6, 2) := by decide +kernel
theorem dX3_told_12 : decode cX3_told 12 = .ok (.if_icmp .ge 25, 3) := by decide +kernel
theorem dX3_told_15 : decode cX3_told 15 = .ok (.iload_n 2, 1) := by decide +kernel
theorem dX3_told_16 : decode cX3_told 16 = .ok (.aload_n 0, 1) := by decide +kernel
theorem dX3_told_17 : decode cX3_told 17 = .ok (.iload_n 3, 1) := by decide +kernel
theorem dX3_told_18 : decode cX3_told 18 = .ok (.invokevirtual 60, 3) := by decide +kernel
theorem dX3_told_21 : decode cX3_told 21 = .ok (.ifCond .eq 7, 3) := by decide +kernel
theorem dX3_told_24 : decode cX3_told 24 = .ok (.iconst 1, 1) := by decide +kernel
theorem dX3_told_25 : decode cX3_told 25 = .ok (.goto 4, 3) := by decide +kernel
theorem dX3_told_28 : decode cX3_told 28 = .ok (.iconst 0, 1) := by decide +kernel
theorem dX3_told_29 : decode cX3_told 29 = .ok (.iadd, 1) := by decide +kernel
theorem dX3_told_30 : decode cX3_told 30 = .ok (.istore_n 2, 1) := by decide +kernel
theorem dX3_told_31 : decode cX3_told 31 = .ok (.iinc 3 1, 3) := by decide +kernel
theorem dX3_told_34 : decode cX3_told 34 = .ok (.goto (-25), 3) := by decide +kernel
theorem dX3_told_37 : decode cX3_told 37 = .ok (.iload_n 1, 1) := by decide +kernel
theorem dX3_told_38 : decode cX3_told 38 = .ok (.bipush 10, 2) := by decide +kernel
theorem dX3_told_40 : decode cX3_told 40 = .ok (.if_icmp .lt 19, 3) := by decide +kernel
theorem dX3_told_43 : decode cX3_told 43 = .ok (.iload_n 1, 1) := by decide +kernel
theorem dX3_told_44 : decode cX3_told 44 = .ok (.bipush 16, 2) := by decide +kernel
theorem dX3_told_46 : decode cX3_told 46 = .ok (.if_icmp .ge 13, 3) := by decide +kernel
theorem dX3_told_49 : decode cX3_told 49 = .ok (.aload_n 0, 1) := by decide +kernel
theorem dX3_told_50 : decode cX3_told 50 = .ok (.getfield 22, 3) := by decide +kernel
theorem dX3_told_53 : decode cX3_told 53 = .ok (.iload_n 1, 1) := by decide +kernel
theorem dX3_told_54 : decode cX3_told 54 = .ok (.bipush 10, 2) := by decide +kernel
theorem dX3_told_56 : decode cX3_told 56 = .ok (.isub, 1) := by decide +kernel
theorem dX3_told_57 : decode cX3_told 57 = .ok (.iaload, 1) := by decide +kernel
theorem dX3_told_58 : decode cX3_told 58 = .ok (.ireturn, 1) := by decide +kernel
theorem dX3_told_59 : decode cX3_told 59 = .ok (.iload_n 1, 1) := by decide +kernel
theorem dX3_told_60 : decode cX3_told 60 = .ok (.ifCond .ne 10, 3) := by decide +kernel
theorem dX3_told_63 : decode cX3_told 63 = .ok (.aload_n 0, 1) := by decide +kernel
theorem dX3_told_64 : decode cX3_told 64 = .ok (.getfield 54, 3) := by decide +kernel
theorem dX3_told_67 : decode cX3_told 67 = .ok (.goto 45, 3) := by decide +kernel
theorem dX3_told_70 : decode cX3_told 70 = .ok (.iload_n 1, 1) := by decide +kernel
theorem dX3_told_71 : decode cX3_told 71 = .ok (.iconst 1, 1) := by decide +kernel
theorem dX3_told_72 : decode cX3_told 72 = .ok (.if_icmp .ne 18, 3) := by decide +kernel
theorem dX3_told_75 : decode cX3_told 75 = .ok (.aload_n 0, 1) := by decide +kernel
theorem dX3_told_76 : decode cX3_told 76 = .ok (.getfield 25, 3) := by decide +kernel
theorem dX3_told_79 : decode cX3_told 79 = .ok (.ifCond .eq 7, 3) := by decide +kernel
theorem dX3_told_82 : decode cX3_told 82 = .ok (.iconst 1, 1) := by decide +kernel
theorem dX3_told_83 : decode cX3_told 83 = .ok (.goto 29, 3) := by decide +kernel
theorem dX3_told_86 : decode cX3_told 86 = .ok (.iconst 0, 1) := by decide +kernel
theorem dX3_told_87 : decode cX3_told 87 = .ok (.goto 25, 3) := by decide +kernel
theorem dX3_told_90 : decode cX3_told 90 = .ok (.iload_n 1, 1) := by decide +kernel
theorem dX3_told_91 : decode cX3_told 91 = .ok (.iconst 2, 1) := by decide +kernel
theorem dX3_told_92 : decode cX3_told 92 = .ok (.if_icmp .ne 7, 3) := by decide +kernel
theorem dX3_told_95 : decode cX3_told 95 = .ok (.iload_n 2, 1) := by decide +kernel
theorem dX3_told_96 : decode cX3_told 96 = .ok (.goto 16, 3) := by decide +kernel
theorem dX3_told_99 : decode cX3_told 99 = .ok (.iload_n 1, 1) := by decide +kernel
theorem dX3_told_100 : decode cX3_told 100 = .ok (.iconst 3, 1) := by decide +kernel
theorem dX3_told_101 : decode cX3_told 101 = .ok (.if_icmp .ne 10, 3) := by decide +kernel
theorem dX3_told_104 : decode cX3_told 104 = .ok (.aload_n 0, 1) := by decide +kernel
theorem dX3_told_105 : decode cX3_told 105 = .ok (.getfield 47, 3) := by decide +kernel
theorem dX3_told_108 : decode cX3_told 108 = .ok (.goto 4, 3) := by decide +kernel
theorem dX3_told_111 : decode cX3_told 111 = .ok (.iconst (-1), 1) := by decide +kernel
theorem dX3_told_112 : decode cX3_told 112 = .ok (.ireturn, 1) := by decide +kernel
end
section
/-! ===== rows over natural numbers: an int on the stack is nI n (a number) or mI n (one less), a row of ints is gd n f ===== -/
def gd (n : Nat) (f : Nat → Nat) : Nat → Int32 := fun j => if j < n then nI (f j) else 0
def up (f : Nat → Nat) (k x : Nat) : Nat → Nat := fun j => if j = k then x else f j
def mI (n : Nat) : Int32 := nI n - nI 1
theorem up_same (f : Nat → Nat) (k x : Nat) : up f k x k = x := if_pos rfl
theorem up_ne (f : Nat → Nat) {k j : Nat} (x : Nat) (h : j ≠ k) : up f k x j = f j := if_neg h
theorem gd_congr {n : Nat} {f g : Nat → Nat} (h : ∀ j, j < n → f j = g j) : gd n f = gd n g := by
  funext j
  by_cases hj : j < n
  · simp only [gd, if_pos hj, h j hj]
  · simp only [gd, if_neg hj]
theorem gd_at {n k : Nat} (f : Nat → Nat) (h : k < n) (hn : n < 2 ^ 31) : gd n f (nI k).toNatClampNeg = nI (f k) := by
  rw [nI_clamp (by omega)]
  simp only [gd, if_pos h]
theorem gd_up {n k : Nat} (f : Nat → Nat) (x : Nat) (h : k < n) (hn : n < 2 ^ 31) : upd (gd n f) (nI k).toNatClampNeg (nI x) = gd n (up f k x) := by
  rw [nI_clamp (by omega)]
  funext j
  by_cases hj : j = k
  · subst hj; simp [upd, gd, up, h]
  · simp [upd, gd, up, hj]
theorem mI_toInt {n : Nat} (h : n < 2 ^ 30) : (mI n).toInt = (n : Int) - 1 := pk_sub_toInt h (by decide)
theorem mI_p1 (n : Nat) : mI n + nI 1 = nI n := by
  show nI n - nI 1 + nI 1 = nI n
  rw [Int32.sub_add_cancel]
abbrev ar (cI : ClassId) (n : Nat) (f : Nat → Nat) : va_E := .inl (cI, n, .inl (gd n f))
abbrev rr (cB : ClassId) (n : Nat) (f : Nat → Nat) : va_E := .inl (cB, n, .inr (.inr (.inr (.inr (fun j => some (f j))))))
abbrev lr (cL : ClassId) (f : Nat → Int64) : va_E := .inl (cL, 1, .inr (.inl f))
theorem va_P.eqw {D : va_G} {cl : List vw_C} {w w' : va_W} {H : Heap} (e : w = w') (h : va_P D cl w H) : va_P D cl w' H := e ▸ h
theorem va_D.eqw {A : Nat → Prop} {w w' : va_W} (e : w = w') (h : va_D A w) : va_D A w' := e ▸ h
/-- an answer that is 1 or 0 -/
def bo (r : Int32) (P : Prop) : Prop := (r = nI 1 ∧ P) ∨ (r = nI 0 ∧ ¬ P)
theorem bo.t {r : Int32} {P : Prop} (h : bo r P) : r.toInt ≠ 0 → P := fun h1 => h.elim (fun q => q.2) (fun q => absurd (by rw [q.1]; decide) h1)
theorem bo.f {r : Int32} {P : Prop} (h : bo r P) : r.toInt = 0 → ¬ P := fun h1 => h.elim (fun q => absurd h1 (by rw [q.1]; decide)) (fun q => q.2)
theorem bo.one {P : Prop} (h : P) : bo (nI 1) P := Or.inl ⟨rfl, h⟩
theorem bo.zero {P : Prop} (h : ¬ P) : bo (nI 0) P := Or.inr ⟨rfl, h⟩
theorem bo.nar {r : Int32} {P : Prop} (h : bo r P) : narrow .boolean (.int r) = .int r := h.elim (fun q => by rw [q.1]; rfl) (fun q => by rw [q.1]; rfl)
theorem bo.iff {r : Int32} {P Q : Prop} (h : bo r P) (e : P ↔ Q) : bo r Q := h.elim (fun q => Or.inl ⟨q.1, e.mp q.2⟩) (fun q => Or.inr ⟨q.1, fun z => q.2 (e.mpr z)⟩)
theorem bo.eq {r r' : Int32} {P : Prop} (h : bo r P) (h' : bo r' P) : r = r' := by
  rcases h with ⟨rfl, p⟩ | ⟨rfl, p⟩ <;> rcases h' with ⟨rfl, p'⟩ | ⟨rfl, p'⟩
  · rfl
  · exact absurd p p'
  · exact absurd p' p
  · rfl
/-- loops, by a measure that falls -/
theorem lpR {p : Program} {l : Launch} {e : Env} {R : Room} {s : State} {m : MethodId} {args : Array Value} {below : List Frame} {meth : Method} {c : Code} {H : Heap} {locs : List Loc} {cells slots : Nat} {Q : State → Prop} {pc : Nat} {st : List Value} {α : Type} (I : α → Prop) (lv : α → List (Nat × Value)) (nL : Nat) (μ : α → Nat) (s0 : α) {ls : Array Slot} (h0 : I s0) (hl : lv_has ls nL (lv s0))
    (step : ∀ (x : α) (ls : Array Slot), I x → lv_has ls nL (lv x) → (∀ (x' : α) (ls' : Array Slot), I x' → μ x' < μ x → lv_has ls' nL (lv x') → W p l e R s m args below meth c H locs cells slots Q (F0 m pc ls' st)) → W p l e R s m args below meth c H locs cells slots Q (F0 m pc ls st)) : W p l e R s m args below meth c H locs cells slots Q (F0 m pc ls st) := by
  have key : ∀ (n : Nat) (x : α) (ls : Array Slot), μ x < n → I x → lv_has ls nL (lv x) → W p l e R s m args below meth c H locs cells slots Q (F0 m pc ls st) := by
    intro n
    induction n with
    | zero => intro x ls h; exact absurd h (Nat.not_lt_zero _)
    | succ n ih => intro x ls h hI hl; exact step x ls hI hl (fun x' ls' hI' hm hl' => ih x' ls' (by omega) hI' hl')
  exact key _ s0 ls (Nat.lt_succ_self _) h0 hl
theorem lpW {p : Program} {l : Launch} {e : Env} {R : Room} {s : State} {m : MethodId} {args : Array Value} {below : List Frame} {meth : Method} {c : Code} {cells slots : Nat} {Q : State → Prop} {pc : Nat} {st : List Value} {α : Type} (I : α → Heap → List Loc → Prop) (lv : α → List (Nat × Value)) (nL : Nat) (μ : α → Nat) (s0 : α) {H : Heap} {locs : List Loc} {ls : Array Slot} (h0 : I s0 H locs) (hl : lv_has ls nL (lv s0))
    (step : ∀ (x : α) (H : Heap) (locs : List Loc) (ls : Array Slot), I x H locs → lv_has ls nL (lv x) → (∀ (x' : α) (H' : Heap) (locs' : List Loc) (ls' : Array Slot), I x' H' locs' → μ x' < μ x → lv_has ls' nL (lv x') → W p l e R s m args below meth c H' locs' cells slots Q (F0 m pc ls' st)) → W p l e R s m args below meth c H locs cells slots Q (F0 m pc ls st)) : W p l e R s m args below meth c H locs cells slots Q (F0 m pc ls st) := by
  have key : ∀ (n : Nat) (x : α) (H : Heap) (locs : List Loc) (ls : Array Slot), μ x < n → I x H locs → lv_has ls nL (lv x) → W p l e R s m args below meth c H locs cells slots Q (F0 m pc ls st) := by
    intro n
    induction n with
    | zero => intro x H locs ls h; exact absurd h (Nat.not_lt_zero _)
    | succ n ih => intro x H locs ls h hI hl; exact step x H locs ls hI hl (fun x' H' locs' ls' hI' hm hl' => ih x' H' locs' ls' (by omega) hI' hl')
  exact key _ s0 H locs ls (Nat.lt_succ_self _) h0 hl
/-- a method's start: what a reader needs, what a writer needs; what a writer leaves -/
def xN (U : State) : Prop := va_Nw (.fieldLinkNest RX0 38 "PairedCells$EventPage" "bytes" "[I" "PairedCells") U ∧ va_Nw (.fieldLinkNest RX2 157 "PairedCells$Block" "guardBytes" "[I" "PairedCells") U ∧ va_Nw (.fieldLinkNest RX2 152 "PairedCells$Block" "guardState" "I" "PairedCells") U ∧ va_Nw (.fieldLinkNest RX2 161 "PairedCells$Block" "erasures" "I" "PairedCells") U
theorem xN.same {u U : State} (h : u.vm = U.vm) (hN : xN u) : xN U := ⟨va_Nw.same rfl h hN.1, va_Nw.same rfl h hN.2.1, va_Nw.same rfl h hN.2.2.1, va_Nw.same rfl h hN.2.2.2⟩
theorem xN.warm {s U : State} (h : s.WarmedH U.vm) (hN : xN s) : xN U := ⟨va_Nw.warmF h hN.1, va_Nw.warmF h hN.2.1, va_Nw.warmF h hN.2.2.1, va_Nw.warmF h hN.2.2.2⟩
def x_R (D : va_G) (tys : List (ClassId × FieldType)) (wc : va_W) (U : State) : Prop := xN U ∧ va_P D vwCl wc U.heap ∧ va_K D vwCl tys U
def x_U (D : va_G) (tys : List (ClassId × FieldType)) (wc : va_W) (sz : Nat) (U : State) : Prop := U.heap.size = sz ∧ xN U ∧ va_P D vwCl wc U.heap ∧ va_K D vwCl tys U ∧ va_D (fun _ => True) wc
def x_E (D : va_G) (tys : List (ClassId × FieldType)) (A : Nat → Prop) (w : va_W) (t : State) : Prop := va_P D vwCl w t.heap ∧ va_K D vwCl tys t ∧ va_D A w
theorem x_R.blind {D : va_G} {tys : List (ClassId × FieldType)} {wc : va_W} {av : List Value} : FrameBlind (va_Pc av (x_R D tys wc)) := fun a U g mk q => by
  obtain ⟨q0, qn, q1, q2⟩ := q
  exact ⟨q0, xN.same (u := U) (U := U.calling g mk a) rfl qn, q1, va_K.moved (u := U) (U := U.calling g mk a) (Vm.Alike.refl U.vm) q2⟩
theorem x_U.blind {D : va_G} {tys : List (ClassId × FieldType)} {wc : va_W} {sz : Nat} {av : List Value} : FrameBlind (va_Pc av (x_U D tys wc sz)) := fun a U g mk q => by
  obtain ⟨q0, q1, qn, q2, q3, q4⟩ := q
  exact ⟨q0, q1, xN.same (u := U) (U := U.calling g mk a) rfl qn, q2, va_K.moved (u := U) (U := U.calling g mk a) (Vm.Alike.refl U.vm) q3, q4⟩
theorem x_hF {A0 : Nat → Prop} {wc : va_W} {H0 H : Heap} {locs : List Loc} (hD : va_D A0 wc) (hS : va_S A0 H0 H locs) (hA : ∀ q, H0.size ≤ q → A0 q) : ∀ q, va_A wc H.size q → A0 q := fun q h =>
  h.elim (fun ⟨k, e, h⟩ => hD.2 k (q, e) h) (fun h => hA q (Nat.le_trans hS.1 h))
section XR
variable {p : Program} {l : Launch} {e : Env} {R : Room} {s : State} {m : MethodId} {args : Array Value} {below : List Frame} {meth : Method} {c : Code} {H : Heap} {locs : List Loc} {cells slots : Nat} {Q : State → Prop}
variable {cc : ByteArray} {pc : Nat} {ls : Array Slot} {rest st0 : List Value} {D : va_G} {cl : List vw_C} {A : Nat → Prop} {a : Nat} {tys : List (ClassId × FieldType)} {ws : va_W} {H0 : Heap}
theorem xr_same {x x' : Int32} (h : x = x') (k : W p l e R s m args below meth c H locs cells slots Q (F0 m pc ls (.int x' :: rest))) : W p l e R s m args below meth c H locs cells slots Q (F0 m pc ls (.int x :: rest)) := h ▸ k
theorem xr_nat {x x' : Nat} (h : x = x') (k : W p l e R s m args below meth c H locs cells slots Q (F0 m pc ls (.int (nI x') :: rest))) : W p l e R s m args below meth c H locs cells slots Q (F0 m pc ls (.int (nI x) :: rest)) := h ▸ k
theorem xr_add (hexec : p.tables.exec = Jvm.exec) (hb : c.code = cc) {x y : Nat} (hdg : decode cc pc = .ok (.iadd, 1)) (k : W p l e R s m args below meth c H locs cells slots Q (F0 m (pc + 1) ls (.int (nI (x + y)) :: rest))) : W p l e R s m args below meth c H locs cells slots Q (F0 m pc ls (.int (nI y) :: .int (nI x) :: rest)) :=
  lv_iadd hexec hb hdg (by rw [nI_add]; exact k)
theorem xr_addm (hexec : p.tables.exec = Jvm.exec) (hb : c.code = cc) {x : Nat} (hdg : decode cc pc = .ok (.iadd, 1)) (k : W p l e R s m args below meth c H locs cells slots Q (F0 m (pc + 1) ls (.int (nI x) :: rest))) : W p l e R s m args below meth c H locs cells slots Q (F0 m pc ls (.int (nI 1) :: .int (mI x) :: rest)) :=
  lv_iadd hexec hb hdg (by rw [mI_p1]; exact k)
theorem xr_sub (hexec : p.tables.exec = Jvm.exec) (hb : c.code = cc) {x y : Nat} (h : y ≤ x) (hdg : decode cc pc = .ok (.isub, 1)) (k : W p l e R s m args below meth c H locs cells slots Q (F0 m (pc + 1) ls (.int (nI (x - y)) :: rest))) : W p l e R s m args below meth c H locs cells slots Q (F0 m pc ls (.int (nI y) :: .int (nI x) :: rest)) :=
  lv_isub hexec hb hdg (by rw [pk_sub h]; exact k)
theorem xr_subm (hexec : p.tables.exec = Jvm.exec) (hb : c.code = cc) {x : Nat} (hdg : decode cc pc = .ok (.isub, 1)) (k : W p l e R s m args below meth c H locs cells slots Q (F0 m (pc + 1) ls (.int (mI x) :: rest))) : W p l e R s m args below meth c H locs cells slots Q (F0 m pc ls (.int (nI 1) :: .int (nI x) :: rest)) :=
  lv_isub hexec hb hdg k
theorem xr_mul (hexec : p.tables.exec = Jvm.exec) (hb : c.code = cc) {x y : Nat} (hdg : decode cc pc = .ok (.imul, 1)) (k : W p l e R s m args below meth c H locs cells slots Q (F0 m (pc + 1) ls (.int (nI (x * y)) :: rest))) : W p l e R s m args below meth c H locs cells slots Q (F0 m pc ls (.int (nI y) :: .int (nI x) :: rest)) :=
  lv_imul hexec hb hdg (by rw [pk_mul]; exact k)
theorem xr_div (hexec : p.tables.exec = Jvm.exec) (hb : c.code = cc) {x y : Nat} (hx : x < 2 ^ 31) (h0 : 0 < y) (hy : y < 2 ^ 31) (hdg : decode cc pc = .ok (.idiv, 1)) (k : W p l e R s m args below meth c H locs cells slots Q (F0 m (pc + 1) ls (.int (nI (x / y)) :: rest))) : W p l e R s m args below meth c H locs cells slots Q (F0 m pc ls (.int (nI y) :: .int (nI x) :: rest)) :=
  lv_idiv hexec hb hdg (nI_ne0 h0 hy) (by rw [pk_div hx h0 hy]; exact k)
theorem xr_rem (hexec : p.tables.exec = Jvm.exec) (hb : c.code = cc) {x y : Nat} (hx : x < 2 ^ 31) (h0 : 0 < y) (hy : y < 2 ^ 31) (hdg : decode cc pc = .ok (.irem, 1)) (k : W p l e R s m args below meth c H locs cells slots Q (F0 m (pc + 1) ls (.int (nI (x % y)) :: rest))) : W p l e R s m args below meth c H locs cells slots Q (F0 m pc ls (.int (nI y) :: .int (nI x) :: rest)) :=
  lv_irem hexec hb hdg (nI_ne0 h0 hy) (by rw [pk_rem hx h0 hy]; exact k)
theorem xl_and (a b : Nat) : nI a &&& nI b = nI (a &&& b) := by
  apply Int32.toBitVec_inj.mp
  show BitVec.ofNat 32 a &&& BitVec.ofNat 32 b = BitVec.ofNat 32 (a &&& b)
  rw [BitVec.ofNat_and]
theorem xl_or (a b : Nat) : nI a ||| nI b = nI (a ||| b) := by
  apply Int32.toBitVec_inj.mp
  show BitVec.ofNat 32 a ||| BitVec.ofNat 32 b = BitVec.ofNat 32 (a ||| b)
  rw [BitVec.ofNat_or]
theorem xl_xor (a b : Nat) : nI a ^^^ nI b = nI (a ^^^ b) := by
  apply Int32.toBitVec_inj.mp
  show BitVec.ofNat 32 a ^^^ BitVec.ofNat 32 b = BitVec.ofNat 32 (a ^^^ b)
  rw [BitVec.ofNat_xor]
theorem xl_s : ∀ n, n < 32 → ((nI n &&& 31).toBitVec.smod 32).toNat = n := by decide +kernel
theorem xr_and1 (hexec : p.tables.exec = Jvm.exec) (hb : c.code = cc) {x : Nat} (hx : x < 2 ^ 32) (hdg : decode cc pc = .ok (.iand, 1)) (k : W p l e R s m args below meth c H locs cells slots Q (F0 m (pc + 1) ls (.int (nI (x % 2)) :: rest))) : W p l e R s m args below meth c H locs cells slots Q (F0 m pc ls (.int (nI 1) :: .int (nI x) :: rest)) :=
  lv_iand hexec hb hdg (by rw [pk_andN hx 1 (by decide)]; exact k)
theorem xr_and255 (hexec : p.tables.exec = Jvm.exec) (hb : c.code = cc) {x : Nat} (hx : x < 2 ^ 32) (hdg : decode cc pc = .ok (.iand, 1)) (k : W p l e R s m args below meth c H locs cells slots Q (F0 m (pc + 1) ls (.int (nI (x % 256)) :: rest))) : W p l e R s m args below meth c H locs cells slots Q (F0 m pc ls (.int (nI 255) :: .int (nI x) :: rest)) :=
  lv_iand hexec hb hdg (by rw [pk_andN hx 8 (by decide)]; exact k)
theorem xr_or (hexec : p.tables.exec = Jvm.exec) (hb : c.code = cc) {x y : Nat} (hdg : decode cc pc = .ok (.ior, 1)) (k : W p l e R s m args below meth c H locs cells slots Q (F0 m (pc + 1) ls (.int (nI (x ||| y)) :: rest))) : W p l e R s m args below meth c H locs cells slots Q (F0 m pc ls (.int (nI y) :: .int (nI x) :: rest)) :=
  lv_ior hexec hb hdg (by rw [xl_or]; exact k)
theorem xr_xor (hexec : p.tables.exec = Jvm.exec) (hb : c.code = cc) {x y : Nat} (hdg : decode cc pc = .ok (.ixor, 1)) (k : W p l e R s m args below meth c H locs cells slots Q (F0 m (pc + 1) ls (.int (nI (x ^^^ y)) :: rest))) : W p l e R s m args below meth c H locs cells slots Q (F0 m pc ls (.int (nI y) :: .int (nI x) :: rest)) :=
  lv_ixor hexec hb hdg (by rw [xl_xor]; exact k)
theorem xr_shr (hexec : p.tables.exec = Jvm.exec) (hb : c.code = cc) {x y : Nat} (hx : x < 2 ^ 31) (hy : y < 32) (hdg : decode cc pc = .ok (.ishr, 1)) (k : W p l e R s m args below meth c H locs cells slots Q (F0 m (pc + 1) ls (.int (nI (x / 2 ^ y)) :: rest))) : W p l e R s m args below meth c H locs cells slots Q (F0 m pc ls (.int (nI y) :: .int (nI x) :: rest)) :=
  lv_ishr hexec hb hdg (by rw [pk_shrN hx _ y (xl_s y hy)]; exact k)
theorem xr_shl (hexec : p.tables.exec = Jvm.exec) (hb : c.code = cc) {x y : Nat} (hy : y < 32) (hx : x * 2 ^ y < 2 ^ 32) (hdg : decode cc pc = .ok (.ishl, 1)) (k : W p l e R s m args below meth c H locs cells slots Q (F0 m (pc + 1) ls (.int (nI (x * 2 ^ y)) :: rest))) : W p l e R s m args below meth c H locs cells slots Q (F0 m pc ls (.int (nI y) :: .int (nI x) :: rest)) :=
  lv_ishl hexec hb hdg (by rw [pk_shlN _ y (xl_s y hy) hx]; exact k)
theorem xr_iald (hexec : p.tables.exec = Jvm.exec) (hb : c.code = cc) (hK : va_K D cl tys s) (hP : va_P D cl ws H) (q0 t0 : Nat) {cA : ClassId} {n : Nat} {f : Nat → Nat} (ha : ws[q0]? = some (a, ar cA n f)) (ht : tys[t0]? = some (cA, .int)) {k : Nat} (hk : k < n) (hn : n < 2 ^ 31) (hdg : decode cc pc = .ok (.iaload, 1))
    (kk : W p l e R s m args below meth c H locs cells slots Q (F0 m (pc + 1) ls (.int (nI (f k)) :: rest))) : W p l e R s m args below meth c H locs cells slots Q (F0 m pc ls (.int (nI k) :: .ref a :: rest)) :=
  va_iald hexec hb hK hP q0 t0 ha ht (vp_in_nI hk hn) hdg (by rw [gd_at f hk hn]; exact kk)
theorem xr_aald (hexec : p.tables.exec = Jvm.exec) (hb : c.code = cc) (hK : va_K D cl tys s) (hP : va_P D cl ws H) (q0 t0 : Nat) {cA : ClassId} {C : String} {n : Nat} {f : Nat → Nat} (ha : ws[q0]? = some (a, rr cA n f)) (ht : tys[t0]? = some (cA, .object C)) {k : Nat} (hk : k < n) (hn : n < 2 ^ 31) (hdg : decode cc pc = .ok (.aaload, 1))
    (kk : W p l e R s m args below meth c H locs cells slots Q (F0 m (pc + 1) ls (.ref (f k) :: rest))) : W p l e R s m args below meth c H locs cells slots Q (F0 m pc ls (.int (nI k) :: .ref a :: rest)) :=
  va_aldq hexec hb hK hP q0 t0 ha ht (vp_in_nI hk hn) hdg (by rw [nI_clamp (by omega)]; exact kk)
theorem xr_iast (hexec : p.tables.exec = Jvm.exec) (hb : c.code = cc) (hK : va_K D cl tys s) (hP : va_P D cl ws H) (hD : va_D A ws) (hS : va_S A H0 H locs) (q0 t0 : Nat) {cA : ClassId} {n : Nat} {f : Nat → Nat} (ha : ws[q0]? = some (a, ar cA n f)) (ht : tys[t0]? = some (cA, .int)) {k x : Nat} (hk : k < n) (hn : n < 2 ^ 31) (hdg : decode cc pc = .ok (.iastore, 1))
    (kk : ∀ (H1 : Heap) (locs1 : List Loc), va_P D cl (ws.set q0 (a, ar cA n (up f k x))) H1 → va_D A (ws.set q0 (a, ar cA n (up f k x))) → va_S A H0 H1 locs1 → W p l e R s m args below meth c H1 locs1 cells slots Q (F0 m (pc + 1) ls rest)) : W p l e R s m args below meth c H locs cells slots Q (F0 m pc ls (.int (nI x) :: .int (nI k) :: .ref a :: rest)) :=
  va_iast hexec hb hK hP hD hS q0 t0 ha ht (vp_in_nI hk hn) hdg (by rw [gd_up f x hk hn]; exact kk)
theorem xr_copy (hexec : p.tables.exec = Jvm.exec) (hb : c.code = cc) (hml : c.maxLocals = ls.size) {own : String} {index : Nat} (hown : s.vm.findClass own = some m.cls) (hlink : (Cond.methodLink own index arraycopyName).before args s = true) (hnat : (Cond.native arraycopyName).before args s = true) (hstat : (Cond.static arraycopyName).before args s = true) (hini : (Cond.initialized "java/lang/System").before args s = true)
    (hK : va_K D cl tys s) (hP : va_P D cl ws H) (hD : va_D A ws) (hS : va_S A H0 H locs) (q0 q1 t0 : Nat) {a0 : Nat} {cI : ClassId} {n0 n1 : Nat} {f g : Nat → Nat} (ha0 : ws[q0]? = some (a0, ar cI n0 f)) (ha1 : ws[q1]? = some (a, ar cI n1 g)) (ht0 : tys[t0]? = some (cI, .int))
    {sp dp n : Nat} (h4 : sp + n ≤ n0) (h5 : dp + n ≤ n1) (hn0 : n0 < 2 ^ 31) (hn1 : n1 < 2 ^ 31)
    (hframes : 1 ≤ R.frames) (hlocals : (rest.map fun v => v.category).sum + (nativeFrameWords "java/lang/System" "arraycopy" 5 + 11) ≤ R.locals) (hdg : decode cc pc = .ok (.invokestatic index, 3))
    (kk : ∀ (H1 : Heap) (locs1 : List Loc), va_P D cl (ws.set q1 (a, ar cI n1 (fun j => if dp ≤ j ∧ j < dp + n then f (sp + (j - dp)) else g j))) H1 → va_D A (ws.set q1 (a, ar cI n1 (fun j => if dp ≤ j ∧ j < dp + n then f (sp + (j - dp)) else g j))) → va_S A H0 H1 locs1 → W p l e R s m args below meth c H1 locs1 cells slots Q (F0 m (pc + 3) ls rest)) : W p l e R s m args below meth c H locs cells slots Q (F0 m pc ls (.int (nI n) :: .int (nI dp) :: .ref a :: .int (nI sp) :: .ref a0 :: rest)) := by
  have e1 : (nI sp).toNatClampNeg = sp := nI_clamp (by omega)
  have e2 : (nI dp).toNatClampNeg = dp := nI_clamp (by omega)
  have e3 : (nI n).toNatClampNeg = n := nI_clamp (by omega)
  have e4 : va_cpy (gd n0 f) (gd n1 g) sp dp n = gd n1 (fun j => if dp ≤ j ∧ j < dp + n then f (sp + (j - dp)) else g j) := by
    funext j
    by_cases hj : dp ≤ j ∧ j < dp + n
    · rw [pk_cpy_in hj.1 hj.2]
      simp only [gd]
      rw [if_pos (show sp + (j - dp) < n0 by omega), if_pos (show j < n1 by omega), if_pos hj]
    · rw [pk_cpy_out (by omega)]
      simp only [gd]
      rw [if_neg hj]
  refine va_copyi hexec hb hml hown hlink hnat hstat hini hK hP hD hS q0 q1 t0 t0 (ty := .int) ha0 ha1 ht0 ht0 rfl (nI_pos (by omega)) (nI_pos (by omega)) (nI_pos (by omega)) (by rw [e1, e3]; exact h4) (by rw [e2, e3]; exact h5) (fun _ _ => rfl) hframes hlocals hdg ?_
  rw [e1, e2, e3, e4]
  exact kk
theorem xi_eq (hexec : p.tables.exec = Jvm.exec) (hb : c.code = cc) {x y : Int32} {off : Int} {tgt : Nat} {ex ey : Int} (hdg : decode cc pc = .ok (.if_icmp .eq off, 3)) (ht : (pc : Int) + off = (tgt : Int)) (hx : x.toInt = ex) (hy : y.toInt = ey)
    (kt : ex = ey → W p l e R s m args below meth c H locs cells slots Q (F0 m tgt ls rest)) (kf : ¬ ex = ey → W p l e R s m args below meth c H locs cells slots Q (F0 m (pc + 3) ls rest)) : W p l e R s m args below meth c H locs cells slots Q (F0 m pc ls (.int y :: .int x :: rest)) :=
  lv_icmp_eq hexec hb hdg ht (fun h => kt (by rw [← hx, ← hy, h])) (fun h => kf (fun h9 => h (Int32.toInt_inj.mp (by rw [hx, hy]; exact h9))))
theorem xi_ne (hexec : p.tables.exec = Jvm.exec) (hb : c.code = cc) {x y : Int32} {off : Int} {tgt : Nat} {ex ey : Int} (hdg : decode cc pc = .ok (.if_icmp .ne off, 3)) (ht : (pc : Int) + off = (tgt : Int)) (hx : x.toInt = ex) (hy : y.toInt = ey)
    (kt : ¬ ex = ey → W p l e R s m args below meth c H locs cells slots Q (F0 m tgt ls rest)) (kf : ex = ey → W p l e R s m args below meth c H locs cells slots Q (F0 m (pc + 3) ls rest)) : W p l e R s m args below meth c H locs cells slots Q (F0 m pc ls (.int y :: .int x :: rest)) :=
  lv_icmp_ne hexec hb hdg ht (fun h => kt (fun h9 => h (Int32.toInt_inj.mp (by rw [hx, hy]; exact h9)))) (fun h => kf (by rw [← hx, ← hy, h]))
theorem xi_lt (hexec : p.tables.exec = Jvm.exec) (hb : c.code = cc) {x y : Int32} {off : Int} {tgt : Nat} {ex ey : Int} (hdg : decode cc pc = .ok (.if_icmp .lt off, 3)) (ht : (pc : Int) + off = (tgt : Int)) (hx : x.toInt = ex) (hy : y.toInt = ey)
    (kt : ex < ey → W p l e R s m args below meth c H locs cells slots Q (F0 m tgt ls rest)) (kf : ¬ ex < ey → W p l e R s m args below meth c H locs cells slots Q (F0 m (pc + 3) ls rest)) : W p l e R s m args below meth c H locs cells slots Q (F0 m pc ls (.int y :: .int x :: rest)) :=
  lv_icmp_lt hexec hb hdg ht (fun h => kt (by rw [← hx, ← hy]; exact Int32.lt_iff_toInt_lt.mp h)) (fun h => kf (fun h9 => h (Int32.lt_iff_toInt_lt.mpr (by rw [hx, hy]; exact h9))))
theorem xi_ge (hexec : p.tables.exec = Jvm.exec) (hb : c.code = cc) {x y : Int32} {off : Int} {tgt : Nat} {ex ey : Int} (hdg : decode cc pc = .ok (.if_icmp .ge off, 3)) (ht : (pc : Int) + off = (tgt : Int)) (hx : x.toInt = ex) (hy : y.toInt = ey)
    (kt : ey ≤ ex → W p l e R s m args below meth c H locs cells slots Q (F0 m tgt ls rest)) (kf : ¬ ey ≤ ex → W p l e R s m args below meth c H locs cells slots Q (F0 m (pc + 3) ls rest)) : W p l e R s m args below meth c H locs cells slots Q (F0 m pc ls (.int y :: .int x :: rest)) :=
  lv_icmp_ge hexec hb hdg ht (fun h => kt (by rw [← hx, ← hy]; exact Int32.le_iff_toInt_le.mp h)) (fun h => kf (fun h9 => h (Int32.le_iff_toInt_le.mpr (by rw [hx, hy]; exact h9))))
theorem xi_gt (hexec : p.tables.exec = Jvm.exec) (hb : c.code = cc) {x y : Int32} {off : Int} {tgt : Nat} {ex ey : Int} (hdg : decode cc pc = .ok (.if_icmp .gt off, 3)) (ht : (pc : Int) + off = (tgt : Int)) (hx : x.toInt = ex) (hy : y.toInt = ey)
    (kt : ey < ex → W p l e R s m args below meth c H locs cells slots Q (F0 m tgt ls rest)) (kf : ¬ ey < ex → W p l e R s m args below meth c H locs cells slots Q (F0 m (pc + 3) ls rest)) : W p l e R s m args below meth c H locs cells slots Q (F0 m pc ls (.int y :: .int x :: rest)) :=
  lv_icmp_gt hexec hb hdg ht (fun h => kt (by rw [← hx, ← hy]; exact Int32.lt_iff_toInt_lt.mp h)) (fun h => kf (fun h9 => h (Int32.lt_iff_toInt_lt.mpr (by rw [hx, hy]; exact h9))))
theorem xi_le (hexec : p.tables.exec = Jvm.exec) (hb : c.code = cc) {x y : Int32} {off : Int} {tgt : Nat} {ex ey : Int} (hdg : decode cc pc = .ok (.if_icmp .le off, 3)) (ht : (pc : Int) + off = (tgt : Int)) (hx : x.toInt = ex) (hy : y.toInt = ey)
    (kt : ex ≤ ey → W p l e R s m args below meth c H locs cells slots Q (F0 m tgt ls rest)) (kf : ¬ ex ≤ ey → W p l e R s m args below meth c H locs cells slots Q (F0 m (pc + 3) ls rest)) : W p l e R s m args below meth c H locs cells slots Q (F0 m pc ls (.int y :: .int x :: rest)) :=
  lv_icmp_le hexec hb hdg ht (fun h => kt (by rw [← hx, ← hy]; exact Int32.le_iff_toInt_le.mp h)) (fun h => kf (fun h9 => h (Int32.le_iff_toInt_le.mpr (by rw [hx, hy]; exact h9))))
theorem xl_z : (0 : Int32).toInt = 0 := by decide
theorem xz_eq (hexec : p.tables.exec = Jvm.exec) (hb : c.code = cc) {x : Int32} {off : Int} {tgt : Nat} {ex : Int} (hdg : decode cc pc = .ok (.ifCond .eq off, 3)) (ht : (pc : Int) + off = (tgt : Int)) (hx : x.toInt = ex)
    (kt : ex = 0 → W p l e R s m args below meth c H locs cells slots Q (F0 m tgt ls rest)) (kf : ¬ ex = 0 → W p l e R s m args below meth c H locs cells slots Q (F0 m (pc + 3) ls rest)) : W p l e R s m args below meth c H locs cells slots Q (F0 m pc ls (.int x :: rest)) :=
  lv_if_eq hexec hb hdg ht (fun h => kt (by rw [← hx, h, xl_z])) (fun h => kf (fun h9 => h (Int32.toInt_inj.mp (by rw [hx, h9, xl_z]))))
theorem xz_ne (hexec : p.tables.exec = Jvm.exec) (hb : c.code = cc) {x : Int32} {off : Int} {tgt : Nat} {ex : Int} (hdg : decode cc pc = .ok (.ifCond .ne off, 3)) (ht : (pc : Int) + off = (tgt : Int)) (hx : x.toInt = ex)
    (kt : ¬ ex = 0 → W p l e R s m args below meth c H locs cells slots Q (F0 m tgt ls rest)) (kf : ex = 0 → W p l e R s m args below meth c H locs cells slots Q (F0 m (pc + 3) ls rest)) : W p l e R s m args below meth c H locs cells slots Q (F0 m pc ls (.int x :: rest)) :=
  lv_if_ne hexec hb hdg ht (fun h => kt (fun h9 => h (Int32.toInt_inj.mp (by rw [hx, h9, xl_z])))) (fun h => kf (by rw [← hx, h, xl_z]))
theorem xz_lt (hexec : p.tables.exec = Jvm.exec) (hb : c.code = cc) {x : Int32} {off : Int} {tgt : Nat} {ex : Int} (hdg : decode cc pc = .ok (.ifCond .lt off, 3)) (ht : (pc : Int) + off = (tgt : Int)) (hx : x.toInt = ex)
    (kt : ex < 0 → W p l e R s m args below meth c H locs cells slots Q (F0 m tgt ls rest)) (kf : ¬ ex < 0 → W p l e R s m args below meth c H locs cells slots Q (F0 m (pc + 3) ls rest)) : W p l e R s m args below meth c H locs cells slots Q (F0 m pc ls (.int x :: rest)) :=
  lv_if_lt hexec hb hdg ht (fun h => kt (by rw [← hx, ← xl_z]; exact Int32.lt_iff_toInt_lt.mp h)) (fun h => kf (fun h9 => h (Int32.lt_iff_toInt_lt.mpr (by rw [hx, xl_z]; exact h9))))
theorem xz_ge (hexec : p.tables.exec = Jvm.exec) (hb : c.code = cc) {x : Int32} {off : Int} {tgt : Nat} {ex : Int} (hdg : decode cc pc = .ok (.ifCond .ge off, 3)) (ht : (pc : Int) + off = (tgt : Int)) (hx : x.toInt = ex)
    (kt : 0 ≤ ex → W p l e R s m args below meth c H locs cells slots Q (F0 m tgt ls rest)) (kf : ¬ 0 ≤ ex → W p l e R s m args below meth c H locs cells slots Q (F0 m (pc + 3) ls rest)) : W p l e R s m args below meth c H locs cells slots Q (F0 m pc ls (.int x :: rest)) :=
  lv_if_ge hexec hb hdg ht (fun h => kt (by rw [← hx, ← xl_z]; exact Int32.le_iff_toInt_le.mp h)) (fun h => kf (fun h9 => h (Int32.le_iff_toInt_le.mpr (by rw [hx, xl_z]; exact h9))))
theorem xz_gt (hexec : p.tables.exec = Jvm.exec) (hb : c.code = cc) {x : Int32} {off : Int} {tgt : Nat} {ex : Int} (hdg : decode cc pc = .ok (.ifCond .gt off, 3)) (ht : (pc : Int) + off = (tgt : Int)) (hx : x.toInt = ex)
    (kt : 0 < ex → W p l e R s m args below meth c H locs cells slots Q (F0 m tgt ls rest)) (kf : ¬ 0 < ex → W p l e R s m args below meth c H locs cells slots Q (F0 m (pc + 3) ls rest)) : W p l e R s m args below meth c H locs cells slots Q (F0 m pc ls (.int x :: rest)) :=
  lv_if_gt hexec hb hdg ht (fun h => kt (by rw [← hx, ← xl_z]; exact Int32.lt_iff_toInt_lt.mp h)) (fun h => kf (fun h9 => h (Int32.lt_iff_toInt_lt.mpr (by rw [hx, xl_z]; exact h9))))
theorem xz_le (hexec : p.tables.exec = Jvm.exec) (hb : c.code = cc) {x : Int32} {off : Int} {tgt : Nat} {ex : Int} (hdg : decode cc pc = .ok (.ifCond .le off, 3)) (ht : (pc : Int) + off = (tgt : Int)) (hx : x.toInt = ex)
    (kt : ex ≤ 0 → W p l e R s m args below meth c H locs cells slots Q (F0 m tgt ls rest)) (kf : ¬ ex ≤ 0 → W p l e R s m args below meth c H locs cells slots Q (F0 m (pc + 3) ls rest)) : W p l e R s m args below meth c H locs cells slots Q (F0 m pc ls (.int x :: rest)) :=
  lv_if_le hexec hb hdg ht (fun h => kt (by rw [← hx, ← xl_z]; exact Int32.le_iff_toInt_le.mp h)) (fun h => kf (fun h9 => h (Int32.le_iff_toInt_le.mpr (by rw [hx, xl_z]; exact h9))))
variable {y : MethodName} {bytes : ByteArray} {maxL nL mc ms n index ci : Nat} {ret : Option FieldType} {wsy : List Cond} {rm : Room} {Ts : List Cond} {own : String} {b : Nat} {As : List Value} {q : vw_C} {fs : List Value} {wc : va_W} {A0 : Nat → Prop}
/-- calls of readers -/
theorem xc_Vi {post : Int32 → Prop} (S : CallFix p m c cc nL s args Ts own) (hM : Met l y wsy rm (va_Pc (.ref b :: As) (x_R D tys wc)) (vp_Si post) 0 0 (fun _ => False)) (cw : CallW R s args own q.1 index y bytes maxL ret wsy rm 0 0 n) (hN : xN s) (hK : va_K D vwCl tys s) (hP : va_P D vwCl wc H) (hc : vwCl[ci]? = some q) (k0 : Nat) (he : wc[k0]? = some (b, .inr (ci, fs)))
    (hn : As.length = n) (hsize : ls.size = nL) (hstack : st0 = As.reverse ++ .ref b :: rest) (hW : (rest.map fun v => v.category).sum ≤ 8) (hdg : decode cc pc = .ok (.invokevirtual index, 3)) (hf : cells + 0 ≤ R.cells ∧ slots + 0 ≤ R.slots)
    (kk : ∀ r : Int32, post r → W p l e R s m args below meth c H locs cells slots Q (F0 m (pc + 3) ls (.int r :: rest))) : W p l e R s m args below meth c H locs cells slots Q (F0 m pc ls st0) :=
  vp_callSi (va_runV S hM cw ⟨x_R.blind, va_recv hK hP hc he, fun U hU hW => ⟨rfl, hN.warm hW, by rw [hU]; exact hP, va_K.moved hW.alike hK⟩⟩ rfl hn hsize hstack (lv_room hW) hdg hf).run kk
theorem xc_Vl {post : Int64 → Prop} (S : CallFix p m c cc nL s args Ts own) (hM : Met l y wsy rm (va_Pc (.ref b :: As) (x_R D tys wc)) (vp_Sl post) 0 0 (fun _ => False)) (cw : CallW R s args own q.1 index y bytes maxL ret wsy rm 0 0 n) (hN : xN s) (hK : va_K D vwCl tys s) (hP : va_P D vwCl wc H) (hc : vwCl[ci]? = some q) (k0 : Nat) (he : wc[k0]? = some (b, .inr (ci, fs)))
    (hn : As.length = n) (hsize : ls.size = nL) (hstack : st0 = As.reverse ++ .ref b :: rest) (hW : (rest.map fun v => v.category).sum ≤ 8) (hdg : decode cc pc = .ok (.invokevirtual index, 3)) (hf : cells + 0 ≤ R.cells ∧ slots + 0 ≤ R.slots)
    (kk : ∀ r : Int64, post r → W p l e R s m args below meth c H locs cells slots Q (F0 m (pc + 3) ls (.long r :: rest))) : W p l e R s m args below meth c H locs cells slots Q (F0 m pc ls st0) :=
  vp_callSl (va_runV S hM cw ⟨x_R.blind, va_recv hK hP hc he, fun U hU hW => ⟨rfl, hN.warm hW, by rw [hU]; exact hP, va_K.moved hW.alike hK⟩⟩ rfl hn hsize hstack (lv_room hW) hdg hf).run kk
theorem xc_Vv {post : Unit → Prop} (S : CallFix p m c cc nL s args Ts own) (hM : Met l y wsy rm (va_Pc (.ref b :: As) (x_R D tys wc)) (va_Sv post) 0 0 (fun _ => False)) (cw : CallW R s args own q.1 index y bytes maxL ret wsy rm 0 0 n) (hN : xN s) (hK : va_K D vwCl tys s) (hP : va_P D vwCl wc H) (hc : vwCl[ci]? = some q) (k0 : Nat) (he : wc[k0]? = some (b, .inr (ci, fs)))
    (hn : As.length = n) (hsize : ls.size = nL) (hstack : st0 = As.reverse ++ .ref b :: rest) (hW : (rest.map fun v => v.category).sum ≤ 8) (hdg : decode cc pc = .ok (.invokevirtual index, 3)) (hf : cells + 0 ≤ R.cells ∧ slots + 0 ≤ R.slots)
    (kk : post () → W p l e R s m args below meth c H locs cells slots Q (F0 m (pc + 3) ls rest)) : W p l e R s m args below meth c H locs cells slots Q (F0 m pc ls st0) :=
  va_csv (va_runV S hM cw ⟨x_R.blind, va_recv hK hP hc he, fun U hU hW => ⟨rfl, hN.warm hW, by rw [hU]; exact hP, va_K.moved hW.alike hK⟩⟩ rfl hn hsize hstack (lv_room hW) hdg hf).run kk
theorem xc_Si {post : Int32 → Prop} (S : CallFix p m c cc nL s args Ts own) (hM : Met l y wsy rm (va_Pc As (x_R D tys wc)) (vp_Si post) 0 0 (fun _ => False)) (cw : CallB R s args own index y bytes maxL ret wsy rm 0 0 n ∧ (Cond.static y).before args s = true) (hN : xN s) (hK : va_K D vwCl tys s) (hP : va_P D vwCl wc H)
    (hn : As.length = n) (hsize : ls.size = nL) (hstack : st0 = As.reverse ++ rest) (hW : (rest.map fun v => v.category).sum ≤ 8) (hdg : decode cc pc = .ok (.invokestatic index, 3)) (hf : cells + 0 ≤ R.cells ∧ slots + 0 ≤ R.slots)
    (kk : ∀ r : Int32, post r → W p l e R s m args below meth c H locs cells slots Q (F0 m (pc + 3) ls (.int r :: rest))) : W p l e R s m args below meth c H locs cells slots Q (F0 m pc ls st0) :=
  vp_callSi (va_runS S hM cw ⟨x_R.blind, fun U hU hW => ⟨rfl, hN.warm hW, by rw [hU]; exact hP, va_K.moved hW.alike hK⟩⟩ rfl hn hsize hstack (lv_room hW) hdg hf).run kk
theorem xc_Sv {post : Unit → Prop} (S : CallFix p m c cc nL s args Ts own) (hM : Met l y wsy rm (va_Pc As (x_R D tys wc)) (va_Sv post) 0 0 (fun _ => False)) (cw : CallB R s args own index y bytes maxL ret wsy rm 0 0 n ∧ (Cond.static y).before args s = true) (hN : xN s) (hK : va_K D vwCl tys s) (hP : va_P D vwCl wc H)
    (hn : As.length = n) (hsize : ls.size = nL) (hstack : st0 = As.reverse ++ rest) (hW : (rest.map fun v => v.category).sum ≤ 8) (hdg : decode cc pc = .ok (.invokestatic index, 3)) (hf : cells + 0 ≤ R.cells ∧ slots + 0 ≤ R.slots)
    (kk : post () → W p l e R s m args below meth c H locs cells slots Q (F0 m (pc + 3) ls rest)) : W p l e R s m args below meth c H locs cells slots Q (F0 m pc ls st0) :=
  va_csv (va_runS S hM cw ⟨x_R.blind, fun U hU hW => ⟨rfl, hN.warm hW, by rw [hU]; exact hP, va_K.moved hW.alike hK⟩⟩ rfl hn hsize hstack (lv_room hW) hdg hf).run kk
/-- calls of writers: the callee's world wc becomes w1 u; what isn't in it stays -/
theorem xw_Vi {S : Type} {post : Int32 → S → Prop} {w1 : S → va_W} (Sx : CallFix p m c cc nL s args Ts own) (hM : Met l y wsy rm (va_Pc (.ref b :: As) (x_U D tys wc H.size)) (va_Qi post (fun u t => x_E D tys (va_A wc H.size) (w1 u) t) (va_A wc H.size)) mc ms (va_A wc H.size)) (cw : CallW R s args own q.1 index y bytes maxL ret wsy rm mc ms n) (hN : xN s) (hK : va_K D vwCl tys s) (hP : va_P D vwCl wc H) (hD : va_D A0 wc) (hS : va_S A0 H0 H locs) (hA : ∀ q, H0.size ≤ q → A0 q) (hc : vwCl[ci]? = some q) (k0 : Nat) (he : wc[k0]? = some (b, .inr (ci, fs)))
    (hn : As.length = n) (hsize : ls.size = nL) (hstack : st0 = As.reverse ++ .ref b :: rest) (hW : (rest.map fun v => v.category).sum ≤ 8) (hdg : decode cc pc = .ok (.invokevirtual index, 3)) (hf : cells + mc ≤ R.cells ∧ slots + ms ≤ R.slots)
    (kk : ∀ (r : Int32) (u : S) (H1 : Heap) (locs1 : List Loc), post r u → va_P D vwCl (w1 u) H1 → va_D (va_A wc H.size) (w1 u) → va_D A0 (w1 u) → (∀ q : Nat, q < H.size → ¬ va_A wc H.size q → H1[q]? = H[q]?) → va_S A0 H0 H1 locs1 → W p l e R s m args below meth c H1 locs1 (cells + mc) (slots + ms) Q (F0 m (pc + 3) ls (.int r :: rest))) : W p l e R s m args below meth c H locs cells slots Q (F0 m pc ls st0) :=
  have hF := x_hF hD hS hA
  va_calli (va_runV Sx hM cw ⟨x_U.blind, va_recv hK hP hc he, fun U hU hW => ⟨rfl, by rw [hU], hN.warm hW, by rw [hU]; exact hP, va_K.moved hW.alike hK, hD.weaken (fun _ _ _ _ => trivial)⟩⟩ rfl hn hsize hstack (lv_room hW) hdg hf) hS (fun q _ h => hF q h) hF
    (fun r u t H1 locs1 ht _ hw hB _ hk1 hS1 => kk r u H1 locs1 hw (ht ▸ hB.1) hB.2.2 (hB.2.2.weaken (fun _ q _ h => hF q.1 h)) hk1 hS1)
theorem xw_Vl {S : Type} {post : Int64 → S → Prop} {w1 : S → va_W} (Sx : CallFix p m c cc nL s args Ts own) (hM : Met l y wsy rm (va_Pc (.ref b :: As) (x_U D tys wc H.size)) (va_Ql post (fun u t => x_E D tys (va_A wc H.size) (w1 u) t) (va_A wc H.size)) mc ms (va_A wc H.size)) (cw : CallW R s args own q.1 index y bytes maxL ret wsy rm mc ms n) (hN : xN s) (hK : va_K D vwCl tys s) (hP : va_P D vwCl wc H) (hD : va_D A0 wc) (hS : va_S A0 H0 H locs) (hA : ∀ q, H0.size ≤ q → A0 q) (hc : vwCl[ci]? = some q) (k0 : Nat) (he : wc[k0]? = some (b, .inr (ci, fs)))
    (hn : As.length = n) (hsize : ls.size = nL) (hstack : st0 = As.reverse ++ .ref b :: rest) (hW : (rest.map fun v => v.category).sum ≤ 8) (hdg : decode cc pc = .ok (.invokevirtual index, 3)) (hf : cells + mc ≤ R.cells ∧ slots + ms ≤ R.slots)
    (kk : ∀ (r : Int64) (u : S) (H1 : Heap) (locs1 : List Loc), post r u → va_P D vwCl (w1 u) H1 → va_D (va_A wc H.size) (w1 u) → va_D A0 (w1 u) → (∀ q : Nat, q < H.size → ¬ va_A wc H.size q → H1[q]? = H[q]?) → va_S A0 H0 H1 locs1 → W p l e R s m args below meth c H1 locs1 (cells + mc) (slots + ms) Q (F0 m (pc + 3) ls (.long r :: rest))) : W p l e R s m args below meth c H locs cells slots Q (F0 m pc ls st0) :=
  have hF := x_hF hD hS hA
  va_calll (va_runV Sx hM cw ⟨x_U.blind, va_recv hK hP hc he, fun U hU hW => ⟨rfl, by rw [hU], hN.warm hW, by rw [hU]; exact hP, va_K.moved hW.alike hK, hD.weaken (fun _ _ _ _ => trivial)⟩⟩ rfl hn hsize hstack (lv_room hW) hdg hf) hS (fun q _ h => hF q h) hF
    (fun r u t H1 locs1 ht _ hw hB _ hk1 hS1 => kk r u H1 locs1 hw (ht ▸ hB.1) hB.2.2 (hB.2.2.weaken (fun _ q _ h => hF q.1 h)) hk1 hS1)
theorem xw_Vq {S : Type} {post : Option Nat → S → Prop} {w1 : S → va_W} (Sx : CallFix p m c cc nL s args Ts own) (hM : Met l y wsy rm (va_Pc (.ref b :: As) (x_U D tys wc H.size)) (va_Qq post (fun u t => x_E D tys (va_A wc H.size) (w1 u) t) (va_A wc H.size)) mc ms (va_A wc H.size)) (cw : CallW R s args own q.1 index y bytes maxL ret wsy rm mc ms n) (hN : xN s) (hK : va_K D vwCl tys s) (hP : va_P D vwCl wc H) (hD : va_D A0 wc) (hS : va_S A0 H0 H locs) (hA : ∀ q, H0.size ≤ q → A0 q) (hc : vwCl[ci]? = some q) (k0 : Nat) (he : wc[k0]? = some (b, .inr (ci, fs)))
    (hn : As.length = n) (hsize : ls.size = nL) (hstack : st0 = As.reverse ++ .ref b :: rest) (hW : (rest.map fun v => v.category).sum ≤ 8) (hdg : decode cc pc = .ok (.invokevirtual index, 3)) (hf : cells + mc ≤ R.cells ∧ slots + ms ≤ R.slots)
    (kk : ∀ (r : Option Nat) (u : S) (H1 : Heap) (locs1 : List Loc), post r u → va_P D vwCl (w1 u) H1 → va_D (va_A wc H.size) (w1 u) → va_D A0 (w1 u) → (∀ q : Nat, q < H.size → ¬ va_A wc H.size q → H1[q]? = H[q]?) → va_S A0 H0 H1 locs1 → W p l e R s m args below meth c H1 locs1 (cells + mc) (slots + ms) Q (F0 m (pc + 3) ls (va_rf r :: rest))) : W p l e R s m args below meth c H locs cells slots Q (F0 m pc ls st0) :=
  have hF := x_hF hD hS hA
  va_callq (va_runV Sx hM cw ⟨x_U.blind, va_recv hK hP hc he, fun U hU hW => ⟨rfl, by rw [hU], hN.warm hW, by rw [hU]; exact hP, va_K.moved hW.alike hK, hD.weaken (fun _ _ _ _ => trivial)⟩⟩ rfl hn hsize hstack (lv_room hW) hdg hf) hS (fun q _ h => hF q h) hF
    (fun r u t H1 locs1 ht _ hw hB _ hk1 hS1 => kk r u H1 locs1 hw (ht ▸ hB.1) hB.2.2 (hB.2.2.weaken (fun _ q _ h => hF q.1 h)) hk1 hS1)
theorem xw_Vv {S : Type} {post : S → Prop} {w1 : S → va_W} (Sx : CallFix p m c cc nL s args Ts own) (hM : Met l y wsy rm (va_Pc (.ref b :: As) (x_U D tys wc H.size)) (va_Qv post (fun u t => x_E D tys (va_A wc H.size) (w1 u) t) (va_A wc H.size)) mc ms (va_A wc H.size)) (cw : CallW R s args own q.1 index y bytes maxL ret wsy rm mc ms n) (hN : xN s) (hK : va_K D vwCl tys s) (hP : va_P D vwCl wc H) (hD : va_D A0 wc) (hS : va_S A0 H0 H locs) (hA : ∀ q, H0.size ≤ q → A0 q) (hc : vwCl[ci]? = some q) (k0 : Nat) (he : wc[k0]? = some (b, .inr (ci, fs)))
    (hn : As.length = n) (hsize : ls.size = nL) (hstack : st0 = As.reverse ++ .ref b :: rest) (hW : (rest.map fun v => v.category).sum ≤ 8) (hdg : decode cc pc = .ok (.invokevirtual index, 3)) (hf : cells + mc ≤ R.cells ∧ slots + ms ≤ R.slots)
    (kk : ∀ (u : S) (H1 : Heap) (locs1 : List Loc), post u → va_P D vwCl (w1 u) H1 → va_D (va_A wc H.size) (w1 u) → va_D A0 (w1 u) → (∀ q : Nat, q < H.size → ¬ va_A wc H.size q → H1[q]? = H[q]?) → va_S A0 H0 H1 locs1 → W p l e R s m args below meth c H1 locs1 (cells + mc) (slots + ms) Q (F0 m (pc + 3) ls rest)) : W p l e R s m args below meth c H locs cells slots Q (F0 m pc ls st0) :=
  have hF := x_hF hD hS hA
  va_callv (va_runV Sx hM cw ⟨x_U.blind, va_recv hK hP hc he, fun U hU hW => ⟨rfl, by rw [hU], hN.warm hW, by rw [hU]; exact hP, va_K.moved hW.alike hK, hD.weaken (fun _ _ _ _ => trivial)⟩⟩ rfl hn hsize hstack (lv_room hW) hdg hf) hS (fun q _ h => hF q h) hF
    (fun u t H1 locs1 ht _ hw hB _ hk1 hS1 => kk u H1 locs1 hw (ht ▸ hB.1) hB.2.2 (hB.2.2.weaken (fun _ q _ h => hF q.1 h)) hk1 hS1)
theorem xw_Sv {S : Type} {post : S → Prop} {w1 : S → va_W} (Sx : CallFix p m c cc nL s args Ts own) (hM : Met l y wsy rm (va_Pc As (x_U D tys wc H.size)) (va_Qv post (fun u t => x_E D tys (va_A wc H.size) (w1 u) t) (va_A wc H.size)) mc ms (va_A wc H.size)) (cw : CallB R s args own index y bytes maxL ret wsy rm mc ms n ∧ (Cond.static y).before args s = true) (hN : xN s) (hK : va_K D vwCl tys s) (hP : va_P D vwCl wc H) (hD : va_D A0 wc) (hS : va_S A0 H0 H locs) (hA : ∀ q, H0.size ≤ q → A0 q)
    (hn : As.length = n) (hsize : ls.size = nL) (hstack : st0 = As.reverse ++ rest) (hW : (rest.map fun v => v.category).sum ≤ 8) (hdg : decode cc pc = .ok (.invokestatic index, 3)) (hf : cells + mc ≤ R.cells ∧ slots + ms ≤ R.slots)
    (kk : ∀ (u : S) (H1 : Heap) (locs1 : List Loc), post u → va_P D vwCl (w1 u) H1 → va_D (va_A wc H.size) (w1 u) → va_D A0 (w1 u) → (∀ q : Nat, q < H.size → ¬ va_A wc H.size q → H1[q]? = H[q]?) → va_S A0 H0 H1 locs1 → W p l e R s m args below meth c H1 locs1 (cells + mc) (slots + ms) Q (F0 m (pc + 3) ls rest)) : W p l e R s m args below meth c H locs cells slots Q (F0 m pc ls st0) :=
  have hF := x_hF hD hS hA
  va_callv (va_runS Sx hM cw ⟨x_U.blind, fun U hU hW => ⟨rfl, by rw [hU], hN.warm hW, by rw [hU]; exact hP, va_K.moved hW.alike hK, hD.weaken (fun _ _ _ _ => trivial)⟩⟩ rfl hn hsize hstack (lv_room hW) hdg hf) hS (fun q _ h => hF q h) hF
    (fun u t H1 locs1 ht _ hw hB _ hk1 hS1 => kk u H1 locs1 hw (ht ▸ hB.1) hB.2.2 (hB.2.2.weaken (fun _ q _ h => hF q.1 h)) hk1 hS1)
/-- ends of readers -/
theorem xe_i {post : Int32 → Prop} {v : Int32} (hexec : p.tables.exec = Jvm.exec) (hb : c.code = cc) (hr : meth.sig.returnType = some .int) (hlocks : meth.locks = false) (hp : post v) (hH : H = s.heap) (hlo : locs = []) (hdg : decode cc pc = .ok (.ireturn, 1)) : W p l e R s m args below meth c H locs cells slots (MQ below (vp_Si post) args s cells slots (fun _ => False)) (F0 m pc ls [.int v]) :=
  W.iret hexec hb hr (fun t ht _ => ⟨v, rfl, hp, by rw [ht, hH]⟩) (fun q h => by rw [hlo] at h; cases h) hdg
theorem xe_z {post : Int32 → Prop} {v : Int32} (hexec : p.tables.exec = Jvm.exec) (hb : c.code = cc) (hr : meth.sig.returnType = some .boolean) (hlocks : meth.locks = false) (hn : narrow .boolean (.int v) = .int v) (hp : post v) (hH : H = s.heap) (hlo : locs = []) (hdg : decode cc pc = .ok (.ireturn, 1)) : W p l e R s m args below meth c H locs cells slots (MQ below (vp_Si post) args s cells slots (fun _ => False)) (F0 m pc ls [.int v]) :=
  W.zret hexec hb hr hn (fun t ht _ => ⟨v, rfl, hp, by rw [ht, hH]⟩) (fun q h => by rw [hlo] at h; cases h) hdg
theorem xe_l {post : Int64 → Prop} {v : Int64} (hexec : p.tables.exec = Jvm.exec) (hb : c.code = cc) (hr : meth.sig.returnType = some .long) (hlocks : meth.locks = false) (hp : post v) (hH : H = s.heap) (hlo : locs = []) (hdg : decode cc pc = .ok (.lreturn, 1)) : W p l e R s m args below meth c H locs cells slots (MQ below (vp_Sl post) args s cells slots (fun _ => False)) (F0 m pc ls [.long v]) :=
  W.lret hexec hb hr (fun t ht _ => ⟨v, rfl, hp, by rw [ht, hH]⟩) (fun q h => by rw [hlo] at h; cases h) hdg
theorem xe_v {post : Unit → Prop} (hexec : p.tables.exec = Jvm.exec) (hb : c.code = cc) (hr : meth.sig.returnType = none) (hlocks : meth.locks = false) (hp : post ()) (hH : H = s.heap) (hlo : locs = []) (hdg : decode cc pc = .ok (.return_, 1)) : W p l e R s m args below meth c H locs cells slots (MQ below (va_Sv post) args s cells slots (fun _ => False)) (F0 m pc ls []) :=
  W.vret hexec hb hr (fun t ht _ => ⟨rfl, hp, by rw [ht, hH]⟩) (fun q h => by rw [hlo] at h; cases h) hdg
/-- ends of writers -/
theorem xf_i {S : Type} {post : Int32 → S → Prop} {w1 : S → va_W} {v : Int32} {wA : Nat → Prop} (u : S) (hexec : p.tables.exec = Jvm.exec) (hb : c.code = cc) (hr : meth.sig.returnType = some .int) (hlocks : meth.locks = false) (hp : post v u) (hP : va_P D vwCl (w1 u) H) (hK : va_K D vwCl tys s) (hD : va_D wA (w1 u)) (hS : va_S wA s.heap H locs) (hdg : decode cc pc = .ok (.ireturn, 1)) : W p l e R s m args below meth c H locs cells slots (MQ below (va_Qi post (fun u t => x_E D tys wA (w1 u) t) wA) args s cells slots wA) (F0 m pc ls [.int v]) :=
  W.iret hexec hb hr (fun t ht hW => ⟨⟨v, u, rfl, hp, by rw [ht]; exact hP, va_K.moved hW.alike hK, hD⟩, hS.F ht⟩) hS.2.2 hdg
theorem xf_z {S : Type} {post : Int32 → S → Prop} {w1 : S → va_W} {v : Int32} {wA : Nat → Prop} (u : S) (hexec : p.tables.exec = Jvm.exec) (hb : c.code = cc) (hr : meth.sig.returnType = some .boolean) (hlocks : meth.locks = false) (hn : narrow .boolean (.int v) = .int v) (hp : post v u) (hP : va_P D vwCl (w1 u) H) (hK : va_K D vwCl tys s) (hD : va_D wA (w1 u)) (hS : va_S wA s.heap H locs) (hdg : decode cc pc = .ok (.ireturn, 1)) : W p l e R s m args below meth c H locs cells slots (MQ below (va_Qi post (fun u t => x_E D tys wA (w1 u) t) wA) args s cells slots wA) (F0 m pc ls [.int v]) :=
  W.zret hexec hb hr hn (fun t ht hW => ⟨⟨v, u, rfl, hp, by rw [ht]; exact hP, va_K.moved hW.alike hK, hD⟩, hS.F ht⟩) hS.2.2 hdg
theorem xf_l {S : Type} {post : Int64 → S → Prop} {w1 : S → va_W} {v : Int64} {wA : Nat → Prop} (u : S) (hexec : p.tables.exec = Jvm.exec) (hb : c.code = cc) (hr : meth.sig.returnType = some .long) (hlocks : meth.locks = false) (hp : post v u) (hP : va_P D vwCl (w1 u) H) (hK : va_K D vwCl tys s) (hD : va_D wA (w1 u)) (hS : va_S wA s.heap H locs) (hdg : decode cc pc = .ok (.lreturn, 1)) : W p l e R s m args below meth c H locs cells slots (MQ below (va_Ql post (fun u t => x_E D tys wA (w1 u) t) wA) args s cells slots wA) (F0 m pc ls [.long v]) :=
  W.lret hexec hb hr (fun t ht hW => ⟨⟨v, u, rfl, hp, by rw [ht]; exact hP, va_K.moved hW.alike hK, hD⟩, hS.F ht⟩) hS.2.2 hdg
theorem xf_q {S : Type} {post : Option Nat → S → Prop} {w1 : S → va_W} {wA : Nat → Prop} {n : String} (r : Option Nat) (u : S) (hexec : p.tables.exec = Jvm.exec) (hb : c.code = cc) (hr : meth.sig.returnType = some (.object n)) (hlocks : meth.locks = false) (hp : post r u) (hP : va_P D vwCl (w1 u) H) (hK : va_K D vwCl tys s) (hD : va_D wA (w1 u)) (hS : va_S wA s.heap H locs) (hdg : decode cc pc = .ok (.areturn, 1)) : W p l e R s m args below meth c H locs cells slots (MQ below (va_Qq post (fun u t => x_E D tys wA (w1 u) t) wA) args s cells slots wA) (F0 m pc ls [va_rf r]) :=
  W.aret hexec hb hr (Or.inl ⟨n, rfl⟩) (va_rf_or r) (fun t ht hW => ⟨⟨r, u, rfl, hp, by rw [ht]; exact hP, va_K.moved hW.alike hK, hD⟩, hS.F ht⟩) hS.2.2 hdg
theorem xf_v {S : Type} {post : S → Prop} {w1 : S → va_W} {wA : Nat → Prop} (u : S) (hexec : p.tables.exec = Jvm.exec) (hb : c.code = cc) (hr : meth.sig.returnType = none) (hlocks : meth.locks = false) (hp : post u) (hP : va_P D vwCl (w1 u) H) (hK : va_K D vwCl tys s) (hD : va_D wA (w1 u)) (hS : va_S wA s.heap H locs) (hdg : decode cc pc = .ok (.return_, 1)) : W p l e R s m args below meth c H locs cells slots (MQ below (va_Qv post (fun u t => x_E D tys wA (w1 u) t) wA) args s cells slots wA) (F0 m pc ls []) :=
  W.vret hexec hb hr (fun t ht hW => ⟨⟨u, rfl, hp, by rw [ht]; exact hP, va_K.moved hW.alike hK, hD⟩, hS.F ht⟩) hS.2.2 hdg
end XR
end
section
/-! ===== the worlds: the log's object (30 cells), a block's (4), a page's (2), the reference's (7); what the chip holds is one function χ of numbers: 16 b + place: state; 100 + b: guard's state; 110 + b: erasures; 200 + 17 b + k: guard's bytes; 1000 + 256 b + 16 place + k: bytes ===== -/
def eW (cI : ClassId) (q0 q1 : Nat) (O : Nat → Nat) : va_W := [(q0, .inr (1, [.ref q1])), (q1, ar cI 16 O)]
def bX (cI : ClassId) (a : Nat → Nat) (b : Nat) (S B G : Nat → Nat) (gs er : Nat) : va_W :=
  [(a (6 + 4 * b), .inr (0, [.ref (a (7 + 4 * b)), .ref (a (8 + 4 * b)), .ref (a (9 + 4 * b)), .int (nI gs), .int (nI er)])), (a (7 + 4 * b), ar cI 16 S), (a (8 + 4 * b), ar cI 256 B), (a (9 + 4 * b), ar cI 17 G)]
def wB (cI : ClassId) (a χ : Nat → Nat) (b : Nat) : va_W := bX cI a b (fun j => χ (16 * b + j)) (fun j => χ (1000 + 256 * b + j)) (fun j => χ (200 + 17 * b + j)) (χ (100 + b)) (χ (110 + b))
def wH (cI cB : ClassId) (a h O : Nat → Nat) (cu fi ne ct on : Nat) : va_W :=
  [(a 0, .inr (2, [.ref (a 1), .ref (a 2), .ref (a 4), .int (nI cu), .int (nI fi), .int (nI ne), .int (nI ct), .int (nI on)])), (a 1, rr cB 6 (fun j => a (6 + 4 * j))), (a 2, .inr (1, [.ref (a 3)])), (a 3, ar cI 16 O), (a 4, .inr (1, [.ref (a 5)])), (a 5, ar cI 16 h)]
def wP (cI cB : ClassId) (a h O χ : Nat → Nat) (cu fi ne ct on : Nat) : va_W := wH cI cB a h O cu fi ne ct on ++ (wB cI a χ 0 ++ (wB cI a χ 1 ++ (wB cI a χ 2 ++ (wB cI a χ 3 ++ (wB cI a χ 4 ++ wB cI a χ 5)))))
abbrev tyP (cI cB : ClassId) : List (ClassId × FieldType) := [(cI, .int), (cB, .object "PairedCells$Block")]
def mX (cI : ClassId) (r : Nat → Nat) (t fp fa : Int32) (S B GS GB ER OP : Nat → Nat) (hd tk cu fi ne ct on : Nat) : va_W :=
  [(r 0, .inr (3, [.int t, .ref (r 1), .ref (r 2), .ref (r 3), .ref (r 4), .ref (r 5), .int (nI on), .int (nI ct), .int (nI cu), .int (nI fi), .int (nI ne), .int (nI hd), .int (nI tk), .ref (r 6), .int fp, .int fa])), (r 1, ar cI 96 S), (r 2, ar cI 1536 B), (r 3, ar cI 6 GS), (r 4, ar cI 102 GB), (r 5, ar cI 6 ER), (r 6, ar cI 16 OP)]
abbrev tyM (cI : ClassId) : List (ClassId × FieldType) := [(cI, .int)]
def inb (b i : Nat) : Prop := (16 * b ≤ i ∧ i < 16 * b + 16) ∨ i = 100 + b ∨ i = 110 + b ∨ (200 + 17 * b ≤ i ∧ i < 217 + 17 * b) ∨ (1000 + 256 * b ≤ i ∧ i < 1256 + 256 * b)
theorem bX_eq {cI : ClassId} {a χ : Nat → Nat} {b : Nat} {S B G : Nat → Nat} {gs er : Nat} (h1 : ∀ j, j < 16 → S j = χ (16 * b + j)) (h2 : ∀ j, j < 256 → B j = χ (1000 + 256 * b + j)) (h3 : ∀ j, j < 17 → G j = χ (200 + 17 * b + j)) (h4 : gs = χ (100 + b)) (h5 : er = χ (110 + b)) : bX cI a b S B G gs er = wB cI a χ b := by
  subst h4; subst h5
  simp only [wB, bX, ar]
  rw [gd_congr h1, gd_congr h2, gd_congr h3]
theorem wB_congr {cI : ClassId} {a χ χ' : Nat → Nat} {b : Nat} (h : ∀ i, inb b i → χ i = χ' i) : wB cI a χ b = wB cI a χ' b :=
  bX_eq (fun j hj => h _ (Or.inl ⟨by omega, by omega⟩)) (fun j hj => h _ (Or.inr (Or.inr (Or.inr (Or.inr ⟨by omega, by omega⟩))))) (fun j hj => h _ (Or.inr (Or.inr (Or.inr (Or.inl ⟨by omega, by omega⟩))))) (h _ (Or.inr (Or.inl rfl))) (h _ (Or.inr (Or.inr (Or.inl rfl))))
theorem inb_apart {b b' i : Nat} (hb : b < 6) (hb' : b' < 6) (hne : b' ≠ b) (h : inb b' i) : ¬ inb b i := by
  intro h2
  unfold inb at h h2
  omega
theorem wB_other {cI : ClassId} {a χ χ' : Nat → Nat} {b b' : Nat} (hb : b < 6) (hb' : b' < 6) (hne : b' ≠ b) (h : ∀ i, ¬ inb b i → χ' i = χ i) : wB cI a χ b' = wB cI a χ' b' :=
  wB_congr (fun i hi => (h i (inb_apart hb hb' hne hi)).symm)
theorem mX_eq {cI : ClassId} {r : Nat → Nat} {t fp fa : Int32} {S B GS GB ER OP S' B' GS' GB' ER' OP' : Nat → Nat} {hd tk cu fi ne ct on : Nat} (h1 : ∀ j, j < 96 → S j = S' j) (h2 : ∀ j, j < 1536 → B j = B' j) (h3 : ∀ j, j < 6 → GS j = GS' j) (h4 : ∀ j, j < 102 → GB j = GB' j) (h5 : ∀ j, j < 6 → ER j = ER' j) (h6 : ∀ j, j < 16 → OP j = OP' j) : mX cI r t fp fa S B GS GB ER OP hd tk cu fi ne ct on = mX cI r t fp fa S' B' GS' GB' ER' OP' hd tk cu fi ne ct on := by
  simp only [mX, ar]
  rw [gd_congr h1, gd_congr h2, gd_congr h3, gd_congr h4, gd_congr h5, gd_congr h6]

theorem wP_blk {D : va_G} {cI cB : ClassId} {a h O χ : Nat → Nat} {cu fi ne ct on : Nat} {b : Nat} {H : Heap} (hb : b < 6) (hP : va_P D vwCl (wP cI cB a h O χ cu fi ne ct on) H) : va_P D vwCl (wB cI a χ b) H := by
  rcases (show b = 0 ∨ b = 1 ∨ b = 2 ∨ b = 3 ∨ b = 4 ∨ b = 5 by omega) with rfl | rfl | rfl | rfl | rfl | rfl
  · exact hP.sub [6, 7, 8, 9] rfl
  · exact hP.sub [10, 11, 12, 13] rfl
  · exact hP.sub [14, 15, 16, 17] rfl
  · exact hP.sub [18, 19, 20, 21] rfl
  · exact hP.sub [22, 23, 24, 25] rfl
  · exact hP.sub [26, 27, 28, 29] rfl
theorem dP_blk {cI cB : ClassId} {a h O χ : Nat → Nat} {cu fi ne ct on : Nat} {b : Nat} {A : Nat → Prop} (hb : b < 6) (hD : va_D A (wP cI cB a h O χ cu fi ne ct on)) : va_D A (wB cI a χ b) := by
  rcases (show b = 0 ∨ b = 1 ∨ b = 2 ∨ b = 3 ∨ b = 4 ∨ b = 5 by omega) with rfl | rfl | rfl | rfl | rfl | rfl
  · exact hD.sub [6, 7, 8, 9] (by decide) rfl
  · exact hD.sub [10, 11, 12, 13] (by decide) rfl
  · exact hD.sub [14, 15, 16, 17] (by decide) rfl
  · exact hD.sub [18, 19, 20, 21] (by decide) rfl
  · exact hD.sub [22, 23, 24, 25] (by decide) rfl
  · exact hD.sub [26, 27, 28, 29] (by decide) rfl
theorem wP_blkopen {D : va_G} {cI cB : ClassId} {a h O χ : Nat → Nat} {cu fi ne ct on : Nat} {b : Nat} {H : Heap} (hb : b < 6) (hP : va_P D vwCl (wP cI cB a h O χ cu fi ne ct on) H) : va_P D vwCl (wB cI a χ b ++ eW cI (a 2) (a 3) O) H := by
  rcases (show b = 0 ∨ b = 1 ∨ b = 2 ∨ b = 3 ∨ b = 4 ∨ b = 5 by omega) with rfl | rfl | rfl | rfl | rfl | rfl
  · exact hP.sub [6, 7, 8, 9, 2, 3] rfl
  · exact hP.sub [10, 11, 12, 13, 2, 3] rfl
  · exact hP.sub [14, 15, 16, 17, 2, 3] rfl
  · exact hP.sub [18, 19, 20, 21, 2, 3] rfl
  · exact hP.sub [22, 23, 24, 25, 2, 3] rfl
  · exact hP.sub [26, 27, 28, 29, 2, 3] rfl
theorem dP_blkopen {cI cB : ClassId} {a h O χ : Nat → Nat} {cu fi ne ct on : Nat} {b : Nat} {A : Nat → Prop} (hb : b < 6) (hD : va_D A (wP cI cB a h O χ cu fi ne ct on)) : va_D A (wB cI a χ b ++ eW cI (a 2) (a 3) O) := by
  rcases (show b = 0 ∨ b = 1 ∨ b = 2 ∨ b = 3 ∨ b = 4 ∨ b = 5 by omega) with rfl | rfl | rfl | rfl | rfl | rfl
  · exact hD.sub [6, 7, 8, 9, 2, 3] (by decide) rfl
  · exact hD.sub [10, 11, 12, 13, 2, 3] (by decide) rfl
  · exact hD.sub [14, 15, 16, 17, 2, 3] (by decide) rfl
  · exact hD.sub [18, 19, 20, 21, 2, 3] (by decide) rfl
  · exact hD.sub [22, 23, 24, 25, 2, 3] (by decide) rfl
  · exact hD.sub [26, 27, 28, 29, 2, 3] (by decide) rfl
theorem wP_blkshown {D : va_G} {cI cB : ClassId} {a h O χ : Nat → Nat} {cu fi ne ct on : Nat} {b : Nat} {H : Heap} (hb : b < 6) (hP : va_P D vwCl (wP cI cB a h O χ cu fi ne ct on) H) : va_P D vwCl (wB cI a χ b ++ eW cI (a 4) (a 5) h) H := by
  rcases (show b = 0 ∨ b = 1 ∨ b = 2 ∨ b = 3 ∨ b = 4 ∨ b = 5 by omega) with rfl | rfl | rfl | rfl | rfl | rfl
  · exact hP.sub [6, 7, 8, 9, 4, 5] rfl
  · exact hP.sub [10, 11, 12, 13, 4, 5] rfl
  · exact hP.sub [14, 15, 16, 17, 4, 5] rfl
  · exact hP.sub [18, 19, 20, 21, 4, 5] rfl
  · exact hP.sub [22, 23, 24, 25, 4, 5] rfl
  · exact hP.sub [26, 27, 28, 29, 4, 5] rfl
theorem dP_blkshown {cI cB : ClassId} {a h O χ : Nat → Nat} {cu fi ne ct on : Nat} {b : Nat} {A : Nat → Prop} (hb : b < 6) (hD : va_D A (wP cI cB a h O χ cu fi ne ct on)) : va_D A (wB cI a χ b ++ eW cI (a 4) (a 5) h) := by
  rcases (show b = 0 ∨ b = 1 ∨ b = 2 ∨ b = 3 ∨ b = 4 ∨ b = 5 by omega) with rfl | rfl | rfl | rfl | rfl | rfl
  · exact hD.sub [6, 7, 8, 9, 4, 5] (by decide) rfl
  · exact hD.sub [10, 11, 12, 13, 4, 5] (by decide) rfl
  · exact hD.sub [14, 15, 16, 17, 4, 5] (by decide) rfl
  · exact hD.sub [18, 19, 20, 21, 4, 5] (by decide) rfl
  · exact hD.sub [22, 23, 24, 25, 4, 5] (by decide) rfl
  · exact hD.sub [26, 27, 28, 29, 4, 5] (by decide) rfl
theorem wP_open {D : va_G} {cI cB : ClassId} {a h O χ : Nat → Nat} {cu fi ne ct on : Nat} {H : Heap} (hP : va_P D vwCl (wP cI cB a h O χ cu fi ne ct on) H) : va_P D vwCl (eW cI (a 2) (a 3) O) H := hP.sub [2, 3] rfl
theorem dP_open {cI cB : ClassId} {a h O χ : Nat → Nat} {cu fi ne ct on : Nat} {A : Nat → Prop} (hD : va_D A (wP cI cB a h O χ cu fi ne ct on)) : va_D A (eW cI (a 2) (a 3) O) := hD.sub [2, 3] (by decide) rfl
theorem wP_shown {D : va_G} {cI cB : ClassId} {a h O χ : Nat → Nat} {cu fi ne ct on : Nat} {H : Heap} (hP : va_P D vwCl (wP cI cB a h O χ cu fi ne ct on) H) : va_P D vwCl (eW cI (a 4) (a 5) h) H := hP.sub [4, 5] rfl
theorem dP_shown {cI cB : ClassId} {a h O χ : Nat → Nat} {cu fi ne ct on : Nat} {A : Nat → Prop} (hD : va_D A (wP cI cB a h O χ cu fi ne ct on)) : va_D A (eW cI (a 4) (a 5) h) := hD.sub [4, 5] (by decide) rfl
theorem wBE_blk {D : va_G} {cI : ClassId} {a χ O : Nat → Nat} {b q0 q1 : Nat} {H : Heap} (hP : va_P D vwCl (wB cI a χ b ++ eW cI q0 q1 O) H) : va_P D vwCl (wB cI a χ b) H := hP.sub [0, 1, 2, 3] rfl
theorem jP_blk {D : va_G} {cI cB : ClassId} {a h O χ χ' : Nat → Nat} {cu fi ne ct on : Nat} {b : Nat} {A : Nat → Prop} {H H1 : Heap} (hb : b < 6) (hP : va_P D vwCl (wP cI cB a h O χ cu fi ne ct on) H) (hD : va_D A (wP cI cB a h O χ cu fi ne ct on)) (hF : ∀ q, va_A (wB cI a χ b) H.size q → A q) (hk : ∀ q : Nat, q < H.size → ¬ va_A (wB cI a χ b) H.size q → H1[q]? = H[q]?) (hP1 : va_P D vwCl (wB cI a χ' b) H1) (hD1 : va_D (va_A (wB cI a χ b) H.size) (wB cI a χ' b)) (hχ : ∀ i, ¬ inb b i → χ' i = χ i) : va_P D vwCl (wP cI cB a h O χ' cu fi ne ct on) H1 ∧ va_D A (wP cI cB a h O χ' cu fi ne ct on) := by
  rcases (show b = 0 ∨ b = 1 ∨ b = 2 ∨ b = 3 ∨ b = 4 ∨ b = 5 by omega) with rfl | rfl | rfl | rfl | rfl | rfl
  · obtain ⟨h1, h2⟩ := va_join (wr := [(a 0, .inr (2, [.ref (a 1), .ref (a 2), .ref (a 4), .int (nI cu), .int (nI fi), .int (nI ne), .int (nI ct), .int (nI on)])), (a 1, rr cB 6 (fun j => a (6 + 4 * j))), (a 2, .inr (1, [.ref (a 3)])), (a 3, ar cI 16 O), (a 4, .inr (1, [.ref (a 5)])), (a 5, ar cI 16 h)] ++ (wB cI a χ 1 ++ (wB cI a χ 2 ++ (wB cI a χ 3 ++ (wB cI a χ 4 ++ (wB cI a χ 5)))))) hP hD [6, 7, 8, 9] [0, 1, 2, 3, 4, 5, 10, 11, 12, 13, 14, 15, 16, 17, 18, 19, 20, 21, 22, 23, 24, 25, 26, 27, 28, 29] rfl rfl (by decide) (by decide) hk hF hP1 hD1
    rw [wB_other (b' := 1) hb (by decide) (by decide) hχ, wB_other (b' := 2) hb (by decide) (by decide) hχ, wB_other (b' := 3) hb (by decide) (by decide) hχ, wB_other (b' := 4) hb (by decide) (by decide) hχ, wB_other (b' := 5) hb (by decide) (by decide) hχ] at h1 h2
    exact ⟨h1.sub [0, 1, 2, 3, 4, 5, 26, 27, 28, 29, 6, 7, 8, 9, 10, 11, 12, 13, 14, 15, 16, 17, 18, 19, 20, 21, 22, 23, 24, 25] rfl, h2.sub [0, 1, 2, 3, 4, 5, 26, 27, 28, 29, 6, 7, 8, 9, 10, 11, 12, 13, 14, 15, 16, 17, 18, 19, 20, 21, 22, 23, 24, 25] (by decide) rfl⟩
  · obtain ⟨h1, h2⟩ := va_join (wr := [(a 0, .inr (2, [.ref (a 1), .ref (a 2), .ref (a 4), .int (nI cu), .int (nI fi), .int (nI ne), .int (nI ct), .int (nI on)])), (a 1, rr cB 6 (fun j => a (6 + 4 * j))), (a 2, .inr (1, [.ref (a 3)])), (a 3, ar cI 16 O), (a 4, .inr (1, [.ref (a 5)])), (a 5, ar cI 16 h)] ++ (wB cI a χ 0 ++ (wB cI a χ 2 ++ (wB cI a χ 3 ++ (wB cI a χ 4 ++ (wB cI a χ 5)))))) hP hD [10, 11, 12, 13] [0, 1, 2, 3, 4, 5, 6, 7, 8, 9, 14, 15, 16, 17, 18, 19, 20, 21, 22, 23, 24, 25, 26, 27, 28, 29] rfl rfl (by decide) (by decide) hk hF hP1 hD1
    rw [wB_other (b' := 0) hb (by decide) (by decide) hχ, wB_other (b' := 2) hb (by decide) (by decide) hχ, wB_other (b' := 3) hb (by decide) (by decide) hχ, wB_other (b' := 4) hb (by decide) (by decide) hχ, wB_other (b' := 5) hb (by decide) (by decide) hχ] at h1 h2
    exact ⟨h1.sub [0, 1, 2, 3, 4, 5, 6, 7, 8, 9, 26, 27, 28, 29, 10, 11, 12, 13, 14, 15, 16, 17, 18, 19, 20, 21, 22, 23, 24, 25] rfl, h2.sub [0, 1, 2, 3, 4, 5, 6, 7, 8, 9, 26, 27, 28, 29, 10, 11, 12, 13, 14, 15, 16, 17, 18, 19, 20, 21, 22, 23, 24, 25] (by decide) rfl⟩
  · obtain ⟨h1, h2⟩ := va_join (wr := [(a 0, .inr (2, [.ref (a 1), .ref (a 2), .ref (a 4), .int (nI cu), .int (nI fi), .int (nI ne), .int (nI ct), .int (nI on)])), (a 1, rr cB 6 (fun j => a (6 + 4 * j))), (a 2, .inr (1, [.ref (a 3)])), (a 3, ar cI 16 O), (a 4, .inr (1, [.ref (a 5)])), (a 5, ar cI 16 h)] ++ (wB cI a χ 0 ++ (wB cI a χ 1 ++ (wB cI a χ 3 ++ (wB cI a χ 4 ++ (wB cI a χ 5)))))) hP hD [14, 15, 16, 17] [0, 1, 2, 3, 4, 5, 6, 7, 8, 9, 10, 11, 12, 13, 18, 19, 20, 21, 22, 23, 24, 25, 26, 27, 28, 29] rfl rfl (by decide) (by decide) hk hF hP1 hD1
    rw [wB_other (b' := 0) hb (by decide) (by decide) hχ, wB_other (b' := 1) hb (by decide) (by decide) hχ, wB_other (b' := 3) hb (by decide) (by decide) hχ, wB_other (b' := 4) hb (by decide) (by decide) hχ, wB_other (b' := 5) hb (by decide) (by decide) hχ] at h1 h2
    exact ⟨h1.sub [0, 1, 2, 3, 4, 5, 6, 7, 8, 9, 10, 11, 12, 13, 26, 27, 28, 29, 14, 15, 16, 17, 18, 19, 20, 21, 22, 23, 24, 25] rfl, h2.sub [0, 1, 2, 3, 4, 5, 6, 7, 8, 9, 10, 11, 12, 13, 26, 27, 28, 29, 14, 15, 16, 17, 18, 19, 20, 21, 22, 23, 24, 25] (by decide) rfl⟩
  · obtain ⟨h1, h2⟩ := va_join (wr := [(a 0, .inr (2, [.ref (a 1), .ref (a 2), .ref (a 4), .int (nI cu), .int (nI fi), .int (nI ne), .int (nI ct), .int (nI on)])), (a 1, rr cB 6 (fun j => a (6 + 4 * j))), (a 2, .inr (1, [.ref (a 3)])), (a 3, ar cI 16 O), (a 4, .inr (1, [.ref (a 5)])), (a 5, ar cI 16 h)] ++ (wB cI a χ 0 ++ (wB cI a χ 1 ++ (wB cI a χ 2 ++ (wB cI a χ 4 ++ (wB cI a χ 5)))))) hP hD [18, 19, 20, 21] [0, 1, 2, 3, 4, 5, 6, 7, 8, 9, 10, 11, 12, 13, 14, 15, 16, 17, 22, 23, 24, 25, 26, 27, 28, 29] rfl rfl (by decide) (by decide) hk hF hP1 hD1
    rw [wB_other (b' := 0) hb (by decide) (by decide) hχ, wB_other (b' := 1) hb (by decide) (by decide) hχ, wB_other (b' := 2) hb (by decide) (by decide) hχ, wB_other (b' := 4) hb (by decide) (by decide) hχ, wB_other (b' := 5) hb (by decide) (by decide) hχ] at h1 h2
    exact ⟨h1.sub [0, 1, 2, 3, 4, 5, 6, 7, 8, 9, 10, 11, 12, 13, 14, 15, 16, 17, 26, 27, 28, 29, 18, 19, 20, 21, 22, 23, 24, 25] rfl, h2.sub [0, 1, 2, 3, 4, 5, 6, 7, 8, 9, 10, 11, 12, 13, 14, 15, 16, 17, 26, 27, 28, 29, 18, 19, 20, 21, 22, 23, 24, 25] (by decide) rfl⟩
  · obtain ⟨h1, h2⟩ := va_join (wr := [(a 0, .inr (2, [.ref (a 1), .ref (a 2), .ref (a 4), .int (nI cu), .int (nI fi), .int (nI ne), .int (nI ct), .int (nI on)])), (a 1, rr cB 6 (fun j => a (6 + 4 * j))), (a 2, .inr (1, [.ref (a 3)])), (a 3, ar cI 16 O), (a 4, .inr (1, [.ref (a 5)])), (a 5, ar cI 16 h)] ++ (wB cI a χ 0 ++ (wB cI a χ 1 ++ (wB cI a χ 2 ++ (wB cI a χ 3 ++ (wB cI a χ 5)))))) hP hD [22, 23, 24, 25] [0, 1, 2, 3, 4, 5, 6, 7, 8, 9, 10, 11, 12, 13, 14, 15, 16, 17, 18, 19, 20, 21, 26, 27, 28, 29] rfl rfl (by decide) (by decide) hk hF hP1 hD1
    rw [wB_other (b' := 0) hb (by decide) (by decide) hχ, wB_other (b' := 1) hb (by decide) (by decide) hχ, wB_other (b' := 2) hb (by decide) (by decide) hχ, wB_other (b' := 3) hb (by decide) (by decide) hχ, wB_other (b' := 5) hb (by decide) (by decide) hχ] at h1 h2
    exact ⟨h1.sub [0, 1, 2, 3, 4, 5, 6, 7, 8, 9, 10, 11, 12, 13, 14, 15, 16, 17, 18, 19, 20, 21, 26, 27, 28, 29, 22, 23, 24, 25] rfl, h2.sub [0, 1, 2, 3, 4, 5, 6, 7, 8, 9, 10, 11, 12, 13, 14, 15, 16, 17, 18, 19, 20, 21, 26, 27, 28, 29, 22, 23, 24, 25] (by decide) rfl⟩
  · obtain ⟨h1, h2⟩ := va_join (wr := [(a 0, .inr (2, [.ref (a 1), .ref (a 2), .ref (a 4), .int (nI cu), .int (nI fi), .int (nI ne), .int (nI ct), .int (nI on)])), (a 1, rr cB 6 (fun j => a (6 + 4 * j))), (a 2, .inr (1, [.ref (a 3)])), (a 3, ar cI 16 O), (a 4, .inr (1, [.ref (a 5)])), (a 5, ar cI 16 h)] ++ (wB cI a χ 0 ++ (wB cI a χ 1 ++ (wB cI a χ 2 ++ (wB cI a χ 3 ++ (wB cI a χ 4)))))) hP hD [26, 27, 28, 29] [0, 1, 2, 3, 4, 5, 6, 7, 8, 9, 10, 11, 12, 13, 14, 15, 16, 17, 18, 19, 20, 21, 22, 23, 24, 25] rfl rfl (by decide) (by decide) hk hF hP1 hD1
    rw [wB_other (b' := 0) hb (by decide) (by decide) hχ, wB_other (b' := 1) hb (by decide) (by decide) hχ, wB_other (b' := 2) hb (by decide) (by decide) hχ, wB_other (b' := 3) hb (by decide) (by decide) hχ, wB_other (b' := 4) hb (by decide) (by decide) hχ] at h1 h2
    exact ⟨h1.sub [0, 1, 2, 3, 4, 5, 6, 7, 8, 9, 10, 11, 12, 13, 14, 15, 16, 17, 18, 19, 20, 21, 22, 23, 24, 25, 26, 27, 28, 29] rfl, h2.sub [0, 1, 2, 3, 4, 5, 6, 7, 8, 9, 10, 11, 12, 13, 14, 15, 16, 17, 18, 19, 20, 21, 22, 23, 24, 25, 26, 27, 28, 29] (by decide) rfl⟩
theorem jP_blkopen {D : va_G} {cI cB : ClassId} {a h O χ χ' : Nat → Nat} {cu fi ne ct on : Nat} {b : Nat} {A : Nat → Prop} {H H1 : Heap} (hb : b < 6) (hP : va_P D vwCl (wP cI cB a h O χ cu fi ne ct on) H) (hD : va_D A (wP cI cB a h O χ cu fi ne ct on)) (hF : ∀ q, va_A (wB cI a χ b ++ eW cI (a 2) (a 3) O) H.size q → A q) (hk : ∀ q : Nat, q < H.size → ¬ va_A (wB cI a χ b ++ eW cI (a 2) (a 3) O) H.size q → H1[q]? = H[q]?) (hP1 : va_P D vwCl (wB cI a χ' b ++ eW cI (a 2) (a 3) O) H1) (hD1 : va_D (va_A (wB cI a χ b ++ eW cI (a 2) (a 3) O) H.size) (wB cI a χ' b ++ eW cI (a 2) (a 3) O)) (hχ : ∀ i, ¬ inb b i → χ' i = χ i) : va_P D vwCl (wP cI cB a h O χ' cu fi ne ct on) H1 ∧ va_D A (wP cI cB a h O χ' cu fi ne ct on) := by
  rcases (show b = 0 ∨ b = 1 ∨ b = 2 ∨ b = 3 ∨ b = 4 ∨ b = 5 by omega) with rfl | rfl | rfl | rfl | rfl | rfl
  · obtain ⟨h1, h2⟩ := va_join (wr := [(a 0, .inr (2, [.ref (a 1), .ref (a 2), .ref (a 4), .int (nI cu), .int (nI fi), .int (nI ne), .int (nI ct), .int (nI on)])), (a 1, rr cB 6 (fun j => a (6 + 4 * j))), (a 4, .inr (1, [.ref (a 5)])), (a 5, ar cI 16 h)] ++ (wB cI a χ 1 ++ (wB cI a χ 2 ++ (wB cI a χ 3 ++ (wB cI a χ 4 ++ (wB cI a χ 5)))))) hP hD [6, 7, 8, 9, 2, 3] [0, 1, 4, 5, 10, 11, 12, 13, 14, 15, 16, 17, 18, 19, 20, 21, 22, 23, 24, 25, 26, 27, 28, 29] rfl rfl (by decide) (by decide) hk hF hP1 hD1
    rw [wB_other (b' := 1) hb (by decide) (by decide) hχ, wB_other (b' := 2) hb (by decide) (by decide) hχ, wB_other (b' := 3) hb (by decide) (by decide) hχ, wB_other (b' := 4) hb (by decide) (by decide) hχ, wB_other (b' := 5) hb (by decide) (by decide) hχ] at h1 h2
    exact ⟨h1.sub [0, 1, 28, 29, 2, 3, 24, 25, 26, 27, 4, 5, 6, 7, 8, 9, 10, 11, 12, 13, 14, 15, 16, 17, 18, 19, 20, 21, 22, 23] rfl, h2.sub [0, 1, 28, 29, 2, 3, 24, 25, 26, 27, 4, 5, 6, 7, 8, 9, 10, 11, 12, 13, 14, 15, 16, 17, 18, 19, 20, 21, 22, 23] (by decide) rfl⟩
  · obtain ⟨h1, h2⟩ := va_join (wr := [(a 0, .inr (2, [.ref (a 1), .ref (a 2), .ref (a 4), .int (nI cu), .int (nI fi), .int (nI ne), .int (nI ct), .int (nI on)])), (a 1, rr cB 6 (fun j => a (6 + 4 * j))), (a 4, .inr (1, [.ref (a 5)])), (a 5, ar cI 16 h)] ++ (wB cI a χ 0 ++ (wB cI a χ 2 ++ (wB cI a χ 3 ++ (wB cI a χ 4 ++ (wB cI a χ 5)))))) hP hD [10, 11, 12, 13, 2, 3] [0, 1, 4, 5, 6, 7, 8, 9, 14, 15, 16, 17, 18, 19, 20, 21, 22, 23, 24, 25, 26, 27, 28, 29] rfl rfl (by decide) (by decide) hk hF hP1 hD1
    rw [wB_other (b' := 0) hb (by decide) (by decide) hχ, wB_other (b' := 2) hb (by decide) (by decide) hχ, wB_other (b' := 3) hb (by decide) (by decide) hχ, wB_other (b' := 4) hb (by decide) (by decide) hχ, wB_other (b' := 5) hb (by decide) (by decide) hχ] at h1 h2
    exact ⟨h1.sub [0, 1, 28, 29, 2, 3, 4, 5, 6, 7, 24, 25, 26, 27, 8, 9, 10, 11, 12, 13, 14, 15, 16, 17, 18, 19, 20, 21, 22, 23] rfl, h2.sub [0, 1, 28, 29, 2, 3, 4, 5, 6, 7, 24, 25, 26, 27, 8, 9, 10, 11, 12, 13, 14, 15, 16, 17, 18, 19, 20, 21, 22, 23] (by decide) rfl⟩
  · obtain ⟨h1, h2⟩ := va_join (wr := [(a 0, .inr (2, [.ref (a 1), .ref (a 2), .ref (a 4), .int (nI cu), .int (nI fi), .int (nI ne), .int (nI ct), .int (nI on)])), (a 1, rr cB 6 (fun j => a (6 + 4 * j))), (a 4, .inr (1, [.ref (a 5)])), (a 5, ar cI 16 h)] ++ (wB cI a χ 0 ++ (wB cI a χ 1 ++ (wB cI a χ 3 ++ (wB cI a χ 4 ++ (wB cI a χ 5)))))) hP hD [14, 15, 16, 17, 2, 3] [0, 1, 4, 5, 6, 7, 8, 9, 10, 11, 12, 13, 18, 19, 20, 21, 22, 23, 24, 25, 26, 27, 28, 29] rfl rfl (by decide) (by decide) hk hF hP1 hD1
    rw [wB_other (b' := 0) hb (by decide) (by decide) hχ, wB_other (b' := 1) hb (by decide) (by decide) hχ, wB_other (b' := 3) hb (by decide) (by decide) hχ, wB_other (b' := 4) hb (by decide) (by decide) hχ, wB_other (b' := 5) hb (by decide) (by decide) hχ] at h1 h2
    exact ⟨h1.sub [0, 1, 28, 29, 2, 3, 4, 5, 6, 7, 8, 9, 10, 11, 24, 25, 26, 27, 12, 13, 14, 15, 16, 17, 18, 19, 20, 21, 22, 23] rfl, h2.sub [0, 1, 28, 29, 2, 3, 4, 5, 6, 7, 8, 9, 10, 11, 24, 25, 26, 27, 12, 13, 14, 15, 16, 17, 18, 19, 20, 21, 22, 23] (by decide) rfl⟩
  · obtain ⟨h1, h2⟩ := va_join (wr := [(a 0, .inr (2, [.ref (a 1), .ref (a 2), .ref (a 4), .int (nI cu), .int (nI fi), .int (nI ne), .int (nI ct), .int (nI on)])), (a 1, rr cB 6 (fun j => a (6 + 4 * j))), (a 4, .inr (1, [.ref (a 5)])), (a 5, ar cI 16 h)] ++ (wB cI a χ 0 ++ (wB cI a χ 1 ++ (wB cI a χ 2 ++ (wB cI a χ 4 ++ (wB cI a χ 5)))))) hP hD [18, 19, 20, 21, 2, 3] [0, 1, 4, 5, 6, 7, 8, 9, 10, 11, 12, 13, 14, 15, 16, 17, 22, 23, 24, 25, 26, 27, 28, 29] rfl rfl (by decide) (by decide) hk hF hP1 hD1
    rw [wB_other (b' := 0) hb (by decide) (by decide) hχ, wB_other (b' := 1) hb (by decide) (by decide) hχ, wB_other (b' := 2) hb (by decide) (by decide) hχ, wB_other (b' := 4) hb (by decide) (by decide) hχ, wB_other (b' := 5) hb (by decide) (by decide) hχ] at h1 h2
    exact ⟨h1.sub [0, 1, 28, 29, 2, 3, 4, 5, 6, 7, 8, 9, 10, 11, 12, 13, 14, 15, 24, 25, 26, 27, 16, 17, 18, 19, 20, 21, 22, 23] rfl, h2.sub [0, 1, 28, 29, 2, 3, 4, 5, 6, 7, 8, 9, 10, 11, 12, 13, 14, 15, 24, 25, 26, 27, 16, 17, 18, 19, 20, 21, 22, 23] (by decide) rfl⟩
  · obtain ⟨h1, h2⟩ := va_join (wr := [(a 0, .inr (2, [.ref (a 1), .ref (a 2), .ref (a 4), .int (nI cu), .int (nI fi), .int (nI ne), .int (nI ct), .int (nI on)])), (a 1, rr cB 6 (fun j => a (6 + 4 * j))), (a 4, .inr (1, [.ref (a 5)])), (a 5, ar cI 16 h)] ++ (wB cI a χ 0 ++ (wB cI a χ 1 ++ (wB cI a χ 2 ++ (wB cI a χ 3 ++ (wB cI a χ 5)))))) hP hD [22, 23, 24, 25, 2, 3] [0, 1, 4, 5, 6, 7, 8, 9, 10, 11, 12, 13, 14, 15, 16, 17, 18, 19, 20, 21, 26, 27, 28, 29] rfl rfl (by decide) (by decide) hk hF hP1 hD1
    rw [wB_other (b' := 0) hb (by decide) (by decide) hχ, wB_other (b' := 1) hb (by decide) (by decide) hχ, wB_other (b' := 2) hb (by decide) (by decide) hχ, wB_other (b' := 3) hb (by decide) (by decide) hχ, wB_other (b' := 5) hb (by decide) (by decide) hχ] at h1 h2
    exact ⟨h1.sub [0, 1, 28, 29, 2, 3, 4, 5, 6, 7, 8, 9, 10, 11, 12, 13, 14, 15, 16, 17, 18, 19, 24, 25, 26, 27, 20, 21, 22, 23] rfl, h2.sub [0, 1, 28, 29, 2, 3, 4, 5, 6, 7, 8, 9, 10, 11, 12, 13, 14, 15, 16, 17, 18, 19, 24, 25, 26, 27, 20, 21, 22, 23] (by decide) rfl⟩
  · obtain ⟨h1, h2⟩ := va_join (wr := [(a 0, .inr (2, [.ref (a 1), .ref (a 2), .ref (a 4), .int (nI cu), .int (nI fi), .int (nI ne), .int (nI ct), .int (nI on)])), (a 1, rr cB 6 (fun j => a (6 + 4 * j))), (a 4, .inr (1, [.ref (a 5)])), (a 5, ar cI 16 h)] ++ (wB cI a χ 0 ++ (wB cI a χ 1 ++ (wB cI a χ 2 ++ (wB cI a χ 3 ++ (wB cI a χ 4)))))) hP hD [26, 27, 28, 29, 2, 3] [0, 1, 4, 5, 6, 7, 8, 9, 10, 11, 12, 13, 14, 15, 16, 17, 18, 19, 20, 21, 22, 23, 24, 25] rfl rfl (by decide) (by decide) hk hF hP1 hD1
    rw [wB_other (b' := 0) hb (by decide) (by decide) hχ, wB_other (b' := 1) hb (by decide) (by decide) hχ, wB_other (b' := 2) hb (by decide) (by decide) hχ, wB_other (b' := 3) hb (by decide) (by decide) hχ, wB_other (b' := 4) hb (by decide) (by decide) hχ] at h1 h2
    exact ⟨h1.sub [0, 1, 28, 29, 2, 3, 4, 5, 6, 7, 8, 9, 10, 11, 12, 13, 14, 15, 16, 17, 18, 19, 20, 21, 22, 23, 24, 25, 26, 27] rfl, h2.sub [0, 1, 28, 29, 2, 3, 4, 5, 6, 7, 8, 9, 10, 11, 12, 13, 14, 15, 16, 17, 18, 19, 20, 21, 22, 23, 24, 25, 26, 27] (by decide) rfl⟩
theorem jP_blkshown {D : va_G} {cI cB : ClassId} {a h h' O χ : Nat → Nat} {cu fi ne ct on : Nat} {b : Nat} {A : Nat → Prop} {H H1 : Heap} (hb : b < 6) (hP : va_P D vwCl (wP cI cB a h O χ cu fi ne ct on) H) (hD : va_D A (wP cI cB a h O χ cu fi ne ct on)) (hF : ∀ q, va_A (wB cI a χ b ++ eW cI (a 4) (a 5) h) H.size q → A q) (hk : ∀ q : Nat, q < H.size → ¬ va_A (wB cI a χ b ++ eW cI (a 4) (a 5) h) H.size q → H1[q]? = H[q]?) (hP1 : va_P D vwCl (wB cI a χ b ++ eW cI (a 4) (a 5) h') H1) (hD1 : va_D (va_A (wB cI a χ b ++ eW cI (a 4) (a 5) h) H.size) (wB cI a χ b ++ eW cI (a 4) (a 5) h')) : va_P D vwCl (wP cI cB a h' O χ cu fi ne ct on) H1 ∧ va_D A (wP cI cB a h' O χ cu fi ne ct on) := by
  rcases (show b = 0 ∨ b = 1 ∨ b = 2 ∨ b = 3 ∨ b = 4 ∨ b = 5 by omega) with rfl | rfl | rfl | rfl | rfl | rfl
  · obtain ⟨h1, h2⟩ := va_join (wr := [(a 0, .inr (2, [.ref (a 1), .ref (a 2), .ref (a 4), .int (nI cu), .int (nI fi), .int (nI ne), .int (nI ct), .int (nI on)])), (a 1, rr cB 6 (fun j => a (6 + 4 * j))), (a 2, .inr (1, [.ref (a 3)])), (a 3, ar cI 16 O)] ++ (wB cI a χ 1 ++ (wB cI a χ 2 ++ (wB cI a χ 3 ++ (wB cI a χ 4 ++ (wB cI a χ 5)))))) hP hD [6, 7, 8, 9, 4, 5] [0, 1, 2, 3, 10, 11, 12, 13, 14, 15, 16, 17, 18, 19, 20, 21, 22, 23, 24, 25, 26, 27, 28, 29] rfl rfl (by decide) (by decide) hk hF hP1 hD1
    exact ⟨h1.sub [0, 1, 2, 3, 28, 29, 24, 25, 26, 27, 4, 5, 6, 7, 8, 9, 10, 11, 12, 13, 14, 15, 16, 17, 18, 19, 20, 21, 22, 23] rfl, h2.sub [0, 1, 2, 3, 28, 29, 24, 25, 26, 27, 4, 5, 6, 7, 8, 9, 10, 11, 12, 13, 14, 15, 16, 17, 18, 19, 20, 21, 22, 23] (by decide) rfl⟩
  · obtain ⟨h1, h2⟩ := va_join (wr := [(a 0, .inr (2, [.ref (a 1), .ref (a 2), .ref (a 4), .int (nI cu), .int (nI fi), .int (nI ne), .int (nI ct), .int (nI on)])), (a 1, rr cB 6 (fun j => a (6 + 4 * j))), (a 2, .inr (1, [.ref (a 3)])), (a 3, ar cI 16 O)] ++ (wB cI a χ 0 ++ (wB cI a χ 2 ++ (wB cI a χ 3 ++ (wB cI a χ 4 ++ (wB cI a χ 5)))))) hP hD [10, 11, 12, 13, 4, 5] [0, 1, 2, 3, 6, 7, 8, 9, 14, 15, 16, 17, 18, 19, 20, 21, 22, 23, 24, 25, 26, 27, 28, 29] rfl rfl (by decide) (by decide) hk hF hP1 hD1
    exact ⟨h1.sub [0, 1, 2, 3, 28, 29, 4, 5, 6, 7, 24, 25, 26, 27, 8, 9, 10, 11, 12, 13, 14, 15, 16, 17, 18, 19, 20, 21, 22, 23] rfl, h2.sub [0, 1, 2, 3, 28, 29, 4, 5, 6, 7, 24, 25, 26, 27, 8, 9, 10, 11, 12, 13, 14, 15, 16, 17, 18, 19, 20, 21, 22, 23] (by decide) rfl⟩
  · obtain ⟨h1, h2⟩ := va_join (wr := [(a 0, .inr (2, [.ref (a 1), .ref (a 2), .ref (a 4), .int (nI cu), .int (nI fi), .int (nI ne), .int (nI ct), .int (nI on)])), (a 1, rr cB 6 (fun j => a (6 + 4 * j))), (a 2, .inr (1, [.ref (a 3)])), (a 3, ar cI 16 O)] ++ (wB cI a χ 0 ++ (wB cI a χ 1 ++ (wB cI a χ 3 ++ (wB cI a χ 4 ++ (wB cI a χ 5)))))) hP hD [14, 15, 16, 17, 4, 5] [0, 1, 2, 3, 6, 7, 8, 9, 10, 11, 12, 13, 18, 19, 20, 21, 22, 23, 24, 25, 26, 27, 28, 29] rfl rfl (by decide) (by decide) hk hF hP1 hD1
    exact ⟨h1.sub [0, 1, 2, 3, 28, 29, 4, 5, 6, 7, 8, 9, 10, 11, 24, 25, 26, 27, 12, 13, 14, 15, 16, 17, 18, 19, 20, 21, 22, 23] rfl, h2.sub [0, 1, 2, 3, 28, 29, 4, 5, 6, 7, 8, 9, 10, 11, 24, 25, 26, 27, 12, 13, 14, 15, 16, 17, 18, 19, 20, 21, 22, 23] (by decide) rfl⟩
  · obtain ⟨h1, h2⟩ := va_join (wr := [(a 0, .inr (2, [.ref (a 1), .ref (a 2), .ref (a 4), .int (nI cu), .int (nI fi), .int (nI ne), .int (nI ct), .int (nI on)])), (a 1, rr cB 6 (fun j => a (6 + 4 * j))), (a 2, .inr (1, [.ref (a 3)])), (a 3, ar cI 16 O)] ++ (wB cI a χ 0 ++ (wB cI a χ 1 ++ (wB cI a χ 2 ++ (wB cI a χ 4 ++ (wB cI a χ 5)))))) hP hD [18, 19, 20, 21, 4, 5] [0, 1, 2, 3, 6, 7, 8, 9, 10, 11, 12, 13, 14, 15, 16, 17, 22, 23, 24, 25, 26, 27, 28, 29] rfl rfl (by decide) (by decide) hk hF hP1 hD1
    exact ⟨h1.sub [0, 1, 2, 3, 28, 29, 4, 5, 6, 7, 8, 9, 10, 11, 12, 13, 14, 15, 24, 25, 26, 27, 16, 17, 18, 19, 20, 21, 22, 23] rfl, h2.sub [0, 1, 2, 3, 28, 29, 4, 5, 6, 7, 8, 9, 10, 11, 12, 13, 14, 15, 24, 25, 26, 27, 16, 17, 18, 19, 20, 21, 22, 23] (by decide) rfl⟩
  · obtain ⟨h1, h2⟩ := va_join (wr := [(a 0, .inr (2, [.ref (a 1), .ref (a 2), .ref (a 4), .int (nI cu), .int (nI fi), .int (nI ne), .int (nI ct), .int (nI on)])), (a 1, rr cB 6 (fun j => a (6 + 4 * j))), (a 2, .inr (1, [.ref (a 3)])), (a 3, ar cI 16 O)] ++ (wB cI a χ 0 ++ (wB cI a χ 1 ++ (wB cI a χ 2 ++ (wB cI a χ 3 ++ (wB cI a χ 5)))))) hP hD [22, 23, 24, 25, 4, 5] [0, 1, 2, 3, 6, 7, 8, 9, 10, 11, 12, 13, 14, 15, 16, 17, 18, 19, 20, 21, 26, 27, 28, 29] rfl rfl (by decide) (by decide) hk hF hP1 hD1
    exact ⟨h1.sub [0, 1, 2, 3, 28, 29, 4, 5, 6, 7, 8, 9, 10, 11, 12, 13, 14, 15, 16, 17, 18, 19, 24, 25, 26, 27, 20, 21, 22, 23] rfl, h2.sub [0, 1, 2, 3, 28, 29, 4, 5, 6, 7, 8, 9, 10, 11, 12, 13, 14, 15, 16, 17, 18, 19, 24, 25, 26, 27, 20, 21, 22, 23] (by decide) rfl⟩
  · obtain ⟨h1, h2⟩ := va_join (wr := [(a 0, .inr (2, [.ref (a 1), .ref (a 2), .ref (a 4), .int (nI cu), .int (nI fi), .int (nI ne), .int (nI ct), .int (nI on)])), (a 1, rr cB 6 (fun j => a (6 + 4 * j))), (a 2, .inr (1, [.ref (a 3)])), (a 3, ar cI 16 O)] ++ (wB cI a χ 0 ++ (wB cI a χ 1 ++ (wB cI a χ 2 ++ (wB cI a χ 3 ++ (wB cI a χ 4)))))) hP hD [26, 27, 28, 29, 4, 5] [0, 1, 2, 3, 6, 7, 8, 9, 10, 11, 12, 13, 14, 15, 16, 17, 18, 19, 20, 21, 22, 23, 24, 25] rfl rfl (by decide) (by decide) hk hF hP1 hD1
    exact ⟨h1.sub [0, 1, 2, 3, 28, 29, 4, 5, 6, 7, 8, 9, 10, 11, 12, 13, 14, 15, 16, 17, 18, 19, 20, 21, 22, 23, 24, 25, 26, 27] rfl, h2.sub [0, 1, 2, 3, 28, 29, 4, 5, 6, 7, 8, 9, 10, 11, 12, 13, 14, 15, 16, 17, 18, 19, 20, 21, 22, 23, 24, 25, 26, 27] (by decide) rfl⟩
theorem jP_open {D : va_G} {cI cB : ClassId} {a h O O' χ : Nat → Nat} {cu fi ne ct on : Nat} {A : Nat → Prop} {H H1 : Heap} (hP : va_P D vwCl (wP cI cB a h O χ cu fi ne ct on) H) (hD : va_D A (wP cI cB a h O χ cu fi ne ct on)) (hF : ∀ q, va_A (eW cI (a 2) (a 3) O) H.size q → A q) (hk : ∀ q : Nat, q < H.size → ¬ va_A (eW cI (a 2) (a 3) O) H.size q → H1[q]? = H[q]?) (hP1 : va_P D vwCl (eW cI (a 2) (a 3) O') H1) (hD1 : va_D (va_A (eW cI (a 2) (a 3) O) H.size) (eW cI (a 2) (a 3) O')) : va_P D vwCl (wP cI cB a h O' χ cu fi ne ct on) H1 ∧ va_D A (wP cI cB a h O' χ cu fi ne ct on) := by
  obtain ⟨h1, h2⟩ := va_join (wr := [(a 0, .inr (2, [.ref (a 1), .ref (a 2), .ref (a 4), .int (nI cu), .int (nI fi), .int (nI ne), .int (nI ct), .int (nI on)])), (a 1, rr cB 6 (fun j => a (6 + 4 * j))), (a 4, .inr (1, [.ref (a 5)])), (a 5, ar cI 16 h)] ++ (wB cI a χ 0 ++ (wB cI a χ 1 ++ (wB cI a χ 2 ++ (wB cI a χ 3 ++ (wB cI a χ 4 ++ (wB cI a χ 5))))))) hP hD [2, 3] [0, 1, 4, 5, 6, 7, 8, 9, 10, 11, 12, 13, 14, 15, 16, 17, 18, 19, 20, 21, 22, 23, 24, 25, 26, 27, 28, 29] rfl rfl (by decide) (by decide) hk hF hP1 hD1
  exact ⟨h1.sub [0, 1, 28, 29, 2, 3, 4, 5, 6, 7, 8, 9, 10, 11, 12, 13, 14, 15, 16, 17, 18, 19, 20, 21, 22, 23, 24, 25, 26, 27] rfl, h2.sub [0, 1, 28, 29, 2, 3, 4, 5, 6, 7, 8, 9, 10, 11, 12, 13, 14, 15, 16, 17, 18, 19, 20, 21, 22, 23, 24, 25, 26, 27] (by decide) rfl⟩
end
section
/-! ===== a page's row, as numbers ===== -/
/-- one or the other, by a proposition: nothing that unfolds by itself -/
noncomputable def cif {α : Type} (P : Prop) (x y : α) : α := @ite α P (Classical.propDecidable P) x y
theorem cif_t {α : Type} {P : Prop} {x y : α} (h : P) : cif P x y = x := if_pos h
theorem cif_f {α : Type} {P : Prop} {x y : α} (h : ¬ P) : cif P x y = y := if_neg h
theorem cif_or {α : Type} (P : Prop) (x y : α) : (P ∧ cif P x y = x) ∨ (¬ P ∧ cif P x y = y) := (Classical.em P).elim (fun h => Or.inl ⟨h, cif_t h⟩) (fun h => Or.inr ⟨h, cif_f h⟩)
theorem eW_eq {cI : ClassId} {q0 q1 : Nat} {O O' : Nat → Nat} (h : ∀ j, j < 16 → O j = O' j) : eW cI q0 q1 O = eW cI q0 q1 O' := by
  simp only [eW, ar]
  rw [gd_congr h]
/-- where the row of the event at that index begins -/
def pl (O : Nat → Nat) : Nat → Nat
  | 0 => 3
  | i + 1 => pl O i + 1 + O (pl O i)
def wf (O : Nat → Nat) : Prop := O 0 ≤ 6 ∧ O 1 < 256 ∧ O 2 < 256 ∧ ∀ i, i < O 0 → 1 ≤ O (pl O i) ∧ O (pl O i) ≤ 6 ∧ pl O i + 1 + O (pl O i) ≤ 16
theorem pl_le {O : Nat → Nat} (h : wf O) : ∀ i, i ≤ O 0 → 3 ≤ pl O i ∧ pl O i ≤ 16 := by
  intro i
  induction i with
  | zero => intro _; exact ⟨Nat.le_refl 3, (by decide : (3 : Nat) ≤ 16)⟩
  | succ i ih =>
    intro hi
    have h1 := ih (by omega)
    have h2 := h.2.2.2 i (by omega)
    show 3 ≤ pl O i + 1 + O (pl O i) ∧ pl O i + 1 + O (pl O i) ≤ 16
    omega
theorem pl_lt {O : Nat → Nat} (h : wf O) {i : Nat} (hi : i < O 0) : pl O i < 15 := by
  have h2 := h.2.2.2 i hi
  omega
theorem xl_fst {x y : Nat} (h : y < 256) : x * 2 ^ 8 ||| y = 256 * x + y := by
  rw [Nat.mul_comm x (2 ^ 8), ← Nat.two_pow_add_eq_or_of_lt (show y < 2 ^ 8 from h)]
abbrev fst (O : Nat → Nat) : Nat := 256 * O 1 + O 2
/-- byte k of w -/
def wb (w : Int64) (k : Nat) : Nat := ((w >>> ((nI (8 * k)).toInt64 &&& 63)) &&& 255).toInt32.toNatClampNeg
theorem xl_255 (y : Int64) : ∃ n, n < 256 ∧ (y &&& 255).toInt32 = nI n := by
  refine ⟨(y &&& 255).toBitVec.toNat, ?_, ?_⟩
  · show (y.toBitVec &&& (255 : Int64).toBitVec).toNat < 256
    rw [BitVec.toNat_and]
    exact Nat.lt_of_le_of_lt Nat.and_le_right (by decide)
  · apply Int32.toBitVec_inj.mp
    show (y &&& 255).toBitVec.signExtend 32 = BitVec.ofNat 32 _
    rw [BitVec.signExtend_eq_setWidth_of_le _ (by decide)]
    apply BitVec.eq_of_toNat_eq
    rw [BitVec.toNat_setWidth, BitVec.toNat_ofNat]
theorem wb_eq (w : Int64) (k : Nat) : ((w >>> ((nI (8 * k)).toInt64 &&& 63)) &&& 255).toInt32 = nI (wb w k) := by
  obtain ⟨n, h1, h2⟩ := xl_255 (w >>> ((nI (8 * k)).toInt64 &&& 63))
  unfold wb
  rw [h2, nI_clamp (by omega)]
theorem wb_lt (w : Int64) (k : Nat) : wb w k < 256 := by
  obtain ⟨n, h1, h2⟩ := xl_255 (w >>> ((nI (8 * k)).toInt64 &&& 63))
  unfold wb
  rw [h2, nI_clamp (by omega)]
  exact h1
/-- the row with one event more, of which j bytes are written -/
def adJ (O : Nat → Nat) (num n : Nat) (w : Int64) (j : Nat) : Nat → Nat := fun i =>
  if i = 0 then O 0 + 1 else if i = 1 ∧ O 0 = 0 then num / 2 ^ 8 % 256 else if i = 2 ∧ O 0 = 0 then num % 256 else if i = pl O (O 0) then n else if pl O (O 0) + 1 ≤ i ∧ i < pl O (O 0) + 1 + j then wb w (i - (pl O (O 0) + 1)) else O i
abbrev adO (O : Nat → Nat) (num n : Nat) (w : Int64) : Nat → Nat := adJ O num n w n
/-- an event's bytes, from the last one on -/
def evF (F : Nat → Nat) : Nat → Int64 → Int64
  | 0, v => v
  | j + 1, v => evF F j ((v <<< ((nI 8).toInt64 &&& 63)) ||| (nI (F (j + 1))).toInt64)
theorem xl_dec {j : Nat} (h : 0 < j) : nI j + Int32.ofInt (-1) = nI (j - 1) := by
  obtain ⟨i, rfl⟩ : ∃ i, j = i + 1 := ⟨j - 1, by omega⟩
  exact pk_m1 i
/-! ===== a block's pages ===== -/
/-- the first place that is erased; 16 when there is none -/
noncomputable def fpl (χ : Nat → Nat) (b : Nat) : Nat → Nat
  | 0 => 0
  | k + 1 => cif (fpl χ b k < k) (fpl χ b k) (cif (χ (16 * b + k) = 0) k (k + 1))
noncomputable abbrev plc (χ : Nat → Nat) (b : Nat) : Nat := fpl χ b 16
theorem fpl_spec (χ : Nat → Nat) (b : Nat) : ∀ k, fpl χ b k ≤ k ∧ (∀ j, j < fpl χ b k → χ (16 * b + j) ≠ 0) ∧ (fpl χ b k < k → χ (16 * b + fpl χ b k) = 0) := by
  intro k
  induction k with
  | zero => exact ⟨Nat.le_refl 0, fun j hj => absurd hj (Nat.not_lt_zero j), fun h => absurd h (Nat.lt_irrefl 0)⟩
  | succ k ih =>
    obtain ⟨h1, h2, h3⟩ := ih
    simp only [fpl]
    by_cases h4 : fpl χ b k < k
    · rw [cif_t h4]
      exact ⟨by omega, h2, fun _ => h3 h4⟩
    · have h5 : fpl χ b k = k := by omega
      rw [cif_f h4]
      by_cases h6 : χ (16 * b + k) = 0
      · rw [cif_t h6]
        exact ⟨by omega, fun j hj => h2 j (by omega), fun _ => h6⟩
      · rw [cif_f h6]
        refine ⟨Nat.le_refl _, fun j hj => ?_, fun h => absurd h (Nat.lt_irrefl _)⟩
        by_cases h7 : j = k
        · rw [h7]; exact h6
        · exact h2 j (by omega)
theorem plc_le (χ : Nat → Nat) (b : Nat) : plc χ b ≤ 16 := (fpl_spec χ b 16).1
theorem plc_lt {χ : Nat → Nat} {b j : Nat} (h : j < plc χ b) : χ (16 * b + j) ≠ 0 := (fpl_spec χ b 16).2.1 j h
theorem plc_at {χ : Nat → Nat} {b : Nat} (h : plc χ b < 16) : χ (16 * b + plc χ b) = 0 := (fpl_spec χ b 16).2.2 h
theorem plc_eq {χ : Nat → Nat} {b n : Nat} (h1 : n ≤ 16) (h2 : ∀ j, j < n → χ (16 * b + j) ≠ 0) (h3 : n < 16 → χ (16 * b + n) = 0) : n = plc χ b := by
  rcases Nat.lt_trichotomy n (plc χ b) with h | h | h
  · exact absurd (h3 (by have := plc_le χ b; omega)) (plc_lt h)
  · exact h
  · exact absurd (plc_at (by omega)) (h2 _ h)
theorem plc_zero {χ : Nat → Nat} {b : Nat} : plc χ b = 0 ↔ χ (16 * b) = 0 := by
  constructor
  · intro h
    have h1 := plc_at (χ := χ) (b := b) (by omega)
    rw [h] at h1
    exact h1
  · intro h
    rcases Nat.eq_zero_or_pos (plc χ b) with h1 | h1
    · exact h1
    · exact absurd h (plc_lt h1)
/-- the block takes one page more -/
def tk (χ : Nat → Nat) (b : Nat) : Prop := (∀ j, 8 ≤ j → j < 16 → χ (16 * b + j) ≠ 2) ∧ plc χ b < 16
/-- the guard page covers that line -/
def cov (χ : Nat → Nat) (b k : Nat) : Prop := χ (200 + 17 * b + 16) / 2 ^ k % 2 = 1
/-- the class's own covers: the guard page is written, the place is a lower one, and it is covered -/
def cvr (χ : Nat → Nat) (b k : Nat) : Prop := χ (100 + b) = 1 ∧ k < 8 ∧ cov χ b k
/-- the page is rebuilt -/
def reb (χ : Nat → Nat) (b k : Nat) : Prop := χ (16 * b + k) = 2 ∧ cvr χ b k ∧ ∀ j, j < 8 → j ≠ k → cov χ b j → χ (16 * b + j) = 1
/-- the page is readable -/
def rdb (χ : Nat → Nat) (b k : Nat) : Prop := χ (16 * b + k) = 1 ∨ reb χ b k
/-- the guard page's byte k, with the covered lines below n, but not the page's own -/
noncomputable def xfo (χ : Nat → Nat) (b k i : Nat) : Nat → Nat
  | 0 => χ (200 + 17 * b + i)
  | n + 1 => cif (n ≠ k ∧ cov χ b n) (xfo χ b k i n ^^^ χ (1000 + 256 * b + (16 * n + i))) (xfo χ b k i n)
/-- byte i of a readable page -/
noncomputable def byt (χ : Nat → Nat) (b k i : Nat) : Nat := if χ (16 * b + k) = 1 then χ (1000 + 256 * b + (16 * k + i)) else xfo χ b k i 8
theorem xfo_in {χ : Nat → Nat} {b k i n : Nat} (h : n ≠ k ∧ cov χ b n) : xfo χ b k i (n + 1) = xfo χ b k i n ^^^ χ (1000 + 256 * b + (16 * n + i)) := cif_t h
theorem xfo_out {χ : Nat → Nat} {b k i n : Nat} (h : ¬ (n ≠ k ∧ cov χ b n)) : xfo χ b k i (n + 1) = xfo χ b k i n := cif_f h
/-- what a block is when it was erased -/
def ers (χ : Nat → Nat) (b : Nat) : Nat → Nat := fun i => if 16 * b ≤ i ∧ i < 16 * b + 16 then 0 else if i = 100 + b then 0 else if i = 110 + b then χ i + 1 else χ i
/-- the power was cut while that page was programmed -/
def cuw (χ : Nat → Nat) (b k : Nat) : Nat → Nat := fun i => if i = 16 * b + k then 2 else if 8 ≤ k ∧ i = 16 * b + (k - 8) then 2 else χ i
/-- a page was programmed -/
def wrt (χ : Nat → Nat) (b k : Nat) (O : Nat → Nat) : Nat → Nat := fun i => if i = 16 * b + k then 1 else if 1000 + 256 * b + 16 * k ≤ i ∧ i < 1000 + 256 * b + 16 * k + 16 then O (i - (1000 + 256 * b + 16 * k)) else χ i
/-- the guard page's byte i out of the written lower pages below n -/
def gx (χ : Nat → Nat) (b i : Nat) : Nat → Nat
  | 0 => 0
  | n + 1 => if χ (16 * b + n) = 1 then gx χ b i n ^^^ χ (1000 + 256 * b + (16 * n + i)) else gx χ b i n
def gm (χ : Nat → Nat) (b : Nat) : Nat → Nat
  | 0 => 0
  | n + 1 => if χ (16 * b + n) = 1 then gm χ b n ||| 2 ^ n else gm χ b n
def gr (χ : Nat → Nat) (b n : Nat) : Nat → Nat := fun j => if j < 16 then gx χ b j n else if j = 16 then gm χ b n else 0
/-- the guard page was programmed -/
def wgd (χ : Nat → Nat) (b : Nat) : Nat → Nat := fun i => if i = 100 + b then 1 else if 200 + 17 * b ≤ i ∧ i < 217 + 17 * b then gr χ b 8 (i - (200 + 17 * b)) else χ i
theorem gm_lt (χ : Nat → Nat) (b : Nat) : ∀ n, n ≤ 8 → gm χ b n < 2 ^ n := by
  intro n
  induction n with
  | zero => intro _; exact Nat.one_pos
  | succ n ih =>
    intro hn
    have h := ih (by omega)
    simp only [gm]
    split
    · exact Nat.or_lt_two_pow (Nat.lt_of_lt_of_le h (Nat.pow_le_pow_right (by decide) (Nat.le_succ n))) (Nat.pow_lt_pow_right (by decide) (Nat.lt_succ_self n))
    · exact Nat.lt_of_lt_of_le h (Nat.pow_le_pow_right (by decide) (Nat.le_succ n))
end
section
theorem rw_row {cI : ClassId} {q n : Nat} {f g : Nat → Nat} (h : ∀ j, j < n → f j = g j) : ([(q, ar cI n f)] : va_W) = [(q, ar cI n g)] := by
  simp only [ar]
  rw [gd_congr h]

set_option maxHeartbeats 4000000 in
set_option maxRecDepth 100000 in
theorem c_fill (l : Launch) (D : va_G) {cI cB : ClassId} (q n x : Nat) (f : Nat → Nat) (hn : n < 2 ^ 31) (sz : Nat) : Met l yJ7_fill_53178 wsJ7_fill_53178 ({ frames := 0, cells := 0, slots := 0, locals := 0 }) (va_Pc [.ref (q), .int (nI (x))] (x_U D (tyP cI cB) ([(q, ar cI n f)]) sz)) (va_Qv (fun (_ : Unit) => True) (fun u t => x_E D (tyP cI cB) (va_A ([(q, ar cI n f)]) sz) ([(q, ar cI n (fun _ => x))]) t) (va_A ([(q, ar cI n f)]) sz)) 0 0 (va_A ([(q, ar cI n f)]) sz) := by
  refine Met.ofW (cc := cJ7_fill_53178) (maxL := 4) (ret := none) (by decide) rfl ?_
  intro p e s m args below meth c s₁ B hml hv
  obtain ⟨rfl, hsz, hN, hP, hK, hD0⟩ := hv
  have hx := B.exec
  have hb := B.bytes
  have hr := B.returns
  have hts := atoms_spec (ws := wsJ7_fill_53178) B.pre
  have hown : s.vm.findClass RJ7 = some m.cls := findClass_of_methodNamed B.named
  have hlocks := B.notSynchronized
  subst hsz
  have hD := hD0.self (sz := s.heap.size)
  generalize hAe : va_A ([(q, ar cI n f)]) s.heap.size = A at hD ⊢
  have hA : ∀ q : Nat, s.heap.size ≤ q → A q := fun q h => by rw [← hAe]; exact Or.inr h
  obtain ⟨H, hH⟩ : ∃ H : Heap, s.heap = H := ⟨_, rfl⟩
  obtain ⟨locs, hlo⟩ : ∃ L : List Loc, ([] : List Loc) = L := ⟨_, rfl⟩
  have hS : va_S A s.heap H locs := by rw [← hH, ← hlo]; exact va_S.rf
  have hP : va_P D vwCl ([(q, ar cI n f)]) H := hH ▸ hP
  rw [hH, hlo]
  have hl := lv_entry ([.ref (q), .int (nI (x))]) (n := 4) (Nat.le_of_ble_eq_true rfl)
  rw [lg_entry_eq]
  generalize (lg_sl ([.ref (q), .int (nI (x))]) ++ List.replicate (4 - (lg_sl ([.ref (q), .int (nI (x))])).length) Slot.unset).toArray = ls at hl ⊢
  have hl : lv_has ls 4 [(0, .ref (q)), (1, .int (nI (x)))] := hl
  refine lv_iconst (v := nI 0) hx hb dJ7_fill_53178_0 (by decide) ?_
  refine lv_istore_n (lv' := [(2, .int (nI (0))), (0, .ref (q)), (1, .int (nI (x)))]) hx hb dJ7_fill_53178_1 rfl hl (by decide) rfl (fun ls hl => ?_)
  refine lv_aload_n hx hb dJ7_fill_53178_2 rfl (lv_at hl 1 rfl) ?_
  refine va_alen hx hb hK hP 0 0 rfl rfl (v := nI (n)) rfl dJ7_fill_53178_3 ?_
  refine lv_istore_n (lv' := [(3, .int (nI (n))), (2, .int (nI (0))), (0, .ref (q)), (1, .int (nI (x)))]) hx hb dJ7_fill_53178_4 rfl hl (by decide) rfl (fun ls hl => ?_)
  have hq9 : ([(q, ar cI n f)] : va_W) = [(q, ar cI n (fun j => if j < 0 then x else f j))] := (rw_row (fun j hj => (if_neg (Nat.not_lt_zero j)).symm))
  refine lpW (α := Nat) (fun k H locs => (k ≤ n) ∧ va_P D vwCl ([(q, ar cI n (fun j => if j < k then x else f j))]) H ∧ va_D A ([(q, ar cI n (fun j => if j < k then x else f j))]) ∧ va_S A s.heap H locs) (fun k => [(0, .ref (q)), (1, .int (nI (x))), (2, .int (nI (k))), (3, .int (nI (n)))]) 4 (fun k => n - k) 0 (⟨by omega, va_P.eqw hq9 hP, va_D.eqw hq9 hD, hS⟩) (lv_sub hl [2, 3, 1, 0] rfl) (fun s9 H locs ls hI9 hl9 ih_5 => ?_)
  obtain ⟨k, rfl⟩ : ∃ z, z = s9 := ⟨_, rfl⟩
  have hl : lv_has ls 4 [(0, .ref (q)), (1, .int (nI (x))), (2, .int (nI (k))), (3, .int (nI (n)))] := hl9
  obtain ⟨hk, hP, hD, hS⟩ : (k ≤ n) ∧ va_P D vwCl ([(q, ar cI n (fun j => if j < k then x else f j))]) H ∧ va_D A ([(q, ar cI n (fun j => if j < k then x else f j))]) ∧ va_S A s.heap H locs := hI9
  refine lv_iload_n hx hb dJ7_fill_53178_5 rfl (lv_at hl 2 rfl) ?_
  refine lv_iload_n hx hb dJ7_fill_53178_6 rfl (lv_at hl 3 rfl) ?_
  refine xi_ge (tgt := 20) hx hb dJ7_fill_53178_7 (by decide) (nI_toInt (by omega)) (nI_toInt (by omega)) (fun c_7 => ?_) (fun c_7 => ?_)
  · have hq9 : ([(q, ar cI n (fun j => if j < k then x else f j))] : va_W) = [(q, ar cI n (fun _ => x))] := (rw_row (fun j hj => if_pos (show j < k by omega)))
    exact xf_v (post := fun (_ : Unit) => True) (w1 := fun (_ : Unit) => [(q, ar cI n (fun _ => x))]) () hx hb hr hlocks (trivial) (va_P.eqw hq9 hP) hK (va_D.eqw hq9 hD) hS dJ7_fill_53178_20
  · refine lv_aload_n hx hb dJ7_fill_53178_10 rfl (lv_at hl 0 rfl) ?_
    refine lv_iload_n hx hb dJ7_fill_53178_11 rfl (lv_at hl 2 rfl) ?_
    refine lv_iload_n hx hb dJ7_fill_53178_12 rfl (lv_at hl 1 rfl) ?_
    refine xr_iast hx hb hK hP hD hS 0 0 rfl rfl (by omega) (by omega) dJ7_fill_53178_13 (fun H locs hP hD hS => ?_)
    have hP : va_P D vwCl ([(q, ar cI n (up (fun j => if j < k then x else f j) (k) (x)))]) H := hP
    have hD : va_D A ([(q, ar cI n (up (fun j => if j < k then x else f j) (k) (x)))]) := hD
    refine lv_iinc (v := nI (k + 1)) (lv' := [(2, .int (nI (k + 1))), (0, .ref (q)), (1, .int (nI (x))), (3, .int (nI (n)))]) hx hb dJ7_fill_53178_14 hl (k := 2) rfl (nI_add _ _) (by decide) rfl (fun ls hl => ?_)
    refine lv_goto (tgt := 5) hx hb dJ7_fill_53178_17 (by decide) ?_
    have hq9 : ([(q, ar cI n (up (fun j => if j < k then x else f j) (k) (x)))] : va_W) = [(q, ar cI n (fun j => if j < (k + 1) then x else f j))] := (rw_row (fun j hj => by simp only [up]; (repeat' split) <;> first | rfl | omega | (exfalso; omega)))
    exact ih_5 (k + 1) _ _ _ (⟨by omega, va_P.eqw hq9 hP, va_D.eqw hq9 hD, hS⟩) (by first | omega | (dsimp only; omega)) (lv_sub hl [1, 2, 0, 3] rfl)

set_option maxHeartbeats 4000000 in
set_option maxRecDepth 100000 in
theorem c_X1_clear (l : Launch) (D : va_G) {cI cB : ClassId} (q0 q1 : Nat) (O : Nat → Nat) (hO0 : O 0 < 65536) (sz : Nat) : Met l yX1_clear wsX1_clear ({ frames := 1, cells := 0, slots := 0, locals := 23 }) (va_Pc [.ref (q0)] (x_U D (tyP cI cB) (eW cI (q0) (q1) O) sz)) (va_Qv (fun (_ : Unit) => True) (fun u t => x_E D (tyP cI cB) (va_A (eW cI (q0) (q1) O) sz) (eW cI q0 q1 (fun _ => 0)) t) (va_A (eW cI (q0) (q1) O) sz)) 0 0 (va_A (eW cI (q0) (q1) O) sz) := by
  refine Met.ofW (cc := cX1_clear) (maxL := 1) (ret := none) (by decide) rfl ?_
  intro p e s m args below meth c s₁ B hml hv
  obtain ⟨rfl, hsz, hN, hP, hK, hD0⟩ := hv
  have hx := B.exec
  have hb := B.bytes
  have hr := B.returns
  have hts := atoms_spec (ws := wsX1_clear) B.pre
  have hown : s.vm.findClass RX1 = some m.cls := findClass_of_methodNamed B.named
  have hlocks := B.notSynchronized
  subst hsz
  have hD := hD0.self (sz := s.heap.size)
  generalize hAe : va_A (eW cI (q0) (q1) O) s.heap.size = A at hD ⊢
  have hA : ∀ q : Nat, s.heap.size ≤ q → A q := fun q h => by rw [← hAe]; exact Or.inr h
  obtain ⟨H, hH⟩ : ∃ H : Heap, s.heap = H := ⟨_, rfl⟩
  obtain ⟨locs, hlo⟩ : ∃ L : List Loc, ([] : List Loc) = L := ⟨_, rfl⟩
  have hS : va_S A s.heap H locs := by rw [← hH, ← hlo]; exact va_S.rf
  have hP : va_P D vwCl (eW cI (q0) (q1) O) H := hH ▸ hP
  rw [hH, hlo]
  have hiX1 : ∀ w ∈ u_ws RX1 TX1 1, w ∈ wsX1_clear := by decide +kernel
  have hl := lv_entry ([.ref (q0)]) (n := 1) (Nat.le_of_ble_eq_true rfl)
  rw [lg_entry_eq]
  generalize (lg_sl ([.ref (q0)]) ++ List.replicate (1 - (lg_sl ([.ref (q0)])).length) Slot.unset).toArray = ls at hl ⊢
  have hl : lv_has ls 1 [(0, .ref (q0))] := hl
  refine lv_aload_n hx hb dX1_clear_0 rfl (lv_at hl 0 rfl) ?_
  refine va_get (D := D) (ci := 1) (v := .ref (q1)) (C := RX1) (T := TX1) (N := 1) hx hb hts hiX1 hown hK hP 0 rfl rfl 0 (by decide) (hts (.fieldLink RX1 9 "PairedCells$EventPage" "bytes" "[I") (by decide +kernel)) (fun _ h9 => h9) rfl dX1_clear_1 ?_
  refine lv_iconst (v := nI 0) hx hb dX1_clear_4 (by decide) ?_
  have hF9 := x_hF (hD.sub (ws' := [(q1, ar cI 16 O)]) [1] (by decide) rfl) hS hA
  refine xw_Sv (rest := []) (As := [.ref (q1), .int (nI (0))]) ⟨hx, hb, hml, hown, hts⟩ (c_fill l D q1 16 0 O (by decide) H.size) (va_cwS 2 hts gX1_clear_J7_fill_53178 rfl rfl rfl (by decide +kernel) ⟨Nat.le_of_ble_eq_true rfl, Nat.le_of_ble_eq_true rfl⟩) hN hK (hP.sub (ws' := [(q1, ar cI 16 O)]) [1] rfl) (hD.sub (ws' := [(q1, ar cI 16 O)]) [1] (by decide) rfl) hS hA rfl hl.1 rfl (Nat.le_of_ble_eq_true rfl) dX1_clear_5 ⟨Nat.le_of_ble_eq_true rfl, Nat.le_of_ble_eq_true rfl⟩ (fun u_5 H1 locs hw_5 hP1 hD1 hDA hk9 hS => ?_)
  obtain ⟨hP, hD⟩ := va_join (wr := [(q0, .inr (1, [.ref q1]))]) hP hD [1] [0] rfl rfl (by decide) (by decide) hk9 hF9 hP1 hD1
  generalize H1 = H at hP hS ⊢
  have hP : va_P D vwCl (eW cI (q0) (q1) (fun _ => 0)) H := hP
  have hD : va_D A (eW cI (q0) (q1) (fun _ => 0)) := hD
  exact xf_v (post := fun (_ : Unit) => True) (w1 := fun (_ : Unit) => eW cI q0 q1 (fun _ => 0)) () hx hb hr hlocks (trivial) hP hK hD hS dX1_clear_8

set_option maxHeartbeats 4000000 in
set_option maxRecDepth 100000 in
theorem c_X1_events (l : Launch) (D : va_G) {cI cB : ClassId} (q0 q1 : Nat) (O : Nat → Nat) (hO0 : O 0 < 65536) : Met l yX1_events wsX1_events ({ frames := 0, cells := 0, slots := 0, locals := 0 }) (va_Pc [.ref (q0)] (x_R D (tyP cI cB) (eW cI (q0) (q1) O))) (vp_Si (fun r => r = nI (O 0))) 0 0 (fun _ => False) := by
  refine Met.ofW (cc := cX1_events) (maxL := 1) (ret := (some .int)) (by decide) rfl ?_
  intro p e s m args below meth c s₁ B hml hv
  obtain ⟨rfl, hN, hP, hK⟩ := hv
  have hx := B.exec
  have hb := B.bytes
  have hr := B.returns
  have hts := atoms_spec (ws := wsX1_events) B.pre
  have hown : s.vm.findClass RX1 = some m.cls := findClass_of_methodNamed B.named
  have hlocks := B.notSynchronized
  have hiX1 : ∀ w ∈ u_ws RX1 TX1 1, w ∈ wsX1_events := by decide +kernel
  have hl := lv_entry ([.ref (q0)]) (n := 1) (Nat.le_of_ble_eq_true rfl)
  rw [lg_entry_eq]
  generalize (lg_sl ([.ref (q0)]) ++ List.replicate (1 - (lg_sl ([.ref (q0)])).length) Slot.unset).toArray = ls at hl ⊢
  have hl : lv_has ls 1 [(0, .ref (q0))] := hl
  refine lv_aload_n hx hb dX1_events_0 rfl (lv_at hl 0 rfl) ?_
  refine va_get (D := D) (ci := 1) (v := .ref (q1)) (C := RX1) (T := TX1) (N := 1) hx hb hts hiX1 hown hK hP 0 rfl rfl 0 (by decide) (hts (.fieldLink RX1 9 "PairedCells$EventPage" "bytes" "[I") (by decide +kernel)) (fun _ h9 => h9) rfl dX1_events_1 ?_
  refine lv_iconst (v := nI 0) hx hb dX1_events_4 (by decide) ?_
  refine xr_iald hx hb hK hP 1 0 rfl rfl (by omega) (by decide) dX1_events_5 ?_
  exact xe_i hx hb hr hlocks (rfl) rfl rfl dX1_events_6

set_option maxHeartbeats 4000000 in
set_option maxRecDepth 100000 in
theorem c_X1_isEmpty (l : Launch) (D : va_G) {cI cB : ClassId} (q0 q1 : Nat) (O : Nat → Nat) (hO0 : O 0 < 65536) : Met l yX1_isEmpty wsX1_isEmpty ({ frames := 1, cells := 0, slots := 0, locals := 20 }) (va_Pc [.ref (q0)] (x_R D (tyP cI cB) (eW cI (q0) (q1) O))) (vp_Si (fun r => bo r (O 0 = 0))) 0 0 (fun _ => False) := by
  refine Met.ofW (cc := cX1_isEmpty) (maxL := 1) (ret := (some .boolean)) (by decide) rfl ?_
  intro p e s m args below meth c s₁ B hml hv
  obtain ⟨rfl, hN, hP, hK⟩ := hv
  have hx := B.exec
  have hb := B.bytes
  have hr := B.returns
  have hts := atoms_spec (ws := wsX1_isEmpty) B.pre
  have hown : s.vm.findClass RX1 = some m.cls := findClass_of_methodNamed B.named
  have hlocks := B.notSynchronized
  have hl := lv_entry ([.ref (q0)]) (n := 1) (Nat.le_of_ble_eq_true rfl)
  rw [lg_entry_eq]
  generalize (lg_sl ([.ref (q0)]) ++ List.replicate (1 - (lg_sl ([.ref (q0)])).length) Slot.unset).toArray = ls at hl ⊢
  have hl : lv_has ls 1 [(0, .ref (q0))] := hl
  refine lv_aload_n hx hb dX1_isEmpty_0 rfl (lv_at hl 0 rfl) ?_
  refine xc_Vi (ci := 1) (rest := []) (As := []) ⟨hx, hb, hml, hown, hts⟩ (c_X1_events l D q0 q1 O hO0) (cwV 0 hts gX1_isEmpty_X1_events rfl rfl rfl (by decide +kernel) ⟨Nat.le_of_ble_eq_true rfl, Nat.le_of_ble_eq_true rfl⟩) hN hK (hP) rfl 0 rfl rfl hl.1 rfl (Nat.le_of_ble_eq_true rfl) dX1_isEmpty_1 ⟨Nat.le_of_ble_eq_true rfl, Nat.le_of_ble_eq_true rfl⟩ (fun r_1 hw_1 => ?_)
  subst hw_1
  refine xz_ne (tgt := 11) hx hb dX1_isEmpty_4 (by decide) (nI_toInt (by omega)) (fun c_4 => ?_) (fun c_4 => ?_)
  · refine lv_iconst (v := nI 0) hx hb dX1_isEmpty_11 (by decide) ?_
    exact xe_z hx hb hr hlocks rfl (bo.zero (by omega)) rfl rfl dX1_isEmpty_12
  · refine lv_iconst (v := nI 1) hx hb dX1_isEmpty_7 (by decide) ?_
    refine lv_goto (tgt := 12) hx hb dX1_isEmpty_8 (by decide) ?_
    exact xe_z hx hb hr hlocks rfl (bo.one (by omega)) rfl rfl dX1_isEmpty_12

set_option maxHeartbeats 4000000 in
set_option maxRecDepth 100000 in
theorem c_X1_firstNumber (l : Launch) (D : va_G) {cI cB : ClassId} (q0 q1 : Nat) (O : Nat → Nat) (hO0 : O 0 < 65536) (hO1 : O 1 < 256) (hO2 : O 2 < 256) : Met l yX1_firstNumber wsX1_firstNumber ({ frames := 0, cells := 0, slots := 0, locals := 0 }) (va_Pc [.ref (q0)] (x_R D (tyP cI cB) (eW cI (q0) (q1) O))) (vp_Si (fun r => r = nI ((256 * O 1 + O 2)))) 0 0 (fun _ => False) := by
  refine Met.ofW (cc := cX1_firstNumber) (maxL := 1) (ret := (some .int)) (by decide) rfl ?_
  intro p e s m args below meth c s₁ B hml hv
  obtain ⟨rfl, hN, hP, hK⟩ := hv
  have hx := B.exec
  have hb := B.bytes
  have hr := B.returns
  have hts := atoms_spec (ws := wsX1_firstNumber) B.pre
  have hown : s.vm.findClass RX1 = some m.cls := findClass_of_methodNamed B.named
  have hlocks := B.notSynchronized
  have hiX1 : ∀ w ∈ u_ws RX1 TX1 1, w ∈ wsX1_firstNumber := by decide +kernel
  have hl := lv_entry ([.ref (q0)]) (n := 1) (Nat.le_of_ble_eq_true rfl)
  rw [lg_entry_eq]
  generalize (lg_sl ([.ref (q0)]) ++ List.replicate (1 - (lg_sl ([.ref (q0)])).length) Slot.unset).toArray = ls at hl ⊢
  have hl : lv_has ls 1 [(0, .ref (q0))] := hl
  refine lv_aload_n hx hb dX1_firstNumber_0 rfl (lv_at hl 0 rfl) ?_
  refine va_get (D := D) (ci := 1) (v := .ref (q1)) (C := RX1) (T := TX1) (N := 1) hx hb hts hiX1 hown hK hP 0 rfl rfl 0 (by decide) (hts (.fieldLink RX1 9 "PairedCells$EventPage" "bytes" "[I") (by decide +kernel)) (fun _ h9 => h9) rfl dX1_firstNumber_1 ?_
  refine lv_iconst (v := nI 1) hx hb dX1_firstNumber_4 (by decide) ?_
  refine xr_iald hx hb hK hP 1 0 rfl rfl (by omega) (by decide) dX1_firstNumber_5 ?_
  refine lv_bipush (v := nI 8) hx hb dX1_firstNumber_6 (by decide) ?_
  refine xr_shl hx hb (by omega) (by omega) dX1_firstNumber_8 ?_
  refine lv_aload_n hx hb dX1_firstNumber_9 rfl (lv_at hl 0 rfl) ?_
  refine va_get (D := D) (ci := 1) (v := .ref (q1)) (C := RX1) (T := TX1) (N := 1) hx hb hts hiX1 hown hK hP 0 rfl rfl 0 (by decide) (hts (.fieldLink RX1 9 "PairedCells$EventPage" "bytes" "[I") (by decide +kernel)) (fun _ h9 => h9) rfl dX1_firstNumber_10 ?_
  refine lv_iconst (v := nI 2) hx hb dX1_firstNumber_13 (by decide) ?_
  refine xr_iald hx hb hK hP 1 0 rfl rfl (by omega) (by decide) dX1_firstNumber_14 ?_
  refine xr_or hx hb dX1_firstNumber_15 ?_
  refine xr_nat (x' := 256 * O 1 + O 2) (xl_fst hO2) ?_
  exact xe_i hx hb hr hlocks (rfl) rfl rfl dX1_firstNumber_16

set_option maxHeartbeats 4000000 in
set_option maxRecDepth 100000 in
theorem c_X1_lastNumber (l : Launch) (D : va_G) {cI cB : ClassId} (q0 q1 : Nat) (O : Nat → Nat) (hO0 : O 0 < 65536) (hO1 : O 1 < 256) (hO2 : O 2 < 256) : Met l yX1_lastNumber wsX1_lastNumber ({ frames := 1, cells := 0, slots := 0, locals := 20 }) (va_Pc [.ref (q0)] (x_R D (tyP cI cB) (eW cI (q0) (q1) O))) (vp_Si (fun r => r = mI ((256 * O 1 + O 2) + O 0))) 0 0 (fun _ => False) := by
  refine Met.ofW (cc := cX1_lastNumber) (maxL := 1) (ret := (some .int)) (by decide) rfl ?_
  intro p e s m args below meth c s₁ B hml hv
  obtain ⟨rfl, hN, hP, hK⟩ := hv
  have hx := B.exec
  have hb := B.bytes
  have hr := B.returns
  have hts := atoms_spec (ws := wsX1_lastNumber) B.pre
  have hown : s.vm.findClass RX1 = some m.cls := findClass_of_methodNamed B.named
  have hlocks := B.notSynchronized
  have hl := lv_entry ([.ref (q0)]) (n := 1) (Nat.le_of_ble_eq_true rfl)
  rw [lg_entry_eq]
  generalize (lg_sl ([.ref (q0)]) ++ List.replicate (1 - (lg_sl ([.ref (q0)])).length) Slot.unset).toArray = ls at hl ⊢
  have hl : lv_has ls 1 [(0, .ref (q0))] := hl
  refine lv_aload_n hx hb dX1_lastNumber_0 rfl (lv_at hl 0 rfl) ?_
  refine xc_Vi (ci := 1) (rest := []) (As := []) ⟨hx, hb, hml, hown, hts⟩ (c_X1_firstNumber l D q0 q1 O hO0 hO1 hO2) (cwV 0 hts gX1_lastNumber_X1_firstNumber rfl rfl rfl (by decide +kernel) ⟨Nat.le_of_ble_eq_true rfl, Nat.le_of_ble_eq_true rfl⟩) hN hK (hP) rfl 0 rfl rfl hl.1 rfl (Nat.le_of_ble_eq_true rfl) dX1_lastNumber_1 ⟨Nat.le_of_ble_eq_true rfl, Nat.le_of_ble_eq_true rfl⟩ (fun r_1 hw_1 => ?_)
  subst hw_1
  refine lv_aload_n hx hb dX1_lastNumber_4 rfl (lv_at hl 0 rfl) ?_
  refine xc_Vi (ci := 1) (rest := [.int (nI (256 * O 1 + O 2))]) (As := []) ⟨hx, hb, hml, hown, hts⟩ (c_X1_events l D q0 q1 O hO0) (cwV 0 hts gX1_lastNumber_X1_events rfl rfl rfl (by decide +kernel) ⟨Nat.le_of_ble_eq_true rfl, Nat.le_of_ble_eq_true rfl⟩) hN hK (hP) rfl 0 rfl rfl hl.1 rfl (Nat.le_of_ble_eq_true rfl) dX1_lastNumber_5 ⟨Nat.le_of_ble_eq_true rfl, Nat.le_of_ble_eq_true rfl⟩ (fun r_5 hw_5 => ?_)
  subst hw_5
  refine xr_add hx hb dX1_lastNumber_8 ?_
  refine lv_iconst (v := nI 1) hx hb dX1_lastNumber_9 (by decide) ?_
  refine xr_subm hx hb dX1_lastNumber_10 ?_
  exact xe_i hx hb hr hlocks (rfl) rfl rfl dX1_lastNumber_11

set_option maxHeartbeats 4000000 in
set_option maxRecDepth 100000 in
theorem c_X1_holds (l : Launch) (D : va_G) {cI cB : ClassId} (q0 q1 : Nat) (O : Nat → Nat) (hO0 : O 0 < 65536) (hO1 : O 1 < 256) (hO2 : O 2 < 256) (k : Nat) (hk : k < 65536) : Met l yX1_holds wsX1_holds ({ frames := 2, cells := 0, slots := 0, locals := 40 }) (va_Pc [.ref (q0), .int (nI (k))] (x_R D (tyP cI cB) (eW cI (q0) (q1) O))) (vp_Si (fun r => bo r (O 0 ≠ 0 ∧ (256 * O 1 + O 2) ≤ k ∧ k < (256 * O 1 + O 2) + O 0))) 0 0 (fun _ => False) := by
  refine Met.ofW (cc := cX1_holds) (maxL := 2) (ret := (some .boolean)) (by decide) rfl ?_
  intro p e s m args below meth c s₁ B hml hv
  obtain ⟨rfl, hN, hP, hK⟩ := hv
  have hx := B.exec
  have hb := B.bytes
  have hr := B.returns
  have hts := atoms_spec (ws := wsX1_holds) B.pre
  have hown : s.vm.findClass RX1 = some m.cls := findClass_of_methodNamed B.named
  have hlocks := B.notSynchronized
  have hl := lv_entry ([.ref (q0), .int (nI (k))]) (n := 2) (Nat.le_of_ble_eq_true rfl)
  rw [lg_entry_eq]
  generalize (lg_sl ([.ref (q0), .int (nI (k))]) ++ List.replicate (2 - (lg_sl ([.ref (q0), .int (nI (k))])).length) Slot.unset).toArray = ls at hl ⊢
  have hl : lv_has ls 2 [(0, .ref (q0)), (1, .int (nI (k)))] := hl
  refine lv_aload_n hx hb dX1_holds_0 rfl (lv_at hl 0 rfl) ?_
  refine xc_Vi (ci := 1) (rest := []) (As := []) ⟨hx, hb, hml, hown, hts⟩ (c_X1_isEmpty l D q0 q1 O hO0) (cwV 0 hts gX1_holds_X1_isEmpty rfl rfl rfl (by decide +kernel) ⟨Nat.le_of_ble_eq_true rfl, Nat.le_of_ble_eq_true rfl⟩) hN hK (hP) rfl 0 rfl rfl hl.1 rfl (Nat.le_of_ble_eq_true rfl) dX1_holds_1 ⟨Nat.le_of_ble_eq_true rfl, Nat.le_of_ble_eq_true rfl⟩ (fun r_1 hw_1 => ?_)
  refine xz_ne (tgt := 27) hx hb dX1_holds_4 (by decide) rfl (fun c_4 => ?_) (fun c_4 => ?_)
  · have h_4 := bo.t hw_1 c_4
    refine lv_iconst (v := nI 0) hx hb dX1_holds_27 (by decide) ?_
    exact xe_z hx hb hr hlocks rfl (bo.zero (by omega)) rfl rfl dX1_holds_28
  · have h_4 := bo.f hw_1 c_4
    refine lv_iload_n hx hb dX1_holds_7 rfl (lv_at hl 1 rfl) ?_
    refine lv_aload_n hx hb dX1_holds_8 rfl (lv_at hl 0 rfl) ?_
    refine xc_Vi (ci := 1) (rest := [.int (nI (k))]) (As := []) ⟨hx, hb, hml, hown, hts⟩ (c_X1_firstNumber l D q0 q1 O hO0 hO1 hO2) (cwV 0 hts gX1_holds_X1_firstNumber rfl rfl rfl (by decide +kernel) ⟨Nat.le_of_ble_eq_true rfl, Nat.le_of_ble_eq_true rfl⟩) hN hK (hP) rfl 0 rfl rfl hl.1 rfl (Nat.le_of_ble_eq_true rfl) dX1_holds_9 ⟨Nat.le_of_ble_eq_true rfl, Nat.le_of_ble_eq_true rfl⟩ (fun r_9 hw_9 => ?_)
    subst hw_9
    refine xi_lt (tgt := 27) hx hb dX1_holds_12 (by decide) (nI_toInt (by omega)) (nI_toInt (by omega)) (fun c_12 => ?_) (fun c_12 => ?_)
    · refine lv_iconst (v := nI 0) hx hb dX1_holds_27 (by decide) ?_
      exact xe_z hx hb hr hlocks rfl (bo.zero (by omega)) rfl rfl dX1_holds_28
    · refine lv_iload_n hx hb dX1_holds_15 rfl (lv_at hl 1 rfl) ?_
      refine lv_aload_n hx hb dX1_holds_16 rfl (lv_at hl 0 rfl) ?_
      refine xc_Vi (ci := 1) (rest := [.int (nI (k))]) (As := []) ⟨hx, hb, hml, hown, hts⟩ (c_X1_lastNumber l D q0 q1 O hO0 hO1 hO2) (cwV 0 hts gX1_holds_X1_lastNumber rfl rfl rfl (by decide +kernel) ⟨Nat.le_of_ble_eq_true rfl, Nat.le_of_ble_eq_true rfl⟩) hN hK (hP) rfl 0 rfl rfl hl.1 rfl (Nat.le_of_ble_eq_true rfl) dX1_holds_17 ⟨Nat.le_of_ble_eq_true rfl, Nat.le_of_ble_eq_true rfl⟩ (fun r_17 hw_17 => ?_)
      subst hw_17
      refine xi_gt (tgt := 27) hx hb dX1_holds_20 (by decide) (nI_toInt (by omega)) (mI_toInt (by omega)) (fun c_20 => ?_) (fun c_20 => ?_)
      · refine lv_iconst (v := nI 0) hx hb dX1_holds_27 (by decide) ?_
        exact xe_z hx hb hr hlocks rfl (bo.zero (by omega)) rfl rfl dX1_holds_28
      · refine lv_iconst (v := nI 1) hx hb dX1_holds_23 (by decide) ?_
        refine lv_goto (tgt := 28) hx hb dX1_holds_24 (by decide) ?_
        exact xe_z hx hb hr hlocks rfl (bo.one (by omega)) rfl rfl dX1_holds_28

set_option maxHeartbeats 4000000 in
set_option maxRecDepth 100000 in
theorem c_X1_placeOfRow (l : Launch) (D : va_G) {cI cB : ClassId} (q0 q1 : Nat) (O : Nat → Nat) (hO0 : O 0 < 65536) (hw : wf O) (i : Nat) (hi : i ≤ O 0) : Met l yX1_placeOfRow wsX1_placeOfRow ({ frames := 0, cells := 0, slots := 0, locals := 0 }) (va_Pc [.ref (q0), .int (nI (i))] (x_R D (tyP cI cB) (eW cI (q0) (q1) O))) (vp_Si (fun r => r = nI (pl O i))) 0 0 (fun _ => False) := by
  refine Met.ofW (cc := cX1_placeOfRow) (maxL := 4) (ret := (some .int)) (by decide) rfl ?_
  intro p e s m args below meth c s₁ B hml hv
  obtain ⟨rfl, hN, hP, hK⟩ := hv
  have hx := B.exec
  have hb := B.bytes
  have hr := B.returns
  have hts := atoms_spec (ws := wsX1_placeOfRow) B.pre
  have hown : s.vm.findClass RX1 = some m.cls := findClass_of_methodNamed B.named
  have hlocks := B.notSynchronized
  have hiX1 : ∀ w ∈ u_ws RX1 TX1 1, w ∈ wsX1_placeOfRow := by decide +kernel
  have hl := lv_entry ([.ref (q0), .int (nI (i))]) (n := 4) (Nat.le_of_ble_eq_true rfl)
  rw [lg_entry_eq]
  generalize (lg_sl ([.ref (q0), .int (nI (i))]) ++ List.replicate (4 - (lg_sl ([.ref (q0), .int (nI (i))])).length) Slot.unset).toArray = ls at hl ⊢
  have hl : lv_has ls 4 [(0, .ref (q0)), (1, .int (nI (i)))] := hl
  have hO9 := hw.1
  refine lv_iconst (v := nI 3) hx hb dX1_placeOfRow_0 (by decide) ?_
  refine lv_istore_n (lv' := [(2, .int (nI (3))), (0, .ref (q0)), (1, .int (nI (i)))]) hx hb dX1_placeOfRow_1 rfl hl (by decide) rfl (fun ls hl => ?_)
  refine lv_iconst (v := nI 0) hx hb dX1_placeOfRow_2 (by decide) ?_
  refine lv_istore_n (lv' := [(3, .int (nI (0))), (2, .int (nI (3))), (0, .ref (q0)), (1, .int (nI (i)))]) hx hb dX1_placeOfRow_3 rfl hl (by decide) rfl (fun ls hl => ?_)
  refine lpR (α := Nat) (fun k => k ≤ i) (fun k => [(0, .ref (q0)), (1, .int (nI (i))), (2, .int (nI (pl O k))), (3, .int (nI (k)))]) 4 (fun k => i - k) 0 (by omega) (lv_sub hl [2, 3, 1, 0] rfl) (fun s9 ls hI9 hl9 ih_4 => ?_)
  obtain ⟨k, rfl⟩ : ∃ z, z = s9 := ⟨_, rfl⟩
  have hl : lv_has ls 4 [(0, .ref (q0)), (1, .int (nI (i))), (2, .int (nI (pl O k))), (3, .int (nI (k)))] := hl9
  obtain hk : k ≤ i := hI9
  refine lv_iload_n hx hb dX1_placeOfRow_4 rfl (lv_at hl 3 rfl) ?_
  refine lv_iload_n hx hb dX1_placeOfRow_5 rfl (lv_at hl 1 rfl) ?_
  refine xi_ge (tgt := 26) hx hb dX1_placeOfRow_6 (by decide) (nI_toInt (by omega)) (nI_toInt (by omega)) (fun c_6 => ?_) (fun c_6 => ?_)
  · refine lv_iload_n hx hb dX1_placeOfRow_26 rfl (lv_at hl 2 rfl) ?_
    exact xe_i hx hb hr hlocks (by rw [show k = i by omega]) rfl rfl dX1_placeOfRow_27
  · have hp9 := pl_lt hw (show k < O 0 by omega)
    refine lv_iload_n hx hb dX1_placeOfRow_9 rfl (lv_at hl 2 rfl) ?_
    refine lv_iconst (v := nI 1) hx hb dX1_placeOfRow_10 (by decide) ?_
    refine lv_aload_n hx hb dX1_placeOfRow_11 rfl (lv_at hl 0 rfl) ?_
    refine va_get (D := D) (ci := 1) (v := .ref (q1)) (C := RX1) (T := TX1) (N := 1) hx hb hts hiX1 hown hK hP 0 rfl rfl 0 (by decide) (hts (.fieldLink RX1 9 "PairedCells$EventPage" "bytes" "[I") (by decide +kernel)) (fun _ h9 => h9) rfl dX1_placeOfRow_12 ?_
    refine lv_iload_n hx hb dX1_placeOfRow_15 rfl (lv_at hl 2 rfl) ?_
    refine xr_iald hx hb hK hP 1 0 rfl rfl (by omega) (by decide) dX1_placeOfRow_16 ?_
    refine xr_add hx hb dX1_placeOfRow_17 ?_
    refine xr_add hx hb dX1_placeOfRow_18 ?_
    refine xr_nat (x' := pl O (k + 1)) (by show _ = pl O k + 1 + O (pl O k); omega) ?_
    refine lv_istore_n (lv' := [(2, .int (nI (pl O (k + 1)))), (0, .ref (q0)), (1, .int (nI (i))), (3, .int (nI (k)))]) hx hb dX1_placeOfRow_19 rfl hl (by decide) rfl (fun ls hl => ?_)
    refine lv_iinc (v := nI (k + 1)) (lv' := [(3, .int (nI (k + 1))), (2, .int (nI (pl O (k + 1)))), (0, .ref (q0)), (1, .int (nI (i)))]) hx hb dX1_placeOfRow_20 hl (k := 3) rfl (nI_add _ _) (by decide) rfl (fun ls hl => ?_)
    refine lv_goto (tgt := 4) hx hb dX1_placeOfRow_23 (by decide) ?_
    exact ih_4 (k + 1) _ (by omega) (by first | omega | (dsimp only; omega)) (lv_sub hl [2, 3, 1, 0] rfl)

set_option maxHeartbeats 4000000 in
set_option maxRecDepth 100000 in
theorem c_X1_fits (l : Launch) (D : va_G) {cI cB : ClassId} (q0 q1 : Nat) (O : Nat → Nat) (hO0 : O 0 < 65536) (hw : wf O) (k : Nat) (hk : k < 65536) : Met l yX1_fits wsX1_fits ({ frames := 1, cells := 0, slots := 0, locals := 23 }) (va_Pc [.ref (q0), .int (nI (k))] (x_R D (tyP cI cB) (eW cI (q0) (q1) O))) (vp_Si (fun r => bo r (pl O (O 0) + 1 + k ≤ 16))) 0 0 (fun _ => False) := by
  refine Met.ofW (cc := cX1_fits) (maxL := 2) (ret := (some .boolean)) (by decide) rfl ?_
  intro p e s m args below meth c s₁ B hml hv
  obtain ⟨rfl, hN, hP, hK⟩ := hv
  have hx := B.exec
  have hb := B.bytes
  have hr := B.returns
  have hts := atoms_spec (ws := wsX1_fits) B.pre
  have hown : s.vm.findClass RX1 = some m.cls := findClass_of_methodNamed B.named
  have hlocks := B.notSynchronized
  have hl := lv_entry ([.ref (q0), .int (nI (k))]) (n := 2) (Nat.le_of_ble_eq_true rfl)
  rw [lg_entry_eq]
  generalize (lg_sl ([.ref (q0), .int (nI (k))]) ++ List.replicate (2 - (lg_sl ([.ref (q0), .int (nI (k))])).length) Slot.unset).toArray = ls at hl ⊢
  have hl : lv_has ls 2 [(0, .ref (q0)), (1, .int (nI (k)))] := hl
  have hp9 := pl_le hw (O 0) (Nat.le_refl _)
  refine lv_aload_n hx hb dX1_fits_0 rfl (lv_at hl 0 rfl) ?_
  refine lv_aload_n hx hb dX1_fits_1 rfl (lv_at hl 0 rfl) ?_
  refine xc_Vi (ci := 1) (rest := [.ref (q0)]) (As := []) ⟨hx, hb, hml, hown, hts⟩ (c_X1_events l D q0 q1 O hO0) (cwV 0 hts gX1_fits_X1_events rfl rfl rfl (by decide +kernel) ⟨Nat.le_of_ble_eq_true rfl, Nat.le_of_ble_eq_true rfl⟩) hN hK (hP) rfl 0 rfl rfl hl.1 rfl (Nat.le_of_ble_eq_true rfl) dX1_fits_2 ⟨Nat.le_of_ble_eq_true rfl, Nat.le_of_ble_eq_true rfl⟩ (fun r_2 hw_2 => ?_)
  subst hw_2
  refine xc_Vi (ci := 1) (rest := []) (As := [.int (nI (O 0))]) ⟨hx, hb, hml, hown, hts⟩ (c_X1_placeOfRow l D q0 q1 O hO0 hw (O 0) (Nat.le_refl _)) (cwV 1 hts gX1_fits_X1_placeOfRow rfl rfl rfl (by decide +kernel) ⟨Nat.le_of_ble_eq_true rfl, Nat.le_of_ble_eq_true rfl⟩) hN hK (hP) rfl 0 rfl rfl hl.1 rfl (Nat.le_of_ble_eq_true rfl) dX1_fits_5 ⟨Nat.le_of_ble_eq_true rfl, Nat.le_of_ble_eq_true rfl⟩ (fun r_5 hw_5 => ?_)
  subst hw_5
  refine lv_iconst (v := nI 1) hx hb dX1_fits_8 (by decide) ?_
  refine xr_add hx hb dX1_fits_9 ?_
  refine lv_iload_n hx hb dX1_fits_10 rfl (lv_at hl 1 rfl) ?_
  refine xr_add hx hb dX1_fits_11 ?_
  refine lv_bipush (v := nI 16) hx hb dX1_fits_12 (by decide) ?_
  refine xi_gt (tgt := 21) hx hb dX1_fits_14 (by decide) (nI_toInt (by omega)) (nI_toInt (by omega)) (fun c_14 => ?_) (fun c_14 => ?_)
  · refine lv_iconst (v := nI 0) hx hb dX1_fits_21 (by decide) ?_
    exact xe_z hx hb hr hlocks rfl (bo.zero (by omega)) rfl rfl dX1_fits_22
  · refine lv_iconst (v := nI 1) hx hb dX1_fits_17 (by decide) ?_
    refine lv_goto (tgt := 22) hx hb dX1_fits_18 (by decide) ?_
    exact xe_z hx hb hr hlocks rfl (bo.one (by omega)) rfl rfl dX1_fits_22

set_option maxHeartbeats 4000000 in
set_option maxRecDepth 100000 in
theorem c_X1_lengthOf (l : Launch) (D : va_G) {cI cB : ClassId} (q0 q1 : Nat) (O : Nat → Nat) (hO0 : O 0 < 65536) (hw : wf O) (hO1 : O 1 < 256) (hO2 : O 2 < 256) (k : Nat) (hk1 : (256 * O 1 + O 2) ≤ k) (hk2 : k < (256 * O 1 + O 2) + O 0) : Met l yX1_lengthOf wsX1_lengthOf ({ frames := 1, cells := 0, slots := 0, locals := 23 }) (va_Pc [.ref (q0), .int (nI (k))] (x_R D (tyP cI cB) (eW cI (q0) (q1) O))) (vp_Si (fun r => r = nI (O (pl O (k - (256 * O 1 + O 2)))))) 0 0 (fun _ => False) := by
  refine Met.ofW (cc := cX1_lengthOf) (maxL := 2) (ret := (some .int)) (by decide) rfl ?_
  intro p e s m args below meth c s₁ B hml hv
  obtain ⟨rfl, hN, hP, hK⟩ := hv
  have hx := B.exec
  have hb := B.bytes
  have hr := B.returns
  have hts := atoms_spec (ws := wsX1_lengthOf) B.pre
  have hown : s.vm.findClass RX1 = some m.cls := findClass_of_methodNamed B.named
  have hlocks := B.notSynchronized
  have hiX1 : ∀ w ∈ u_ws RX1 TX1 1, w ∈ wsX1_lengthOf := by decide +kernel
  have hl := lv_entry ([.ref (q0), .int (nI (k))]) (n := 2) (Nat.le_of_ble_eq_true rfl)
  rw [lg_entry_eq]
  generalize (lg_sl ([.ref (q0), .int (nI (k))]) ++ List.replicate (2 - (lg_sl ([.ref (q0), .int (nI (k))])).length) Slot.unset).toArray = ls at hl ⊢
  have hl : lv_has ls 2 [(0, .ref (q0)), (1, .int (nI (k)))] := hl
  have hO9 := hw.1
  have hk3 : 256 * O 1 + O 2 ≤ k := hk1
  have hk4 : k < 256 * O 1 + O 2 + O 0 := hk2
  have hp9 := pl_lt hw (show k - (256 * O 1 + O 2) < O 0 by omega)
  refine lv_aload_n hx hb dX1_lengthOf_0 rfl (lv_at hl 0 rfl) ?_
  refine va_get (D := D) (ci := 1) (v := .ref (q1)) (C := RX1) (T := TX1) (N := 1) hx hb hts hiX1 hown hK hP 0 rfl rfl 0 (by decide) (hts (.fieldLink RX1 9 "PairedCells$EventPage" "bytes" "[I") (by decide +kernel)) (fun _ h9 => h9) rfl dX1_lengthOf_1 ?_
  refine lv_aload_n hx hb dX1_lengthOf_4 rfl (lv_at hl 0 rfl) ?_
  refine lv_iload_n hx hb dX1_lengthOf_5 rfl (lv_at hl 1 rfl) ?_
  refine lv_aload_n hx hb dX1_lengthOf_6 rfl (lv_at hl 0 rfl) ?_
  refine xc_Vi (ci := 1) (rest := [.int (nI (k)), .ref (q0), .ref (q1)]) (As := []) ⟨hx, hb, hml, hown, hts⟩ (c_X1_firstNumber l D q0 q1 O hO0 hO1 hO2) (cwV 0 hts gX1_lengthOf_X1_firstNumber rfl rfl rfl (by decide +kernel) ⟨Nat.le_of_ble_eq_true rfl, Nat.le_of_ble_eq_true rfl⟩) hN hK (hP) rfl 0 rfl rfl hl.1 rfl (Nat.le_of_ble_eq_true rfl) dX1_lengthOf_7 ⟨Nat.le_of_ble_eq_true rfl, Nat.le_of_ble_eq_true rfl⟩ (fun r_7 hw_7 => ?_)
  subst hw_7
  refine xr_sub hx hb (by omega) dX1_lengthOf_10 ?_
  refine xc_Vi (ci := 1) (rest := [.ref (q1)]) (As := [.int (nI (k - (256 * O 1 + O 2)))]) ⟨hx, hb, hml, hown, hts⟩ (c_X1_placeOfRow l D q0 q1 O hO0 hw (k - (256 * O 1 + O 2)) (by omega)) (cwV 1 hts gX1_lengthOf_X1_placeOfRow rfl rfl rfl (by decide +kernel) ⟨Nat.le_of_ble_eq_true rfl, Nat.le_of_ble_eq_true rfl⟩) hN hK (hP) rfl 0 rfl rfl hl.1 rfl (Nat.le_of_ble_eq_true rfl) dX1_lengthOf_11 ⟨Nat.le_of_ble_eq_true rfl, Nat.le_of_ble_eq_true rfl⟩ (fun r_11 hw_11 => ?_)
  subst hw_11
  refine xr_iald hx hb hK hP 1 0 rfl rfl (by omega) (by decide) dX1_lengthOf_14 ?_
  exact xe_i hx hb hr hlocks (rfl) rfl rfl dX1_lengthOf_15

set_option maxHeartbeats 4000000 in
set_option maxRecDepth 100000 in
theorem c_X1_bytesOf (l : Launch) (D : va_G) {cI cB : ClassId} (q0 q1 : Nat) (O : Nat → Nat) (hO0 : O 0 < 65536) (hw : wf O) (hO1 : O 1 < 256) (hO2 : O 2 < 256) (k : Nat) (hk1 : (256 * O 1 + O 2) ≤ k) (hk2 : k < (256 * O 1 + O 2) + O 0) : Met l yX1_bytesOf wsX1_bytesOf ({ frames := 1, cells := 0, slots := 0, locals := 23 }) (va_Pc [.ref (q0), .int (nI (k))] (x_R D (tyP cI cB) (eW cI (q0) (q1) O))) (vp_Sl (fun r => r = evF (fun i => O (pl O (k - (256 * O 1 + O 2)) + i)) (O (pl O (k - (256 * O 1 + O 2)))) 0)) 0 0 (fun _ => False) := by
  refine Met.ofW (cc := cX1_bytesOf) (maxL := 6) (ret := (some .long)) (by decide) rfl ?_
  intro p e s m args below meth c s₁ B hml hv
  obtain ⟨rfl, hN, hP, hK⟩ := hv
  have hx := B.exec
  have hb := B.bytes
  have hr := B.returns
  have hts := atoms_spec (ws := wsX1_bytesOf) B.pre
  have hown : s.vm.findClass RX1 = some m.cls := findClass_of_methodNamed B.named
  have hlocks := B.notSynchronized
  have hiX1 : ∀ w ∈ u_ws RX1 TX1 1, w ∈ wsX1_bytesOf := by decide +kernel
  have hl := lv_entry ([.ref (q0), .int (nI (k))]) (n := 6) (Nat.le_of_ble_eq_true rfl)
  rw [lg_entry_eq]
  generalize (lg_sl ([.ref (q0), .int (nI (k))]) ++ List.replicate (6 - (lg_sl ([.ref (q0), .int (nI (k))])).length) Slot.unset).toArray = ls at hl ⊢
  have hl : lv_has ls 6 [(0, .ref (q0)), (1, .int (nI (k)))] := hl
  have hO9 := hw.1
  have hk3 : 256 * O 1 + O 2 ≤ k := hk1
  have hk4 : k < 256 * O 1 + O 2 + O 0 := hk2
  have hp9 := pl_lt hw (show k - (256 * O 1 + O 2) < O 0 by omega)
  have hp8 := hw.2.2.2 (k - (256 * O 1 + O 2)) (by omega)
  obtain ⟨t, ht⟩ : ∃ t, pl O (k - (256 * O 1 + O 2)) = t := ⟨_, rfl⟩
  rw [ht] at hp9 hp8
  refine lv_aload_n hx hb dX1_bytesOf_0 rfl (lv_at hl 0 rfl) ?_
  refine lv_iload_n hx hb dX1_bytesOf_1 rfl (lv_at hl 1 rfl) ?_
  refine lv_aload_n hx hb dX1_bytesOf_2 rfl (lv_at hl 0 rfl) ?_
  refine xc_Vi (ci := 1) (rest := [.int (nI (k)), .ref (q0)]) (As := []) ⟨hx, hb, hml, hown, hts⟩ (c_X1_firstNumber l D q0 q1 O hO0 hO1 hO2) (cwV 0 hts gX1_bytesOf_X1_firstNumber rfl rfl rfl (by decide +kernel) ⟨Nat.le_of_ble_eq_true rfl, Nat.le_of_ble_eq_true rfl⟩) hN hK (hP) rfl 0 rfl rfl hl.1 rfl (Nat.le_of_ble_eq_true rfl) dX1_bytesOf_3 ⟨Nat.le_of_ble_eq_true rfl, Nat.le_of_ble_eq_true rfl⟩ (fun r_3 hw_3 => ?_)
  subst hw_3
  refine xr_sub hx hb (by omega) dX1_bytesOf_6 ?_
  refine xc_Vi (ci := 1) (rest := []) (As := [.int (nI (k - (256 * O 1 + O 2)))]) ⟨hx, hb, hml, hown, hts⟩ (c_X1_placeOfRow l D q0 q1 O hO0 hw (k - (256 * O 1 + O 2)) (by omega)) (cwV 1 hts gX1_bytesOf_X1_placeOfRow rfl rfl rfl (by decide +kernel) ⟨Nat.le_of_ble_eq_true rfl, Nat.le_of_ble_eq_true rfl⟩) hN hK (hP) rfl 0 rfl rfl hl.1 rfl (Nat.le_of_ble_eq_true rfl) dX1_bytesOf_7 ⟨Nat.le_of_ble_eq_true rfl, Nat.le_of_ble_eq_true rfl⟩ (fun r_7 hw_7 => ?_)
  rw [ht] at hw_7
  subst hw_7
  refine lv_istore_n (lv' := [(2, .int (nI (t))), (0, .ref (q0)), (1, .int (nI (k)))]) hx hb dX1_bytesOf_10 rfl hl (by decide) rfl (fun ls hl => ?_)
  refine lv_lconst (v := 0) hx hb dX1_bytesOf_11 (by decide) ?_
  refine lv_lstore_n (lv' := [(3, .long (0)), (2, .int (nI (t))), (0, .ref (q0)), (1, .int (nI (k)))]) hx hb dX1_bytesOf_12 rfl hl (by decide) rfl (fun ls hl => ?_)
  refine lv_aload_n hx hb dX1_bytesOf_13 rfl (lv_at hl 2 rfl) ?_
  refine va_get (D := D) (ci := 1) (v := .ref (q1)) (C := RX1) (T := TX1) (N := 1) hx hb hts hiX1 hown hK hP 0 rfl rfl 0 (by decide) (hts (.fieldLink RX1 9 "PairedCells$EventPage" "bytes" "[I") (by decide +kernel)) (fun _ h9 => h9) rfl dX1_bytesOf_14 ?_
  refine lv_iload_n hx hb dX1_bytesOf_17 rfl (lv_at hl 1 rfl) ?_
  refine xr_iald hx hb hK hP 1 0 rfl rfl (by omega) (by decide) dX1_bytesOf_18 ?_
  refine lv_istore (lv' := [(5, .int (nI (O (t)))), (3, .long (0)), (2, .int (nI (t))), (0, .ref (q0)), (1, .int (nI (k)))]) hx hb dX1_bytesOf_19 hl (by decide) rfl (fun ls hl => ?_)
  refine lpR (α := Nat × Int64) (fun (j, v) => j ≤ O t ∧ evF (fun i => O (t + i)) j v = evF (fun i => O (t + i)) (O t) 0) (fun (j, v) => [(0, .ref (q0)), (1, .int (nI (k))), (2, .int (nI (t))), (3, .long (v)), (5, .int (nI (j)))]) 6 (fun (j, v) => j) (O t, 0) (⟨Nat.le_refl _, rfl⟩) (lv_sub hl [3, 4, 2, 1, 0] rfl) (fun s9 ls hI9 hl9 ih_21 => ?_)
  obtain ⟨j, v⟩ := s9
  have hl : lv_has ls 6 [(0, .ref (q0)), (1, .int (nI (k))), (2, .int (nI (t))), (3, .long (v)), (5, .int (nI (j)))] := hl9
  obtain ⟨hj, hv⟩ : j ≤ O t ∧ evF (fun i => O (t + i)) j v = evF (fun i => O (t + i)) (O t) 0 := hI9
  refine lv_iload hx hb dX1_bytesOf_21 (lv_at hl 4 rfl) ?_
  refine xz_le (tgt := 48) hx hb dX1_bytesOf_23 (by decide) (nI_toInt (by omega)) (fun c_23 => ?_) (fun c_23 => ?_)
  · refine lv_lload_n hx hb dX1_bytesOf_48 rfl (lv_at hl 3 rfl) ?_
    exact xe_l hx hb hr hlocks (by rw [ht, ← hv, show j = 0 by omega]; rfl) rfl rfl dX1_bytesOf_49
  · refine lv_lload_n hx hb dX1_bytesOf_26 rfl (lv_at hl 3 rfl) ?_
    refine lv_bipush (v := nI 8) hx hb dX1_bytesOf_27 (by decide) ?_
    refine lv_lshl hx hb dX1_bytesOf_29 rfl ?_
    refine lv_aload_n hx hb dX1_bytesOf_30 rfl (lv_at hl 0 rfl) ?_
    refine va_get (D := D) (ci := 1) (v := .ref (q1)) (C := RX1) (T := TX1) (N := 1) hx hb hts hiX1 hown hK hP 0 rfl rfl 0 (by decide) (hts (.fieldLink RX1 9 "PairedCells$EventPage" "bytes" "[I") (by decide +kernel)) (fun _ h9 => h9) rfl dX1_bytesOf_31 ?_
    refine lv_iload_n hx hb dX1_bytesOf_34 rfl (lv_at hl 2 rfl) ?_
    refine lv_iload hx hb dX1_bytesOf_35 (lv_at hl 4 rfl) ?_
    refine xr_add hx hb dX1_bytesOf_37 ?_
    refine xr_iald hx hb hK hP 1 0 rfl rfl (by omega) (by decide) dX1_bytesOf_38 ?_
    refine lv_i2l hx hb dX1_bytesOf_39 rfl ?_
    refine lv_lor hx hb dX1_bytesOf_40 ?_
    refine lv_lstore_n (lv' := [(3, .long ((v <<< ((nI 8).toInt64 &&& 63)) ||| (nI (O (t + j))).toInt64)), (0, .ref (q0)), (1, .int (nI (k))), (2, .int (nI (t))), (5, .int (nI (j)))]) hx hb dX1_bytesOf_41 rfl hl (by decide) rfl (fun ls hl => ?_)
    refine lv_iinc (v := nI (j - 1)) (lv' := [(5, .int (nI (j - 1))), (3, .long ((v <<< ((nI 8).toInt64 &&& 63)) ||| (nI (O (t + j))).toInt64)), (0, .ref (q0)), (1, .int (nI (k))), (2, .int (nI (t)))]) hx hb dX1_bytesOf_42 hl (k := 4) rfl (xl_dec (by omega)) (by decide) rfl (fun ls hl => ?_)
    refine lv_goto (tgt := 21) hx hb dX1_bytesOf_45 (by decide) ?_
    exact ih_21 (j - 1, (v <<< ((nI 8).toInt64 &&& 63)) ||| (nI (O (t + j))).toInt64) _ (⟨by omega, by rw [← hv, show j = (j - 1) + 1 by omega]; rfl⟩) (by first | omega | (dsimp only; omega)) (lv_sub hl [2, 3, 4, 1, 0] rfl)

set_option maxHeartbeats 4000000 in
set_option maxRecDepth 100000 in
theorem c_X1_add (l : Launch) (D : va_G) {cI cB : ClassId} (q0 q1 : Nat) (O : Nat → Nat) (hO0 : O 0 < 65536) (hw : wf O) (num k : Nat) (w : Int64) (hnum : num < 65536) (hk : k < 65536) (hf : pl O (O 0) + 1 + k ≤ 16) (sz : Nat) : Met l yX1_add wsX1_add ({ frames := 2, cells := 0, slots := 0, locals := 40 }) (va_Pc [.ref (q0), .int (nI (num)), .int (nI (k)), .long (w)] (x_U D (tyP cI cB) (eW cI (q0) (q1) O) sz)) (va_Qv (fun (_ : Unit) => True) (fun u t => x_E D (tyP cI cB) (va_A (eW cI (q0) (q1) O) sz) (eW cI q0 q1 (adO O num k w)) t) (va_A (eW cI (q0) (q1) O) sz)) 0 0 (va_A (eW cI (q0) (q1) O) sz) := by
  refine Met.ofW (cc := cX1_add) (maxL := 7) (ret := none) (by decide) rfl ?_
  intro p e s m args below meth c s₁ B hml hv
  obtain ⟨rfl, hsz, hN, hP, hK, hD0⟩ := hv
  have hx := B.exec
  have hb := B.bytes
  have hr := B.returns
  have hts := atoms_spec (ws := wsX1_add) B.pre
  have hown : s.vm.findClass RX1 = some m.cls := findClass_of_methodNamed B.named
  have hlocks := B.notSynchronized
  subst hsz
  have hD := hD0.self (sz := s.heap.size)
  generalize hAe : va_A (eW cI (q0) (q1) O) s.heap.size = A at hD ⊢
  have hA : ∀ q : Nat, s.heap.size ≤ q → A q := fun q h => by rw [← hAe]; exact Or.inr h
  obtain ⟨H, hH⟩ : ∃ H : Heap, s.heap = H := ⟨_, rfl⟩
  obtain ⟨locs, hlo⟩ : ∃ L : List Loc, ([] : List Loc) = L := ⟨_, rfl⟩
  have hS : va_S A s.heap H locs := by rw [← hH, ← hlo]; exact va_S.rf
  have hP : va_P D vwCl (eW cI (q0) (q1) O) H := hH ▸ hP
  rw [hH, hlo]
  have hiX1 : ∀ w ∈ u_ws RX1 TX1 1, w ∈ wsX1_add := by decide +kernel
  have hl := lv_entry ([.ref (q0), .int (nI (num)), .int (nI (k)), .long (w)]) (n := 7) (Nat.le_of_ble_eq_true rfl)
  rw [lg_entry_eq]
  generalize (lg_sl ([.ref (q0), .int (nI (num)), .int (nI (k)), .long (w)]) ++ List.replicate (7 - (lg_sl ([.ref (q0), .int (nI (num)), .int (nI (k)), .long (w)])).length) Slot.unset).toArray = ls at hl ⊢
  have hl : lv_has ls 7 [(0, .ref (q0)), (1, .int (nI (num))), (2, .int (nI (k))), (3, .long (w))] := hl
  have hp9 := pl_le hw (O 0) (Nat.le_refl _)
  obtain ⟨t, ht⟩ : ∃ t, pl O (O 0) = t := ⟨_, rfl⟩
  rw [ht] at hp9 hf
  refine lv_aload_n hx hb dX1_add_0 rfl (lv_at hl 0 rfl) ?_
  refine lv_aload_n hx hb dX1_add_1 rfl (lv_at hl 0 rfl) ?_
  refine xc_Vi (ci := 1) (rest := [.ref (q0)]) (As := []) ⟨hx, hb, hml, hown, hts⟩ (c_X1_events l D q0 q1 O hO0) (cwV 0 hts gX1_add_X1_events rfl rfl rfl (by decide +kernel) ⟨Nat.le_of_ble_eq_true rfl, Nat.le_of_ble_eq_true rfl⟩) hN hK (hP) rfl 0 rfl rfl hl.1 rfl (Nat.le_of_ble_eq_true rfl) dX1_add_2 ⟨Nat.le_of_ble_eq_true rfl, Nat.le_of_ble_eq_true rfl⟩ (fun r_2 hw_2 => ?_)
  subst hw_2
  refine xc_Vi (ci := 1) (rest := []) (As := [.int (nI (O 0))]) ⟨hx, hb, hml, hown, hts⟩ (c_X1_placeOfRow l D q0 q1 O hO0 hw (O 0) (Nat.le_refl _)) (cwV 1 hts gX1_add_X1_placeOfRow rfl rfl rfl (by decide +kernel) ⟨Nat.le_of_ble_eq_true rfl, Nat.le_of_ble_eq_true rfl⟩) hN hK (hP) rfl 0 rfl rfl hl.1 rfl (Nat.le_of_ble_eq_true rfl) dX1_add_5 ⟨Nat.le_of_ble_eq_true rfl, Nat.le_of_ble_eq_true rfl⟩ (fun r_5 hw_5 => ?_)
  rw [ht] at hw_5
  subst hw_5
  refine lv_istore (lv' := [(5, .int (nI (t))), (0, .ref (q0)), (1, .int (nI (num))), (2, .int (nI (k))), (3, .long (w))]) hx hb dX1_add_8 hl (by decide) rfl (fun ls hl => ?_)
  refine lv_aload_n hx hb dX1_add_10 rfl (lv_at hl 1 rfl) ?_
  refine xc_Vi (ci := 1) (rest := []) (As := []) ⟨hx, hb, hml, hown, hts⟩ (c_X1_isEmpty l D q0 q1 O hO0) (cwV 0 hts gX1_add_X1_isEmpty rfl rfl rfl (by decide +kernel) ⟨Nat.le_of_ble_eq_true rfl, Nat.le_of_ble_eq_true rfl⟩) hN hK (hP) rfl 0 rfl rfl hl.1 rfl (Nat.le_of_ble_eq_true rfl) dX1_add_11 ⟨Nat.le_of_ble_eq_true rfl, Nat.le_of_ble_eq_true rfl⟩ (fun r_11 hw_11 => ?_)
  refine xz_eq (tgt := 42) hx hb dX1_add_14 (by decide) rfl (fun c_14 => ?_) (fun c_14 => ?_)
  · have h_14 := bo.f hw_11 c_14
    refine lv_aload_n hx hb dX1_add_42 rfl (lv_at hl 1 rfl) ?_
    refine va_get (D := D) (ci := 1) (v := .ref (q1)) (C := RX1) (T := TX1) (N := 1) hx hb hts hiX1 hown hK hP 0 rfl rfl 0 (by decide) (hts (.fieldLink RX1 9 "PairedCells$EventPage" "bytes" "[I") (by decide +kernel)) (fun _ h9 => h9) rfl dX1_add_43 ?_
    refine lv_iconst (v := nI 0) hx hb dX1_add_46 (by decide) ?_
    refine lv_dup2_11 hx hb dX1_add_47 rfl rfl ?_
    refine xr_iald hx hb hK hP 1 0 rfl rfl (by omega) (by decide) dX1_add_48 ?_
    refine xr_nat (x' := O 0) (rfl) ?_
    refine lv_iconst (v := nI 1) hx hb dX1_add_49 (by decide) ?_
    refine xr_add hx hb dX1_add_50 ?_
    refine xr_iast hx hb hK hP hD hS 1 0 rfl rfl (by omega) (by decide) dX1_add_51 (fun H locs hP hD hS => ?_)
    have hP : va_P D vwCl (eW cI (q0) (q1) (up O (0) (O 0 + 1))) H := hP
    have hD : va_D A (eW cI (q0) (q1) (up O (0) (O 0 + 1))) := hD
    refine lv_aload_n hx hb dX1_add_52 rfl (lv_at hl 1 rfl) ?_
    refine va_get (D := D) (ci := 1) (v := .ref (q1)) (C := RX1) (T := TX1) (N := 1) hx hb hts hiX1 hown hK hP 0 rfl rfl 0 (by decide) (hts (.fieldLink RX1 9 "PairedCells$EventPage" "bytes" "[I") (by decide +kernel)) (fun _ h9 => h9) rfl dX1_add_53 ?_
    refine lv_iload hx hb dX1_add_56 (lv_at hl 0 rfl) ?_
    refine lv_iload_n hx hb dX1_add_58 rfl (lv_at hl 3 rfl) ?_
    refine xr_iast hx hb hK hP hD hS 1 0 rfl rfl (by omega) (by decide) dX1_add_59 (fun H locs hP hD hS => ?_)
    have hP : va_P D vwCl (eW cI (q0) (q1) (up (up O (0) (O 0 + 1)) (t) (k))) H := hP
    have hD : va_D A (eW cI (q0) (q1) (up (up O (0) (O 0 + 1)) (t) (k))) := hD
    refine lv_iconst (v := nI 0) hx hb dX1_add_60 (by decide) ?_
    refine lv_istore (lv' := [(6, .int (nI (0))), (5, .int (nI (t))), (0, .ref (q0)), (1, .int (nI (num))), (2, .int (nI (k))), (3, .long (w))]) hx hb dX1_add_61 hl (by decide) rfl (fun ls hl => ?_)
    have hq9 : (eW cI (q0) (q1) (up (up O (0) (O 0 + 1)) (t) (k)) : va_W) = eW cI (q0) (q1) (adJ O num k w 0) := (eW_eq (fun i hi => by simp only [adJ, up, ht]; (repeat' split) <;> first | rfl | omega | (exfalso; omega)))
    refine lpW (α := Nat) (fun j H locs => (j ≤ k) ∧ va_P D vwCl (eW cI (q0) (q1) (adJ O num k w j)) H ∧ va_D A (eW cI (q0) (q1) (adJ O num k w j)) ∧ va_S A s.heap H locs) (fun j => [(0, .ref (q0)), (1, .int (nI (num))), (2, .int (nI (k))), (3, .long (w)), (5, .int (nI (t))), (6, .int (nI (j)))]) 7 (fun j => k - j) 0 (⟨Nat.zero_le _, va_P.eqw hq9 hP, va_D.eqw hq9 hD, hS⟩) (lv_sub hl [2, 3, 4, 5, 1, 0] rfl) (fun s9 H locs ls hI9 hl9 ih_63 => ?_)
    obtain ⟨j, rfl⟩ : ∃ z, z = s9 := ⟨_, rfl⟩
    have hl : lv_has ls 7 [(0, .ref (q0)), (1, .int (nI (num))), (2, .int (nI (k))), (3, .long (w)), (5, .int (nI (t))), (6, .int (nI (j)))] := hl9
    obtain ⟨hj, hP, hD, hS⟩ : (j ≤ k) ∧ va_P D vwCl (eW cI (q0) (q1) (adJ O num k w j)) H ∧ va_D A (eW cI (q0) (q1) (adJ O num k w j)) ∧ va_S A s.heap H locs := hI9
    refine lv_iload hx hb dX1_add_63 (lv_at hl 5 rfl) ?_
    refine lv_iload_n hx hb dX1_add_65 rfl (lv_at hl 2 rfl) ?_
    refine xi_ge (tgt := 99) hx hb dX1_add_66 (by decide) (nI_toInt (by omega)) (nI_toInt (by omega)) (fun c_66 => ?_) (fun c_66 => ?_)
    · have hq9 : (eW cI (q0) (q1) (adJ O num k w j) : va_W) = eW cI q0 q1 (adO O num k w) := (by rw [show j = k by omega])
      exact xf_v (post := fun (_ : Unit) => True) (w1 := fun (_ : Unit) => eW cI q0 q1 (adO O num k w)) () hx hb hr hlocks (trivial) (va_P.eqw hq9 hP) hK (va_D.eqw hq9 hD) hS dX1_add_99
    · refine lv_aload_n hx hb dX1_add_69 rfl (lv_at hl 0 rfl) ?_
      refine va_get (D := D) (ci := 1) (v := .ref (q1)) (C := RX1) (T := TX1) (N := 1) hx hb hts hiX1 hown hK hP 0 rfl rfl 0 (by decide) (hts (.fieldLink RX1 9 "PairedCells$EventPage" "bytes" "[I") (by decide +kernel)) (fun _ h9 => h9) rfl dX1_add_70 ?_
      refine lv_iload hx hb dX1_add_73 (lv_at hl 4 rfl) ?_
      refine lv_iconst (v := nI 1) hx hb dX1_add_75 (by decide) ?_
      refine xr_add hx hb dX1_add_76 ?_
      refine lv_iload hx hb dX1_add_77 (lv_at hl 5 rfl) ?_
      refine xr_add hx hb dX1_add_79 ?_
      refine lv_lload_n hx hb dX1_add_80 rfl (lv_at hl 3 rfl) ?_
      refine lv_bipush (v := nI 8) hx hb dX1_add_81 (by decide) ?_
      refine lv_iload hx hb dX1_add_83 (lv_at hl 5 rfl) ?_
      refine xr_mul hx hb dX1_add_85 ?_
      refine lv_lshr hx hb dX1_add_86 rfl ?_
      refine lv_ldc2 (v := 255) hx hb hown (hts (.constantLong RX1 39 255) (by decide +kernel)) dX1_add_87 ?_
      refine lv_land hx hb dX1_add_90 ?_
      refine lv_l2i hx hb dX1_add_91 (v := nI (wb w j)) (wb_eq w j) ?_
      refine xr_iast hx hb hK hP hD hS 1 0 rfl rfl (by omega) (by decide) dX1_add_92 (fun H locs hP hD hS => ?_)
      have hP : va_P D vwCl (eW cI (q0) (q1) (up (adJ O num k w j) (t + 1 + j) (wb w j))) H := hP
      have hD : va_D A (eW cI (q0) (q1) (up (adJ O num k w j) (t + 1 + j) (wb w j))) := hD
      refine lv_iinc (v := nI (j + 1)) (lv' := [(6, .int (nI (j + 1))), (0, .ref (q0)), (1, .int (nI (num))), (2, .int (nI (k))), (3, .long (w)), (5, .int (nI (t)))]) hx hb dX1_add_93 hl (k := 5) rfl (nI_add _ _) (by decide) rfl (fun ls hl => ?_)
      refine lv_goto (tgt := 63) hx hb dX1_add_96 (by decide) ?_
      have hq9 : (eW cI (q0) (q1) (up (adJ O num k w j) (t + 1 + j) (wb w j)) : va_W) = eW cI (q0) (q1) (adJ O num k w (j + 1)) := (eW_eq (fun i hi => by simp only [adJ, up, ht]; (repeat' split) <;> first | rfl | omega | (exfalso; omega) | (congr 1; omega)))
      exact ih_63 (j + 1) _ _ _ (⟨by omega, va_P.eqw hq9 hP, va_D.eqw hq9 hD, hS⟩) (by first | omega | (dsimp only; omega)) (lv_sub hl [1, 2, 3, 4, 5, 0] rfl)
  · have h_14 := bo.t hw_11 c_14
    refine lv_aload_n hx hb dX1_add_17 rfl (lv_at hl 1 rfl) ?_
    refine va_get (D := D) (ci := 1) (v := .ref (q1)) (C := RX1) (T := TX1) (N := 1) hx hb hts hiX1 hown hK hP 0 rfl rfl 0 (by decide) (hts (.fieldLink RX1 9 "PairedCells$EventPage" "bytes" "[I") (by decide +kernel)) (fun _ h9 => h9) rfl dX1_add_18 ?_
    refine lv_iconst (v := nI 1) hx hb dX1_add_21 (by decide) ?_
    refine lv_iload_n hx hb dX1_add_22 rfl (lv_at hl 2 rfl) ?_
    refine lv_bipush (v := nI 8) hx hb dX1_add_23 (by decide) ?_
    refine xr_shr hx hb (by omega) (by omega) dX1_add_25 ?_
    refine lv_sipush (v := nI 255) hx hb dX1_add_26 (by decide) ?_
    refine xr_and255 hx hb (by omega) dX1_add_29 ?_
    refine xr_iast hx hb hK hP hD hS 1 0 rfl rfl (by omega) (by decide) dX1_add_30 (fun H locs hP hD hS => ?_)
    have hP : va_P D vwCl (eW cI (q0) (q1) (up O (1) ((num / 2 ^ 8) % 256))) H := hP
    have hD : va_D A (eW cI (q0) (q1) (up O (1) ((num / 2 ^ 8) % 256))) := hD
    refine lv_aload_n hx hb dX1_add_31 rfl (lv_at hl 1 rfl) ?_
    refine va_get (D := D) (ci := 1) (v := .ref (q1)) (C := RX1) (T := TX1) (N := 1) hx hb hts hiX1 hown hK hP 0 rfl rfl 0 (by decide) (hts (.fieldLink RX1 9 "PairedCells$EventPage" "bytes" "[I") (by decide +kernel)) (fun _ h9 => h9) rfl dX1_add_32 ?_
    refine lv_iconst (v := nI 2) hx hb dX1_add_35 (by decide) ?_
    refine lv_iload_n hx hb dX1_add_36 rfl (lv_at hl 2 rfl) ?_
    refine lv_sipush (v := nI 255) hx hb dX1_add_37 (by decide) ?_
    refine xr_and255 hx hb (by omega) dX1_add_40 ?_
    refine xr_iast hx hb hK hP hD hS 1 0 rfl rfl (by omega) (by decide) dX1_add_41 (fun H locs hP hD hS => ?_)
    have hP : va_P D vwCl (eW cI (q0) (q1) (up (up O (1) ((num / 2 ^ 8) % 256)) (2) (num % 256))) H := hP
    have hD : va_D A (eW cI (q0) (q1) (up (up O (1) ((num / 2 ^ 8) % 256)) (2) (num % 256))) := hD
    refine lv_aload_n hx hb dX1_add_42 rfl (lv_at hl 1 rfl) ?_
    refine va_get (D := D) (ci := 1) (v := .ref (q1)) (C := RX1) (T := TX1) (N := 1) hx hb hts hiX1 hown hK hP 0 rfl rfl 0 (by decide) (hts (.fieldLink RX1 9 "PairedCells$EventPage" "bytes" "[I") (by decide +kernel)) (fun _ h9 => h9) rfl dX1_add_43 ?_
    refine lv_iconst (v := nI 0) hx hb dX1_add_46 (by decide) ?_
    refine lv_dup2_11 hx hb dX1_add_47 rfl rfl ?_
    refine xr_iald hx hb hK hP 1 0 rfl rfl (by omega) (by decide) dX1_add_48 ?_
    refine xr_nat (x' := O 0) (rfl) ?_
    refine lv_iconst (v := nI 1) hx hb dX1_add_49 (by decide) ?_
    refine xr_add hx hb dX1_add_50 ?_
    refine xr_iast hx hb hK hP hD hS 1 0 rfl rfl (by omega) (by decide) dX1_add_51 (fun H locs hP hD hS => ?_)
    have hP : va_P D vwCl (eW cI (q0) (q1) (up (up (up O (1) ((num / 2 ^ 8) % 256)) (2) (num % 256)) (0) (O 0 + 1))) H := hP
    have hD : va_D A (eW cI (q0) (q1) (up (up (up O (1) ((num / 2 ^ 8) % 256)) (2) (num % 256)) (0) (O 0 + 1))) := hD
    refine lv_aload_n hx hb dX1_add_52 rfl (lv_at hl 1 rfl) ?_
    refine va_get (D := D) (ci := 1) (v := .ref (q1)) (C := RX1) (T := TX1) (N := 1) hx hb hts hiX1 hown hK hP 0 rfl rfl 0 (by decide) (hts (.fieldLink RX1 9 "PairedCells$EventPage" "bytes" "[I") (by decide +kernel)) (fun _ h9 => h9) rfl dX1_add_53 ?_
    refine lv_iload hx hb dX1_add_56 (lv_at hl 0 rfl) ?_
    refine lv_iload_n hx hb dX1_add_58 rfl (lv_at hl 3 rfl) ?_
    refine xr_iast hx hb hK hP hD hS 1 0 rfl rfl (by omega) (by decide) dX1_add_59 (fun H locs hP hD hS => ?_)
    have hP : va_P D vwCl (eW cI (q0) (q1) (up (up (up (up O (1) ((num / 2 ^ 8) % 256)) (2) (num % 256)) (0) (O 0 + 1)) (t) (k))) H := hP
    have hD : va_D A (eW cI (q0) (q1) (up (up (up (up O (1) ((num / 2 ^ 8) % 256)) (2) (num % 256)) (0) (O 0 + 1)) (t) (k))) := hD
    refine lv_iconst (v := nI 0) hx hb dX1_add_60 (by decide) ?_
    refine lv_istore (lv' := [(6, .int (nI (0))), (5, .int (nI (t))), (0, .ref (q0)), (1, .int (nI (num))), (2, .int (nI (k))), (3, .long (w))]) hx hb dX1_add_61 hl (by decide) rfl (fun ls hl => ?_)
    have hq9 : (eW cI (q0) (q1) (up (up (up (up O (1) ((num / 2 ^ 8) % 256)) (2) (num % 256)) (0) (O 0 + 1)) (t) (k)) : va_W) = eW cI (q0) (q1) (adJ O num k w 0) := (eW_eq (fun i hi => by simp only [adJ, up, ht]; (repeat' split) <;> first | rfl | omega | (exfalso; omega)))
    refine lpW (α := Nat) (fun j H locs => (j ≤ k) ∧ va_P D vwCl (eW cI (q0) (q1) (adJ O num k w j)) H ∧ va_D A (eW cI (q0) (q1) (adJ O num k w j)) ∧ va_S A s.heap H locs) (fun j => [(0, .ref (q0)), (1, .int (nI (num))), (2, .int (nI (k))), (3, .long (w)), (5, .int (nI (t))), (6, .int (nI (j)))]) 7 (fun j => k - j) 0 (⟨Nat.zero_le _, va_P.eqw hq9 hP, va_D.eqw hq9 hD, hS⟩) (lv_sub hl [2, 3, 4, 5, 1, 0] rfl) (fun s9 H locs ls hI9 hl9 ih_63 => ?_)
    obtain ⟨j, rfl⟩ : ∃ z, z = s9 := ⟨_, rfl⟩
    have hl : lv_has ls 7 [(0, .ref (q0)), (1, .int (nI (num))), (2, .int (nI (k))), (3, .long (w)), (5, .int (nI (t))), (6, .int (nI (j)))] := hl9
    obtain ⟨hj, hP, hD, hS⟩ : (j ≤ k) ∧ va_P D vwCl (eW cI (q0) (q1) (adJ O num k w j)) H ∧ va_D A (eW cI (q0) (q1) (adJ O num k w j)) ∧ va_S A s.heap H locs := hI9
    refine lv_iload hx hb dX1_add_63 (lv_at hl 5 rfl) ?_
    refine lv_iload_n hx hb dX1_add_65 rfl (lv_at hl 2 rfl) ?_
    refine xi_ge (tgt := 99) hx hb dX1_add_66 (by decide) (nI_toInt (by omega)) (nI_toInt (by omega)) (fun c_66 => ?_) (fun c_66 => ?_)
    · have hq9 : (eW cI (q0) (q1) (adJ O num k w j) : va_W) = eW cI q0 q1 (adO O num k w) := (by rw [show j = k by omega])
      exact xf_v (post := fun (_ : Unit) => True) (w1 := fun (_ : Unit) => eW cI q0 q1 (adO O num k w)) () hx hb hr hlocks (trivial) (va_P.eqw hq9 hP) hK (va_D.eqw hq9 hD) hS dX1_add_99
    · refine lv_aload_n hx hb dX1_add_69 rfl (lv_at hl 0 rfl) ?_
      refine va_get (D := D) (ci := 1) (v := .ref (q1)) (C := RX1) (T := TX1) (N := 1) hx hb hts hiX1 hown hK hP 0 rfl rfl 0 (by decide) (hts (.fieldLink RX1 9 "PairedCells$EventPage" "bytes" "[I") (by decide +kernel)) (fun _ h9 => h9) rfl dX1_add_70 ?_
      refine lv_iload hx hb dX1_add_73 (lv_at hl 4 rfl) ?_
      refine lv_iconst (v := nI 1) hx hb dX1_add_75 (by decide) ?_
      refine xr_add hx hb dX1_add_76 ?_
      refine lv_iload hx hb dX1_add_77 (lv_at hl 5 rfl) ?_
      refine xr_add hx hb dX1_add_79 ?_
      refine lv_lload_n hx hb dX1_add_80 rfl (lv_at hl 3 rfl) ?_
      refine lv_bipush (v := nI 8) hx hb dX1_add_81 (by decide) ?_
      refine lv_iload hx hb dX1_add_83 (lv_at hl 5 rfl) ?_
      refine xr_mul hx hb dX1_add_85 ?_
      refine lv_lshr hx hb dX1_add_86 rfl ?_
      refine lv_ldc2 (v := 255) hx hb hown (hts (.constantLong RX1 39 255) (by decide +kernel)) dX1_add_87 ?_
      refine lv_land hx hb dX1_add_90 ?_
      refine lv_l2i hx hb dX1_add_91 (v := nI (wb w j)) (wb_eq w j) ?_
      refine xr_iast hx hb hK hP hD hS 1 0 rfl rfl (by omega) (by decide) dX1_add_92 (fun H locs hP hD hS => ?_)
      have hP : va_P D vwCl (eW cI (q0) (q1) (up (adJ O num k w j) (t + 1 + j) (wb w j))) H := hP
      have hD : va_D A (eW cI (q0) (q1) (up (adJ O num k w j) (t + 1 + j) (wb w j))) := hD
      refine lv_iinc (v := nI (j + 1)) (lv' := [(6, .int (nI (j + 1))), (0, .ref (q0)), (1, .int (nI (num))), (2, .int (nI (k))), (3, .long (w)), (5, .int (nI (t)))]) hx hb dX1_add_93 hl (k := 5) rfl (nI_add _ _) (by decide) rfl (fun ls hl => ?_)
      refine lv_goto (tgt := 63) hx hb dX1_add_96 (by decide) ?_
      have hq9 : (eW cI (q0) (q1) (up (adJ O num k w j) (t + 1 + j) (wb w j)) : va_W) = eW cI (q0) (q1) (adJ O num k w (j + 1)) := (eW_eq (fun i hi => by simp only [adJ, up, ht]; (repeat' split) <;> first | rfl | omega | (exfalso; omega) | (congr 1; omega)))
      exact ih_63 (j + 1) _ _ _ (⟨by omega, va_P.eqw hq9 hP, va_D.eqw hq9 hD, hS⟩) (by first | omega | (dsimp only; omega)) (lv_sub hl [1, 2, 3, 4, 5, 0] rfl)
end
section
set_option maxHeartbeats 4000000 in
set_option maxRecDepth 100000 in
theorem c_X0_nextPlace (l : Launch) (D : va_G) {cI cB : ClassId} (a χ : Nat → Nat) (b : Nat) (hb6 : b < 6) (hχ : ∀ i, χ i < 65536) : Met l yX0_nextPlace wsX0_nextPlace ({ frames := 0, cells := 0, slots := 0, locals := 0 }) (va_Pc [.ref (a (6 + 4 * b))] (x_R D (tyP cI cB) (wB cI a χ b))) (vp_Si (fun r => r = nI (plc χ b))) 0 0 (fun _ => False) := by
  refine Met.ofW (cc := cX0_nextPlace) (maxL := 2) (ret := (some .int)) (by decide) rfl ?_
  intro p e s m args below meth c s₁ B hml hv
  obtain ⟨rfl, hN, hP, hK⟩ := hv
  have hx := B.exec
  have hb := B.bytes
  have hr := B.returns
  have hts := atoms_spec (ws := wsX0_nextPlace) B.pre
  have hown : s.vm.findClass RX0 = some m.cls := findClass_of_methodNamed B.named
  have hlocks := B.notSynchronized
  have hiX0 : ∀ w ∈ u_ws RX0 TX0 5, w ∈ wsX0_nextPlace := by decide +kernel
  have hl := lv_entry ([.ref (a (6 + 4 * b))]) (n := 2) (Nat.le_of_ble_eq_true rfl)
  rw [lg_entry_eq]
  generalize (lg_sl ([.ref (a (6 + 4 * b))]) ++ List.replicate (2 - (lg_sl ([.ref (a (6 + 4 * b))])).length) Slot.unset).toArray = ls at hl ⊢
  have hl : lv_has ls 2 [(0, .ref (a (6 + 4 * b)))] := hl
  refine lv_iconst (v := nI 0) hx hb dX0_nextPlace_0 (by decide) ?_
  refine lv_istore_n (lv' := [(1, .int (nI (0))), (0, .ref (a (6 + 4 * b)))]) hx hb dX0_nextPlace_1 rfl hl (by decide) rfl (fun ls hl => ?_)
  refine lpR (α := Nat) (fun k => k ≤ 16 ∧ ∀ j, j < k → χ (16 * b + j) ≠ 0) (fun k => [(0, .ref (a (6 + 4 * b))), (1, .int (nI (k)))]) 2 (fun k => 16 - k) 0 (⟨by omega, fun j hj => absurd hj (Nat.not_lt_zero j)⟩) (lv_sub hl [1, 0] rfl) (fun s9 ls hI9 hl9 ih_2 => ?_)
  obtain ⟨k, rfl⟩ : ∃ z, z = s9 := ⟨_, rfl⟩
  have hl : lv_has ls 2 [(0, .ref (a (6 + 4 * b))), (1, .int (nI (k)))] := hl9
  obtain ⟨hk, hz⟩ : k ≤ 16 ∧ ∀ j, j < k → χ (16 * b + j) ≠ 0 := hI9
  refine lv_iload_n hx hb dX0_nextPlace_2 rfl (lv_at hl 1 rfl) ?_
  refine lv_bipush (v := nI 16) hx hb dX0_nextPlace_3 (by decide) ?_
  refine xi_ge (tgt := 23) hx hb dX0_nextPlace_5 (by decide) (nI_toInt (by omega)) (nI_toInt (by omega)) (fun c_5 => ?_) (fun c_5 => ?_)
  · refine lv_iload_n hx hb dX0_nextPlace_23 rfl (lv_at hl 1 rfl) ?_
    exact xe_i hx hb hr hlocks (congrArg nI (plc_eq (by omega) hz (fun h => by omega))) rfl rfl dX0_nextPlace_24
  · refine lv_aload_n hx hb dX0_nextPlace_8 rfl (lv_at hl 0 rfl) ?_
    refine va_get (D := D) (ci := 0) (v := .ref (a (7 + 4 * b))) (C := RX0) (T := TX0) (N := 5) hx hb hts hiX0 hown hK hP 0 rfl rfl 0 (by decide) (hts (.fieldLink RX0 9 "PairedCells$Block" "states" "[I") (by decide +kernel)) (fun _ h9 => h9) rfl dX0_nextPlace_9 ?_
    refine lv_iload_n hx hb dX0_nextPlace_12 rfl (lv_at hl 1 rfl) ?_
    refine xr_iald hx hb hK hP 1 0 rfl rfl (by omega) (by decide) dX0_nextPlace_13 ?_
    have hb_13 := hχ (16 * b + k)
    refine xz_eq (tgt := 23) hx hb dX0_nextPlace_14 (by decide) (nI_toInt (by omega)) (fun c_14 => ?_) (fun c_14 => ?_)
    · refine lv_iload_n hx hb dX0_nextPlace_23 rfl (lv_at hl 1 rfl) ?_
      exact xe_i hx hb hr hlocks (congrArg nI (plc_eq (by omega) hz (fun h => by omega))) rfl rfl dX0_nextPlace_24
    · refine lv_iinc (v := nI (k + 1)) (lv' := [(1, .int (nI (k + 1))), (0, .ref (a (6 + 4 * b)))]) hx hb dX0_nextPlace_17 hl (k := 1) rfl (nI_add _ _) (by decide) rfl (fun ls hl => ?_)
      refine lv_goto (tgt := 2) hx hb dX0_nextPlace_20 (by decide) ?_
      exact ih_2 (k + 1) _ (⟨by omega, fun j hj => by rcases Nat.lt_succ_iff_lt_or_eq.mp hj with h | h; exact hz j h; subst h; omega⟩) (by first | omega | (dsimp only; omega)) (lv_sub hl [1, 0] rfl)

set_option maxHeartbeats 4000000 in
set_option maxRecDepth 100000 in
theorem c_X0_isErased (l : Launch) (D : va_G) {cI cB : ClassId} (a χ : Nat → Nat) (b : Nat) (hb6 : b < 6) (hχ : ∀ i, χ i < 65536) : Met l yX0_isErased wsX0_isErased ({ frames := 1, cells := 0, slots := 0, locals := 21 }) (va_Pc [.ref (a (6 + 4 * b))] (x_R D (tyP cI cB) (wB cI a χ b))) (vp_Si (fun r => bo r (χ (16 * b) = 0))) 0 0 (fun _ => False) := by
  refine Met.ofW (cc := cX0_isErased) (maxL := 1) (ret := (some .boolean)) (by decide) rfl ?_
  intro p e s m args below meth c s₁ B hml hv
  obtain ⟨rfl, hN, hP, hK⟩ := hv
  have hx := B.exec
  have hb := B.bytes
  have hr := B.returns
  have hts := atoms_spec (ws := wsX0_isErased) B.pre
  have hown : s.vm.findClass RX0 = some m.cls := findClass_of_methodNamed B.named
  have hlocks := B.notSynchronized
  have hl := lv_entry ([.ref (a (6 + 4 * b))]) (n := 1) (Nat.le_of_ble_eq_true rfl)
  rw [lg_entry_eq]
  generalize (lg_sl ([.ref (a (6 + 4 * b))]) ++ List.replicate (1 - (lg_sl ([.ref (a (6 + 4 * b))])).length) Slot.unset).toArray = ls at hl ⊢
  have hl : lv_has ls 1 [(0, .ref (a (6 + 4 * b)))] := hl
  have hpl := plc_le χ b
  refine lv_aload_n hx hb dX0_isErased_0 rfl (lv_at hl 0 rfl) ?_
  refine xc_Vi (ci := 0) (rest := []) (As := []) ⟨hx, hb, hml, hown, hts⟩ (c_X0_nextPlace l D a χ b hb6 hχ) (cwV 0 hts gX0_isErased_X0_nextPlace rfl rfl rfl (by decide +kernel) ⟨Nat.le_of_ble_eq_true rfl, Nat.le_of_ble_eq_true rfl⟩) hN hK (hP) rfl 0 rfl rfl hl.1 rfl (Nat.le_of_ble_eq_true rfl) dX0_isErased_1 ⟨Nat.le_of_ble_eq_true rfl, Nat.le_of_ble_eq_true rfl⟩ (fun r_1 hw_1 => ?_)
  subst hw_1
  refine xz_ne (tgt := 11) hx hb dX0_isErased_4 (by decide) (nI_toInt (by omega)) (fun c_4 => ?_) (fun c_4 => ?_)
  · refine lv_iconst (v := nI 0) hx hb dX0_isErased_11 (by decide) ?_
    exact xe_z hx hb hr hlocks rfl (bo.zero (fun h => by have h9 := plc_zero.mpr h; omega)) rfl rfl dX0_isErased_12
  · refine lv_iconst (v := nI 1) hx hb dX0_isErased_7 (by decide) ?_
    refine lv_goto (tgt := 12) hx hb dX0_isErased_8 (by decide) ?_
    exact xe_z hx hb hr hlocks rfl (bo.one (plc_zero.mp (by omega))) rfl rfl dX0_isErased_12

set_option maxHeartbeats 4000000 in
set_option maxRecDepth 100000 in
theorem c_X0_takesMore (l : Launch) (D : va_G) {cI cB : ClassId} (a χ : Nat → Nat) (b : Nat) (hb6 : b < 6) (hχ : ∀ i, χ i < 65536) : Met l yX0_takesMore wsX0_takesMore ({ frames := 1, cells := 0, slots := 0, locals := 21 }) (va_Pc [.ref (a (6 + 4 * b))] (x_R D (tyP cI cB) (wB cI a χ b))) (vp_Si (fun r => bo r (tk χ b))) 0 0 (fun _ => False) := by
  refine Met.ofW (cc := cX0_takesMore) (maxL := 2) (ret := (some .boolean)) (by decide) rfl ?_
  intro p e s m args below meth c s₁ B hml hv
  obtain ⟨rfl, hN, hP, hK⟩ := hv
  have hx := B.exec
  have hb := B.bytes
  have hr := B.returns
  have hts := atoms_spec (ws := wsX0_takesMore) B.pre
  have hown : s.vm.findClass RX0 = some m.cls := findClass_of_methodNamed B.named
  have hlocks := B.notSynchronized
  have hiX0 : ∀ w ∈ u_ws RX0 TX0 5, w ∈ wsX0_takesMore := by decide +kernel
  have hl := lv_entry ([.ref (a (6 + 4 * b))]) (n := 2) (Nat.le_of_ble_eq_true rfl)
  rw [lg_entry_eq]
  generalize (lg_sl ([.ref (a (6 + 4 * b))]) ++ List.replicate (2 - (lg_sl ([.ref (a (6 + 4 * b))])).length) Slot.unset).toArray = ls at hl ⊢
  have hl : lv_has ls 2 [(0, .ref (a (6 + 4 * b)))] := hl
  have hpl := plc_le χ b
  refine lv_bipush (v := nI 8) hx hb dX0_takesMore_0 (by decide) ?_
  refine lv_istore_n (lv' := [(1, .int (nI (8))), (0, .ref (a (6 + 4 * b)))]) hx hb dX0_takesMore_2 rfl hl (by decide) rfl (fun ls hl => ?_)
  refine lpR (α := Nat) (fun k => 8 ≤ k ∧ k ≤ 16 ∧ ∀ j, 8 ≤ j → j < k → χ (16 * b + j) ≠ 2) (fun k => [(0, .ref (a (6 + 4 * b))), (1, .int (nI (k)))]) 2 (fun k => 16 - k) 8 (⟨by omega, by omega, fun j h1 h2 => absurd h2 (by omega)⟩) (lv_sub hl [1, 0] rfl) (fun s9 ls hI9 hl9 ih_3 => ?_)
  obtain ⟨k, rfl⟩ : ∃ z, z = s9 := ⟨_, rfl⟩
  have hl : lv_has ls 2 [(0, .ref (a (6 + 4 * b))), (1, .int (nI (k)))] := hl9
  obtain ⟨h8, hk, hz⟩ : 8 ≤ k ∧ k ≤ 16 ∧ ∀ j, 8 ≤ j → j < k → χ (16 * b + j) ≠ 2 := hI9
  refine lv_iload_n hx hb dX0_takesMore_3 rfl (lv_at hl 1 rfl) ?_
  refine lv_bipush (v := nI 16) hx hb dX0_takesMore_4 (by decide) ?_
  refine xi_ge (tgt := 27) hx hb dX0_takesMore_6 (by decide) (nI_toInt (by omega)) (nI_toInt (by omega)) (fun c_6 => ?_) (fun c_6 => ?_)
  · refine lv_aload_n hx hb dX0_takesMore_27 rfl (lv_at hl 0 rfl) ?_
    refine xc_Vi (ci := 0) (rest := []) (As := []) ⟨hx, hb, hml, hown, hts⟩ (c_X0_nextPlace l D a χ b hb6 hχ) (cwV 0 hts gX0_takesMore_X0_nextPlace rfl rfl rfl (by decide +kernel) ⟨Nat.le_of_ble_eq_true rfl, Nat.le_of_ble_eq_true rfl⟩) hN hK (hP) rfl 0 rfl rfl hl.1 rfl (Nat.le_of_ble_eq_true rfl) dX0_takesMore_28 ⟨Nat.le_of_ble_eq_true rfl, Nat.le_of_ble_eq_true rfl⟩ (fun r_28 hw_28 => ?_)
    subst hw_28
    refine lv_bipush (v := nI 16) hx hb dX0_takesMore_31 (by decide) ?_
    refine xi_ge (tgt := 40) hx hb dX0_takesMore_33 (by decide) (nI_toInt (by omega)) (nI_toInt (by omega)) (fun c_33 => ?_) (fun c_33 => ?_)
    · refine lv_iconst (v := nI 0) hx hb dX0_takesMore_40 (by decide) ?_
      exact xe_z hx hb hr hlocks rfl (bo.zero (fun h => by have h9 := h.2; omega)) rfl rfl dX0_takesMore_41
    · refine lv_iconst (v := nI 1) hx hb dX0_takesMore_36 (by decide) ?_
      refine lv_goto (tgt := 41) hx hb dX0_takesMore_37 (by decide) ?_
      exact xe_z hx hb hr hlocks rfl (bo.one ⟨fun j h1 h2 => hz j h1 (by omega), by omega⟩) rfl rfl dX0_takesMore_41
  · refine lv_aload_n hx hb dX0_takesMore_9 rfl (lv_at hl 0 rfl) ?_
    refine va_get (D := D) (ci := 0) (v := .ref (a (7 + 4 * b))) (C := RX0) (T := TX0) (N := 5) hx hb hts hiX0 hown hK hP 0 rfl rfl 0 (by decide) (hts (.fieldLink RX0 9 "PairedCells$Block" "states" "[I") (by decide +kernel)) (fun _ h9 => h9) rfl dX0_takesMore_10 ?_
    refine lv_iload_n hx hb dX0_takesMore_13 rfl (lv_at hl 1 rfl) ?_
    refine xr_iald hx hb hK hP 1 0 rfl rfl (by omega) (by decide) dX0_takesMore_14 ?_
    have hb_14 := hχ (16 * b + k)
    refine lv_iconst (v := nI 2) hx hb dX0_takesMore_15 (by decide) ?_
    refine xi_ne (tgt := 21) hx hb dX0_takesMore_16 (by decide) (nI_toInt (by omega)) (nI_toInt (by omega)) (fun c_16 => ?_) (fun c_16 => ?_)
    · refine lv_iinc (v := nI (k + 1)) (lv' := [(1, .int (nI (k + 1))), (0, .ref (a (6 + 4 * b)))]) hx hb dX0_takesMore_21 hl (k := 1) rfl (nI_add _ _) (by decide) rfl (fun ls hl => ?_)
      refine lv_goto (tgt := 3) hx hb dX0_takesMore_24 (by decide) ?_
      exact ih_3 (k + 1) _ (⟨by omega, by omega, fun j h1 hj => by rcases Nat.lt_succ_iff_lt_or_eq.mp hj with h | h; exact hz j h1 h; subst h; omega⟩) (by first | omega | (dsimp only; omega)) (lv_sub hl [1, 0] rfl)
    · refine lv_iconst (v := nI 0) hx hb dX0_takesMore_19 (by decide) ?_
      exact xe_z hx hb hr hlocks rfl (bo.zero (fun h => h.1 k (by omega) (by omega) (by omega))) rfl rfl dX0_takesMore_20

set_option maxHeartbeats 4000000 in
set_option maxRecDepth 100000 in
theorem c_X0_erase (l : Launch) (D : va_G) {cI cB : ClassId} (a χ : Nat → Nat) (b : Nat) (hb6 : b < 6) (hχ : ∀ i, χ i < 65536) (sz : Nat) : Met l yX0_erase wsX0_erase ({ frames := 1, cells := 0, slots := 0, locals := 23 }) (va_Pc [.ref (a (6 + 4 * b))] (x_U D (tyP cI cB) (wB cI a χ b) sz)) (va_Qv (fun (_ : Unit) => True) (fun u t => x_E D (tyP cI cB) (va_A (wB cI a χ b) sz) (wB cI a (ers χ b) b) t) (va_A (wB cI a χ b) sz)) 0 0 (va_A (wB cI a χ b) sz) := by
  refine Met.ofW (cc := cX0_erase) (maxL := 1) (ret := none) (by decide) rfl ?_
  intro p e s m args below meth c s₁ B hml hv
  obtain ⟨rfl, hsz, hN, hP, hK, hD0⟩ := hv
  have hx := B.exec
  have hb := B.bytes
  have hr := B.returns
  have hts := atoms_spec (ws := wsX0_erase) B.pre
  have hown : s.vm.findClass RX0 = some m.cls := findClass_of_methodNamed B.named
  have hlocks := B.notSynchronized
  subst hsz
  have hD := hD0.self (sz := s.heap.size)
  generalize hAe : va_A (wB cI a χ b) s.heap.size = A at hD ⊢
  have hA : ∀ q : Nat, s.heap.size ≤ q → A q := fun q h => by rw [← hAe]; exact Or.inr h
  obtain ⟨H, hH⟩ : ∃ H : Heap, s.heap = H := ⟨_, rfl⟩
  obtain ⟨locs, hlo⟩ : ∃ L : List Loc, ([] : List Loc) = L := ⟨_, rfl⟩
  have hS : va_S A s.heap H locs := by rw [← hH, ← hlo]; exact va_S.rf
  have hP : va_P D vwCl (wB cI a χ b) H := hH ▸ hP
  rw [hH, hlo]
  have hiX0 : ∀ w ∈ u_ws RX0 TX0 5, w ∈ wsX0_erase := by decide +kernel
  have hl := lv_entry ([.ref (a (6 + 4 * b))]) (n := 1) (Nat.le_of_ble_eq_true rfl)
  rw [lg_entry_eq]
  generalize (lg_sl ([.ref (a (6 + 4 * b))]) ++ List.replicate (1 - (lg_sl ([.ref (a (6 + 4 * b))])).length) Slot.unset).toArray = ls at hl ⊢
  have hl : lv_has ls 1 [(0, .ref (a (6 + 4 * b)))] := hl
  refine lv_aload_n hx hb dX0_erase_0 rfl (lv_at hl 0 rfl) ?_
  refine va_get (D := D) (ci := 0) (v := .ref (a (7 + 4 * b))) (C := RX0) (T := TX0) (N := 5) hx hb hts hiX0 hown hK hP 0 rfl rfl 0 (by decide) (hts (.fieldLink RX0 9 "PairedCells$Block" "states" "[I") (by decide +kernel)) (fun _ h9 => h9) rfl dX0_erase_1 ?_
  refine lv_iconst (v := nI 0) hx hb dX0_erase_4 (by decide) ?_
  have hF9 := x_hF (hD.sub (ws' := [(a (7 + 4 * b), ar cI 16 (fun j => χ (16 * b + j)))]) [1] (by decide) rfl) hS hA
  refine xw_Sv (rest := []) (As := [.ref (a (7 + 4 * b)), .int (nI (0))]) ⟨hx, hb, hml, hown, hts⟩ (c_fill l D (a (7 + 4 * b)) 16 0 (fun j => χ (16 * b + j)) (by decide) H.size) (va_cwS 2 hts gX0_erase_J7_fill_53178 rfl rfl rfl (by decide +kernel) ⟨Nat.le_of_ble_eq_true rfl, Nat.le_of_ble_eq_true rfl⟩) hN hK (hP.sub (ws' := [(a (7 + 4 * b), ar cI 16 (fun j => χ (16 * b + j)))]) [1] rfl) (hD.sub (ws' := [(a (7 + 4 * b), ar cI 16 (fun j => χ (16 * b + j)))]) [1] (by decide) rfl) hS hA rfl hl.1 rfl (Nat.le_of_ble_eq_true rfl) dX0_erase_5 ⟨Nat.le_of_ble_eq_true rfl, Nat.le_of_ble_eq_true rfl⟩ (fun u_5 H1 locs hw_5 hP1 hD1 hDA hk9 hS => ?_)
  obtain ⟨hP, hD⟩ := va_join (wr := [(a (6 + 4 * b), .inr (0, [.ref (a (7 + 4 * b)), .ref (a (8 + 4 * b)), .ref (a (9 + 4 * b)), .int (nI (χ (100 + b))), .int (nI (χ (110 + b)))])), (a (8 + 4 * b), ar cI 256 (fun j => χ (1000 + 256 * b + j))), (a (9 + 4 * b), ar cI 17 (fun j => χ (200 + 17 * b + j)))]) hP hD [1] [0, 2, 3] rfl rfl (by decide) (by decide) hk9 hF9 hP1 hD1
  have hP := hP.sub (ws' := bX cI a b (fun _ => 0) (fun j => χ (1000 + 256 * b + j)) (fun j => χ (200 + 17 * b + j)) (χ (100 + b)) (χ (110 + b))) [0, 3, 1, 2] rfl
  have hD := hD.sub (ws' := bX cI a b (fun _ => 0) (fun j => χ (1000 + 256 * b + j)) (fun j => χ (200 + 17 * b + j)) (χ (100 + b)) (χ (110 + b))) [0, 3, 1, 2] (by decide) rfl
  generalize H1 = H at hP hS ⊢
  have hP : va_P D vwCl (bX cI a b (fun _ => 0) (fun j => χ (1000 + 256 * b + j)) (fun j => χ (200 + 17 * b + j)) (χ (100 + b)) (χ (110 + b))) H := hP
  have hD : va_D A (bX cI a b (fun _ => 0) (fun j => χ (1000 + 256 * b + j)) (fun j => χ (200 + 17 * b + j)) (χ (100 + b)) (χ (110 + b))) := hD
  refine lv_aload_n hx hb dX0_erase_8 rfl (lv_at hl 0 rfl) ?_
  refine lv_iconst (v := nI 0) hx hb dX0_erase_9 (by decide) ?_
  refine va_put (D := D) (ci := 0) (v := .int (nI (0))) (ty := .int) (C := RX0) (T := TX0) (N := 5) hx hb hts hiX0 tyX0 tyX0_ok nmX0 hown hK hP hD hS 0 rfl rfl 3 (by decide) (hts (.fieldLink RX0 21 "PairedCells$Block" "guardState" "I") (by decide +kernel)) (fun _ h9 => h9) rfl (by decide +kernel) rfl rfl (Nat.le_of_ble_eq_true rfl) dX0_erase_10 (fun H locs hP hD hS => ?_)
  have hP : va_P D vwCl (bX cI a b (fun _ => 0) (fun j => χ (1000 + 256 * b + j)) (fun j => χ (200 + 17 * b + j)) (0) (χ (110 + b))) H := hP
  have hD : va_D A (bX cI a b (fun _ => 0) (fun j => χ (1000 + 256 * b + j)) (fun j => χ (200 + 17 * b + j)) (0) (χ (110 + b))) := hD
  refine lv_aload_n hx hb dX0_erase_13 rfl (lv_at hl 0 rfl) ?_
  refine lv_dup hx hb dX0_erase_14 rfl ?_
  refine va_get (D := D) (ci := 0) (v := .int (nI (χ (110 + b)))) (C := RX0) (T := TX0) (N := 5) hx hb hts hiX0 hown hK hP 0 rfl rfl 4 (by decide) (hts (.fieldLink RX0 25 "PairedCells$Block" "erasures" "I") (by decide +kernel)) (fun _ h9 => h9) rfl dX0_erase_15 ?_
  refine lv_iconst (v := nI 1) hx hb dX0_erase_18 (by decide) ?_
  refine xr_add hx hb dX0_erase_19 ?_
  refine va_put (D := D) (ci := 0) (v := .int (nI (χ (110 + b) + 1))) (ty := .int) (C := RX0) (T := TX0) (N := 5) hx hb hts hiX0 tyX0 tyX0_ok nmX0 hown hK hP hD hS 0 rfl rfl 4 (by decide) (hts (.fieldLink RX0 25 "PairedCells$Block" "erasures" "I") (by decide +kernel)) (fun _ h9 => h9) rfl (by decide +kernel) rfl rfl (Nat.le_of_ble_eq_true rfl) dX0_erase_20 (fun H locs hP hD hS => ?_)
  have hP : va_P D vwCl (bX cI a b (fun _ => 0) (fun j => χ (1000 + 256 * b + j)) (fun j => χ (200 + 17 * b + j)) (0) (χ (110 + b) + 1)) H := hP
  have hD : va_D A (bX cI a b (fun _ => 0) (fun j => χ (1000 + 256 * b + j)) (fun j => χ (200 + 17 * b + j)) (0) (χ (110 + b) + 1)) := hD
  have hq9 : (bX cI a b (fun _ => 0) (fun j => χ (1000 + 256 * b + j)) (fun j => χ (200 + 17 * b + j)) (0) (χ (110 + b) + 1) : va_W) = wB cI a (ers χ b) b := (bX_eq (fun j hj => (by simp only [ers]; (repeat' split) <;> first | rfl | omega | (exfalso; omega) | (congr 1; omega))) (fun j hj => (by simp only [ers]; (repeat' split) <;> first | rfl | omega | (exfalso; omega) | (congr 1; omega))) (fun j hj => (by simp only [ers]; (repeat' split) <;> first | rfl | omega | (exfalso; omega) | (congr 1; omega))) (by simp only [ers]; (repeat' split) <;> first | rfl | omega | (exfalso; omega) | (congr 1; omega)) (by simp only [ers]; (repeat' split) <;> first | rfl | omega | (exfalso; omega) | (congr 1; omega)))
  exact xf_v (post := fun (_ : Unit) => True) (w1 := fun (_ : Unit) => wB cI a (ers χ b) b) () hx hb hr hlocks (trivial) (va_P.eqw hq9 hP) hK (va_D.eqw hq9 hD) hS dX0_erase_23

set_option maxHeartbeats 4000000 in
set_option maxRecDepth 100000 in
theorem c_X0_cutAt (l : Launch) (D : va_G) {cI cB : ClassId} (a χ : Nat → Nat) (b : Nat) (hb6 : b < 6) (hχ : ∀ i, χ i < 65536) (k : Nat) (hk : k < 16) (sz : Nat) : Met l yX0_cutAt wsX0_cutAt ({ frames := 0, cells := 0, slots := 0, locals := 0 }) (va_Pc [.ref (a (6 + 4 * b)), .int (nI (k))] (x_U D (tyP cI cB) (wB cI a χ b) sz)) (va_Qv (fun (_ : Unit) => True) (fun u t => x_E D (tyP cI cB) (va_A (wB cI a χ b) sz) (wB cI a (cuw χ b k) b) t) (va_A (wB cI a χ b) sz)) 0 0 (va_A (wB cI a χ b) sz) := by
  refine Met.ofW (cc := cX0_cutAt) (maxL := 2) (ret := none) (by decide) rfl ?_
  intro p e s m args below meth c s₁ B hml hv
  obtain ⟨rfl, hsz, hN, hP, hK, hD0⟩ := hv
  have hx := B.exec
  have hb := B.bytes
  have hr := B.returns
  have hts := atoms_spec (ws := wsX0_cutAt) B.pre
  have hown : s.vm.findClass RX0 = some m.cls := findClass_of_methodNamed B.named
  have hlocks := B.notSynchronized
  subst hsz
  have hD := hD0.self (sz := s.heap.size)
  generalize hAe : va_A (wB cI a χ b) s.heap.size = A at hD ⊢
  have hA : ∀ q : Nat, s.heap.size ≤ q → A q := fun q h => by rw [← hAe]; exact Or.inr h
  obtain ⟨H, hH⟩ : ∃ H : Heap, s.heap = H := ⟨_, rfl⟩
  obtain ⟨locs, hlo⟩ : ∃ L : List Loc, ([] : List Loc) = L := ⟨_, rfl⟩
  have hS : va_S A s.heap H locs := by rw [← hH, ← hlo]; exact va_S.rf
  have hP : va_P D vwCl (wB cI a χ b) H := hH ▸ hP
  rw [hH, hlo]
  have hiX0 : ∀ w ∈ u_ws RX0 TX0 5, w ∈ wsX0_cutAt := by decide +kernel
  have hl := lv_entry ([.ref (a (6 + 4 * b)), .int (nI (k))]) (n := 2) (Nat.le_of_ble_eq_true rfl)
  rw [lg_entry_eq]
  generalize (lg_sl ([.ref (a (6 + 4 * b)), .int (nI (k))]) ++ List.replicate (2 - (lg_sl ([.ref (a (6 + 4 * b)), .int (nI (k))])).length) Slot.unset).toArray = ls at hl ⊢
  have hl : lv_has ls 2 [(0, .ref (a (6 + 4 * b))), (1, .int (nI (k)))] := hl
  refine lv_aload_n hx hb dX0_cutAt_0 rfl (lv_at hl 0 rfl) ?_
  refine va_get (D := D) (ci := 0) (v := .ref (a (7 + 4 * b))) (C := RX0) (T := TX0) (N := 5) hx hb hts hiX0 hown hK hP 0 rfl rfl 0 (by decide) (hts (.fieldLink RX0 9 "PairedCells$Block" "states" "[I") (by decide +kernel)) (fun _ h9 => h9) rfl dX0_cutAt_1 ?_
  refine lv_iload_n hx hb dX0_cutAt_4 rfl (lv_at hl 1 rfl) ?_
  refine lv_iconst (v := nI 2) hx hb dX0_cutAt_5 (by decide) ?_
  refine xr_iast hx hb hK hP hD hS 1 0 rfl rfl (by omega) (by decide) dX0_cutAt_6 (fun H locs hP hD hS => ?_)
  have hP : va_P D vwCl (bX cI a b (up (fun j => χ (16 * b + j)) (k) (2)) (fun j => χ (1000 + 256 * b + j)) (fun j => χ (200 + 17 * b + j)) (χ (100 + b)) (χ (110 + b))) H := hP
  have hD : va_D A (bX cI a b (up (fun j => χ (16 * b + j)) (k) (2)) (fun j => χ (1000 + 256 * b + j)) (fun j => χ (200 + 17 * b + j)) (χ (100 + b)) (χ (110 + b))) := hD
  refine lv_iload_n hx hb dX0_cutAt_7 rfl (lv_at hl 1 rfl) ?_
  refine lv_bipush (v := nI 8) hx hb dX0_cutAt_8 (by decide) ?_
  refine xi_lt (tgt := 23) hx hb dX0_cutAt_10 (by decide) (nI_toInt (by omega)) (nI_toInt (by omega)) (fun c_10 => ?_) (fun c_10 => ?_)
  · have hq9 : (bX cI a b (up (fun j => χ (16 * b + j)) (k) (2)) (fun j => χ (1000 + 256 * b + j)) (fun j => χ (200 + 17 * b + j)) (χ (100 + b)) (χ (110 + b)) : va_W) = wB cI a (cuw χ b k) b := (bX_eq (fun j hj => (by simp only [cuw, up]; (repeat' split) <;> first | rfl | omega | (exfalso; omega) | (congr 1; omega))) (fun j hj => (by simp only [cuw, up]; (repeat' split) <;> first | rfl | omega | (exfalso; omega) | (congr 1; omega))) (fun j hj => (by simp only [cuw, up]; (repeat' split) <;> first | rfl | omega | (exfalso; omega) | (congr 1; omega))) (by simp only [cuw, up]; (repeat' split) <;> first | rfl | omega | (exfalso; omega) | (congr 1; omega)) (by simp only [cuw, up]; (repeat' split) <;> first | rfl | omega | (exfalso; omega) | (congr 1; omega)))
    exact xf_v (post := fun (_ : Unit) => True) (w1 := fun (_ : Unit) => wB cI a (cuw χ b k) b) () hx hb hr hlocks (trivial) (va_P.eqw hq9 hP) hK (va_D.eqw hq9 hD) hS dX0_cutAt_23
  · refine lv_aload_n hx hb dX0_cutAt_13 rfl (lv_at hl 0 rfl) ?_
    refine va_get (D := D) (ci := 0) (v := .ref (a (7 + 4 * b))) (C := RX0) (T := TX0) (N := 5) hx hb hts hiX0 hown hK hP 0 rfl rfl 0 (by decide) (hts (.fieldLink RX0 9 "PairedCells$Block" "states" "[I") (by decide +kernel)) (fun _ h9 => h9) rfl dX0_cutAt_14 ?_
    refine lv_iload_n hx hb dX0_cutAt_17 rfl (lv_at hl 1 rfl) ?_
    refine lv_bipush (v := nI 8) hx hb dX0_cutAt_18 (by decide) ?_
    refine xr_sub hx hb (by omega) dX0_cutAt_20 ?_
    refine lv_iconst (v := nI 2) hx hb dX0_cutAt_21 (by decide) ?_
    refine xr_iast hx hb hK hP hD hS 1 0 rfl rfl (by omega) (by decide) dX0_cutAt_22 (fun H locs hP hD hS => ?_)
    have hP : va_P D vwCl (bX cI a b (up (up (fun j => χ (16 * b + j)) (k) (2)) (k - 8) (2)) (fun j => χ (1000 + 256 * b + j)) (fun j => χ (200 + 17 * b + j)) (χ (100 + b)) (χ (110 + b))) H := hP
    have hD : va_D A (bX cI a b (up (up (fun j => χ (16 * b + j)) (k) (2)) (k - 8) (2)) (fun j => χ (1000 + 256 * b + j)) (fun j => χ (200 + 17 * b + j)) (χ (100 + b)) (χ (110 + b))) := hD
    have hq9 : (bX cI a b (up (up (fun j => χ (16 * b + j)) (k) (2)) (k - 8) (2)) (fun j => χ (1000 + 256 * b + j)) (fun j => χ (200 + 17 * b + j)) (χ (100 + b)) (χ (110 + b)) : va_W) = wB cI a (cuw χ b k) b := (bX_eq (fun j hj => (by simp only [cuw, up]; (repeat' split) <;> first | rfl | omega | (exfalso; omega) | (congr 1; omega))) (fun j hj => (by simp only [cuw, up]; (repeat' split) <;> first | rfl | omega | (exfalso; omega) | (congr 1; omega))) (fun j hj => (by simp only [cuw, up]; (repeat' split) <;> first | rfl | omega | (exfalso; omega) | (congr 1; omega))) (by simp only [cuw, up]; (repeat' split) <;> first | rfl | omega | (exfalso; omega) | (congr 1; omega)) (by simp only [cuw, up]; (repeat' split) <;> first | rfl | omega | (exfalso; omega) | (congr 1; omega)))
    exact xf_v (post := fun (_ : Unit) => True) (w1 := fun (_ : Unit) => wB cI a (cuw χ b k) b) () hx hb hr hlocks (trivial) (va_P.eqw hq9 hP) hK (va_D.eqw hq9 hD) hS dX0_cutAt_23

set_option maxHeartbeats 4000000 in
set_option maxRecDepth 100000 in
theorem c_X0_ruinWritten (l : Launch) (D : va_G) {cI cB : ClassId} (a χ : Nat → Nat) (b : Nat) (hb6 : b < 6) (hχ : ∀ i, χ i < 65536) (k : Nat) (hk : k < 16) (sz : Nat) : Met l yX0_ruinWritten wsX0_ruinWritten ({ frames := 0, cells := 0, slots := 0, locals := 0 }) (va_Pc [.ref (a (6 + 4 * b)), .int (nI (k))] (x_U D (tyP cI cB) (wB cI a χ b) sz)) (va_Qi (fun (r : Int32) (u : Nat → Nat) => (r = nI 1 ∧ χ (16 * b + k) = 1 ∧ u = up χ (16 * b + k) 2) ∨ (r = nI 0 ∧ χ (16 * b + k) ≠ 1 ∧ u = χ)) (fun u t => x_E D (tyP cI cB) (va_A (wB cI a χ b) sz) (wB cI a u b) t) (va_A (wB cI a χ b) sz)) 0 0 (va_A (wB cI a χ b) sz) := by
  refine Met.ofW (cc := cX0_ruinWritten) (maxL := 2) (ret := (some .boolean)) (by decide) rfl ?_
  intro p e s m args below meth c s₁ B hml hv
  obtain ⟨rfl, hsz, hN, hP, hK, hD0⟩ := hv
  have hx := B.exec
  have hb := B.bytes
  have hr := B.returns
  have hts := atoms_spec (ws := wsX0_ruinWritten) B.pre
  have hown : s.vm.findClass RX0 = some m.cls := findClass_of_methodNamed B.named
  have hlocks := B.notSynchronized
  subst hsz
  have hD := hD0.self (sz := s.heap.size)
  generalize hAe : va_A (wB cI a χ b) s.heap.size = A at hD ⊢
  have hA : ∀ q : Nat, s.heap.size ≤ q → A q := fun q h => by rw [← hAe]; exact Or.inr h
  obtain ⟨H, hH⟩ : ∃ H : Heap, s.heap = H := ⟨_, rfl⟩
  obtain ⟨locs, hlo⟩ : ∃ L : List Loc, ([] : List Loc) = L := ⟨_, rfl⟩
  have hS : va_S A s.heap H locs := by rw [← hH, ← hlo]; exact va_S.rf
  have hP : va_P D vwCl (wB cI a χ b) H := hH ▸ hP
  rw [hH, hlo]
  have hiX0 : ∀ w ∈ u_ws RX0 TX0 5, w ∈ wsX0_ruinWritten := by decide +kernel
  have hl := lv_entry ([.ref (a (6 + 4 * b)), .int (nI (k))]) (n := 2) (Nat.le_of_ble_eq_true rfl)
  rw [lg_entry_eq]
  generalize (lg_sl ([.ref (a (6 + 4 * b)), .int (nI (k))]) ++ List.replicate (2 - (lg_sl ([.ref (a (6 + 4 * b)), .int (nI (k))])).length) Slot.unset).toArray = ls at hl ⊢
  have hl : lv_has ls 2 [(0, .ref (a (6 + 4 * b))), (1, .int (nI (k)))] := hl
  refine lv_aload_n hx hb dX0_ruinWritten_0 rfl (lv_at hl 0 rfl) ?_
  refine va_get (D := D) (ci := 0) (v := .ref (a (7 + 4 * b))) (C := RX0) (T := TX0) (N := 5) hx hb hts hiX0 hown hK hP 0 rfl rfl 0 (by decide) (hts (.fieldLink RX0 9 "PairedCells$Block" "states" "[I") (by decide +kernel)) (fun _ h9 => h9) rfl dX0_ruinWritten_1 ?_
  refine lv_iload_n hx hb dX0_ruinWritten_4 rfl (lv_at hl 1 rfl) ?_
  refine xr_iald hx hb hK hP 1 0 rfl rfl (by omega) (by decide) dX0_ruinWritten_5 ?_
  have hb_5 := hχ (16 * b + k)
  refine lv_iconst (v := nI 1) hx hb dX0_ruinWritten_6 (by decide) ?_
  refine xi_eq (tgt := 12) hx hb dX0_ruinWritten_7 (by decide) (nI_toInt (by omega)) (nI_toInt (by omega)) (fun c_7 => ?_) (fun c_7 => ?_)
  · refine lv_aload_n hx hb dX0_ruinWritten_12 rfl (lv_at hl 0 rfl) ?_
    refine va_get (D := D) (ci := 0) (v := .ref (a (7 + 4 * b))) (C := RX0) (T := TX0) (N := 5) hx hb hts hiX0 hown hK hP 0 rfl rfl 0 (by decide) (hts (.fieldLink RX0 9 "PairedCells$Block" "states" "[I") (by decide +kernel)) (fun _ h9 => h9) rfl dX0_ruinWritten_13 ?_
    refine lv_iload_n hx hb dX0_ruinWritten_16 rfl (lv_at hl 1 rfl) ?_
    refine lv_iconst (v := nI 2) hx hb dX0_ruinWritten_17 (by decide) ?_
    refine xr_iast hx hb hK hP hD hS 1 0 rfl rfl (by omega) (by decide) dX0_ruinWritten_18 (fun H locs hP hD hS => ?_)
    have hP : va_P D vwCl (bX cI a b (up (fun j => χ (16 * b + j)) (k) (2)) (fun j => χ (1000 + 256 * b + j)) (fun j => χ (200 + 17 * b + j)) (χ (100 + b)) (χ (110 + b))) H := hP
    have hD : va_D A (bX cI a b (up (fun j => χ (16 * b + j)) (k) (2)) (fun j => χ (1000 + 256 * b + j)) (fun j => χ (200 + 17 * b + j)) (χ (100 + b)) (χ (110 + b))) := hD
    refine lv_iconst (v := nI 1) hx hb dX0_ruinWritten_19 (by decide) ?_
    have hq9 : (bX cI a b (up (fun j => χ (16 * b + j)) (k) (2)) (fun j => χ (1000 + 256 * b + j)) (fun j => χ (200 + 17 * b + j)) (χ (100 + b)) (χ (110 + b)) : va_W) = wB cI a (up χ (16 * b + k) 2) b := (bX_eq (fun j hj => (by simp only [up]; (repeat' split) <;> first | rfl | omega | (exfalso; omega) | (congr 1; omega))) (fun j hj => (by simp only [up]; (repeat' split) <;> first | rfl | omega | (exfalso; omega) | (congr 1; omega))) (fun j hj => (by simp only [up]; (repeat' split) <;> first | rfl | omega | (exfalso; omega) | (congr 1; omega))) (by simp only [up]; (repeat' split) <;> first | rfl | omega | (exfalso; omega) | (congr 1; omega)) (by simp only [up]; (repeat' split) <;> first | rfl | omega | (exfalso; omega) | (congr 1; omega)))
    exact xf_z (post := fun (r : Int32) (u : Nat → Nat) => (r = nI 1 ∧ χ (16 * b + k) = 1 ∧ u = up χ (16 * b + k) 2) ∨ (r = nI 0 ∧ χ (16 * b + k) ≠ 1 ∧ u = χ)) (w1 := fun (u : Nat → Nat) => wB cI a u b) (up χ (16 * b + k) 2) hx hb hr hlocks rfl (Or.inl ⟨rfl, by omega, rfl⟩) (va_P.eqw hq9 hP) hK (va_D.eqw hq9 hD) hS dX0_ruinWritten_20
  · refine lv_iconst (v := nI 0) hx hb dX0_ruinWritten_10 (by decide) ?_
    exact xf_z (post := fun (r : Int32) (u : Nat → Nat) => (r = nI 1 ∧ χ (16 * b + k) = 1 ∧ u = up χ (16 * b + k) 2) ∨ (r = nI 0 ∧ χ (16 * b + k) ≠ 1 ∧ u = χ)) (w1 := fun (u : Nat → Nat) => wB cI a u b) χ hx hb hr hlocks rfl (Or.inr ⟨rfl, by omega, rfl⟩) hP hK hD hS dX0_ruinWritten_11

set_option maxHeartbeats 4000000 in
set_option maxRecDepth 100000 in
theorem c_X0_covers (l : Launch) (D : va_G) {cI cB : ClassId} (a χ : Nat → Nat) (b : Nat) (hb6 : b < 6) (hχ : ∀ i, χ i < 65536) (k : Nat) (hk : k < 16) : Met l yX0_covers wsX0_covers ({ frames := 0, cells := 0, slots := 0, locals := 0 }) (va_Pc [.ref (a (6 + 4 * b)), .int (nI (k))] (x_R D (tyP cI cB) (wB cI a χ b))) (vp_Si (fun r => bo r (cvr χ b k))) 0 0 (fun _ => False) := by
  refine Met.ofW (cc := cX0_covers) (maxL := 2) (ret := (some .boolean)) (by decide) rfl ?_
  intro p e s m args below meth c s₁ B hml hv
  obtain ⟨rfl, hN, hP, hK⟩ := hv
  have hx := B.exec
  have hb := B.bytes
  have hr := B.returns
  have hts := atoms_spec (ws := wsX0_covers) B.pre
  have hown : s.vm.findClass RX0 = some m.cls := findClass_of_methodNamed B.named
  have hlocks := B.notSynchronized
  have hiX0 : ∀ w ∈ u_ws RX0 TX0 5, w ∈ wsX0_covers := by decide +kernel
  have hl := lv_entry ([.ref (a (6 + 4 * b)), .int (nI (k))]) (n := 2) (Nat.le_of_ble_eq_true rfl)
  rw [lg_entry_eq]
  generalize (lg_sl ([.ref (a (6 + 4 * b)), .int (nI (k))]) ++ List.replicate (2 - (lg_sl ([.ref (a (6 + 4 * b)), .int (nI (k))])).length) Slot.unset).toArray = ls at hl ⊢
  have hl : lv_has ls 2 [(0, .ref (a (6 + 4 * b))), (1, .int (nI (k)))] := hl
  have hg := hχ (100 + b)
  refine lv_aload_n hx hb dX0_covers_0 rfl (lv_at hl 0 rfl) ?_
  refine va_get (D := D) (ci := 0) (v := .int (nI (χ (100 + b)))) (C := RX0) (T := TX0) (N := 5) hx hb hts hiX0 hown hK hP 0 rfl rfl 3 (by decide) (hts (.fieldLink RX0 21 "PairedCells$Block" "guardState" "I") (by decide +kernel)) (fun _ h9 => h9) rfl dX0_covers_1 ?_
  refine lv_iconst (v := nI 1) hx hb dX0_covers_4 (by decide) ?_
  refine xi_ne (tgt := 33) hx hb dX0_covers_5 (by decide) (nI_toInt (by omega)) (nI_toInt (by omega)) (fun c_5 => ?_) (fun c_5 => ?_)
  · refine lv_iconst (v := nI 0) hx hb dX0_covers_33 (by decide) ?_
    exact xe_z hx hb hr hlocks rfl (bo.zero (fun h => by obtain ⟨h1, h2, h3⟩ := h; unfold cov at h3; omega)) rfl rfl dX0_covers_34
  · refine lv_iload_n hx hb dX0_covers_8 rfl (lv_at hl 1 rfl) ?_
    refine lv_bipush (v := nI 8) hx hb dX0_covers_9 (by decide) ?_
    refine xi_ge (tgt := 33) hx hb dX0_covers_11 (by decide) (nI_toInt (by omega)) (nI_toInt (by omega)) (fun c_11 => ?_) (fun c_11 => ?_)
    · refine lv_iconst (v := nI 0) hx hb dX0_covers_33 (by decide) ?_
      exact xe_z hx hb hr hlocks rfl (bo.zero (fun h => by obtain ⟨h1, h2, h3⟩ := h; unfold cov at h3; omega)) rfl rfl dX0_covers_34
    · refine lv_aload_n hx hb dX0_covers_14 rfl (lv_at hl 0 rfl) ?_
      refine va_get (D := D) (ci := 0) (v := .ref (a (9 + 4 * b))) (C := RX0) (T := TX0) (N := 5) hx hb hts hiX0 hown hK hP 0 rfl rfl 2 (by decide) (hts (.fieldLink RX0 18 "PairedCells$Block" "guardBytes" "[I") (by decide +kernel)) (fun _ h9 => h9) rfl dX0_covers_15 ?_
      refine lv_bipush (v := nI 16) hx hb dX0_covers_18 (by decide) ?_
      refine xr_iald hx hb hK hP 3 0 rfl rfl (by omega) (by decide) dX0_covers_20 ?_
      have hb_20 := hχ (200 + 17 * b + 16)
      refine lv_iload_n hx hb dX0_covers_21 rfl (lv_at hl 1 rfl) ?_
      refine xr_shr hx hb (by omega) (by omega) dX0_covers_22 ?_
      refine lv_iconst (v := nI 1) hx hb dX0_covers_23 (by decide) ?_
      refine xr_and1 hx hb (Nat.lt_of_le_of_lt (Nat.div_le_self _ _) (by omega)) dX0_covers_24 ?_
      refine lv_iconst (v := nI 1) hx hb dX0_covers_25 (by decide) ?_
      refine xi_ne (tgt := 33) hx hb dX0_covers_26 (by decide) (nI_toInt (by omega)) (nI_toInt (by omega)) (fun c_26 => ?_) (fun c_26 => ?_)
      · refine lv_iconst (v := nI 0) hx hb dX0_covers_33 (by decide) ?_
        exact xe_z hx hb hr hlocks rfl (bo.zero (fun h => by obtain ⟨h1, h2, h3⟩ := h; unfold cov at h3; omega)) rfl rfl dX0_covers_34
      · refine lv_iconst (v := nI 1) hx hb dX0_covers_29 (by decide) ?_
        refine lv_goto (tgt := 34) hx hb dX0_covers_30 (by decide) ?_
        exact xe_z hx hb hr hlocks rfl (bo.one ⟨by omega, by omega, by unfold cov; omega⟩) rfl rfl dX0_covers_34

set_option maxHeartbeats 4000000 in
set_option maxRecDepth 100000 in
theorem c_X0_isRebuilt (l : Launch) (D : va_G) {cI cB : ClassId} (a χ : Nat → Nat) (b : Nat) (hb6 : b < 6) (hχ : ∀ i, χ i < 65536) (k : Nat) (hk : k < 16) : Met l yX0_isRebuilt wsX0_isRebuilt ({ frames := 1, cells := 0, slots := 0, locals := 21 }) (va_Pc [.ref (a (6 + 4 * b)), .int (nI (k))] (x_R D (tyP cI cB) (wB cI a χ b))) (vp_Si (fun r => bo r (reb χ b k))) 0 0 (fun _ => False) := by
  refine Met.ofW (cc := cX0_isRebuilt) (maxL := 3) (ret := (some .boolean)) (by decide) rfl ?_
  intro p e s m args below meth c s₁ B hml hv
  obtain ⟨rfl, hN, hP, hK⟩ := hv
  have hx := B.exec
  have hb := B.bytes
  have hr := B.returns
  have hts := atoms_spec (ws := wsX0_isRebuilt) B.pre
  have hown : s.vm.findClass RX0 = some m.cls := findClass_of_methodNamed B.named
  have hlocks := B.notSynchronized
  have hiX0 : ∀ w ∈ u_ws RX0 TX0 5, w ∈ wsX0_isRebuilt := by decide +kernel
  have hl := lv_entry ([.ref (a (6 + 4 * b)), .int (nI (k))]) (n := 3) (Nat.le_of_ble_eq_true rfl)
  rw [lg_entry_eq]
  generalize (lg_sl ([.ref (a (6 + 4 * b)), .int (nI (k))]) ++ List.replicate (3 - (lg_sl ([.ref (a (6 + 4 * b)), .int (nI (k))])).length) Slot.unset).toArray = ls at hl ⊢
  have hl : lv_has ls 3 [(0, .ref (a (6 + 4 * b))), (1, .int (nI (k)))] := hl
  refine lv_aload_n hx hb dX0_isRebuilt_0 rfl (lv_at hl 0 rfl) ?_
  refine va_get (D := D) (ci := 0) (v := .ref (a (7 + 4 * b))) (C := RX0) (T := TX0) (N := 5) hx hb hts hiX0 hown hK hP 0 rfl rfl 0 (by decide) (hts (.fieldLink RX0 9 "PairedCells$Block" "states" "[I") (by decide +kernel)) (fun _ h9 => h9) rfl dX0_isRebuilt_1 ?_
  refine lv_iload_n hx hb dX0_isRebuilt_4 rfl (lv_at hl 1 rfl) ?_
  refine xr_iald hx hb hK hP 1 0 rfl rfl (by omega) (by decide) dX0_isRebuilt_5 ?_
  have hb_5 := hχ (16 * b + k)
  refine lv_iconst (v := nI 2) hx hb dX0_isRebuilt_6 (by decide) ?_
  refine xi_ne (tgt := 18) hx hb dX0_isRebuilt_7 (by decide) (nI_toInt (by omega)) (nI_toInt (by omega)) (fun c_7 => ?_) (fun c_7 => ?_)
  · refine lv_iconst (v := nI 0) hx hb dX0_isRebuilt_18 (by decide) ?_
    exact xe_z hx hb hr hlocks rfl (bo.zero (fun h => by first | exact h_15 h.2.1 | (have h9 := h.1; omega))) rfl rfl dX0_isRebuilt_19
  · refine lv_aload_n hx hb dX0_isRebuilt_10 rfl (lv_at hl 0 rfl) ?_
    refine lv_iload_n hx hb dX0_isRebuilt_11 rfl (lv_at hl 1 rfl) ?_
    refine xc_Vi (ci := 0) (rest := []) (As := [.int (nI (k))]) ⟨hx, hb, hml, hown, hts⟩ (c_X0_covers l D a χ b hb6 hχ (k) (hk)) (cwV 1 hts gX0_isRebuilt_X0_covers rfl rfl rfl (by decide +kernel) ⟨Nat.le_of_ble_eq_true rfl, Nat.le_of_ble_eq_true rfl⟩) hN hK (hP) rfl 0 rfl rfl hl.1 rfl (Nat.le_of_ble_eq_true rfl) dX0_isRebuilt_12 ⟨Nat.le_of_ble_eq_true rfl, Nat.le_of_ble_eq_true rfl⟩ (fun r_12 hw_12 => ?_)
    refine xz_ne (tgt := 20) hx hb dX0_isRebuilt_15 (by decide) rfl (fun c_15 => ?_) (fun c_15 => ?_)
    · have h_15 := bo.t hw_12 c_15
      refine lv_iconst (v := nI 0) hx hb dX0_isRebuilt_20 (by decide) ?_
      refine lv_istore_n (lv' := [(2, .int (nI (0))), (0, .ref (a (6 + 4 * b))), (1, .int (nI (k)))]) hx hb dX0_isRebuilt_21 rfl hl (by decide) rfl (fun ls hl => ?_)
      refine lpR (α := Nat) (fun j => j ≤ 8 ∧ ∀ i, i < j → i ≠ k → cov χ b i → χ (16 * b + i) = 1) (fun j => [(0, .ref (a (6 + 4 * b))), (1, .int (nI (k))), (2, .int (nI (j)))]) 3 (fun j => 8 - j) 0 (⟨by omega, fun i hi => absurd hi (Nat.not_lt_zero i)⟩) (lv_sub hl [1, 2, 0] rfl) (fun s9 ls hI9 hl9 ih_22 => ?_)
      obtain ⟨j, rfl⟩ : ∃ z, z = s9 := ⟨_, rfl⟩
      have hl : lv_has ls 3 [(0, .ref (a (6 + 4 * b))), (1, .int (nI (k))), (2, .int (nI (j)))] := hl9
      obtain ⟨hj, hz⟩ : j ≤ 8 ∧ ∀ i, i < j → i ≠ k → cov χ b i → χ (16 * b + i) = 1 := hI9
      refine lv_iload_n hx hb dX0_isRebuilt_22 rfl (lv_at hl 2 rfl) ?_
      refine lv_bipush (v := nI 8) hx hb dX0_isRebuilt_23 (by decide) ?_
      refine xi_ge (tgt := 59) hx hb dX0_isRebuilt_25 (by decide) (nI_toInt (by omega)) (nI_toInt (by omega)) (fun c_25 => ?_) (fun c_25 => ?_)
      · refine lv_iconst (v := nI 1) hx hb dX0_isRebuilt_59 (by decide) ?_
        exact xe_z hx hb hr hlocks rfl (bo.one ⟨by omega, h_15, fun i hi hik hc => hz i (by omega) hik hc⟩) rfl rfl dX0_isRebuilt_60
      · refine lv_iload_n hx hb dX0_isRebuilt_28 rfl (lv_at hl 2 rfl) ?_
        refine lv_iload_n hx hb dX0_isRebuilt_29 rfl (lv_at hl 1 rfl) ?_
        refine xi_eq (tgt := 53) hx hb dX0_isRebuilt_30 (by decide) (nI_toInt (by omega)) (nI_toInt (by omega)) (fun c_30 => ?_) (fun c_30 => ?_)
        · refine lv_iinc (v := nI (j + 1)) (lv' := [(2, .int (nI (j + 1))), (0, .ref (a (6 + 4 * b))), (1, .int (nI (k)))]) hx hb dX0_isRebuilt_53 hl (k := 2) rfl (nI_add _ _) (by decide) rfl (fun ls hl => ?_)
          refine lv_goto (tgt := 22) hx hb dX0_isRebuilt_56 (by decide) ?_
          exact ih_22 (j + 1) _ (⟨by omega, fun i hi hik hc => by (rcases Nat.lt_succ_iff_lt_or_eq.mp hi with h | h); exact hz i h hik hc; (subst h; first | omega | exact absurd ⟨h_15.1, by omega, hc⟩ h_38)⟩) (by first | omega | (dsimp only; omega)) (lv_sub hl [1, 2, 0] rfl)
        · refine lv_aload_n hx hb dX0_isRebuilt_33 rfl (lv_at hl 0 rfl) ?_
          refine lv_iload_n hx hb dX0_isRebuilt_34 rfl (lv_at hl 2 rfl) ?_
          refine xc_Vi (ci := 0) (rest := []) (As := [.int (nI (j))]) ⟨hx, hb, hml, hown, hts⟩ (c_X0_covers l D a χ b hb6 hχ (j) (by omega)) (cwV 1 hts gX0_isRebuilt_X0_covers rfl rfl rfl (by decide +kernel) ⟨Nat.le_of_ble_eq_true rfl, Nat.le_of_ble_eq_true rfl⟩) hN hK (hP) rfl 0 rfl rfl hl.1 rfl (Nat.le_of_ble_eq_true rfl) dX0_isRebuilt_35 ⟨Nat.le_of_ble_eq_true rfl, Nat.le_of_ble_eq_true rfl⟩ (fun r_35 hw_35 => ?_)
          refine xz_eq (tgt := 53) hx hb dX0_isRebuilt_38 (by decide) rfl (fun c_38 => ?_) (fun c_38 => ?_)
          · have h_38 := bo.f hw_35 c_38
            refine lv_iinc (v := nI (j + 1)) (lv' := [(2, .int (nI (j + 1))), (0, .ref (a (6 + 4 * b))), (1, .int (nI (k)))]) hx hb dX0_isRebuilt_53 hl (k := 2) rfl (nI_add _ _) (by decide) rfl (fun ls hl => ?_)
            refine lv_goto (tgt := 22) hx hb dX0_isRebuilt_56 (by decide) ?_
            exact ih_22 (j + 1) _ (⟨by omega, fun i hi hik hc => by (rcases Nat.lt_succ_iff_lt_or_eq.mp hi with h | h); exact hz i h hik hc; (subst h; first | omega | exact absurd ⟨h_15.1, by omega, hc⟩ h_38)⟩) (by first | omega | (dsimp only; omega)) (lv_sub hl [1, 2, 0] rfl)
          · have h_38 := bo.t hw_35 c_38
            refine lv_aload_n hx hb dX0_isRebuilt_41 rfl (lv_at hl 0 rfl) ?_
            refine va_get (D := D) (ci := 0) (v := .ref (a (7 + 4 * b))) (C := RX0) (T := TX0) (N := 5) hx hb hts hiX0 hown hK hP 0 rfl rfl 0 (by decide) (hts (.fieldLink RX0 9 "PairedCells$Block" "states" "[I") (by decide +kernel)) (fun _ h9 => h9) rfl dX0_isRebuilt_42 ?_
            refine lv_iload_n hx hb dX0_isRebuilt_45 rfl (lv_at hl 2 rfl) ?_
            refine xr_iald hx hb hK hP 1 0 rfl rfl (by omega) (by decide) dX0_isRebuilt_46 ?_
            have hb_46 := hχ (16 * b + j)
            refine lv_iconst (v := nI 1) hx hb dX0_isRebuilt_47 (by decide) ?_
            refine xi_eq (tgt := 53) hx hb dX0_isRebuilt_48 (by decide) (nI_toInt (by omega)) (nI_toInt (by omega)) (fun c_48 => ?_) (fun c_48 => ?_)
            · refine lv_iinc (v := nI (j + 1)) (lv' := [(2, .int (nI (j + 1))), (0, .ref (a (6 + 4 * b))), (1, .int (nI (k)))]) hx hb dX0_isRebuilt_53 hl (k := 2) rfl (nI_add _ _) (by decide) rfl (fun ls hl => ?_)
              refine lv_goto (tgt := 22) hx hb dX0_isRebuilt_56 (by decide) ?_
              exact ih_22 (j + 1) _ (⟨by omega, fun i hi hik hc => by (rcases Nat.lt_succ_iff_lt_or_eq.mp hi with h | h); exact hz i h hik hc; (subst h; first | omega | exact absurd ⟨h_15.1, by omega, hc⟩ h_38)⟩) (by first | omega | (dsimp only; omega)) (lv_sub hl [1, 2, 0] rfl)
            · refine lv_iconst (v := nI 0) hx hb dX0_isRebuilt_51 (by decide) ?_
              exact xe_z hx hb hr hlocks rfl (bo.zero (fun h => by have h9 := h.2.2 j (by omega) (by omega) h_38.2.2; omega)) rfl rfl dX0_isRebuilt_52
    · have h_15 := bo.f hw_12 c_15
      refine lv_iconst (v := nI 0) hx hb dX0_isRebuilt_18 (by decide) ?_
      exact xe_z hx hb hr hlocks rfl (bo.zero (fun h => by first | exact h_15 h.2.1 | (have h9 := h.1; omega))) rfl rfl dX0_isRebuilt_19

set_option maxHeartbeats 4000000 in
set_option maxRecDepth 100000 in
theorem c_X0_isReadable (l : Launch) (D : va_G) {cI cB : ClassId} (a χ : Nat → Nat) (b : Nat) (hb6 : b < 6) (hχ : ∀ i, χ i < 65536) (k : Nat) (hk : k < 16) : Met l yX0_isReadable wsX0_isReadable ({ frames := 2, cells := 0, slots := 0, locals := 43 }) (va_Pc [.ref (a (6 + 4 * b)), .int (nI (k))] (x_R D (tyP cI cB) (wB cI a χ b))) (vp_Si (fun r => bo r (rdb χ b k))) 0 0 (fun _ => False) := by
  refine Met.ofW (cc := cX0_isReadable) (maxL := 2) (ret := (some .boolean)) (by decide) rfl ?_
  intro p e s m args below meth c s₁ B hml hv
  obtain ⟨rfl, hN, hP, hK⟩ := hv
  have hx := B.exec
  have hb := B.bytes
  have hr := B.returns
  have hts := atoms_spec (ws := wsX0_isReadable) B.pre
  have hown : s.vm.findClass RX0 = some m.cls := findClass_of_methodNamed B.named
  have hlocks := B.notSynchronized
  have hiX0 : ∀ w ∈ u_ws RX0 TX0 5, w ∈ wsX0_isReadable := by decide +kernel
  have hl := lv_entry ([.ref (a (6 + 4 * b)), .int (nI (k))]) (n := 2) (Nat.le_of_ble_eq_true rfl)
  rw [lg_entry_eq]
  generalize (lg_sl ([.ref (a (6 + 4 * b)), .int (nI (k))]) ++ List.replicate (2 - (lg_sl ([.ref (a (6 + 4 * b)), .int (nI (k))])).length) Slot.unset).toArray = ls at hl ⊢
  have hl : lv_has ls 2 [(0, .ref (a (6 + 4 * b))), (1, .int (nI (k)))] := hl
  refine lv_aload_n hx hb dX0_isReadable_0 rfl (lv_at hl 0 rfl) ?_
  refine va_get (D := D) (ci := 0) (v := .ref (a (7 + 4 * b))) (C := RX0) (T := TX0) (N := 5) hx hb hts hiX0 hown hK hP 0 rfl rfl 0 (by decide) (hts (.fieldLink RX0 9 "PairedCells$Block" "states" "[I") (by decide +kernel)) (fun _ h9 => h9) rfl dX0_isReadable_1 ?_
  refine lv_iload_n hx hb dX0_isReadable_4 rfl (lv_at hl 1 rfl) ?_
  refine xr_iald hx hb hK hP 1 0 rfl rfl (by omega) (by decide) dX0_isReadable_5 ?_
  have hb_5 := hχ (16 * b + k)
  refine lv_iconst (v := nI 1) hx hb dX0_isReadable_6 (by decide) ?_
  refine xi_eq (tgt := 18) hx hb dX0_isReadable_7 (by decide) (nI_toInt (by omega)) (nI_toInt (by omega)) (fun c_7 => ?_) (fun c_7 => ?_)
  · refine lv_iconst (v := nI 1) hx hb dX0_isReadable_18 (by decide) ?_
    refine lv_goto (tgt := 23) hx hb dX0_isReadable_19 (by decide) ?_
    exact xe_z hx hb hr hlocks rfl (bo.one (by first | exact Or.inr h_15 | exact Or.inl (by omega))) rfl rfl dX0_isReadable_23
  · refine lv_aload_n hx hb dX0_isReadable_10 rfl (lv_at hl 0 rfl) ?_
    refine lv_iload_n hx hb dX0_isReadable_11 rfl (lv_at hl 1 rfl) ?_
    refine xc_Vi (ci := 0) (rest := []) (As := [.int (nI (k))]) ⟨hx, hb, hml, hown, hts⟩ (c_X0_isRebuilt l D a χ b hb6 hχ k hk) (cwV 1 hts gX0_isReadable_X0_isRebuilt rfl rfl rfl (by decide +kernel) ⟨Nat.le_of_ble_eq_true rfl, Nat.le_of_ble_eq_true rfl⟩) hN hK (hP) rfl 0 rfl rfl hl.1 rfl (Nat.le_of_ble_eq_true rfl) dX0_isReadable_12 ⟨Nat.le_of_ble_eq_true rfl, Nat.le_of_ble_eq_true rfl⟩ (fun r_12 hw_12 => ?_)
    refine xz_eq (tgt := 22) hx hb dX0_isReadable_15 (by decide) rfl (fun c_15 => ?_) (fun c_15 => ?_)
    · have h_15 := bo.f hw_12 c_15
      refine lv_iconst (v := nI 0) hx hb dX0_isReadable_22 (by decide) ?_
      exact xe_z hx hb hr hlocks rfl (bo.zero (fun h => h.elim (fun h => by omega) h_15)) rfl rfl dX0_isReadable_23
    · have h_15 := bo.t hw_12 c_15
      refine lv_iconst (v := nI 1) hx hb dX0_isReadable_18 (by decide) ?_
      refine lv_goto (tgt := 23) hx hb dX0_isReadable_19 (by decide) ?_
      exact xe_z hx hb hr hlocks rfl (bo.one (by first | exact Or.inr h_15 | exact Or.inl (by omega))) rfl rfl dX0_isReadable_23

set_option maxHeartbeats 4000000 in
set_option maxRecDepth 100000 in
theorem c_X0_stateAt (l : Launch) (D : va_G) {cI cB : ClassId} (a χ : Nat → Nat) (b : Nat) (hb6 : b < 6) (hχ : ∀ i, χ i < 65536) (k : Nat) (hk : k < 16) : Met l yX0_stateAt wsX0_stateAt ({ frames := 2, cells := 0, slots := 0, locals := 43 }) (va_Pc [.ref (a (6 + 4 * b)), .int (nI (k))] (x_R D (tyP cI cB) (wB cI a χ b))) (vp_Si (fun r => (reb χ b k ∧ r = nI 3) ∨ (¬ reb χ b k ∧ r = nI (χ (16 * b + k))))) 0 0 (fun _ => False) := by
  refine Met.ofW (cc := cX0_stateAt) (maxL := 2) (ret := (some .int)) (by decide) rfl ?_
  intro p e s m args below meth c s₁ B hml hv
  obtain ⟨rfl, hN, hP, hK⟩ := hv
  have hx := B.exec
  have hb := B.bytes
  have hr := B.returns
  have hts := atoms_spec (ws := wsX0_stateAt) B.pre
  have hown : s.vm.findClass RX0 = some m.cls := findClass_of_methodNamed B.named
  have hlocks := B.notSynchronized
  have hiX0 : ∀ w ∈ u_ws RX0 TX0 5, w ∈ wsX0_stateAt := by decide +kernel
  have hl := lv_entry ([.ref (a (6 + 4 * b)), .int (nI (k))]) (n := 2) (Nat.le_of_ble_eq_true rfl)
  rw [lg_entry_eq]
  generalize (lg_sl ([.ref (a (6 + 4 * b)), .int (nI (k))]) ++ List.replicate (2 - (lg_sl ([.ref (a (6 + 4 * b)), .int (nI (k))])).length) Slot.unset).toArray = ls at hl ⊢
  have hl : lv_has ls 2 [(0, .ref (a (6 + 4 * b))), (1, .int (nI (k)))] := hl
  refine lv_aload_n hx hb dX0_stateAt_0 rfl (lv_at hl 0 rfl) ?_
  refine lv_iload_n hx hb dX0_stateAt_1 rfl (lv_at hl 1 rfl) ?_
  refine xc_Vi (ci := 0) (rest := []) (As := [.int (nI (k))]) ⟨hx, hb, hml, hown, hts⟩ (c_X0_isRebuilt l D a χ b hb6 hχ k hk) (cwV 1 hts gX0_stateAt_X0_isRebuilt rfl rfl rfl (by decide +kernel) ⟨Nat.le_of_ble_eq_true rfl, Nat.le_of_ble_eq_true rfl⟩) hN hK (hP) rfl 0 rfl rfl hl.1 rfl (Nat.le_of_ble_eq_true rfl) dX0_stateAt_2 ⟨Nat.le_of_ble_eq_true rfl, Nat.le_of_ble_eq_true rfl⟩ (fun r_2 hw_2 => ?_)
  refine xz_eq (tgt := 12) hx hb dX0_stateAt_5 (by decide) rfl (fun c_5 => ?_) (fun c_5 => ?_)
  · have h_5 := bo.f hw_2 c_5
    refine lv_aload_n hx hb dX0_stateAt_12 rfl (lv_at hl 0 rfl) ?_
    refine va_get (D := D) (ci := 0) (v := .ref (a (7 + 4 * b))) (C := RX0) (T := TX0) (N := 5) hx hb hts hiX0 hown hK hP 0 rfl rfl 0 (by decide) (hts (.fieldLink RX0 9 "PairedCells$Block" "states" "[I") (by decide +kernel)) (fun _ h9 => h9) rfl dX0_stateAt_13 ?_
    refine lv_iload_n hx hb dX0_stateAt_16 rfl (lv_at hl 1 rfl) ?_
    refine xr_iald hx hb hK hP 1 0 rfl rfl (by omega) (by decide) dX0_stateAt_17 ?_
    have hb_17 := hχ (16 * b + k)
    exact xe_i hx hb hr hlocks (Or.inr ⟨h_5, rfl⟩) rfl rfl dX0_stateAt_18
  · have h_5 := bo.t hw_2 c_5
    refine lv_iconst (v := nI 3) hx hb dX0_stateAt_8 (by decide) ?_
    refine lv_goto (tgt := 18) hx hb dX0_stateAt_9 (by decide) ?_
    exact xe_i hx hb hr hlocks (Or.inl ⟨h_5, rfl⟩) rfl rfl dX0_stateAt_18

set_option maxHeartbeats 4000000 in
set_option maxRecDepth 100000 in
theorem c_X0_byteAt (l : Launch) (D : va_G) {cI cB : ClassId} (a χ : Nat → Nat) (b : Nat) (hb6 : b < 6) (hχ : ∀ i, χ i < 65536) (k : Nat) (hk : k < 16) (i : Nat) (hi : i < 16) (hrd : rdb χ b k) : Met l yX0_byteAt wsX0_byteAt ({ frames := 1, cells := 0, slots := 0, locals := 21 }) (va_Pc [.ref (a (6 + 4 * b)), .int (nI (k)), .int (nI (i))] (x_R D (tyP cI cB) (wB cI a χ b))) (vp_Si (fun r => r = nI (byt χ b k i))) 0 0 (fun _ => False) := by
  refine Met.ofW (cc := cX0_byteAt) (maxL := 5) (ret := (some .int)) (by decide) rfl ?_
  intro p e s m args below meth c s₁ B hml hv
  obtain ⟨rfl, hN, hP, hK⟩ := hv
  have hx := B.exec
  have hb := B.bytes
  have hr := B.returns
  have hts := atoms_spec (ws := wsX0_byteAt) B.pre
  have hown : s.vm.findClass RX0 = some m.cls := findClass_of_methodNamed B.named
  have hlocks := B.notSynchronized
  have hiX0 : ∀ w ∈ u_ws RX0 TX0 5, w ∈ wsX0_byteAt := by decide +kernel
  have hl := lv_entry ([.ref (a (6 + 4 * b)), .int (nI (k)), .int (nI (i))]) (n := 5) (Nat.le_of_ble_eq_true rfl)
  rw [lg_entry_eq]
  generalize (lg_sl ([.ref (a (6 + 4 * b)), .int (nI (k)), .int (nI (i))]) ++ List.replicate (5 - (lg_sl ([.ref (a (6 + 4 * b)), .int (nI (k)), .int (nI (i))])).length) Slot.unset).toArray = ls at hl ⊢
  have hl : lv_has ls 5 [(0, .ref (a (6 + 4 * b))), (1, .int (nI (k))), (2, .int (nI (i)))] := hl
  refine lv_aload_n hx hb dX0_byteAt_0 rfl (lv_at hl 0 rfl) ?_
  refine va_get (D := D) (ci := 0) (v := .ref (a (7 + 4 * b))) (C := RX0) (T := TX0) (N := 5) hx hb hts hiX0 hown hK hP 0 rfl rfl 0 (by decide) (hts (.fieldLink RX0 9 "PairedCells$Block" "states" "[I") (by decide +kernel)) (fun _ h9 => h9) rfl dX0_byteAt_1 ?_
  refine lv_iload_n hx hb dX0_byteAt_4 rfl (lv_at hl 1 rfl) ?_
  refine xr_iald hx hb hK hP 1 0 rfl rfl (by omega) (by decide) dX0_byteAt_5 ?_
  have hb_5 := hχ (16 * b + k)
  refine lv_iconst (v := nI 1) hx hb dX0_byteAt_6 (by decide) ?_
  refine xi_ne (tgt := 22) hx hb dX0_byteAt_7 (by decide) (nI_toInt (by omega)) (nI_toInt (by omega)) (fun c_7 => ?_) (fun c_7 => ?_)
  · have hre : reb χ b k := hrd.resolve_left (by omega)
    refine lv_aload_n hx hb dX0_byteAt_22 rfl (lv_at hl 0 rfl) ?_
    refine va_get (D := D) (ci := 0) (v := .ref (a (9 + 4 * b))) (C := RX0) (T := TX0) (N := 5) hx hb hts hiX0 hown hK hP 0 rfl rfl 2 (by decide) (hts (.fieldLink RX0 18 "PairedCells$Block" "guardBytes" "[I") (by decide +kernel)) (fun _ h9 => h9) rfl dX0_byteAt_23 ?_
    refine lv_iload_n hx hb dX0_byteAt_26 rfl (lv_at hl 2 rfl) ?_
    refine xr_iald hx hb hK hP 3 0 rfl rfl (by omega) (by decide) dX0_byteAt_27 ?_
    have hb_27 := hχ (200 + 17 * b + i)
    refine lv_istore_n (lv' := [(3, .int (nI (χ (200 + 17 * b + i)))), (0, .ref (a (6 + 4 * b))), (1, .int (nI (k))), (2, .int (nI (i)))]) hx hb dX0_byteAt_28 rfl hl (by decide) rfl (fun ls hl => ?_)
    refine lv_iconst (v := nI 0) hx hb dX0_byteAt_29 (by decide) ?_
    refine lv_istore (lv' := [(4, .int (nI (0))), (3, .int (nI (χ (200 + 17 * b + i)))), (0, .ref (a (6 + 4 * b))), (1, .int (nI (k))), (2, .int (nI (i)))]) hx hb dX0_byteAt_30 hl (by decide) rfl (fun ls hl => ?_)
    refine lpR (α := Nat) (fun j => j ≤ 8) (fun j => [(0, .ref (a (6 + 4 * b))), (1, .int (nI (k))), (2, .int (nI (i))), (3, .int (nI (xfo χ b k i j))), (4, .int (nI (j)))]) 5 (fun j => 8 - j) 0 (by omega) (lv_sub hl [2, 3, 4, 1, 0] rfl) (fun s9 ls hI9 hl9 ih_32 => ?_)
    obtain ⟨j, rfl⟩ : ∃ z, z = s9 := ⟨_, rfl⟩
    have hl : lv_has ls 5 [(0, .ref (a (6 + 4 * b))), (1, .int (nI (k))), (2, .int (nI (i))), (3, .int (nI (xfo χ b k i j))), (4, .int (nI (j)))] := hl9
    obtain hj : j ≤ 8 := hI9
    refine lv_iload hx hb dX0_byteAt_32 (lv_at hl 4 rfl) ?_
    refine lv_bipush (v := nI 8) hx hb dX0_byteAt_34 (by decide) ?_
    refine xi_ge (tgt := 75) hx hb dX0_byteAt_36 (by decide) (nI_toInt (by omega)) (nI_toInt (by omega)) (fun c_36 => ?_) (fun c_36 => ?_)
    · refine lv_iload_n hx hb dX0_byteAt_75 rfl (lv_at hl 3 rfl) ?_
      exact xe_i hx hb hr hlocks (by rw [show j = 8 by omega]; unfold byt; rw [if_neg (show ¬ χ (16 * b + k) = 1 by omega)]) rfl rfl dX0_byteAt_76
    · refine lv_iload hx hb dX0_byteAt_39 (lv_at hl 4 rfl) ?_
      refine lv_iload_n hx hb dX0_byteAt_41 rfl (lv_at hl 1 rfl) ?_
      refine xi_eq (tgt := 69) hx hb dX0_byteAt_42 (by decide) (nI_toInt (by omega)) (nI_toInt (by omega)) (fun c_42 => ?_) (fun c_42 => ?_)
      · refine lv_iinc (v := nI (j + 1)) (lv' := [(4, .int (nI (j + 1))), (0, .ref (a (6 + 4 * b))), (1, .int (nI (k))), (2, .int (nI (i))), (3, .int (nI (xfo χ b k i j)))]) hx hb dX0_byteAt_69 hl (k := 4) rfl (nI_add _ _) (by decide) rfl (fun ls hl => ?_)
        refine lv_goto (tgt := 32) hx hb dX0_byteAt_72 (by decide) ?_
        have e9 : xfo χ b k i j = xfo χ b k i (j + 1) := by first | rw [xfo_out (fun h => h.1 (by omega))] | rw [xfo_out (fun h => h_51 ⟨hre.2.1.1, by omega, h.2⟩)]
        rw [e9] at hl
        exact ih_32 (j + 1) _ (by omega) (by first | omega | (dsimp only; omega)) (lv_sub hl [1, 2, 3, 4, 0] rfl)
      · refine lv_aload_n hx hb dX0_byteAt_45 rfl (lv_at hl 0 rfl) ?_
        refine lv_iload hx hb dX0_byteAt_46 (lv_at hl 4 rfl) ?_
        refine xc_Vi (ci := 0) (rest := []) (As := [.int (nI (j))]) ⟨hx, hb, hml, hown, hts⟩ (c_X0_covers l D a χ b hb6 hχ (j) (by omega)) (cwV 1 hts gX0_byteAt_X0_covers rfl rfl rfl (by decide +kernel) ⟨Nat.le_of_ble_eq_true rfl, Nat.le_of_ble_eq_true rfl⟩) hN hK (hP) rfl 0 rfl rfl hl.1 rfl (Nat.le_of_ble_eq_true rfl) dX0_byteAt_48 ⟨Nat.le_of_ble_eq_true rfl, Nat.le_of_ble_eq_true rfl⟩ (fun r_48 hw_48 => ?_)
        refine xz_eq (tgt := 69) hx hb dX0_byteAt_51 (by decide) rfl (fun c_51 => ?_) (fun c_51 => ?_)
        · have h_51 := bo.f hw_48 c_51
          refine lv_iinc (v := nI (j + 1)) (lv' := [(4, .int (nI (j + 1))), (0, .ref (a (6 + 4 * b))), (1, .int (nI (k))), (2, .int (nI (i))), (3, .int (nI (xfo χ b k i j)))]) hx hb dX0_byteAt_69 hl (k := 4) rfl (nI_add _ _) (by decide) rfl (fun ls hl => ?_)
          refine lv_goto (tgt := 32) hx hb dX0_byteAt_72 (by decide) ?_
          have e9 : xfo χ b k i j = xfo χ b k i (j + 1) := by first | rw [xfo_out (fun h => h.1 (by omega))] | rw [xfo_out (fun h => h_51 ⟨hre.2.1.1, by omega, h.2⟩)]
          rw [e9] at hl
          exact ih_32 (j + 1) _ (by omega) (by first | omega | (dsimp only; omega)) (lv_sub hl [1, 2, 3, 4, 0] rfl)
        · have h_51 := bo.t hw_48 c_51
          refine lv_iload_n hx hb dX0_byteAt_54 rfl (lv_at hl 3 rfl) ?_
          refine lv_aload_n hx hb dX0_byteAt_55 rfl (lv_at hl 0 rfl) ?_
          refine va_get (D := D) (ci := 0) (v := .ref (a (8 + 4 * b))) (C := RX0) (T := TX0) (N := 5) hx hb hts hiX0 hown hK hP 0 rfl rfl 1 (by decide) (hts (.fieldLink RX0 15 "PairedCells$Block" "bytes" "[I") (by decide +kernel)) (fun _ h9 => h9) rfl dX0_byteAt_56 ?_
          refine lv_iload hx hb dX0_byteAt_59 (lv_at hl 4 rfl) ?_
          refine lv_bipush (v := nI 16) hx hb dX0_byteAt_61 (by decide) ?_
          refine xr_mul hx hb dX0_byteAt_63 ?_
          refine lv_iload_n hx hb dX0_byteAt_64 rfl (lv_at hl 2 rfl) ?_
          refine xr_add hx hb dX0_byteAt_65 ?_
          refine xr_iald hx hb hK hP 2 0 rfl rfl (by omega) (by decide) dX0_byteAt_66 ?_
          have hb_66 := hχ (1000 + 256 * b + (j * 16 + i))
          refine xr_xor hx hb dX0_byteAt_67 ?_
          refine lv_istore_n (lv' := [(3, .int (nI ((xfo χ b k i j) ^^^ (χ (1000 + 256 * b + (j * 16 + i)))))), (0, .ref (a (6 + 4 * b))), (1, .int (nI (k))), (2, .int (nI (i))), (4, .int (nI (j)))]) hx hb dX0_byteAt_68 rfl hl (by decide) rfl (fun ls hl => ?_)
          refine lv_iinc (v := nI (j + 1)) (lv' := [(4, .int (nI (j + 1))), (3, .int (nI ((xfo χ b k i j) ^^^ (χ (1000 + 256 * b + (j * 16 + i)))))), (0, .ref (a (6 + 4 * b))), (1, .int (nI (k))), (2, .int (nI (i)))]) hx hb dX0_byteAt_69 hl (k := 4) rfl (nI_add _ _) (by decide) rfl (fun ls hl => ?_)
          refine lv_goto (tgt := 32) hx hb dX0_byteAt_72 (by decide) ?_
          have e9 : (xfo χ b k i j) ^^^ (χ (1000 + 256 * b + (j * 16 + i))) = xfo χ b k i (j + 1) := by rw [xfo_in ⟨by omega, h_51.2.2⟩, show 16 * j + i = j * 16 + i by omega]
          rw [e9] at hl
          exact ih_32 (j + 1) _ (by omega) (by first | omega | (dsimp only; omega)) (lv_sub hl [2, 3, 4, 1, 0] rfl)
  · refine lv_aload_n hx hb dX0_byteAt_10 rfl (lv_at hl 0 rfl) ?_
    refine va_get (D := D) (ci := 0) (v := .ref (a (8 + 4 * b))) (C := RX0) (T := TX0) (N := 5) hx hb hts hiX0 hown hK hP 0 rfl rfl 1 (by decide) (hts (.fieldLink RX0 15 "PairedCells$Block" "bytes" "[I") (by decide +kernel)) (fun _ h9 => h9) rfl dX0_byteAt_11 ?_
    refine lv_iload_n hx hb dX0_byteAt_14 rfl (lv_at hl 1 rfl) ?_
    refine lv_bipush (v := nI 16) hx hb dX0_byteAt_15 (by decide) ?_
    refine xr_mul hx hb dX0_byteAt_17 ?_
    refine lv_iload_n hx hb dX0_byteAt_18 rfl (lv_at hl 2 rfl) ?_
    refine xr_add hx hb dX0_byteAt_19 ?_
    refine xr_iald hx hb hK hP 2 0 rfl rfl (by omega) (by decide) dX0_byteAt_20 ?_
    have hb_20 := hχ (1000 + 256 * b + (k * 16 + i))
    exact xe_i hx hb hr hlocks (by unfold byt; rw [if_pos (show χ (16 * b + k) = 1 by omega), show k * 16 + i = 16 * k + i by omega]) rfl rfl dX0_byteAt_21

/-- the guard page's row while line j is added: byte 16 is, the others are below i -/
def grI (χ : Nat → Nat) (b j i : Nat) : Nat → Nat := fun t => if t = 16 then gm χ b (j + 1) else if t < i then gx χ b t (j + 1) else if t < 16 then gx χ b t j else 0

theorem bX_ext {cI : ClassId} {a : Nat → Nat} {b : Nat} {S B G S' B' G' : Nat → Nat} {gs er gs' er' : Nat} (h1 : ∀ j, j < 16 → S j = S' j) (h2 : ∀ j, j < 256 → B j = B' j) (h3 : ∀ j, j < 17 → G j = G' j) (h4 : gs = gs') (h5 : er = er') : bX cI a b S B G gs er = bX cI a b S' B' G' gs' er' := by
  subst h4; subst h5
  simp only [bX, ar]
  rw [gd_congr h1, gd_congr h2, gd_congr h3]

set_option maxHeartbeats 4000000 in
set_option maxRecDepth 100000 in
theorem c_X0_writeGuard (l : Launch) (D : va_G) {cI cB : ClassId} (a χ : Nat → Nat) (b : Nat) (hb6 : b < 6) (hχ : ∀ i, χ i < 65536) (sz : Nat) : Met l yX0_writeGuard wsX0_writeGuard ({ frames := 1, cells := 0, slots := 0, locals := 23 }) (va_Pc [.ref (a (6 + 4 * b))] (x_U D (tyP cI cB) (wB cI a χ b) sz)) (va_Qv (fun (_ : Unit) => True) (fun u t => x_E D (tyP cI cB) (va_A (wB cI a χ b) sz) (wB cI a (wgd χ b) b) t) (va_A (wB cI a χ b) sz)) 0 0 (va_A (wB cI a χ b) sz) := by
  refine Met.ofW (cc := cX0_writeGuard) (maxL := 3) (ret := none) (by decide) rfl ?_
  intro p e s m args below meth c s₁ B hml hv
  obtain ⟨rfl, hsz, hN, hP, hK, hD0⟩ := hv
  have hx := B.exec
  have hb := B.bytes
  have hr := B.returns
  have hts := atoms_spec (ws := wsX0_writeGuard) B.pre
  have hown : s.vm.findClass RX0 = some m.cls := findClass_of_methodNamed B.named
  have hlocks := B.notSynchronized
  subst hsz
  have hD := hD0.self (sz := s.heap.size)
  generalize hAe : va_A (wB cI a χ b) s.heap.size = A at hD ⊢
  have hA : ∀ q : Nat, s.heap.size ≤ q → A q := fun q h => by rw [← hAe]; exact Or.inr h
  obtain ⟨H, hH⟩ : ∃ H : Heap, s.heap = H := ⟨_, rfl⟩
  obtain ⟨locs, hlo⟩ : ∃ L : List Loc, ([] : List Loc) = L := ⟨_, rfl⟩
  have hS : va_S A s.heap H locs := by rw [← hH, ← hlo]; exact va_S.rf
  have hP : va_P D vwCl (wB cI a χ b) H := hH ▸ hP
  rw [hH, hlo]
  have hiX0 : ∀ w ∈ u_ws RX0 TX0 5, w ∈ wsX0_writeGuard := by decide +kernel
  have hl := lv_entry ([.ref (a (6 + 4 * b))]) (n := 3) (Nat.le_of_ble_eq_true rfl)
  rw [lg_entry_eq]
  generalize (lg_sl ([.ref (a (6 + 4 * b))]) ++ List.replicate (3 - (lg_sl ([.ref (a (6 + 4 * b))])).length) Slot.unset).toArray = ls at hl ⊢
  have hl : lv_has ls 3 [(0, .ref (a (6 + 4 * b)))] := hl
  refine lv_aload_n hx hb dX0_writeGuard_0 rfl (lv_at hl 0 rfl) ?_
  refine va_get (D := D) (ci := 0) (v := .ref (a (9 + 4 * b))) (C := RX0) (T := TX0) (N := 5) hx hb hts hiX0 hown hK hP 0 rfl rfl 2 (by decide) (hts (.fieldLink RX0 18 "PairedCells$Block" "guardBytes" "[I") (by decide +kernel)) (fun _ h9 => h9) rfl dX0_writeGuard_1 ?_
  refine lv_iconst (v := nI 0) hx hb dX0_writeGuard_4 (by decide) ?_
  have hF9 := x_hF (hD.sub (ws' := [(a (9 + 4 * b), ar cI 17 (fun j => χ (200 + 17 * b + j)))]) [3] (by decide) rfl) hS hA
  refine xw_Sv (rest := []) (As := [.ref (a (9 + 4 * b)), .int (nI (0))]) ⟨hx, hb, hml, hown, hts⟩ (c_fill l D (a (9 + 4 * b)) 17 0 (fun j => χ (200 + 17 * b + j)) (by decide) H.size) (va_cwS 2 hts gX0_writeGuard_J7_fill_53178 rfl rfl rfl (by decide +kernel) ⟨Nat.le_of_ble_eq_true rfl, Nat.le_of_ble_eq_true rfl⟩) hN hK (hP.sub (ws' := [(a (9 + 4 * b), ar cI 17 (fun j => χ (200 + 17 * b + j)))]) [3] rfl) (hD.sub (ws' := [(a (9 + 4 * b), ar cI 17 (fun j => χ (200 + 17 * b + j)))]) [3] (by decide) rfl) hS hA rfl hl.1 rfl (Nat.le_of_ble_eq_true rfl) dX0_writeGuard_5 ⟨Nat.le_of_ble_eq_true rfl, Nat.le_of_ble_eq_true rfl⟩ (fun u_5 H1 locs hw_5 hP1 hD1 hDA hk9 hS => ?_)
  obtain ⟨hP, hD⟩ := va_join (wr := [(a (6 + 4 * b), .inr (0, [.ref (a (7 + 4 * b)), .ref (a (8 + 4 * b)), .ref (a (9 + 4 * b)), .int (nI (χ (100 + b))), .int (nI (χ (110 + b)))])), (a (7 + 4 * b), ar cI 16 (fun j => χ (16 * b + j))), (a (8 + 4 * b), ar cI 256 (fun j => χ (1000 + 256 * b + j)))]) hP hD [3] [0, 1, 2] rfl rfl (by decide) (by decide) hk9 hF9 hP1 hD1
  have hP := hP.sub (ws' := bX cI a b (fun j => χ (16 * b + j)) (fun j => χ (1000 + 256 * b + j)) (fun _ => 0) (χ (100 + b)) (χ (110 + b))) [0, 1, 2, 3] rfl
  have hD := hD.sub (ws' := bX cI a b (fun j => χ (16 * b + j)) (fun j => χ (1000 + 256 * b + j)) (fun _ => 0) (χ (100 + b)) (χ (110 + b))) [0, 1, 2, 3] (by decide) rfl
  generalize H1 = H at hP hS ⊢
  have hP : va_P D vwCl (bX cI a b (fun j => χ (16 * b + j)) (fun j => χ (1000 + 256 * b + j)) (fun _ => 0) (χ (100 + b)) (χ (110 + b))) H := hP
  have hD : va_D A (bX cI a b (fun j => χ (16 * b + j)) (fun j => χ (1000 + 256 * b + j)) (fun _ => 0) (χ (100 + b)) (χ (110 + b))) := hD
  refine lv_iconst (v := nI 0) hx hb dX0_writeGuard_8 (by decide) ?_
  refine lv_istore_n (lv' := [(1, .int (nI (0))), (0, .ref (a (6 + 4 * b)))]) hx hb dX0_writeGuard_9 rfl hl (by decide) rfl (fun ls hl => ?_)
  have hq9 : (bX cI a b (fun j => χ (16 * b + j)) (fun j => χ (1000 + 256 * b + j)) (fun _ => 0) (χ (100 + b)) (χ (110 + b)) : va_W) = bX cI a b (fun j => χ (16 * b + j)) (fun j => χ (1000 + 256 * b + j)) (gr χ b 0) (χ (100 + b)) (χ (110 + b)) := (bX_ext (fun _ _ => rfl) (fun _ _ => rfl) (fun t ht => by simp only [gr, gx, gm]; (repeat' split) <;> rfl) rfl rfl)
  refine lpW (α := Nat) (fun j H locs => (j ≤ 8) ∧ va_P D vwCl (bX cI a b (fun j => χ (16 * b + j)) (fun j => χ (1000 + 256 * b + j)) (gr χ b j) (χ (100 + b)) (χ (110 + b))) H ∧ va_D A (bX cI a b (fun j => χ (16 * b + j)) (fun j => χ (1000 + 256 * b + j)) (gr χ b j) (χ (100 + b)) (χ (110 + b))) ∧ va_S A s.heap H locs) (fun j => [(0, .ref (a (6 + 4 * b))), (1, .int (nI (j)))]) 3 (fun j => 8 - j) 0 (⟨by omega, va_P.eqw hq9 hP, va_D.eqw hq9 hD, hS⟩) (lv_sub hl [1, 0] rfl) (fun s9 H locs ls hI9 hl9 ih_10 => ?_)
  obtain ⟨j, rfl⟩ : ∃ z, z = s9 := ⟨_, rfl⟩
  have hl : lv_has ls 3 [(0, .ref (a (6 + 4 * b))), (1, .int (nI (j)))] := hl9
  obtain ⟨hj, hP, hD, hS⟩ : (j ≤ 8) ∧ va_P D vwCl (bX cI a b (fun j => χ (16 * b + j)) (fun j => χ (1000 + 256 * b + j)) (gr χ b j) (χ (100 + b)) (χ (110 + b))) H ∧ va_D A (bX cI a b (fun j => χ (16 * b + j)) (fun j => χ (1000 + 256 * b + j)) (gr χ b j) (χ (100 + b)) (χ (110 + b))) ∧ va_S A s.heap H locs := hI9
  refine lv_iload_n hx hb dX0_writeGuard_10 rfl (lv_at hl 1 rfl) ?_
  refine lv_bipush (v := nI 8) hx hb dX0_writeGuard_11 (by decide) ?_
  refine xi_ge (tgt := 79) hx hb dX0_writeGuard_13 (by decide) (nI_toInt (by omega)) (nI_toInt (by omega)) (fun c_13 => ?_) (fun c_13 => ?_)
  · refine lv_aload_n hx hb dX0_writeGuard_79 rfl (lv_at hl 0 rfl) ?_
    refine lv_iconst (v := nI 1) hx hb dX0_writeGuard_80 (by decide) ?_
    refine va_put (D := D) (ci := 0) (v := .int (nI (1))) (ty := .int) (C := RX0) (T := TX0) (N := 5) hx hb hts hiX0 tyX0 tyX0_ok nmX0 hown hK hP hD hS 0 rfl rfl 3 (by decide) (hts (.fieldLink RX0 21 "PairedCells$Block" "guardState" "I") (by decide +kernel)) (fun _ h9 => h9) rfl (by decide +kernel) rfl rfl (Nat.le_of_ble_eq_true rfl) dX0_writeGuard_81 (fun H locs hP hD hS => ?_)
    have hP : va_P D vwCl (bX cI a b (fun j => χ (16 * b + j)) (fun j => χ (1000 + 256 * b + j)) (gr χ b j) (1) (χ (110 + b))) H := hP
    have hD : va_D A (bX cI a b (fun j => χ (16 * b + j)) (fun j => χ (1000 + 256 * b + j)) (gr χ b j) (1) (χ (110 + b))) := hD
    have hq9 : (bX cI a b (fun j => χ (16 * b + j)) (fun j => χ (1000 + 256 * b + j)) (gr χ b j) (1) (χ (110 + b)) : va_W) = wB cI a (wgd χ b) b := (bX_eq (fun j9 hj9 => (by simp only [wgd]; (repeat' split) <;> first | rfl | omega | (exfalso; omega) | (congr 1; omega))) (fun j9 hj9 => (by simp only [wgd]; (repeat' split) <;> first | rfl | omega | (exfalso; omega) | (congr 1; omega))) (fun j9 hj9 => by rw [show j = 8 by omega]; simp only [wgd]; rw [if_neg (by omega), if_pos (by omega), show 200 + 17 * b + j9 - (200 + 17 * b) = j9 by omega]) (by simp only [wgd]; (repeat' split) <;> first | rfl | omega | (exfalso; omega) | (congr 1; omega)) (by simp only [wgd]; (repeat' split) <;> first | rfl | omega | (exfalso; omega) | (congr 1; omega)))
    exact xf_v (post := fun (_ : Unit) => True) (w1 := fun (_ : Unit) => wB cI a (wgd χ b) b) () hx hb hr hlocks (trivial) (va_P.eqw hq9 hP) hK (va_D.eqw hq9 hD) hS dX0_writeGuard_84
  · refine lv_aload_n hx hb dX0_writeGuard_16 rfl (lv_at hl 0 rfl) ?_
    refine va_get (D := D) (ci := 0) (v := .ref (a (7 + 4 * b))) (C := RX0) (T := TX0) (N := 5) hx hb hts hiX0 hown hK hP 0 rfl rfl 0 (by decide) (hts (.fieldLink RX0 9 "PairedCells$Block" "states" "[I") (by decide +kernel)) (fun _ h9 => h9) rfl dX0_writeGuard_17 ?_
    refine lv_iload_n hx hb dX0_writeGuard_20 rfl (lv_at hl 1 rfl) ?_
    refine xr_iald hx hb hK hP 1 0 rfl rfl (by omega) (by decide) dX0_writeGuard_21 ?_
    have hb_21 := hχ (16 * b + j)
    refine lv_iconst (v := nI 1) hx hb dX0_writeGuard_22 (by decide) ?_
    refine xi_ne (tgt := 73) hx hb dX0_writeGuard_23 (by decide) (nI_toInt (by omega)) (nI_toInt (by omega)) (fun c_23 => ?_) (fun c_23 => ?_)
    · refine lv_iinc (v := nI (j + 1)) (lv' := [(1, .int (nI (j + 1))), (0, .ref (a (6 + 4 * b)))]) hx hb dX0_writeGuard_73 hl (k := 1) rfl (nI_add _ _) (by decide) rfl (fun ls hl => ?_)
      refine lv_goto (tgt := 10) hx hb dX0_writeGuard_76 (by decide) ?_
      have hq9 : (bX cI a b (fun j => χ (16 * b + j)) (fun j => χ (1000 + 256 * b + j)) (gr χ b j) (χ (100 + b)) (χ (110 + b)) : va_W) = bX cI a b (fun j => χ (16 * b + j)) (fun j => χ (1000 + 256 * b + j)) (gr χ b (j + 1)) (χ (100 + b)) (χ (110 + b)) := (bX_ext (fun _ _ => rfl) (fun _ _ => rfl) (fun t ht => by first | (simp only [gr, gx, gm, if_neg (show ¬ χ (16 * b + j) = 1 by omega)]) | (simp only [grI, gr]; (repeat' split) <;> first | rfl | omega | (exfalso; omega))) rfl rfl)
      exact ih_10 (j + 1) _ _ _ (⟨by omega, va_P.eqw hq9 hP, va_D.eqw hq9 hD, hS⟩) (by first | omega | (dsimp only; omega)) (lv_sub hl [1, 0] rfl)
    · refine lv_aload_n hx hb dX0_writeGuard_26 rfl (lv_at hl 0 rfl) ?_
      refine va_get (D := D) (ci := 0) (v := .ref (a (9 + 4 * b))) (C := RX0) (T := TX0) (N := 5) hx hb hts hiX0 hown hK hP 0 rfl rfl 2 (by decide) (hts (.fieldLink RX0 18 "PairedCells$Block" "guardBytes" "[I") (by decide +kernel)) (fun _ h9 => h9) rfl dX0_writeGuard_27 ?_
      refine lv_bipush (v := nI 16) hx hb dX0_writeGuard_30 (by decide) ?_
      refine lv_dup2_11 hx hb dX0_writeGuard_32 rfl rfl ?_
      refine xr_iald hx hb hK hP 3 0 rfl rfl (by omega) (by decide) dX0_writeGuard_33 ?_
      refine xr_nat (x' := gm χ b j) (rfl) ?_
      refine lv_iconst (v := nI 1) hx hb dX0_writeGuard_34 (by decide) ?_
      refine lv_iload_n hx hb dX0_writeGuard_35 rfl (lv_at hl 1 rfl) ?_
      refine xr_shl hx hb (by omega) (by rw [Nat.one_mul]; exact Nat.lt_of_le_of_lt (Nat.pow_le_pow_right (by decide) (show j ≤ 7 by omega)) (by decide)) dX0_writeGuard_36 ?_
      refine xr_or hx hb dX0_writeGuard_37 ?_
      refine xr_nat (x' := gm χ b (j + 1)) (by rw [Nat.one_mul]; exact (if_pos (show χ (16 * b + j) = 1 by omega)).symm) ?_
      refine xr_iast hx hb hK hP hD hS 3 0 rfl rfl (by omega) (by decide) dX0_writeGuard_38 (fun H locs hP hD hS => ?_)
      have hP : va_P D vwCl (bX cI a b (fun j => χ (16 * b + j)) (fun j => χ (1000 + 256 * b + j)) (up (gr χ b j) (16) (gm χ b (j + 1))) (χ (100 + b)) (χ (110 + b))) H := hP
      have hD : va_D A (bX cI a b (fun j => χ (16 * b + j)) (fun j => χ (1000 + 256 * b + j)) (up (gr χ b j) (16) (gm χ b (j + 1))) (χ (100 + b)) (χ (110 + b))) := hD
      refine lv_iconst (v := nI 0) hx hb dX0_writeGuard_39 (by decide) ?_
      refine lv_istore_n (lv' := [(2, .int (nI (0))), (0, .ref (a (6 + 4 * b))), (1, .int (nI (j)))]) hx hb dX0_writeGuard_40 rfl hl (by decide) rfl (fun ls hl => ?_)
      have hq9 : (bX cI a b (fun j => χ (16 * b + j)) (fun j => χ (1000 + 256 * b + j)) (up (gr χ b j) (16) (gm χ b (j + 1))) (χ (100 + b)) (χ (110 + b)) : va_W) = bX cI a b (fun j => χ (16 * b + j)) (fun j => χ (1000 + 256 * b + j)) (grI χ b j 0) (χ (100 + b)) (χ (110 + b)) := (bX_ext (fun _ _ => rfl) (fun _ _ => rfl) (fun t ht => by simp only [up, gr, grI]; (repeat' split) <;> first | rfl | omega | (exfalso; omega)) rfl rfl)
      refine lpW (α := Nat) (fun i H locs => (i ≤ 16) ∧ va_P D vwCl (bX cI a b (fun j => χ (16 * b + j)) (fun j => χ (1000 + 256 * b + j)) (grI χ b j i) (χ (100 + b)) (χ (110 + b))) H ∧ va_D A (bX cI a b (fun j => χ (16 * b + j)) (fun j => χ (1000 + 256 * b + j)) (grI χ b j i) (χ (100 + b)) (χ (110 + b))) ∧ va_S A s.heap H locs) (fun i => [(0, .ref (a (6 + 4 * b))), (1, .int (nI (j))), (2, .int (nI (i)))]) 3 (fun i => 16 - i) 0 (⟨by omega, va_P.eqw hq9 hP, va_D.eqw hq9 hD, hS⟩) (lv_sub hl [1, 2, 0] rfl) (fun s9 H locs ls hI9 hl9 ih_41 => ?_)
      obtain ⟨i, rfl⟩ : ∃ z, z = s9 := ⟨_, rfl⟩
      have hl : lv_has ls 3 [(0, .ref (a (6 + 4 * b))), (1, .int (nI (j))), (2, .int (nI (i)))] := hl9
      obtain ⟨hi, hP, hD, hS⟩ : (i ≤ 16) ∧ va_P D vwCl (bX cI a b (fun j => χ (16 * b + j)) (fun j => χ (1000 + 256 * b + j)) (grI χ b j i) (χ (100 + b)) (χ (110 + b))) H ∧ va_D A (bX cI a b (fun j => χ (16 * b + j)) (fun j => χ (1000 + 256 * b + j)) (grI χ b j i) (χ (100 + b)) (χ (110 + b))) ∧ va_S A s.heap H locs := hI9
      refine lv_iload_n hx hb dX0_writeGuard_41 rfl (lv_at hl 2 rfl) ?_
      refine lv_bipush (v := nI 16) hx hb dX0_writeGuard_42 (by decide) ?_
      refine xi_ge (tgt := 73) hx hb dX0_writeGuard_44 (by decide) (nI_toInt (by omega)) (nI_toInt (by omega)) (fun c_44 => ?_) (fun c_44 => ?_)
      · refine lv_iinc (v := nI (j + 1)) (lv' := [(1, .int (nI (j + 1))), (0, .ref (a (6 + 4 * b))), (2, .int (nI (i)))]) hx hb dX0_writeGuard_73 hl (k := 1) rfl (nI_add _ _) (by decide) rfl (fun ls hl => ?_)
        refine lv_goto (tgt := 10) hx hb dX0_writeGuard_76 (by decide) ?_
        have hq9 : (bX cI a b (fun j => χ (16 * b + j)) (fun j => χ (1000 + 256 * b + j)) (grI χ b j i) (χ (100 + b)) (χ (110 + b)) : va_W) = bX cI a b (fun j => χ (16 * b + j)) (fun j => χ (1000 + 256 * b + j)) (gr χ b (j + 1)) (χ (100 + b)) (χ (110 + b)) := (bX_ext (fun _ _ => rfl) (fun _ _ => rfl) (fun t ht => by first | (simp only [gr, gx, gm, if_neg (show ¬ χ (16 * b + j) = 1 by omega)]) | (simp only [grI, gr]; (repeat' split) <;> first | rfl | omega | (exfalso; omega))) rfl rfl)
        exact ih_10 (j + 1) _ _ _ (⟨by omega, va_P.eqw hq9 hP, va_D.eqw hq9 hD, hS⟩) (by first | omega | (dsimp only; omega)) (lv_sub hl [1, 0] rfl)
      · refine lv_aload_n hx hb dX0_writeGuard_47 rfl (lv_at hl 0 rfl) ?_
        refine va_get (D := D) (ci := 0) (v := .ref (a (9 + 4 * b))) (C := RX0) (T := TX0) (N := 5) hx hb hts hiX0 hown hK hP 0 rfl rfl 2 (by decide) (hts (.fieldLink RX0 18 "PairedCells$Block" "guardBytes" "[I") (by decide +kernel)) (fun _ h9 => h9) rfl dX0_writeGuard_48 ?_
        refine lv_iload_n hx hb dX0_writeGuard_51 rfl (lv_at hl 2 rfl) ?_
        refine lv_dup2_11 hx hb dX0_writeGuard_52 rfl rfl ?_
        refine xr_iald hx hb hK hP 3 0 rfl rfl (by omega) (by decide) dX0_writeGuard_53 ?_
        refine xr_nat (x' := gx χ b i j) (by simp only [grI]; rw [if_neg (by omega), if_neg (by omega), if_pos (by omega)]) ?_
        refine lv_aload_n hx hb dX0_writeGuard_54 rfl (lv_at hl 0 rfl) ?_
        refine va_get (D := D) (ci := 0) (v := .ref (a (8 + 4 * b))) (C := RX0) (T := TX0) (N := 5) hx hb hts hiX0 hown hK hP 0 rfl rfl 1 (by decide) (hts (.fieldLink RX0 15 "PairedCells$Block" "bytes" "[I") (by decide +kernel)) (fun _ h9 => h9) rfl dX0_writeGuard_55 ?_
        refine lv_iload_n hx hb dX0_writeGuard_58 rfl (lv_at hl 1 rfl) ?_
        refine lv_bipush (v := nI 16) hx hb dX0_writeGuard_59 (by decide) ?_
        refine xr_mul hx hb dX0_writeGuard_61 ?_
        refine lv_iload_n hx hb dX0_writeGuard_62 rfl (lv_at hl 2 rfl) ?_
        refine xr_add hx hb dX0_writeGuard_63 ?_
        refine xr_iald hx hb hK hP 2 0 rfl rfl (by omega) (by decide) dX0_writeGuard_64 ?_
        have hb_64 := hχ (1000 + 256 * b + (j * 16 + i))
        refine xr_xor hx hb dX0_writeGuard_65 ?_
        refine xr_nat (x' := gx χ b i (j + 1)) (by rw [show j * 16 + i = 16 * j + i by omega]; exact (if_pos (show χ (16 * b + j) = 1 by omega)).symm) ?_
        refine xr_iast hx hb hK hP hD hS 3 0 rfl rfl (by omega) (by decide) dX0_writeGuard_66 (fun H locs hP hD hS => ?_)
        have hP : va_P D vwCl (bX cI a b (fun j => χ (16 * b + j)) (fun j => χ (1000 + 256 * b + j)) (up (grI χ b j i) (i) (gx χ b i (j + 1))) (χ (100 + b)) (χ (110 + b))) H := hP
        have hD : va_D A (bX cI a b (fun j => χ (16 * b + j)) (fun j => χ (1000 + 256 * b + j)) (up (grI χ b j i) (i) (gx χ b i (j + 1))) (χ (100 + b)) (χ (110 + b))) := hD
        refine lv_iinc (v := nI (i + 1)) (lv' := [(2, .int (nI (i + 1))), (0, .ref (a (6 + 4 * b))), (1, .int (nI (j)))]) hx hb dX0_writeGuard_67 hl (k := 2) rfl (nI_add _ _) (by decide) rfl (fun ls hl => ?_)
        refine lv_goto (tgt := 41) hx hb dX0_writeGuard_70 (by decide) ?_
        have hq9 : (bX cI a b (fun j => χ (16 * b + j)) (fun j => χ (1000 + 256 * b + j)) (up (grI χ b j i) (i) (gx χ b i (j + 1))) (χ (100 + b)) (χ (110 + b)) : va_W) = bX cI a b (fun j => χ (16 * b + j)) (fun j => χ (1000 + 256 * b + j)) (grI χ b j (i + 1)) (χ (100 + b)) (χ (110 + b)) := (bX_ext (fun _ _ => rfl) (fun _ _ => rfl) (fun t ht => by simp only [up, grI]; (repeat' split) <;> first | rfl | omega | (exfalso; omega) | (subst_vars; rfl)) rfl rfl)
        exact ih_41 (i + 1) _ _ _ (⟨by omega, va_P.eqw hq9 hP, va_D.eqw hq9 hD, hS⟩) (by first | omega | (dsimp only; omega)) (lv_sub hl [1, 2, 0] rfl)

set_option maxHeartbeats 4000000 in
set_option maxRecDepth 100000 in
theorem c_X0_write (l : Launch) (D : va_G) {cI cB : ClassId} (a χ : Nat → Nat) (b : Nat) (hb6 : b < 6) (hχ : ∀ i, χ i < 65536) (k : Nat) (hk : k < 16) (q0 q1 : Nat) (O : Nat → Nat) (sz : Nat) : Met l yX0_write wsX0_write ({ frames := 1, cells := 0, slots := 0, locals := 60 }) (va_Pc [.ref (a (6 + 4 * b)), .int (nI (k)), .ref (q0)] (x_U D (tyP cI cB) (wB cI a χ b ++ eW cI (q0) (q1) O) sz)) (va_Qv (fun (_ : Unit) => True) (fun u t => x_E D (tyP cI cB) (va_A (wB cI a χ b ++ eW cI (q0) (q1) O) sz) (wB cI a (wrt χ b k O) b ++ eW cI q0 q1 O) t) (va_A (wB cI a χ b ++ eW cI (q0) (q1) O) sz)) 0 0 (va_A (wB cI a χ b ++ eW cI (q0) (q1) O) sz) := by
  refine Met.ofW (cc := cX0_write) (maxL := 3) (ret := none) (by decide) rfl ?_
  intro p e s m args below meth c s₁ B hml hv
  obtain ⟨rfl, hsz, hN, hP, hK, hD0⟩ := hv
  have hx := B.exec
  have hb := B.bytes
  have hr := B.returns
  have hts := atoms_spec (ws := wsX0_write) B.pre
  have hown : s.vm.findClass RX0 = some m.cls := findClass_of_methodNamed B.named
  have hlocks := B.notSynchronized
  subst hsz
  have hD := hD0.self (sz := s.heap.size)
  generalize hAe : va_A (wB cI a χ b ++ eW cI (q0) (q1) O) s.heap.size = A at hD ⊢
  have hA : ∀ q : Nat, s.heap.size ≤ q → A q := fun q h => by rw [← hAe]; exact Or.inr h
  obtain ⟨H, hH⟩ : ∃ H : Heap, s.heap = H := ⟨_, rfl⟩
  obtain ⟨locs, hlo⟩ : ∃ L : List Loc, ([] : List Loc) = L := ⟨_, rfl⟩
  have hS : va_S A s.heap H locs := by rw [← hH, ← hlo]; exact va_S.rf
  have hP : va_P D vwCl (wB cI a χ b ++ eW cI (q0) (q1) O) H := hH ▸ hP
  rw [hH, hlo]
  have hiX0 : ∀ w ∈ u_ws RX0 TX0 5, w ∈ wsX0_write := by decide +kernel
  have hiX1 : ∀ w ∈ u_ws RX1 TX1 1, w ∈ wsX0_write := by decide +kernel
  have hl := lv_entry ([.ref (a (6 + 4 * b)), .int (nI (k)), .ref (q0)]) (n := 3) (Nat.le_of_ble_eq_true rfl)
  rw [lg_entry_eq]
  generalize (lg_sl ([.ref (a (6 + 4 * b)), .int (nI (k)), .ref (q0)]) ++ List.replicate (3 - (lg_sl ([.ref (a (6 + 4 * b)), .int (nI (k)), .ref (q0)])).length) Slot.unset).toArray = ls at hl ⊢
  have hl : lv_has ls 3 [(0, .ref (a (6 + 4 * b))), (1, .int (nI (k))), (2, .ref (q0))] := hl
  refine lv_aload_n hx hb dX0_write_0 rfl (lv_at hl 0 rfl) ?_
  refine va_get (D := D) (ci := 0) (v := .ref (a (7 + 4 * b))) (C := RX0) (T := TX0) (N := 5) hx hb hts hiX0 hown hK hP 0 rfl rfl 0 (by decide) (hts (.fieldLink RX0 9 "PairedCells$Block" "states" "[I") (by decide +kernel)) (fun _ h9 => h9) rfl dX0_write_1 ?_
  refine lv_iload_n hx hb dX0_write_4 rfl (lv_at hl 1 rfl) ?_
  refine lv_iconst (v := nI 1) hx hb dX0_write_5 (by decide) ?_
  refine xr_iast hx hb hK hP hD hS 1 0 rfl rfl (by omega) (by decide) dX0_write_6 (fun H locs hP hD hS => ?_)
  have hP : va_P D vwCl (bX cI a b (up (fun j => χ (16 * b + j)) (k) (1)) (fun j => χ (1000 + 256 * b + j)) (fun j => χ (200 + 17 * b + j)) (χ (100 + b)) (χ (110 + b)) ++ eW cI (q0) (q1) O) H := hP
  have hD : va_D A (bX cI a b (up (fun j => χ (16 * b + j)) (k) (1)) (fun j => χ (1000 + 256 * b + j)) (fun j => χ (200 + 17 * b + j)) (χ (100 + b)) (χ (110 + b)) ++ eW cI (q0) (q1) O) := hD
  refine lv_aload_n hx hb dX0_write_7 rfl (lv_at hl 2 rfl) ?_
  refine va_getN (D := D) (ci := 1) (v := .ref (q1)) (C := RX1) (T := TX1) (N := 1) hx hb hts hiX1 hown hK hP 4 rfl rfl 0 (by decide) (va_Nw.use rfl hN.1) (fun _ h9 => h9) rfl dX0_write_8 ?_
  refine lv_iconst (v := nI 0) hx hb dX0_write_11 (by decide) ?_
  refine lv_aload_n hx hb dX0_write_12 rfl (lv_at hl 0 rfl) ?_
  refine va_get (D := D) (ci := 0) (v := .ref (a (8 + 4 * b))) (C := RX0) (T := TX0) (N := 5) hx hb hts hiX0 hown hK hP 0 rfl rfl 1 (by decide) (hts (.fieldLink RX0 15 "PairedCells$Block" "bytes" "[I") (by decide +kernel)) (fun _ h9 => h9) rfl dX0_write_13 ?_
  refine lv_iload_n hx hb dX0_write_16 rfl (lv_at hl 1 rfl) ?_
  refine lv_bipush (v := nI 16) hx hb dX0_write_17 (by decide) ?_
  refine xr_mul hx hb dX0_write_19 ?_
  refine lv_bipush (v := nI 16) hx hb dX0_write_20 (by decide) ?_
  refine xr_copy hx hb (by rw [hml]; exact hl.1.symm) hown (hts (.methodLink RX0 41 arraycopyName) (by decide +kernel)) (hts (.native arraycopyName) (by decide +kernel)) (hts (.static arraycopyName) (by decide +kernel)) (hts (.initialized "java/lang/System") (by decide +kernel)) hK hP hD hS 5 2 0 rfl rfl rfl (by omega) (by omega) (by decide) (by decide) (Nat.le_of_ble_eq_true rfl) (Nat.le_of_ble_eq_true rfl) dX0_write_22 (fun H locs hP hD hS => ?_)
  have hP : va_P D vwCl (bX cI a b (up (fun j => χ (16 * b + j)) (k) (1)) (fun j => if k * 16 ≤ j ∧ j < k * 16 + 16 then O (0 + (j - (k * 16))) else χ (1000 + 256 * b + j)) (fun j => χ (200 + 17 * b + j)) (χ (100 + b)) (χ (110 + b)) ++ eW cI (q0) (q1) O) H := hP
  have hD : va_D A (bX cI a b (up (fun j => χ (16 * b + j)) (k) (1)) (fun j => if k * 16 ≤ j ∧ j < k * 16 + 16 then O (0 + (j - (k * 16))) else χ (1000 + 256 * b + j)) (fun j => χ (200 + 17 * b + j)) (χ (100 + b)) (χ (110 + b)) ++ eW cI (q0) (q1) O) := hD
  have hq9 : (bX cI a b (up (fun j => χ (16 * b + j)) (k) (1)) (fun j => if k * 16 ≤ j ∧ j < k * 16 + 16 then O (0 + (j - (k * 16))) else χ (1000 + 256 * b + j)) (fun j => χ (200 + 17 * b + j)) (χ (100 + b)) (χ (110 + b)) ++ eW cI (q0) (q1) O : va_W) = wB cI a (wrt χ b k O) b ++ eW cI q0 q1 O := (congrArg (fun z => z ++ eW cI q0 q1 O) (bX_eq (fun j hj => (by simp only [wrt, up]; (repeat' split) <;> first | rfl | omega | (exfalso; omega) | (congr 1; omega))) (fun j hj => (by simp only [wrt, up]; (repeat' split) <;> first | rfl | omega | (exfalso; omega) | (congr 1; omega))) (fun j hj => (by simp only [wrt, up]; (repeat' split) <;> first | rfl | omega | (exfalso; omega) | (congr 1; omega))) (by simp only [wrt, up]; (repeat' split) <;> first | rfl | omega | (exfalso; omega) | (congr 1; omega)) (by simp only [wrt, up]; (repeat' split) <;> first | rfl | omega | (exfalso; omega) | (congr 1; omega))))
  exact xf_v (post := fun (_ : Unit) => True) (w1 := fun (_ : Unit) => wB cI a (wrt χ b k O) b ++ eW cI q0 q1 O) () hx hb hr hlocks (trivial) (va_P.eqw hq9 hP) hK (va_D.eqw hq9 hD) hS dX0_write_25

set_option maxHeartbeats 4000000 in
set_option maxRecDepth 100000 in
theorem c_X0_show (l : Launch) (D : va_G) {cI cB : ClassId} (a χ : Nat → Nat) (b : Nat) (hb6 : b < 6) (hχ : ∀ i, χ i < 65536) (k : Nat) (hk : k < 16) (q0 q1 : Nat) (h : Nat → Nat) (sz : Nat) : Met l yX0_show wsX0_show ({ frames := 3, cells := 0, slots := 0, locals := 64 }) (va_Pc [.ref (a (6 + 4 * b)), .int (nI (k)), .ref (q0)] (x_U D (tyP cI cB) (wB cI a χ b ++ eW cI (q0) (q1) h) sz)) (va_Qi (fun (r : Int32) (u : Nat → Nat) => (r = nI 1 ∧ rdb χ b k ∧ u = byt χ b k) ∨ (r = nI 0 ∧ ¬ rdb χ b k ∧ u = h)) (fun u t => x_E D (tyP cI cB) (va_A (wB cI a χ b ++ eW cI (q0) (q1) h) sz) (wB cI a χ b ++ eW cI q0 q1 u) t) (va_A (wB cI a χ b ++ eW cI (q0) (q1) h) sz)) 0 0 (va_A (wB cI a χ b ++ eW cI (q0) (q1) h) sz) := by
  refine Met.ofW (cc := cX0_show) (maxL := 4) (ret := (some .boolean)) (by decide) rfl ?_
  intro p e s m args below meth c s₁ B hml hv
  obtain ⟨rfl, hsz, hN, hP, hK, hD0⟩ := hv
  have hx := B.exec
  have hb := B.bytes
  have hr := B.returns
  have hts := atoms_spec (ws := wsX0_show) B.pre
  have hown : s.vm.findClass RX0 = some m.cls := findClass_of_methodNamed B.named
  have hlocks := B.notSynchronized
  subst hsz
  have hD := hD0.self (sz := s.heap.size)
  generalize hAe : va_A (wB cI a χ b ++ eW cI (q0) (q1) h) s.heap.size = A at hD ⊢
  have hA : ∀ q : Nat, s.heap.size ≤ q → A q := fun q h => by rw [← hAe]; exact Or.inr h
  obtain ⟨H, hH⟩ : ∃ H : Heap, s.heap = H := ⟨_, rfl⟩
  obtain ⟨locs, hlo⟩ : ∃ L : List Loc, ([] : List Loc) = L := ⟨_, rfl⟩
  have hS : va_S A s.heap H locs := by rw [← hH, ← hlo]; exact va_S.rf
  have hP : va_P D vwCl (wB cI a χ b ++ eW cI (q0) (q1) h) H := hH ▸ hP
  rw [hH, hlo]
  have hiX1 : ∀ w ∈ u_ws RX1 TX1 1, w ∈ wsX0_show := by decide +kernel
  have hl := lv_entry ([.ref (a (6 + 4 * b)), .int (nI (k)), .ref (q0)]) (n := 4) (Nat.le_of_ble_eq_true rfl)
  rw [lg_entry_eq]
  generalize (lg_sl ([.ref (a (6 + 4 * b)), .int (nI (k)), .ref (q0)]) ++ List.replicate (4 - (lg_sl ([.ref (a (6 + 4 * b)), .int (nI (k)), .ref (q0)])).length) Slot.unset).toArray = ls at hl ⊢
  have hl : lv_has ls 4 [(0, .ref (a (6 + 4 * b))), (1, .int (nI (k))), (2, .ref (q0))] := hl
  refine lv_aload_n hx hb dX0_show_0 rfl (lv_at hl 0 rfl) ?_
  refine lv_iload_n hx hb dX0_show_1 rfl (lv_at hl 1 rfl) ?_
  refine xc_Vi (ci := 0) (rest := []) (As := [.int (nI (k))]) ⟨hx, hb, hml, hown, hts⟩ (c_X0_isReadable l D a χ b hb6 hχ k hk) (cwV 1 hts gX0_show_X0_isReadable rfl rfl rfl (by decide +kernel) ⟨Nat.le_of_ble_eq_true rfl, Nat.le_of_ble_eq_true rfl⟩) hN hK (wBE_blk hP) rfl 0 rfl rfl hl.1 rfl (Nat.le_of_ble_eq_true rfl) dX0_show_2 ⟨Nat.le_of_ble_eq_true rfl, Nat.le_of_ble_eq_true rfl⟩ (fun r_2 hw_2 => ?_)
  refine xz_ne (tgt := 10) hx hb dX0_show_5 (by decide) rfl (fun c_5 => ?_) (fun c_5 => ?_)
  · have h_5 := bo.t hw_2 c_5
    refine lv_iconst (v := nI 0) hx hb dX0_show_10 (by decide) ?_
    refine lv_istore_n (lv' := [(3, .int (nI (0))), (0, .ref (a (6 + 4 * b))), (1, .int (nI (k))), (2, .ref (q0))]) hx hb dX0_show_11 rfl hl (by decide) rfl (fun ls hl => ?_)
    have hq9 : (wB cI a χ b ++ eW cI (q0) (q1) h : va_W) = wB cI a χ b ++ eW cI (q0) (q1) (fun j => if j < 0 then byt χ b k j else h j) := (congrArg (fun z => wB cI a χ b ++ z) (eW_eq (fun j hj => (if_neg (Nat.not_lt_zero j)).symm)))
    refine lpW (α := Nat) (fun t H locs => (t ≤ 16) ∧ va_P D vwCl (wB cI a χ b ++ eW cI (q0) (q1) (fun j => if j < t then byt χ b k j else h j)) H ∧ va_D A (wB cI a χ b ++ eW cI (q0) (q1) (fun j => if j < t then byt χ b k j else h j)) ∧ va_S A s.heap H locs) (fun t => [(0, .ref (a (6 + 4 * b))), (1, .int (nI (k))), (2, .ref (q0)), (3, .int (nI (t)))]) 4 (fun t => 16 - t) 0 (⟨by omega, va_P.eqw hq9 hP, va_D.eqw hq9 hD, hS⟩) (lv_sub hl [1, 2, 3, 0] rfl) (fun s9 H locs ls hI9 hl9 ih_12 => ?_)
    obtain ⟨t, rfl⟩ : ∃ z, z = s9 := ⟨_, rfl⟩
    have hl : lv_has ls 4 [(0, .ref (a (6 + 4 * b))), (1, .int (nI (k))), (2, .ref (q0)), (3, .int (nI (t)))] := hl9
    obtain ⟨ht, hP, hD, hS⟩ : (t ≤ 16) ∧ va_P D vwCl (wB cI a χ b ++ eW cI (q0) (q1) (fun j => if j < t then byt χ b k j else h j)) H ∧ va_D A (wB cI a χ b ++ eW cI (q0) (q1) (fun j => if j < t then byt χ b k j else h j)) ∧ va_S A s.heap H locs := hI9
    refine lv_iload_n hx hb dX0_show_12 rfl (lv_at hl 3 rfl) ?_
    refine lv_bipush (v := nI 16) hx hb dX0_show_13 (by decide) ?_
    refine xi_ge (tgt := 36) hx hb dX0_show_15 (by decide) (nI_toInt (by omega)) (nI_toInt (by omega)) (fun c_15 => ?_) (fun c_15 => ?_)
    · refine lv_iconst (v := nI 1) hx hb dX0_show_36 (by decide) ?_
      have hq9 : (wB cI a χ b ++ eW cI (q0) (q1) (fun j => if j < t then byt χ b k j else h j) : va_W) = wB cI a χ b ++ eW cI q0 q1 (byt χ b k) := (congrArg (fun z => wB cI a χ b ++ z) (eW_eq (fun j hj => if_pos (by omega))))
      exact xf_z (post := fun (r : Int32) (u : Nat → Nat) => (r = nI 1 ∧ rdb χ b k ∧ u = byt χ b k) ∨ (r = nI 0 ∧ ¬ rdb χ b k ∧ u = h)) (w1 := fun (u : Nat → Nat) => wB cI a χ b ++ eW cI q0 q1 u) (byt χ b k) hx hb hr hlocks rfl (Or.inl ⟨rfl, h_5, rfl⟩) (va_P.eqw hq9 hP) hK (va_D.eqw hq9 hD) hS dX0_show_37
    · refine lv_aload_n hx hb dX0_show_18 rfl (lv_at hl 2 rfl) ?_
      refine va_getN (D := D) (ci := 1) (v := .ref (q1)) (C := RX1) (T := TX1) (N := 1) hx hb hts hiX1 hown hK hP 4 rfl rfl 0 (by decide) (va_Nw.use rfl hN.1) (fun _ h9 => h9) rfl dX0_show_19 ?_
      refine lv_iload_n hx hb dX0_show_22 rfl (lv_at hl 3 rfl) ?_
      refine lv_aload_n hx hb dX0_show_23 rfl (lv_at hl 0 rfl) ?_
      refine lv_iload_n hx hb dX0_show_24 rfl (lv_at hl 1 rfl) ?_
      refine lv_iload_n hx hb dX0_show_25 rfl (lv_at hl 3 rfl) ?_
      refine xc_Vi (ci := 0) (rest := [.int (nI (t)), .ref (q1)]) (As := [.int (nI (k)), .int (nI (t))]) ⟨hx, hb, hml, hown, hts⟩ (c_X0_byteAt l D a χ b hb6 hχ k hk t (by omega) h_5) (cwV 2 hts gX0_show_X0_byteAt rfl rfl rfl (by decide +kernel) ⟨Nat.le_of_ble_eq_true rfl, Nat.le_of_ble_eq_true rfl⟩) hN hK (wBE_blk hP) rfl 0 rfl rfl hl.1 rfl (Nat.le_of_ble_eq_true rfl) dX0_show_26 ⟨Nat.le_of_ble_eq_true rfl, Nat.le_of_ble_eq_true rfl⟩ (fun r_26 hw_26 => ?_)
      subst hw_26
      refine xr_iast hx hb hK hP hD hS 5 0 rfl rfl (by omega) (by decide) dX0_show_29 (fun H locs hP hD hS => ?_)
      have hP : va_P D vwCl (wB cI a χ b ++ eW cI (q0) (q1) (up (fun j => if j < t then byt χ b k j else h j) (t) (byt χ b k t))) H := hP
      have hD : va_D A (wB cI a χ b ++ eW cI (q0) (q1) (up (fun j => if j < t then byt χ b k j else h j) (t) (byt χ b k t))) := hD
      refine lv_iinc (v := nI (t + 1)) (lv' := [(3, .int (nI (t + 1))), (0, .ref (a (6 + 4 * b))), (1, .int (nI (k))), (2, .ref (q0))]) hx hb dX0_show_30 hl (k := 3) rfl (nI_add _ _) (by decide) rfl (fun ls hl => ?_)
      refine lv_goto (tgt := 12) hx hb dX0_show_33 (by decide) ?_
      have hq9 : (wB cI a χ b ++ eW cI (q0) (q1) (up (fun j => if j < t then byt χ b k j else h j) (t) (byt χ b k t)) : va_W) = wB cI a χ b ++ eW cI (q0) (q1) (fun j => if j < (t + 1) then byt χ b k j else h j) := (congrArg (fun z => wB cI a χ b ++ z) (eW_eq (fun j hj => by simp only [up]; (repeat' split) <;> first | rfl | omega | (exfalso; omega) | (subst_vars; rfl))))
      exact ih_12 (t + 1) _ _ _ (⟨by omega, va_P.eqw hq9 hP, va_D.eqw hq9 hD, hS⟩) (by first | omega | (dsimp only; omega)) (lv_sub hl [1, 2, 3, 0] rfl)
  · have h_5 := bo.f hw_2 c_5
    refine lv_iconst (v := nI 0) hx hb dX0_show_8 (by decide) ?_
    exact xf_z (post := fun (r : Int32) (u : Nat → Nat) => (r = nI 1 ∧ rdb χ b k ∧ u = byt χ b k) ∨ (r = nI 0 ∧ ¬ rdb χ b k ∧ u = h)) (w1 := fun (u : Nat → Nat) => wB cI a χ b ++ eW cI q0 q1 u) h hx hb hr hlocks rfl (Or.inr ⟨rfl, h_5, rfl⟩) hP hK hD hS dX0_show_9
end
section
/-! ===== the log: a block's cell by its number; folds over pages ===== -/
theorem wP_at {cI cB : ClassId} {a h O χ : Nat → Nat} {cu fi ne ct on : Nat} {b : Nat} (hb : b < 6) : (wP cI cB a h O χ cu fi ne ct on)[6 + 4 * b]? = some (a (6 + 4 * b), .inr (0, [.ref (a (7 + 4 * b)), .ref (a (8 + 4 * b)), .ref (a (9 + 4 * b)), .int (nI (χ (100 + b))), .int (nI (χ (110 + b)))])) := by
  rcases (show b = 0 ∨ b = 1 ∨ b = 2 ∨ b = 3 ∨ b = 4 ∨ b = 5 by omega) with rfl | rfl | rfl | rfl | rfl | rfl <;> rfl
theorem up_out {χ : Nat → Nat} {b k x : Nat} (hk : inb b k) : ∀ i, ¬ inb b i → up χ k x i = χ i := fun i hi => up_ne χ x (fun e => hi (e ▸ hk))
theorem wP_gs {cI cB : ClassId} {a h O χ : Nat → Nat} {cu fi ne ct on : Nat} {b : Nat} {x : Nat} (hb : b < 6) : (wP cI cB a h O χ cu fi ne ct on).set (6 + 4 * b) (a (6 + 4 * b), .inr (0, [.ref (a (7 + 4 * b)), .ref (a (8 + 4 * b)), .ref (a (9 + 4 * b)), .int (nI x), .int (nI (χ (110 + b)))])) = wP cI cB a h O (up χ (100 + b) x) cu fi ne ct on := by
  have hχ : ∀ i, ¬ inb b i → up χ (100 + b) x i = χ i := up_out (Or.inr (Or.inl rfl))
  have hX : bX cI a b (fun j => χ (16 * b + j)) (fun j => χ (1000 + 256 * b + j)) (fun j => χ (200 + 17 * b + j)) x (χ (110 + b)) = wB cI a (up χ (100 + b) x) b :=
    bX_eq (fun j hj => (up_ne χ x (by omega)).symm) (fun j hj => (up_ne χ x (by omega)).symm) (fun j hj => (up_ne χ x (by omega)).symm) (up_same χ _ x).symm (up_ne χ x (by omega)).symm
  rcases (show b = 0 ∨ b = 1 ∨ b = 2 ∨ b = 3 ∨ b = 4 ∨ b = 5 by omega) with rfl | rfl | rfl | rfl | rfl | rfl
  · show wH cI cB a h O cu fi ne ct on ++ (bX cI a 0 (fun j => χ (16 * 0 + j)) (fun j => χ (1000 + 256 * 0 + j)) (fun j => χ (200 + 17 * 0 + j)) x (χ (110 + 0)) ++ (wB cI a χ 1 ++ (wB cI a χ 2 ++ (wB cI a χ 3 ++ (wB cI a χ 4 ++ (wB cI a χ 5)))))) = _
    rw [hX, wB_other (b' := 1) hb (by decide) (by decide) hχ, wB_other (b' := 2) hb (by decide) (by decide) hχ, wB_other (b' := 3) hb (by decide) (by decide) hχ, wB_other (b' := 4) hb (by decide) (by decide) hχ, wB_other (b' := 5) hb (by decide) (by decide) hχ]
    rfl
  · show wH cI cB a h O cu fi ne ct on ++ (wB cI a χ 0 ++ (bX cI a 1 (fun j => χ (16 * 1 + j)) (fun j => χ (1000 + 256 * 1 + j)) (fun j => χ (200 + 17 * 1 + j)) x (χ (110 + 1)) ++ (wB cI a χ 2 ++ (wB cI a χ 3 ++ (wB cI a χ 4 ++ (wB cI a χ 5)))))) = _
    rw [hX, wB_other (b' := 0) hb (by decide) (by decide) hχ, wB_other (b' := 2) hb (by decide) (by decide) hχ, wB_other (b' := 3) hb (by decide) (by decide) hχ, wB_other (b' := 4) hb (by decide) (by decide) hχ, wB_other (b' := 5) hb (by decide) (by decide) hχ]
    rfl
  · show wH cI cB a h O cu fi ne ct on ++ (wB cI a χ 0 ++ (wB cI a χ 1 ++ (bX cI a 2 (fun j => χ (16 * 2 + j)) (fun j => χ (1000 + 256 * 2 + j)) (fun j => χ (200 + 17 * 2 + j)) x (χ (110 + 2)) ++ (wB cI a χ 3 ++ (wB cI a χ 4 ++ (wB cI a χ 5)))))) = _
    rw [hX, wB_other (b' := 0) hb (by decide) (by decide) hχ, wB_other (b' := 1) hb (by decide) (by decide) hχ, wB_other (b' := 3) hb (by decide) (by decide) hχ, wB_other (b' := 4) hb (by decide) (by decide) hχ, wB_other (b' := 5) hb (by decide) (by decide) hχ]
    rfl
  · show wH cI cB a h O cu fi ne ct on ++ (wB cI a χ 0 ++ (wB cI a χ 1 ++ (wB cI a χ 2 ++ (bX cI a 3 (fun j => χ (16 * 3 + j)) (fun j => χ (1000 + 256 * 3 + j)) (fun j => χ (200 + 17 * 3 + j)) x (χ (110 + 3)) ++ (wB cI a χ 4 ++ (wB cI a χ 5)))))) = _
    rw [hX, wB_other (b' := 0) hb (by decide) (by decide) hχ, wB_other (b' := 1) hb (by decide) (by decide) hχ, wB_other (b' := 2) hb (by decide) (by decide) hχ, wB_other (b' := 4) hb (by decide) (by decide) hχ, wB_other (b' := 5) hb (by decide) (by decide) hχ]
    rfl
  · show wH cI cB a h O cu fi ne ct on ++ (wB cI a χ 0 ++ (wB cI a χ 1 ++ (wB cI a χ 2 ++ (wB cI a χ 3 ++ (bX cI a 4 (fun j => χ (16 * 4 + j)) (fun j => χ (1000 + 256 * 4 + j)) (fun j => χ (200 + 17 * 4 + j)) x (χ (110 + 4)) ++ (wB cI a χ 5)))))) = _
    rw [hX, wB_other (b' := 0) hb (by decide) (by decide) hχ, wB_other (b' := 1) hb (by decide) (by decide) hχ, wB_other (b' := 2) hb (by decide) (by decide) hχ, wB_other (b' := 3) hb (by decide) (by decide) hχ, wB_other (b' := 5) hb (by decide) (by decide) hχ]
    rfl
  · show wH cI cB a h O cu fi ne ct on ++ (wB cI a χ 0 ++ (wB cI a χ 1 ++ (wB cI a χ 2 ++ (wB cI a χ 3 ++ (wB cI a χ 4 ++ (bX cI a 5 (fun j => χ (16 * 5 + j)) (fun j => χ (1000 + 256 * 5 + j)) (fun j => χ (200 + 17 * 5 + j)) x (χ (110 + 5)))))))) = _
    rw [hX, wB_other (b' := 0) hb (by decide) (by decide) hχ, wB_other (b' := 1) hb (by decide) (by decide) hχ, wB_other (b' := 2) hb (by decide) (by decide) hχ, wB_other (b' := 3) hb (by decide) (by decide) hχ, wB_other (b' := 4) hb (by decide) (by decide) hχ]
    rfl
/-- the greatest event of the readable pages below n, and one more; 0 when there is none -/
noncomputable def grt (χ : Nat → Nat) (b : Nat) : Nat → Nat
  | 0 => 0
  | n + 1 => cif (rdb χ b n) (max (grt χ b n) (256 * byt χ b n 1 + byt χ b n 2 + byt χ b n 0)) (grt χ b n)
theorem grt_in {χ : Nat → Nat} {b n : Nat} (h : rdb χ b n) : grt χ b (n + 1) = max (grt χ b n) (256 * byt χ b n 1 + byt χ b n 2 + byt χ b n 0) := cif_t h
theorem grt_out {χ : Nat → Nat} {b n : Nat} (h : ¬ rdb χ b n) : grt χ b (n + 1) = grt χ b n := cif_f h
/-- the least of two, where 0 is none -/
def mn (x y : Nat) : Nat := if y = 0 then x else if x = 0 ∨ y < x then y else x
/-- the least event of the readable pages below n, and one more; 0 when there is none -/
noncomputable def lst (χ : Nat → Nat) (b : Nat) : Nat → Nat
  | 0 => 0
  | n + 1 => cif (rdb χ b n) (mn (lst χ b n) (256 * byt χ b n 1 + byt χ b n 2 + 1)) (lst χ b n)
theorem lst_in {χ : Nat → Nat} {b n : Nat} (h : rdb χ b n) : lst χ b (n + 1) = mn (lst χ b n) (256 * byt χ b n 1 + byt χ b n 2 + 1) := cif_t h
theorem lst_out {χ : Nat → Nat} {b n : Nat} (h : ¬ rdb χ b n) : lst χ b (n + 1) = lst χ b n := cif_f h
/-- every readable page is a row of events -/
def wfs (χ : Nat → Nat) : Prop := ∀ b k, b < 6 → k < 16 → rdb χ b k → wf (byt χ b k)
theorem grt_lt {χ : Nat → Nat} {b : Nat} (hw : wfs χ) (hb : b < 6) : ∀ n, n ≤ 16 → grt χ b n < 65600 := by
  intro n
  induction n with
  | zero => intro _; exact (by decide : (0 : Nat) < 65600)
  | succ n ih =>
    intro hn
    by_cases h : rdb χ b n
    · rw [grt_in h]
      obtain ⟨h0, h1, h2, -⟩ := hw b n hb (by omega) h
      have h4 := ih (by omega)
      omega
    · rw [grt_out h]; exact ih (by omega)
theorem lst_lt {χ : Nat → Nat} {b : Nat} (hw : wfs χ) (hb : b < 6) : ∀ n, n ≤ 16 → lst χ b n < 65600 := by
  intro n
  induction n with
  | zero => intro _; exact (by decide : (0 : Nat) < 65600)
  | succ n ih =>
    intro hn
    by_cases h : rdb χ b n
    · rw [lst_in h]
      obtain ⟨h0, h1, h2, -⟩ := hw b n hb (by omega) h
      have h4 := ih (by omega)
      unfold mn
      split
      · omega
      · split <;> omega
    · rw [lst_out h]; exact ih (by omega)
theorem nI_mI (n : Nat) : nI n = mI (n + 1) := by
  show nI n = nI (n + 1) - nI 1
  rw [pk_sub (by omega), Nat.add_sub_cancel]
theorem xl_max {x y : Nat} (hx : x < 2 ^ 30) (hy : y < 2 ^ 30) : (if mI x < mI y then mI y else mI x) = mI (max x y) := by
  by_cases h : x < y
  · rw [if_pos (Int32.lt_iff_toInt_lt.mpr (by rw [mI_toInt hx, mI_toInt hy]; omega)), Nat.max_eq_right (by omega)]
  · rw [if_neg (fun h9 => h (by have h8 := Int32.lt_iff_toInt_lt.mp h9; rw [mI_toInt hx, mI_toInt hy] at h8; omega)), Nat.max_eq_left (by omega)]
/-- the page has event i -/
def hits (F : Nat → Nat) (i : Nat) : Prop := F 0 ≠ 0 ∧ 256 * F 1 + F 2 ≤ i ∧ i < 256 * F 1 + F 2 + F 0
def hit (χ : Nat → Nat) (i p : Nat) : Prop := rdb χ (p / 16) (p % 16) ∧ hits (byt χ (p / 16) (p % 16)) i
/-- the first page below n, by its number, that has event i; n when there is none -/
noncomputable def hpg (χ : Nat → Nat) (i : Nat) : Nat → Nat
  | 0 => 0
  | n + 1 => cif (hpg χ i n < n) (hpg χ i n) (cif (hit χ i n) n (n + 1))
theorem hpg_spec (χ : Nat → Nat) (i : Nat) : ∀ n, hpg χ i n ≤ n ∧ (∀ j, j < hpg χ i n → ¬ hit χ i j) ∧ (hpg χ i n < n → hit χ i (hpg χ i n)) := by
  intro n
  induction n with
  | zero => exact ⟨Nat.le_refl 0, fun j hj => absurd hj (Nat.not_lt_zero j), fun h => absurd h (Nat.lt_irrefl 0)⟩
  | succ k ih =>
    obtain ⟨h1, h2, h3⟩ := ih
    simp only [hpg]
    by_cases h4 : hpg χ i k < k
    · rw [cif_t h4]
      exact ⟨by omega, h2, fun _ => h3 h4⟩
    · have h5 : hpg χ i k = k := by omega
      rw [cif_f h4]
      by_cases h6 : hit χ i k
      · rw [cif_t h6]
        exact ⟨by omega, fun j hj => h2 j (by omega), fun _ => h6⟩
      · rw [cif_f h6]
        refine ⟨Nat.le_refl _, fun j hj => ?_, fun h => absurd h (Nat.lt_irrefl _)⟩
        by_cases h7 : j = k
        · rw [h7]; exact h6
        · exact h2 j (by omega)
theorem hpg_eq {χ : Nat → Nat} {i n : Nat} (h1 : n ≤ 96) (h2 : ∀ j, j < n → ¬ hit χ i j) (h3 : n < 96 → hit χ i n) : n = hpg χ i 96 := by
  obtain ⟨g1, g2, g3⟩ := hpg_spec χ i 96
  rcases Nat.lt_trichotomy n (hpg χ i 96) with h | h | h
  · exact absurd (h3 (by omega)) (g2 _ h)
  · exact h
  · exact absurd (g3 (by omega)) (h2 _ h)
/-- the block that is programmed next -/
noncomputable def nxb (χ : Nat → Nat) (cu : Nat) : Nat := cif (tk χ cu) cu ((cu + 1) % 6)
theorem nxb_in {χ : Nat → Nat} {cu : Nat} (h : tk χ cu) : nxb χ cu = cu := cif_t h
theorem nxb_out {χ : Nat → Nat} {cu : Nat} (h : ¬ tk χ cu) : nxb χ cu = (cu + 1) % 6 := cif_f h
/-- the log is full -/
def ful (χ : Nat → Nat) (cu : Nat) : Prop := ¬ tk χ cu ∧ χ (16 * ((cu + 1) % 6)) ≠ 0
/-- what a flush does, on block b: whether it goes through, and what is behind it -/
def fOk (χ : Nat → Nat) (b ct : Nat) : Prop := ct ≠ 1 ∧ (plc χ b = 8 → ct ≠ 2)
noncomputable def fCt (χ : Nat → Nat) (b ct : Nat) : Nat := cif (plc χ b = 8) (ct - 2) (ct - 1)
noncomputable def fOn (χ : Nat → Nat) (b ct on : Nat) : Nat := cif (plc χ b = 8) (cif (ct = 1 ∨ ct = 2) 0 on) (cif (ct = 1) 0 on)
noncomputable def fX (χ : Nat → Nat) (b ct : Nat) (O : Nat → Nat) : Nat → Nat := cif (plc χ b = 8) (cif (ct = 1) (up χ (100 + b) 2) (cif (ct = 2) (cuw (wgd χ b) b 8) (wrt (wgd χ b) b 8 O))) (cif (ct = 1) (cuw χ b (plc χ b)) (wrt χ b (plc χ b) O))
noncomputable def fO (χ : Nat → Nat) (b ct : Nat) (O : Nat → Nat) : Nat → Nat := cif (plc χ b = 8) (cif (ct = 1 ∨ ct = 2) O (fun _ => 0)) (cif (ct = 1) O (fun _ => 0))
end
section
theorem va_P_nil {D : va_G} {H : Heap} : va_P D vwCl ([] : va_W) H := fun k q h => by simp at h
/-- a page's place -/
def plo (line u : Nat) : Nat := if u = 0 then line else 8 + line
theorem mI_nI {n : Nat} (h : 0 < n) : mI n = nI (n - 1) := by
  obtain ⟨i, rfl⟩ : ∃ i, n = i + 1 := ⟨n - 1, by omega⟩
  exact (nI_mI i).symm
/-- how many blocks below n are erased -/
def ern (χ : Nat → Nat) : Nat → Nat
  | 0 => 0
  | n + 1 => if χ (16 * n) = 0 then ern χ n + 1 else ern χ n
theorem ern_le (χ : Nat → Nat) : ∀ n, ern χ n ≤ n := by
  intro n
  induction n with
  | zero => exact Nat.le_refl 0
  | succ n ih => simp only [ern]; split <;> omega
/-- the blocks below n that have pages, but no readable ones, are erased -/
noncomputable def eu (χ : Nat → Nat) : Nat → Nat → Nat
  | 0 => χ
  | n + 1 => cif (eu χ n (16 * n) ≠ 0 ∧ grt (eu χ n) n 16 = 0) (ers (eu χ n) n) (eu χ n)
theorem eu_in {χ : Nat → Nat} {n : Nat} (h : eu χ n (16 * n) ≠ 0 ∧ grt (eu χ n) n 16 = 0) : eu χ (n + 1) = ers (eu χ n) n := cif_t h
theorem eu_out {χ : Nat → Nat} {n : Nat} (h : ¬ (eu χ n (16 * n) ≠ 0 ∧ grt (eu χ n) n 16 = 0)) : eu χ (n + 1) = eu χ n := cif_f h
/-- what the start finds in the blocks below n -/
noncomputable def lsA (χ : Nat → Nat) : Nat → Nat
  | 0 => 0
  | n + 1 => mn (lsA χ n) (lst χ n 16)
noncomputable def grA (χ : Nat → Nat) : Nat → Nat
  | 0 => 0
  | n + 1 => max (grA χ n) (grt χ n 16)
noncomputable def cuA (χ : Nat → Nat) : Nat → Nat
  | 0 => 0
  | n + 1 => cif (grA χ n < grt χ n 16) n (cuA χ n)
/-- trim: the blocks below m that it erases are erased; how many they are -/
noncomputable def tr (χ : Nat → Nat) (cu n : Nat) : Nat → Nat → Nat
  | 0 => χ
  | m + 1 => cif (m ≠ cu ∧ tr χ cu n m (16 * m) ≠ 0 ∧ grt (tr χ cu n m) m 16 ≤ n) (ers (tr χ cu n m) m) (tr χ cu n m)
noncomputable def trc (χ : Nat → Nat) (cu n : Nat) : Nat → Nat
  | 0 => 0
  | m + 1 => cif (m ≠ cu ∧ tr χ cu n m (16 * m) ≠ 0 ∧ grt (tr χ cu n m) m 16 ≤ n) (trc χ cu n m + 1) (trc χ cu n m)
theorem tr_in {χ : Nat → Nat} {cu n m : Nat} (h : m ≠ cu ∧ tr χ cu n m (16 * m) ≠ 0 ∧ grt (tr χ cu n m) m 16 ≤ n) : tr χ cu n (m + 1) = ers (tr χ cu n m) m ∧ trc χ cu n (m + 1) = trc χ cu n m + 1 := ⟨cif_t h, cif_t h⟩
theorem tr_out {χ : Nat → Nat} {cu n m : Nat} (h : ¬ (m ≠ cu ∧ tr χ cu n m (16 * m) ≠ 0 ∧ grt (tr χ cu n m) m 16 ≤ n)) : tr χ cu n (m + 1) = tr χ cu n m ∧ trc χ cu n (m + 1) = trc χ cu n m := ⟨cif_f h, cif_f h⟩
theorem trc_le (χ : Nat → Nat) (cu n : Nat) : ∀ m, trc χ cu n m ≤ m := by
  intro m
  induction m with
  | zero => exact Nat.le_refl 0
  | succ m ih => rcases cif_or (m ≠ cu ∧ tr χ cu n m (16 * m) ≠ 0 ∧ grt (tr χ cu n m) m 16 ≤ n) (trc χ cu n m + 1) (trc χ cu n m) with ⟨_, h⟩ | ⟨_, h⟩ <;> simp only [trc, h] <;> omega
/-! what holds of a block depends on its own cells alone -/
theorem plc_congr {χ χ' : Nat → Nat} {b : Nat} (h : ∀ i, inb b i → χ i = χ' i) : ∀ n, n ≤ 16 → fpl χ b n = fpl χ' b n := by
  intro n
  induction n with
  | zero => intro _; rfl
  | succ n ih =>
    intro hn
    simp only [fpl]
    rw [ih (by omega), h (16 * b + n) (Or.inl ⟨by omega, by omega⟩)]
theorem cov_congr {χ χ' : Nat → Nat} {b k : Nat} (h : ∀ i, inb b i → χ i = χ' i) : cov χ b k ↔ cov χ' b k := by
  unfold cov
  rw [h (200 + 17 * b + 16) (by unfold inb; omega)]
theorem reb_congr {χ χ' : Nat → Nat} {b k : Nat} (h : ∀ i, inb b i → χ i = χ' i) (hk : k < 16) : reb χ b k → reb χ' b k := by
  rintro ⟨h1, ⟨h2, h3, h4⟩, h5⟩
  refine ⟨by rw [← h (16 * b + k) (by unfold inb; omega)]; exact h1, ⟨by rw [← h (100 + b) (by unfold inb; omega)]; exact h2, h3, (cov_congr h).mp h4⟩, fun j hj hjk hc => ?_⟩
  rw [← h (16 * b + j) (by unfold inb; omega)]
  exact h5 j hj hjk ((cov_congr h).mpr hc)
theorem rdb_congr {χ χ' : Nat → Nat} {b k : Nat} (h : ∀ i, inb b i → χ i = χ' i) (hk : k < 16) : rdb χ b k ↔ rdb χ' b k := by
  constructor
  · exact fun h1 => h1.elim (fun h2 => Or.inl (by rw [← h (16 * b + k) (by unfold inb; omega)]; exact h2)) (fun h2 => Or.inr (reb_congr h hk h2))
  · exact fun h1 => h1.elim (fun h2 => Or.inl (by rw [h (16 * b + k) (by unfold inb; omega)]; exact h2)) (fun h2 => Or.inr (reb_congr (fun i hi => (h i hi).symm) hk h2))
theorem xfo_congr {χ χ' : Nat → Nat} {b k i : Nat} (h : ∀ i, inb b i → χ i = χ' i) (hi : i < 16) : ∀ n, n ≤ 8 → xfo χ b k i n = xfo χ' b k i n := by
  intro n
  induction n with
  | zero => intro _; exact h (200 + 17 * b + i) (by unfold inb; omega)
  | succ n ih =>
    intro hn
    by_cases hc : n ≠ k ∧ cov χ b n
    · rw [xfo_in hc, xfo_in ⟨hc.1, (cov_congr h).mp hc.2⟩, ih (by omega), h (1000 + 256 * b + (16 * n + i)) (by unfold inb; omega)]
    · rw [xfo_out hc, xfo_out (fun h9 => hc ⟨h9.1, (cov_congr h).mpr h9.2⟩), ih (by omega)]
theorem byt_congr {χ χ' : Nat → Nat} {b k i : Nat} (h : ∀ i, inb b i → χ i = χ' i) (hk : k < 16) (hi : i < 16) : byt χ b k i = byt χ' b k i := by
  unfold byt
  rw [h (16 * b + k) (by unfold inb; omega), h (1000 + 256 * b + (16 * k + i)) (by unfold inb; omega), xfo_congr h hi 8 (Nat.le_refl 8)]
theorem grt_congr {χ χ' : Nat → Nat} {b : Nat} (h : ∀ i, inb b i → χ i = χ' i) : ∀ n, n ≤ 16 → grt χ b n = grt χ' b n := by
  intro n
  induction n with
  | zero => intro _; rfl
  | succ n ih =>
    intro hn
    by_cases hr : rdb χ b n
    · rw [grt_in hr, grt_in ((rdb_congr h (by omega)).mp hr), ih (by omega), byt_congr h (by omega) (by decide), byt_congr h (by omega) (by decide), byt_congr h (by omega) (by decide)]
    · rw [grt_out hr, grt_out (fun h9 => hr ((rdb_congr h (by omega)).mpr h9)), ih (by omega)]
theorem lst_congr {χ χ' : Nat → Nat} {b : Nat} (h : ∀ i, inb b i → χ i = χ' i) : ∀ n, n ≤ 16 → lst χ b n = lst χ' b n := by
  intro n
  induction n with
  | zero => intro _; rfl
  | succ n ih =>
    intro hn
    by_cases hr : rdb χ b n
    · rw [lst_in hr, lst_in ((rdb_congr h (by omega)).mp hr), ih (by omega), byt_congr h (by omega) (by decide), byt_congr h (by omega) (by decide)]
    · rw [lst_out hr, lst_out (fun h9 => hr ((rdb_congr h (by omega)).mpr h9)), ih (by omega)]
/-- a row of events is one by its 16 bytes -/
theorem pl_congr {O O' : Nat → Nat} (h : ∀ j, j < 16 → O j = O' j) (hw : wf O) : ∀ i, i ≤ O 0 → pl O i = pl O' i := by
  intro i
  induction i with
  | zero => intro _; rfl
  | succ i ih =>
    intro hi
    have h1 := ih (by omega)
    have h2 := pl_lt hw (i := i) (by omega)
    show pl O i + 1 + O (pl O i) = pl O' i + 1 + O' (pl O' i)
    rw [← h1, h _ (by omega)]
theorem wf_congr {O O' : Nat → Nat} (h : ∀ j, j < 16 → O j = O' j) (hw : wf O) : wf O' := by
  obtain ⟨h1, h2, h3, h4⟩ := id hw
  refine ⟨by rw [← h 0 (by decide)]; exact h1, by rw [← h 1 (by decide)]; exact h2, by rw [← h 2 (by decide)]; exact h3, fun i hi => ?_⟩
  rw [← h 0 (by decide)] at hi
  have h5 := pl_lt hw hi
  rw [← pl_congr h hw i (by omega), ← h _ (by omega)]
  exact h4 i hi
theorem ers_out {χ : Nat → Nat} {b : Nat} : ∀ i, ¬ inb b i → ers χ b i = χ i := fun i hi => by
  unfold inb at hi
  simp only [ers]
  (repeat' split) <;> first | rfl | omega
theorem ers_rdb {χ : Nat → Nat} {b k : Nat} (hk : k < 16) : ¬ rdb (ers χ b) b k := by
  have h : ers χ b (16 * b + k) = 0 := if_pos ⟨by omega, by omega⟩
  rintro (h1 | h1)
  · rw [h] at h1; exact absurd h1 (by decide)
  · have h2 := h1.1
    rw [h] at h2; exact absurd h2 (by decide)
theorem wfs_ers {χ : Nat → Nat} {b : Nat} (hb : b < 6) (hw : wfs χ) : wfs (ers χ b) := by
  intro b' k hb' hk hr
  by_cases he : b' = b
  · subst he
    exact absurd hr (ers_rdb hk)
  · have h : ∀ i, inb b' i → ers χ b i = χ i := fun i hi => ers_out i (inb_apart hb hb' he hi)
    exact wf_congr (fun j hj => (byt_congr h hk hj).symm) (hw b' k hb' hk ((rdb_congr h hk).mp hr))
theorem eu_le {χ : Nat → Nat} : ∀ n, n ≤ 6 → ∀ i, eu χ n i ≤ χ i + 1 ∧ (∀ b, n ≤ b → b < 6 → i = 110 + b → eu χ n i ≤ χ i) := by
  intro n
  induction n with
  | zero => intro _ i; exact ⟨Nat.le_succ _, fun _ _ _ _ => Nat.le_refl _⟩
  | succ n ih =>
    intro hn i
    obtain ⟨h1, h2⟩ := ih (by omega) i
    by_cases h : eu χ n (16 * n) ≠ 0 ∧ grt (eu χ n) n 16 = 0
    · rw [eu_in h]
      refine ⟨?_, fun b hb hb6 he => ?_⟩
      · simp only [ers]
        split
        · omega
        · split
          · omega
          · split
            · have := h2 n (Nat.le_refl n) (by omega) ‹_›; omega
            · exact h1
      · simp only [ers]
        have := h2 b (by omega) hb6 he
        (repeat' split) <;> omega
    · rw [eu_out h]
      exact ⟨h1, fun b hb hb6 he => h2 b (by omega) hb6 he⟩
theorem tr_le {χ : Nat → Nat} {cu m : Nat} : ∀ n, n ≤ 6 → ∀ i, tr χ cu m n i ≤ χ i + 1 ∧ (∀ b, n ≤ b → b < 6 → i = 110 + b → tr χ cu m n i ≤ χ i) := by
  intro n
  induction n with
  | zero => intro _ i; exact ⟨Nat.le_succ _, fun _ _ _ _ => Nat.le_refl _⟩
  | succ n ih =>
    intro hn i
    obtain ⟨h1, h2⟩ := ih (by omega) i
    by_cases h : n ≠ cu ∧ tr χ cu m n (16 * n) ≠ 0 ∧ grt (tr χ cu m n) n 16 ≤ m
    · rw [(tr_in h).1]
      refine ⟨?_, fun b hb hb6 he => ?_⟩
      · simp only [ers]
        split
        · omega
        · split
          · omega
          · split
            · have := h2 n (Nat.le_refl n) (by omega) ‹_›; omega
            · exact h1
      · simp only [ers]
        have := h2 b (by omega) hb6 he
        (repeat' split) <;> omega
    · rw [(tr_out h).1]
      exact ⟨h1, fun b hb hb6 he => h2 b (by omega) hb6 he⟩
theorem wfs_eu {χ : Nat → Nat} (hw : wfs χ) : ∀ n, n ≤ 6 → wfs (eu χ n) := by
  intro n
  induction n with
  | zero => intro _; exact hw
  | succ n ih =>
    intro hn
    by_cases h : eu χ n (16 * n) ≠ 0 ∧ grt (eu χ n) n 16 = 0
    · rw [eu_in h]; exact wfs_ers (by omega) (ih (by omega))
    · rw [eu_out h]; exact ih (by omega)
theorem wfs_tr {χ : Nat → Nat} {cu m : Nat} (hw : wfs χ) : ∀ n, n ≤ 6 → wfs (tr χ cu m n) := by
  intro n
  induction n with
  | zero => intro _; exact hw
  | succ n ih =>
    intro hn
    by_cases h : n ≠ cu ∧ tr χ cu m n (16 * n) ≠ 0 ∧ grt (tr χ cu m n) n 16 ≤ m
    · rw [(tr_in h).1]; exact wfs_ers (by omega) (ih (by omega))
    · rw [(tr_out h).1]; exact ih (by omega)
theorem lsA_lt {χ : Nat → Nat} (hw : wfs χ) : ∀ n, n ≤ 6 → lsA χ n < 65600 := by
  intro n
  induction n with
  | zero => intro _; exact (by decide : (0 : Nat) < 65600)
  | succ n ih =>
    intro hn
    have h1 := ih (by omega)
    have h2 := lst_lt hw (show n < 6 by omega) 16 (Nat.le_refl _)
    simp only [lsA, mn]
    (repeat' split) <;> omega
theorem grA_lt {χ : Nat → Nat} (hw : wfs χ) : ∀ n, n ≤ 6 → grA χ n < 65600 := by
  intro n
  induction n with
  | zero => intro _; exact (by decide : (0 : Nat) < 65600)
  | succ n ih =>
    intro hn
    have h1 := ih (by omega)
    have h2 := grt_lt hw (show n < 6 by omega) 16 (Nat.le_refl _)
    simp only [grA]
    omega
theorem cuA_lt (χ : Nat → Nat) : ∀ n, n ≤ 6 → cuA χ n < 6 := by
  intro n
  induction n with
  | zero => intro _; exact (by decide : (0 : Nat) < 6)
  | succ n ih =>
    intro hn
    simp only [cuA]
    rcases cif_or (grA χ n < grt χ n 16) n (cuA χ n) with ⟨_, h⟩ | ⟨_, h⟩ <;> rw [h]
    · omega
    · exact ih (by omega)
end
section
set_option maxHeartbeats 4000000 in
set_option maxRecDepth 100000 in
theorem c_X2_requirePower (l : Launch) (D : va_G) {cI cB : ClassId} (a h O χ : Nat → Nat) (cu fi ne ct on : Nat) (hon : on = 1) : Met l yX2_requirePower wsX2_requirePower ({ frames := 0, cells := 0, slots := 0, locals := 0 }) (va_Pc [.ref (a 0)] (x_R D (tyP cI cB) (wP cI cB a h O χ cu fi ne ct on))) (va_Sv (fun _ => True)) 0 0 (fun _ => False) := by
  refine Met.ofW (cc := cX2_requirePower) (maxL := 1) (ret := none) (by decide) rfl ?_
  intro p e s m args below meth c s₁ B hml hv
  obtain ⟨rfl, hN, hP, hK⟩ := hv
  have hx := B.exec
  have hb := B.bytes
  have hr := B.returns
  have hts := atoms_spec (ws := wsX2_requirePower) B.pre
  have hown : s.vm.findClass RX2 = some m.cls := findClass_of_methodNamed B.named
  have hlocks := B.notSynchronized
  have hiX2 : ∀ w ∈ u_ws RX2 TX2 8, w ∈ wsX2_requirePower := by decide +kernel
  have hl := lv_entry ([.ref (a 0)]) (n := 1) (Nat.le_of_ble_eq_true rfl)
  rw [lg_entry_eq]
  generalize (lg_sl ([.ref (a 0)]) ++ List.replicate (1 - (lg_sl ([.ref (a 0)])).length) Slot.unset).toArray = ls at hl ⊢
  have hl : lv_has ls 1 [(0, .ref (a 0))] := hl
  refine lv_aload_n hx hb dX2_requirePower_0 rfl (lv_at hl 0 rfl) ?_
  refine va_get (D := D) (ci := 2) (v := .int (nI (on))) (C := RX2) (T := TX2) (N := 8) hx hb hts hiX2 hown hK hP 0 rfl rfl 7 (by decide) (hts (.fieldLink RX2 38 "PairedCells" "powerOn" "Z") (by decide +kernel)) (fun _ h9 => h9) rfl dX2_requirePower_1 ?_
  refine xz_ne (tgt := 17) hx hb dX2_requirePower_4 (by decide) (nI_toInt (by omega)) (fun c_4 => ?_) (fun c_4 => ?_)
  · exact xe_v hx hb hr hlocks (trivial) rfl rfl dX2_requirePower_17
  · exfalso; omega

set_option maxHeartbeats 4000000 in
set_option maxRecDepth 100000 in
theorem c_X2_requireEvent (l : Launch) (D : va_G) {cI cB : ClassId} (a h O χ : Nat → Nat) (cu fi ne ct on : Nat) (k : Nat) (h1 : fi ≤ k) (h2 : k < ne) (h3 : ne < 100000) : Met l yX2_requireEvent wsX2_requireEvent ({ frames := 0, cells := 0, slots := 0, locals := 0 }) (va_Pc [.ref (a 0), .int (nI (k))] (x_R D (tyP cI cB) (wP cI cB a h O χ cu fi ne ct on))) (va_Sv (fun _ => True)) 0 0 (fun _ => False) := by
  refine Met.ofW (cc := cX2_requireEvent) (maxL := 2) (ret := none) (by decide) rfl ?_
  intro p e s m args below meth c s₁ B hml hv
  obtain ⟨rfl, hN, hP, hK⟩ := hv
  have hx := B.exec
  have hb := B.bytes
  have hr := B.returns
  have hts := atoms_spec (ws := wsX2_requireEvent) B.pre
  have hown : s.vm.findClass RX2 = some m.cls := findClass_of_methodNamed B.named
  have hlocks := B.notSynchronized
  have hiX2 : ∀ w ∈ u_ws RX2 TX2 8, w ∈ wsX2_requireEvent := by decide +kernel
  have hl := lv_entry ([.ref (a 0), .int (nI (k))]) (n := 2) (Nat.le_of_ble_eq_true rfl)
  rw [lg_entry_eq]
  generalize (lg_sl ([.ref (a 0), .int (nI (k))]) ++ List.replicate (2 - (lg_sl ([.ref (a 0), .int (nI (k))])).length) Slot.unset).toArray = ls at hl ⊢
  have hl : lv_has ls 2 [(0, .ref (a 0)), (1, .int (nI (k)))] := hl
  refine lv_iload_n hx hb dX2_requireEvent_0 rfl (lv_at hl 1 rfl) ?_
  refine lv_aload_n hx hb dX2_requireEvent_1 rfl (lv_at hl 0 rfl) ?_
  refine va_get (D := D) (ci := 2) (v := .int (nI (fi))) (C := RX2) (T := TX2) (N := 8) hx hb hts hiX2 hown hK hP 0 rfl rfl 4 (by decide) (hts (.fieldLink RX2 29 "PairedCells" "firstEvent" "I") (by decide +kernel)) (fun _ h9 => h9) rfl dX2_requireEvent_2 ?_
  refine xi_lt (tgt := 16) hx hb dX2_requireEvent_5 (by decide) (nI_toInt (by omega)) (nI_toInt (by omega)) (fun c_5 => ?_) (fun c_5 => ?_)
  · exfalso; omega
  · refine lv_iload_n hx hb dX2_requireEvent_8 rfl (lv_at hl 1 rfl) ?_
    refine lv_aload_n hx hb dX2_requireEvent_9 rfl (lv_at hl 0 rfl) ?_
    refine va_get (D := D) (ci := 2) (v := .int (nI (ne))) (C := RX2) (T := TX2) (N := 8) hx hb hts hiX2 hown hK hP 0 rfl rfl 5 (by decide) (hts (.fieldLink RX2 32 "PairedCells" "nextEvent" "I") (by decide +kernel)) (fun _ h9 => h9) rfl dX2_requireEvent_10 ?_
    refine xi_lt (tgt := 26) hx hb dX2_requireEvent_13 (by decide) (nI_toInt (by omega)) (nI_toInt (by omega)) (fun c_13 => ?_) (fun c_13 => ?_)
    · exact xe_v hx hb hr hlocks (trivial) rfl rfl dX2_requireEvent_26
    · exfalso; omega

set_option maxHeartbeats 4000000 in
set_option maxRecDepth 100000 in
theorem c_X2_requireBlock (l : Launch) (D : va_G) {cI cB : ClassId} (b : Nat) (hb6 : b < 6) : Met l yX2_requireBlock wsX2_requireBlock ({ frames := 0, cells := 0, slots := 0, locals := 0 }) (va_Pc [.int (nI (b))] (x_R D (tyP cI cB) (([] : va_W)))) (va_Sv (fun _ => True)) 0 0 (fun _ => False) := by
  refine Met.ofW (cc := cX2_requireBlock) (maxL := 1) (ret := none) (by decide) rfl ?_
  intro p e s m args below meth c s₁ B hml hv
  obtain ⟨rfl, hN, hP, hK⟩ := hv
  have hx := B.exec
  have hb := B.bytes
  have hr := B.returns
  have hts := atoms_spec (ws := wsX2_requireBlock) B.pre
  have hown : s.vm.findClass RX2 = some m.cls := findClass_of_methodNamed B.named
  have hlocks := B.notSynchronized
  have hl := lv_entry ([.int (nI (b))]) (n := 1) (Nat.le_of_ble_eq_true rfl)
  rw [lg_entry_eq]
  generalize (lg_sl ([.int (nI (b))]) ++ List.replicate (1 - (lg_sl ([.int (nI (b))])).length) Slot.unset).toArray = ls at hl ⊢
  have hl : lv_has ls 1 [(0, .int (nI (b)))] := hl
  refine lv_iload_n hx hb dX2_requireBlock_0 rfl (lv_at hl 0 rfl) ?_
  refine xz_lt (tgt := 10) hx hb dX2_requireBlock_1 (by decide) (nI_toInt (by omega)) (fun c_1 => ?_) (fun c_1 => ?_)
  · exfalso; omega
  · refine lv_iload_n hx hb dX2_requireBlock_4 rfl (lv_at hl 0 rfl) ?_
    refine lv_bipush (v := nI 6) hx hb dX2_requireBlock_5 (by decide) ?_
    refine xi_lt (tgt := 20) hx hb dX2_requireBlock_7 (by decide) (nI_toInt (by omega)) (nI_toInt (by omega)) (fun c_7 => ?_) (fun c_7 => ?_)
    · exact xe_v hx hb hr hlocks (trivial) rfl rfl dX2_requireBlock_20
    · exfalso; omega

set_option maxHeartbeats 4000000 in
set_option maxRecDepth 100000 in
theorem c_X2_requireLine (l : Launch) (D : va_G) {cI cB : ClassId} (b k : Nat) (hb6 : b < 6) (hk8 : k < 8) : Met l yX2_requireLine wsX2_requireLine ({ frames := 1, cells := 0, slots := 0, locals := 20 }) (va_Pc [.int (nI (b)), .int (nI (k))] (x_R D (tyP cI cB) (([] : va_W)))) (va_Sv (fun _ => True)) 0 0 (fun _ => False) := by
  refine Met.ofW (cc := cX2_requireLine) (maxL := 2) (ret := none) (by decide) rfl ?_
  intro p e s m args below meth c s₁ B hml hv
  obtain ⟨rfl, hN, hP, hK⟩ := hv
  have hx := B.exec
  have hb := B.bytes
  have hr := B.returns
  have hts := atoms_spec (ws := wsX2_requireLine) B.pre
  have hown : s.vm.findClass RX2 = some m.cls := findClass_of_methodNamed B.named
  have hlocks := B.notSynchronized
  have hl := lv_entry ([.int (nI (b)), .int (nI (k))]) (n := 2) (Nat.le_of_ble_eq_true rfl)
  rw [lg_entry_eq]
  generalize (lg_sl ([.int (nI (b)), .int (nI (k))]) ++ List.replicate (2 - (lg_sl ([.int (nI (b)), .int (nI (k))])).length) Slot.unset).toArray = ls at hl ⊢
  have hl : lv_has ls 2 [(0, .int (nI (b))), (1, .int (nI (k)))] := hl
  refine lv_iload_n hx hb dX2_requireLine_0 rfl (lv_at hl 0 rfl) ?_
  refine xc_Sv (rest := []) (As := [.int (nI (b))]) ⟨hx, hb, hml, hown, hts⟩ (c_X2_requireBlock l D b hb6) (va_cwS 1 hts gX2_requireLine_X2_requireBlock rfl rfl rfl (by decide +kernel) ⟨Nat.le_of_ble_eq_true rfl, Nat.le_of_ble_eq_true rfl⟩) hN hK (va_P_nil) rfl hl.1 rfl (Nat.le_of_ble_eq_true rfl) dX2_requireLine_1 ⟨Nat.le_of_ble_eq_true rfl, Nat.le_of_ble_eq_true rfl⟩ (fun hw_1 => ?_)
  refine lv_iload_n hx hb dX2_requireLine_4 rfl (lv_at hl 1 rfl) ?_
  refine xz_lt (tgt := 14) hx hb dX2_requireLine_5 (by decide) (nI_toInt (by omega)) (fun c_5 => ?_) (fun c_5 => ?_)
  · exfalso; omega
  · refine lv_iload_n hx hb dX2_requireLine_8 rfl (lv_at hl 1 rfl) ?_
    refine lv_bipush (v := nI 8) hx hb dX2_requireLine_9 (by decide) ?_
    refine xi_lt (tgt := 24) hx hb dX2_requireLine_11 (by decide) (nI_toInt (by omega)) (nI_toInt (by omega)) (fun c_11 => ?_) (fun c_11 => ?_)
    · exact xe_v hx hb hr hlocks (trivial) rfl rfl dX2_requireLine_24
    · exfalso; omega

set_option maxHeartbeats 4000000 in
set_option maxRecDepth 100000 in
theorem c_X2_placeOf (l : Launch) (D : va_G) {cI cB : ClassId} (k u : Nat) (hu : u < 2) : Met l yX2_placeOf wsX2_placeOf ({ frames := 0, cells := 0, slots := 0, locals := 0 }) (va_Pc [.int (nI (k)), .int (nI (u))] (x_R D (tyP cI cB) (([] : va_W)))) (vp_Si (fun r => r = nI (plo k u))) 0 0 (fun _ => False) := by
  refine Met.ofW (cc := cX2_placeOf) (maxL := 2) (ret := (some .int)) (by decide) rfl ?_
  intro p e s m args below meth c s₁ B hml hv
  obtain ⟨rfl, hN, hP, hK⟩ := hv
  have hx := B.exec
  have hb := B.bytes
  have hr := B.returns
  have hts := atoms_spec (ws := wsX2_placeOf) B.pre
  have hown : s.vm.findClass RX2 = some m.cls := findClass_of_methodNamed B.named
  have hlocks := B.notSynchronized
  have hl := lv_entry ([.int (nI (k)), .int (nI (u))]) (n := 2) (Nat.le_of_ble_eq_true rfl)
  rw [lg_entry_eq]
  generalize (lg_sl ([.int (nI (k)), .int (nI (u))]) ++ List.replicate (2 - (lg_sl ([.int (nI (k)), .int (nI (u))])).length) Slot.unset).toArray = ls at hl ⊢
  have hl : lv_has ls 2 [(0, .int (nI (k))), (1, .int (nI (u)))] := hl
  refine lv_iload_n hx hb dX2_placeOf_0 rfl (lv_at hl 1 rfl) ?_
  refine xz_eq (tgt := 11) hx hb dX2_placeOf_1 (by decide) (nI_toInt (by omega)) (fun c_1 => ?_) (fun c_1 => ?_)
  · refine lv_iload_n hx hb dX2_placeOf_11 rfl (lv_at hl 0 rfl) ?_
    exact xe_i hx hb hr hlocks (by rw [plo, if_pos (by omega)]) rfl rfl dX2_placeOf_12
  · refine lv_bipush (v := nI 8) hx hb dX2_placeOf_4 (by decide) ?_
    refine lv_iload_n hx hb dX2_placeOf_6 rfl (lv_at hl 0 rfl) ?_
    refine xr_add hx hb dX2_placeOf_7 ?_
    refine lv_goto (tgt := 12) hx hb dX2_placeOf_8 (by decide) ?_
    exact xe_i hx hb hr hlocks (by rw [plo, if_neg (by omega)]) rfl rfl dX2_placeOf_12

set_option maxHeartbeats 4000000 in
set_option maxRecDepth 100000 in
theorem c_X2_cutIsDue (l : Launch) (D : va_G) {cI cB : ClassId} (a h O χ : Nat → Nat) (cu fi ne ct on : Nat) (hct : ct < 100) (sz : Nat) : Met l yX2_cutIsDue wsX2_cutIsDue ({ frames := 0, cells := 0, slots := 0, locals := 0 }) (va_Pc [.ref (a 0)] (x_U D (tyP cI cB) (wP cI cB a h O χ cu fi ne ct on) sz)) (va_Qi (fun (r : Int32) (u : Nat × Nat) => (ct = 1 ∧ r = nI 1 ∧ u = (0, 0)) ∨ (ct ≠ 1 ∧ r = nI 0 ∧ u = (ct - 1, on))) (fun u t => x_E D (tyP cI cB) (va_A (wP cI cB a h O χ cu fi ne ct on) sz) (wP cI cB a h O χ cu fi ne u.1 u.2) t) (va_A (wP cI cB a h O χ cu fi ne ct on) sz)) 0 0 (va_A (wP cI cB a h O χ cu fi ne ct on) sz) := by
  refine Met.ofW (cc := cX2_cutIsDue) (maxL := 1) (ret := (some .boolean)) (by decide) rfl ?_
  intro p e s m args below meth c s₁ B hml hv
  obtain ⟨rfl, hsz, hN, hP, hK, hD0⟩ := hv
  have hx := B.exec
  have hb := B.bytes
  have hr := B.returns
  have hts := atoms_spec (ws := wsX2_cutIsDue) B.pre
  have hown : s.vm.findClass RX2 = some m.cls := findClass_of_methodNamed B.named
  have hlocks := B.notSynchronized
  subst hsz
  have hD := hD0.self (sz := s.heap.size)
  generalize hAe : va_A (wP cI cB a h O χ cu fi ne ct on) s.heap.size = A at hD ⊢
  have hA : ∀ q : Nat, s.heap.size ≤ q → A q := fun q h => by rw [← hAe]; exact Or.inr h
  obtain ⟨H, hH⟩ : ∃ H : Heap, s.heap = H := ⟨_, rfl⟩
  obtain ⟨locs, hlo⟩ : ∃ L : List Loc, ([] : List Loc) = L := ⟨_, rfl⟩
  have hS : va_S A s.heap H locs := by rw [← hH, ← hlo]; exact va_S.rf
  have hP : va_P D vwCl (wP cI cB a h O χ cu fi ne ct on) H := hH ▸ hP
  rw [hH, hlo]
  have hiX2 : ∀ w ∈ u_ws RX2 TX2 8, w ∈ wsX2_cutIsDue := by decide +kernel
  have hl := lv_entry ([.ref (a 0)]) (n := 1) (Nat.le_of_ble_eq_true rfl)
  rw [lg_entry_eq]
  generalize (lg_sl ([.ref (a 0)]) ++ List.replicate (1 - (lg_sl ([.ref (a 0)])).length) Slot.unset).toArray = ls at hl ⊢
  have hl : lv_has ls 1 [(0, .ref (a 0))] := hl
  refine lv_aload_n hx hb dX2_cutIsDue_0 rfl (lv_at hl 0 rfl) ?_
  refine va_get (D := D) (ci := 2) (v := .int (nI (ct))) (C := RX2) (T := TX2) (N := 8) hx hb hts hiX2 hown hK hP 0 rfl rfl 6 (by decide) (hts (.fieldLink RX2 35 "PairedCells" "cutIn" "I") (by decide +kernel)) (fun _ h9 => h9) rfl dX2_cutIsDue_1 ?_
  refine xz_ne (tgt := 9) hx hb dX2_cutIsDue_4 (by decide) (nI_toInt (by omega)) (fun c_4 => ?_) (fun c_4 => ?_)
  · refine lv_aload_n hx hb dX2_cutIsDue_9 rfl (lv_at hl 0 rfl) ?_
    refine lv_dup hx hb dX2_cutIsDue_10 rfl ?_
    refine va_get (D := D) (ci := 2) (v := .int (nI (ct))) (C := RX2) (T := TX2) (N := 8) hx hb hts hiX2 hown hK hP 0 rfl rfl 6 (by decide) (hts (.fieldLink RX2 35 "PairedCells" "cutIn" "I") (by decide +kernel)) (fun _ h9 => h9) rfl dX2_cutIsDue_11 ?_
    refine lv_iconst (v := nI 1) hx hb dX2_cutIsDue_14 (by decide) ?_
    refine xr_sub hx hb (by omega) dX2_cutIsDue_15 ?_
    refine va_put (D := D) (ci := 2) (v := .int (nI (ct - 1))) (ty := .int) (C := RX2) (T := TX2) (N := 8) hx hb hts hiX2 tyX2 tyX2_ok nmX2 hown hK hP hD hS 0 rfl rfl 6 (by decide) (hts (.fieldLink RX2 35 "PairedCells" "cutIn" "I") (by decide +kernel)) (fun _ h9 => h9) rfl (by decide +kernel) rfl rfl (Nat.le_of_ble_eq_true rfl) dX2_cutIsDue_16 (fun H locs hP hD hS => ?_)
    have hP : va_P D vwCl (wP cI cB a h O χ cu fi ne (ct - 1) on) H := hP
    have hD : va_D A (wP cI cB a h O χ cu fi ne (ct - 1) on) := hD
    refine lv_aload_n hx hb dX2_cutIsDue_19 rfl (lv_at hl 0 rfl) ?_
    refine va_get (D := D) (ci := 2) (v := .int (nI (ct - 1))) (C := RX2) (T := TX2) (N := 8) hx hb hts hiX2 hown hK hP 0 rfl rfl 6 (by decide) (hts (.fieldLink RX2 35 "PairedCells" "cutIn" "I") (by decide +kernel)) (fun _ h9 => h9) rfl dX2_cutIsDue_20 ?_
    refine xz_le (tgt := 28) hx hb dX2_cutIsDue_23 (by decide) (nI_toInt (by omega)) (fun c_23 => ?_) (fun c_23 => ?_)
    · refine lv_aload_n hx hb dX2_cutIsDue_28 rfl (lv_at hl 0 rfl) ?_
      refine lv_iconst (v := nI 0) hx hb dX2_cutIsDue_29 (by decide) ?_
      refine va_put (D := D) (ci := 2) (v := .int (nI (0))) (ty := .boolean) (C := RX2) (T := TX2) (N := 8) hx hb hts hiX2 tyX2 tyX2_ok nmX2 hown hK hP hD hS 0 rfl rfl 7 (by decide) (hts (.fieldLink RX2 38 "PairedCells" "powerOn" "Z") (by decide +kernel)) (fun _ h9 => h9) rfl (by decide +kernel) rfl rfl (Nat.le_of_ble_eq_true rfl) dX2_cutIsDue_30 (fun H locs hP hD hS => ?_)
      have hP : va_P D vwCl (wP cI cB a h O χ cu fi ne (ct - 1) 0) H := hP
      have hD : va_D A (wP cI cB a h O χ cu fi ne (ct - 1) 0) := hD
      refine lv_iconst (v := nI 1) hx hb dX2_cutIsDue_33 (by decide) ?_
      have hq9 : (wP cI cB a h O χ cu fi ne (ct - 1) 0 : va_W) = wP cI cB a h O χ cu fi ne 0 0 := (by rw [show ct - 1 = 0 by omega])
      exact xf_z (post := fun (r : Int32) (u : Nat × Nat) => (ct = 1 ∧ r = nI 1 ∧ u = (0, 0)) ∨ (ct ≠ 1 ∧ r = nI 0 ∧ u = (ct - 1, on))) (w1 := fun (u : Nat × Nat) => wP cI cB a h O χ cu fi ne u.1 u.2) (0, 0) hx hb hr hlocks rfl (Or.inl ⟨by omega, rfl, rfl⟩) (va_P.eqw hq9 hP) hK (va_D.eqw hq9 hD) hS dX2_cutIsDue_34
    · refine lv_iconst (v := nI 0) hx hb dX2_cutIsDue_26 (by decide) ?_
      exact xf_z (post := fun (r : Int32) (u : Nat × Nat) => (ct = 1 ∧ r = nI 1 ∧ u = (0, 0)) ∨ (ct ≠ 1 ∧ r = nI 0 ∧ u = (ct - 1, on))) (w1 := fun (u : Nat × Nat) => wP cI cB a h O χ cu fi ne u.1 u.2) (ct - 1, on) hx hb hr hlocks rfl (Or.inr ⟨by omega, rfl, rfl⟩) hP hK hD hS dX2_cutIsDue_27
  · refine lv_iconst (v := nI 0) hx hb dX2_cutIsDue_7 (by decide) ?_
    have hq9 : (wP cI cB a h O χ cu fi ne ct on : va_W) = wP cI cB a h O χ cu fi ne (ct - 1) on := (by rw [show ct - 1 = ct by omega])
    exact xf_z (post := fun (r : Int32) (u : Nat × Nat) => (ct = 1 ∧ r = nI 1 ∧ u = (0, 0)) ∨ (ct ≠ 1 ∧ r = nI 0 ∧ u = (ct - 1, on))) (w1 := fun (u : Nat × Nat) => wP cI cB a h O χ cu fi ne u.1 u.2) (ct - 1, on) hx hb hr hlocks rfl (Or.inr ⟨by omega, rfl, rfl⟩) (va_P.eqw hq9 hP) hK (va_D.eqw hq9 hD) hS dX2_cutIsDue_8

set_option maxHeartbeats 4000000 in
set_option maxRecDepth 100000 in
theorem c_X2_programGuard (l : Launch) (D : va_G) {cI cB : ClassId} (a h O χ : Nat → Nat) (cu fi ne ct on : Nat) (hct : ct < 100) (b : Nat) (hb6 : b < 6) (hχ : ∀ i, χ i < 65536) (sz : Nat) : Met l yX2_programGuard wsX2_programGuard ({ frames := 2, cells := 0, slots := 0, locals := 45 }) (va_Pc [.ref (a 0), .ref (a (6 + 4 * b))] (x_U D (tyP cI cB) (wP cI cB a h O χ cu fi ne ct on) sz)) (va_Qi (fun (r : Int32) (u : (Nat → Nat) × Nat × Nat) => (ct = 1 ∧ r = nI 0 ∧ u = (up χ (100 + b) 2, 0, 0)) ∨ (ct ≠ 1 ∧ r = nI 1 ∧ u = (wgd χ b, ct - 1, on))) (fun u t => x_E D (tyP cI cB) (va_A (wP cI cB a h O χ cu fi ne ct on) sz) (wP cI cB a h O u.1 cu fi ne u.2.1 u.2.2) t) (va_A (wP cI cB a h O χ cu fi ne ct on) sz)) 0 0 (va_A (wP cI cB a h O χ cu fi ne ct on) sz) := by
  refine Met.ofW (cc := cX2_programGuard) (maxL := 2) (ret := (some .boolean)) (by decide) rfl ?_
  intro p e s m args below meth c s₁ B hml hv
  obtain ⟨rfl, hsz, hN, hP, hK, hD0⟩ := hv
  have hx := B.exec
  have hb := B.bytes
  have hr := B.returns
  have hts := atoms_spec (ws := wsX2_programGuard) B.pre
  have hown : s.vm.findClass RX2 = some m.cls := findClass_of_methodNamed B.named
  have hlocks := B.notSynchronized
  subst hsz
  have hD := hD0.self (sz := s.heap.size)
  generalize hAe : va_A (wP cI cB a h O χ cu fi ne ct on) s.heap.size = A at hD ⊢
  have hA : ∀ q : Nat, s.heap.size ≤ q → A q := fun q h => by rw [← hAe]; exact Or.inr h
  obtain ⟨H, hH⟩ : ∃ H : Heap, s.heap = H := ⟨_, rfl⟩
  obtain ⟨locs, hlo⟩ : ∃ L : List Loc, ([] : List Loc) = L := ⟨_, rfl⟩
  have hS : va_S A s.heap H locs := by rw [← hH, ← hlo]; exact va_S.rf
  have hP : va_P D vwCl (wP cI cB a h O χ cu fi ne ct on) H := hH ▸ hP
  rw [hH, hlo]
  have hiX0 : ∀ w ∈ u_ws RX0 TX0 5, w ∈ wsX2_programGuard := by decide +kernel
  have hl := lv_entry ([.ref (a 0), .ref (a (6 + 4 * b))]) (n := 2) (Nat.le_of_ble_eq_true rfl)
  rw [lg_entry_eq]
  generalize (lg_sl ([.ref (a 0), .ref (a (6 + 4 * b))]) ++ List.replicate (2 - (lg_sl ([.ref (a 0), .ref (a (6 + 4 * b))])).length) Slot.unset).toArray = ls at hl ⊢
  have hl : lv_has ls 2 [(0, .ref (a 0)), (1, .ref (a (6 + 4 * b)))] := hl
  refine lv_aload_n hx hb dX2_programGuard_0 rfl (lv_at hl 0 rfl) ?_
  have hF9 := x_hF (hD) hS hA
  refine xw_Vi (ci := 2) (rest := []) (As := []) ⟨hx, hb, hml, hown, hts⟩ (c_X2_cutIsDue l D a h O χ cu fi ne ct on hct H.size) (cwV 0 hts gX2_programGuard_X2_cutIsDue rfl rfl rfl (by decide +kernel) ⟨Nat.le_of_ble_eq_true rfl, Nat.le_of_ble_eq_true rfl⟩) hN hK (hP) (hD) hS hA rfl 0 rfl rfl hl.1 rfl (Nat.le_of_ble_eq_true rfl) dX2_programGuard_1 ⟨Nat.le_of_ble_eq_true rfl, Nat.le_of_ble_eq_true rfl⟩ (fun r_1 u_1 H1 locs hw_1 hP1 hD1 hDA hk9 hS => ?_)
  rcases hw_1 with ⟨hc1, rfl, rfl⟩ | ⟨hc1, rfl, rfl⟩
  · have hP := hP1
    have hD := hDA
    generalize H1 = H at hP hS ⊢
    have hP : va_P D vwCl (wP cI cB a h O χ cu fi ne 0 0) H := hP
    have hD : va_D A (wP cI cB a h O χ cu fi ne 0 0) := hD
    refine xz_eq (tgt := 14) hx hb dX2_programGuard_4 (by decide) (nI_toInt (by omega)) (fun c_4 => ?_) (fun c_4 => ?_)
    · exfalso; omega
    · refine lv_aload_n hx hb dX2_programGuard_7 rfl (lv_at hl 1 rfl) ?_
      refine lv_iconst (v := nI 2) hx hb dX2_programGuard_8 (by decide) ?_
      refine va_putN (D := D) (ci := 0) (v := .int (nI 2)) (ty := .int) (C := RX0) (T := TX0) (N := 5) hx hb hts hiX0 tyX0 tyX0_ok nmX0 hown hK hP hD hS (6 + 4 * b) (wP_at hb6) rfl 3 (by decide) (va_Nw.use rfl hN.2.2.1) (fun _ h9 => h9) rfl (by decide +kernel) rfl rfl (Nat.le_of_ble_eq_true rfl) dX2_programGuard_9 (fun H locs hP hD hS => ?_)
      have hP : va_P D vwCl (wP cI cB a h O (up χ (100 + b) 2) cu fi ne 0 0) H := va_P.eqw (wP_gs hb6) hP
      have hD : va_D A (wP cI cB a h O (up χ (100 + b) 2) cu fi ne 0 0) := va_D.eqw (wP_gs hb6) hD
      refine lv_iconst (v := nI 0) hx hb dX2_programGuard_12 (by decide) ?_
      exact xf_z (post := fun (r : Int32) (u : (Nat → Nat) × Nat × Nat) => (ct = 1 ∧ r = nI 0 ∧ u = (up χ (100 + b) 2, 0, 0)) ∨ (ct ≠ 1 ∧ r = nI 1 ∧ u = (wgd χ b, ct - 1, on))) (w1 := fun (u : (Nat → Nat) × Nat × Nat) => wP cI cB a h O u.1 cu fi ne u.2.1 u.2.2) (up χ (100 + b) 2, 0, 0) hx hb hr hlocks rfl (Or.inl ⟨hc1, rfl, rfl⟩) hP hK hD hS dX2_programGuard_13
  · have hP := hP1
    have hD := hDA
    generalize H1 = H at hP hS ⊢
    have hP : va_P D vwCl (wP cI cB a h O χ cu fi ne (ct - 1) on) H := hP
    have hD : va_D A (wP cI cB a h O χ cu fi ne (ct - 1) on) := hD
    refine xz_eq (tgt := 14) hx hb dX2_programGuard_4 (by decide) (nI_toInt (by omega)) (fun c_4 => ?_) (fun c_4 => ?_)
    · refine lv_aload_n hx hb dX2_programGuard_14 rfl (lv_at hl 1 rfl) ?_
      have hF9 := x_hF (dP_blk hb6 hD) hS hA
      refine xw_Vv (ci := 0) (rest := []) (As := []) ⟨hx, hb, hml, hown, hts⟩ (c_X0_writeGuard l D a χ b hb6 hχ H.size) (cwV 0 hts gX2_programGuard_X0_writeGuard rfl rfl rfl (by decide +kernel) ⟨Nat.le_of_ble_eq_true rfl, Nat.le_of_ble_eq_true rfl⟩) hN hK (wP_blk hb6 hP) (dP_blk hb6 hD) hS hA rfl 0 rfl rfl hl.1 rfl (Nat.le_of_ble_eq_true rfl) dX2_programGuard_15 ⟨Nat.le_of_ble_eq_true rfl, Nat.le_of_ble_eq_true rfl⟩ (fun u_15 H1 locs hw_15 hP1 hD1 hDA hk9 hS => ?_)
      obtain ⟨hP, hD⟩ := jP_blk hb6 hP hD hF9 hk9 hP1 hD1 (fun i hi => by unfold inb at hi; simp only [wgd]; (repeat' split) <;> first | rfl | omega)
      generalize H1 = H at hP hS ⊢
      have hP : va_P D vwCl (wP cI cB a h O (wgd χ b) cu fi ne (ct - 1) on) H := hP
      have hD : va_D A (wP cI cB a h O (wgd χ b) cu fi ne (ct - 1) on) := hD
      refine lv_iconst (v := nI 1) hx hb dX2_programGuard_18 (by decide) ?_
      exact xf_z (post := fun (r : Int32) (u : (Nat → Nat) × Nat × Nat) => (ct = 1 ∧ r = nI 0 ∧ u = (up χ (100 + b) 2, 0, 0)) ∨ (ct ≠ 1 ∧ r = nI 1 ∧ u = (wgd χ b, ct - 1, on))) (w1 := fun (u : (Nat → Nat) × Nat × Nat) => wP cI cB a h O u.1 cu fi ne u.2.1 u.2.2) (wgd χ b, ct - 1, on) hx hb hr hlocks rfl (Or.inr ⟨hc1, rfl, rfl⟩) hP hK hD hS dX2_programGuard_19
    · exfalso; omega

set_option maxHeartbeats 4000000 in
set_option maxRecDepth 100000 in
theorem c_X2_blockToProgram (l : Launch) (D : va_G) {cI cB : ClassId} (a h O χ : Nat → Nat) (cu fi ne ct on : Nat) (hcu : cu < 6) (hχ : ∀ i, χ i < 65536) (hnf : ¬ ful χ cu) : Met l yX2_blockToProgram wsX2_blockToProgram ({ frames := 2, cells := 0, slots := 0, locals := 42 }) (va_Pc [.ref (a 0)] (x_R D (tyP cI cB) (wP cI cB a h O χ cu fi ne ct on))) (vp_Si (fun r => r = nI (nxb χ cu))) 0 0 (fun _ => False) := by
  refine Met.ofW (cc := cX2_blockToProgram) (maxL := 2) (ret := (some .int)) (by decide) rfl ?_
  intro p e s m args below meth c s₁ B hml hv
  obtain ⟨rfl, hN, hP, hK⟩ := hv
  have hx := B.exec
  have hb := B.bytes
  have hr := B.returns
  have hts := atoms_spec (ws := wsX2_blockToProgram) B.pre
  have hown : s.vm.findClass RX2 = some m.cls := findClass_of_methodNamed B.named
  have hlocks := B.notSynchronized
  have hiX2 : ∀ w ∈ u_ws RX2 TX2 8, w ∈ wsX2_blockToProgram := by decide +kernel
  have hl := lv_entry ([.ref (a 0)]) (n := 2) (Nat.le_of_ble_eq_true rfl)
  rw [lg_entry_eq]
  generalize (lg_sl ([.ref (a 0)]) ++ List.replicate (2 - (lg_sl ([.ref (a 0)])).length) Slot.unset).toArray = ls at hl ⊢
  have hl : lv_has ls 2 [(0, .ref (a 0))] := hl
  refine lv_aload_n hx hb dX2_blockToProgram_0 rfl (lv_at hl 0 rfl) ?_
  refine va_get (D := D) (ci := 2) (v := .ref (a 1)) (C := RX2) (T := TX2) (N := 8) hx hb hts hiX2 hown hK hP 0 rfl rfl 0 (by decide) (hts (.fieldLink RX2 11 "PairedCells" "blocks" "[LPairedCells$Block;") (by decide +kernel)) (fun _ h9 => h9) rfl dX2_blockToProgram_1 ?_
  refine lv_aload_n hx hb dX2_blockToProgram_4 rfl (lv_at hl 0 rfl) ?_
  refine va_get (D := D) (ci := 2) (v := .int (nI (cu))) (C := RX2) (T := TX2) (N := 8) hx hb hts hiX2 hown hK hP 0 rfl rfl 3 (by decide) (hts (.fieldLink RX2 25 "PairedCells" "current" "I") (by decide +kernel)) (fun _ h9 => h9) rfl dX2_blockToProgram_5 ?_
  refine xr_aald hx hb hK hP 1 1 rfl rfl (by omega) (by decide) dX2_blockToProgram_8 ?_
  refine xc_Vi (ci := 0) (rest := []) (As := []) ⟨hx, hb, hml, hown, hts⟩ (c_X0_takesMore l D a χ cu hcu hχ) (cwV 0 hts gX2_blockToProgram_X0_takesMore rfl rfl rfl (by decide +kernel) ⟨Nat.le_of_ble_eq_true rfl, Nat.le_of_ble_eq_true rfl⟩) hN hK (wP_blk hcu hP) rfl 0 rfl rfl hl.1 rfl (Nat.le_of_ble_eq_true rfl) dX2_blockToProgram_9 ⟨Nat.le_of_ble_eq_true rfl, Nat.le_of_ble_eq_true rfl⟩ (fun r_9 hw_9 => ?_)
  refine xz_eq (tgt := 20) hx hb dX2_blockToProgram_12 (by decide) rfl (fun c_12 => ?_) (fun c_12 => ?_)
  · have h_12 := bo.f hw_9 c_12
    refine lv_aload_n hx hb dX2_blockToProgram_20 rfl (lv_at hl 0 rfl) ?_
    refine va_get (D := D) (ci := 2) (v := .int (nI (cu))) (C := RX2) (T := TX2) (N := 8) hx hb hts hiX2 hown hK hP 0 rfl rfl 3 (by decide) (hts (.fieldLink RX2 25 "PairedCells" "current" "I") (by decide +kernel)) (fun _ h9 => h9) rfl dX2_blockToProgram_21 ?_
    refine lv_iconst (v := nI 1) hx hb dX2_blockToProgram_24 (by decide) ?_
    refine xr_add hx hb dX2_blockToProgram_25 ?_
    refine lv_bipush (v := nI 6) hx hb dX2_blockToProgram_26 (by decide) ?_
    refine xr_rem hx hb (by omega) (by decide) (by decide) dX2_blockToProgram_28 ?_
    refine lv_istore_n (lv' := [(1, .int (nI ((cu + 1) % 6))), (0, .ref (a 0))]) hx hb dX2_blockToProgram_29 rfl hl (by decide) rfl (fun ls hl => ?_)
    refine lv_aload_n hx hb dX2_blockToProgram_30 rfl (lv_at hl 1 rfl) ?_
    refine va_get (D := D) (ci := 2) (v := .ref (a 1)) (C := RX2) (T := TX2) (N := 8) hx hb hts hiX2 hown hK hP 0 rfl rfl 0 (by decide) (hts (.fieldLink RX2 11 "PairedCells" "blocks" "[LPairedCells$Block;") (by decide +kernel)) (fun _ h9 => h9) rfl dX2_blockToProgram_31 ?_
    refine lv_iload_n hx hb dX2_blockToProgram_34 rfl (lv_at hl 0 rfl) ?_
    refine xr_aald hx hb hK hP 1 1 rfl rfl (by omega) (by decide) dX2_blockToProgram_35 ?_
    refine xc_Vi (ci := 0) (rest := []) (As := []) ⟨hx, hb, hml, hown, hts⟩ (c_X0_isErased l D a χ ((cu + 1) % 6) (show (cu + 1) % 6 < 6 by omega) hχ) (cwV 0 hts gX2_blockToProgram_X0_isErased rfl rfl rfl (by decide +kernel) ⟨Nat.le_of_ble_eq_true rfl, Nat.le_of_ble_eq_true rfl⟩) hN hK (wP_blk (show (cu + 1) % 6 < 6 by omega) hP) rfl 0 rfl rfl hl.1 rfl (Nat.le_of_ble_eq_true rfl) dX2_blockToProgram_36 ⟨Nat.le_of_ble_eq_true rfl, Nat.le_of_ble_eq_true rfl⟩ (fun r_36 hw_36 => ?_)
    refine xz_ne (tgt := 52) hx hb dX2_blockToProgram_39 (by decide) rfl (fun c_39 => ?_) (fun c_39 => ?_)
    · have h_39 := bo.t hw_36 c_39
      refine lv_iload_n hx hb dX2_blockToProgram_52 rfl (lv_at hl 0 rfl) ?_
      exact xe_i hx hb hr hlocks (by rw [nxb_out h_12]) rfl rfl dX2_blockToProgram_53
    · exact absurd ⟨h_12, bo.f hw_36 c_39⟩ hnf
  · have h_12 := bo.t hw_9 c_12
    refine lv_aload_n hx hb dX2_blockToProgram_15 rfl (lv_at hl 0 rfl) ?_
    refine va_get (D := D) (ci := 2) (v := .int (nI (cu))) (C := RX2) (T := TX2) (N := 8) hx hb hts hiX2 hown hK hP 0 rfl rfl 3 (by decide) (hts (.fieldLink RX2 25 "PairedCells" "current" "I") (by decide +kernel)) (fun _ h9 => h9) rfl dX2_blockToProgram_16 ?_
    exact xe_i hx hb hr hlocks (by rw [nxb_in h_12]) rfl rfl dX2_blockToProgram_19

set_option maxHeartbeats 4000000 in
set_option maxRecDepth 100000 in
theorem c_X2_flush (l : Launch) (D : va_G) {cI cB : ClassId} (a h O χ : Nat → Nat) (cu fi ne ct on : Nat) (hcu : cu < 6) (hχ : ∀ i, χ i < 65536) (hct : ct < 100) (hO0 : O 0 < 65536) (hnf : ¬ ful χ cu) (b : Nat) (hbe : b = nxb χ cu) (hb6 : b < 6) (hp16 : plc χ b < 16) (hχg : ∀ i, wgd χ b i < 65536) (sz : Nat) : Met l yX2_flush wsX2_flush ({ frames := 3, cells := 0, slots := 0, locals := 82 }) (va_Pc [.ref (a 0)] (x_U D (tyP cI cB) (wP cI cB a h O χ cu fi ne ct on) sz)) (va_Qi (fun (r : Int32) (u : (Nat → Nat) × (Nat → Nat) × Nat × Nat) => bo r (fOk χ b ct) ∧ u = (fO χ b ct O, fX χ b ct O, fCt χ b ct, fOn χ b ct on)) (fun u t => x_E D (tyP cI cB) (va_A (wP cI cB a h O χ cu fi ne ct on) sz) (wP cI cB a h u.1 u.2.1 b fi ne u.2.2.1 u.2.2.2) t) (va_A (wP cI cB a h O χ cu fi ne ct on) sz)) 0 0 (va_A (wP cI cB a h O χ cu fi ne ct on) sz) := by
  refine Met.ofW (cc := cX2_flush) (maxL := 3) (ret := (some .boolean)) (by decide) rfl ?_
  intro p e s m args below meth c s₁ B hml hv
  obtain ⟨rfl, hsz, hN, hP, hK, hD0⟩ := hv
  have hx := B.exec
  have hb := B.bytes
  have hr := B.returns
  have hts := atoms_spec (ws := wsX2_flush) B.pre
  have hown : s.vm.findClass RX2 = some m.cls := findClass_of_methodNamed B.named
  have hlocks := B.notSynchronized
  subst hsz
  have hD := hD0.self (sz := s.heap.size)
  generalize hAe : va_A (wP cI cB a h O χ cu fi ne ct on) s.heap.size = A at hD ⊢
  have hA : ∀ q : Nat, s.heap.size ≤ q → A q := fun q h => by rw [← hAe]; exact Or.inr h
  obtain ⟨H, hH⟩ : ∃ H : Heap, s.heap = H := ⟨_, rfl⟩
  obtain ⟨locs, hlo⟩ : ∃ L : List Loc, ([] : List Loc) = L := ⟨_, rfl⟩
  have hS : va_S A s.heap H locs := by rw [← hH, ← hlo]; exact va_S.rf
  have hP : va_P D vwCl (wP cI cB a h O χ cu fi ne ct on) H := hH ▸ hP
  rw [hH, hlo]
  have hiX2 : ∀ w ∈ u_ws RX2 TX2 8, w ∈ wsX2_flush := by decide +kernel
  have hl := lv_entry ([.ref (a 0)]) (n := 3) (Nat.le_of_ble_eq_true rfl)
  rw [lg_entry_eq]
  generalize (lg_sl ([.ref (a 0)]) ++ List.replicate (3 - (lg_sl ([.ref (a 0)])).length) Slot.unset).toArray = ls at hl ⊢
  have hl : lv_has ls 3 [(0, .ref (a 0))] := hl
  refine lv_aload_n hx hb dX2_flush_0 rfl (lv_at hl 0 rfl) ?_
  refine lv_aload_n hx hb dX2_flush_1 rfl (lv_at hl 0 rfl) ?_
  refine xc_Vi (ci := 2) (rest := [.ref (a 0)]) (As := []) ⟨hx, hb, hml, hown, hts⟩ (c_X2_blockToProgram l D a h O χ cu fi ne ct on hcu hχ hnf) (cwV 0 hts gX2_flush_X2_blockToProgram rfl rfl rfl (by decide +kernel) ⟨Nat.le_of_ble_eq_true rfl, Nat.le_of_ble_eq_true rfl⟩) hN hK (hP) rfl 0 rfl rfl hl.1 rfl (Nat.le_of_ble_eq_true rfl) dX2_flush_2 ⟨Nat.le_of_ble_eq_true rfl, Nat.le_of_ble_eq_true rfl⟩ (fun r_2 hw_2 => ?_)
  rw [← hbe] at hw_2
  subst hw_2
  refine va_put (D := D) (ci := 2) (v := .int (nI (b))) (ty := .int) (C := RX2) (T := TX2) (N := 8) hx hb hts hiX2 tyX2 tyX2_ok nmX2 hown hK hP hD hS 0 rfl rfl 3 (by decide) (hts (.fieldLink RX2 25 "PairedCells" "current" "I") (by decide +kernel)) (fun _ h9 => h9) rfl (by decide +kernel) rfl rfl (Nat.le_of_ble_eq_true rfl) dX2_flush_5 (fun H locs hP hD hS => ?_)
  have hP : va_P D vwCl (wP cI cB a h O χ b fi ne ct on) H := hP
  have hD : va_D A (wP cI cB a h O χ b fi ne ct on) := hD
  refine lv_aload_n hx hb dX2_flush_8 rfl (lv_at hl 0 rfl) ?_
  refine va_get (D := D) (ci := 2) (v := .ref (a 1)) (C := RX2) (T := TX2) (N := 8) hx hb hts hiX2 hown hK hP 0 rfl rfl 0 (by decide) (hts (.fieldLink RX2 11 "PairedCells" "blocks" "[LPairedCells$Block;") (by decide +kernel)) (fun _ h9 => h9) rfl dX2_flush_9 ?_
  refine lv_aload_n hx hb dX2_flush_12 rfl (lv_at hl 0 rfl) ?_
  refine va_get (D := D) (ci := 2) (v := .int (nI (b))) (C := RX2) (T := TX2) (N := 8) hx hb hts hiX2 hown hK hP 0 rfl rfl 3 (by decide) (hts (.fieldLink RX2 25 "PairedCells" "current" "I") (by decide +kernel)) (fun _ h9 => h9) rfl dX2_flush_13 ?_
  refine xr_aald hx hb hK hP 1 1 rfl rfl (by omega) (by decide) dX2_flush_16 ?_
  refine lv_astore_n (lv' := [(1, .ref (a (6 + 4 * b))), (0, .ref (a 0))]) hx hb dX2_flush_17 rfl hl (by decide) rfl (fun ls hl => ?_)
  refine lv_aload_n hx hb dX2_flush_18 rfl (lv_at hl 0 rfl) ?_
  refine xc_Vi (ci := 0) (rest := []) (As := []) ⟨hx, hb, hml, hown, hts⟩ (c_X0_nextPlace l D a χ b hb6 hχ) (cwV 0 hts gX2_flush_X0_nextPlace rfl rfl rfl (by decide +kernel) ⟨Nat.le_of_ble_eq_true rfl, Nat.le_of_ble_eq_true rfl⟩) hN hK (wP_blk hb6 hP) rfl 0 rfl rfl hl.1 rfl (Nat.le_of_ble_eq_true rfl) dX2_flush_19 ⟨Nat.le_of_ble_eq_true rfl, Nat.le_of_ble_eq_true rfl⟩ (fun r_19 hw_19 => ?_)
  subst hw_19
  refine lv_istore_n (lv' := [(2, .int (nI (plc χ b))), (1, .ref (a (6 + 4 * b))), (0, .ref (a 0))]) hx hb dX2_flush_22 rfl hl (by decide) rfl (fun ls hl => ?_)
  refine lv_iload_n hx hb dX2_flush_23 rfl (lv_at hl 0 rfl) ?_
  refine lv_bipush (v := nI 8) hx hb dX2_flush_24 (by decide) ?_
  refine xi_ne (tgt := 39) hx hb dX2_flush_26 (by decide) (nI_toInt (by omega)) (nI_toInt (by omega)) (fun c_26 => ?_) (fun c_26 => ?_)
  · refine lv_aload_n hx hb dX2_flush_39 rfl (lv_at hl 2 rfl) ?_
    have hF9 := x_hF (hD) hS hA
    refine xw_Vi (ci := 2) (rest := []) (As := []) ⟨hx, hb, hml, hown, hts⟩ (c_X2_cutIsDue l D a h O χ b fi ne ct on (by omega) H.size) (cwV 0 hts gX2_flush_X2_cutIsDue rfl rfl rfl (by decide +kernel) ⟨Nat.le_of_ble_eq_true rfl, Nat.le_of_ble_eq_true rfl⟩) hN hK (hP) (hD) hS hA rfl 0 rfl rfl hl.1 rfl (Nat.le_of_ble_eq_true rfl) dX2_flush_40 ⟨Nat.le_of_ble_eq_true rfl, Nat.le_of_ble_eq_true rfl⟩ (fun r_40 u_40 H1 locs hw_40 hP1 hD1 hDA hk9 hS => ?_)
    rcases hw_40 with ⟨hc1, rfl, rfl⟩ | ⟨hc1, rfl, rfl⟩
    · have hP := hP1
      have hD := hDA
      generalize H1 = H at hP hS ⊢
      have hP : va_P D vwCl (wP cI cB a h O χ b fi ne 0 0) H := hP
      have hD : va_D A (wP cI cB a h O χ b fi ne 0 0) := hD
      refine xz_eq (tgt := 53) hx hb dX2_flush_43 (by decide) (nI_toInt (by omega)) (fun c_43 => ?_) (fun c_43 => ?_)
      · exfalso; omega
      · refine lv_aload_n hx hb dX2_flush_46 rfl (lv_at hl 1 rfl) ?_
        refine lv_iload_n hx hb dX2_flush_47 rfl (lv_at hl 0 rfl) ?_
        have hF9 := x_hF (dP_blk hb6 hD) hS hA
        refine xw_Vv (ci := 0) (rest := []) (As := [.int (nI (plc χ b))]) ⟨hx, hb, hml, hown, hts⟩ (c_X0_cutAt l D a χ b hb6 hχ (plc χ b) (by omega) H.size) (cwV 1 hts gX2_flush_X0_cutAt rfl rfl rfl (by decide +kernel) ⟨Nat.le_of_ble_eq_true rfl, Nat.le_of_ble_eq_true rfl⟩) hN hK (wP_blk hb6 hP) (dP_blk hb6 hD) hS hA rfl 0 rfl rfl hl.1 rfl (Nat.le_of_ble_eq_true rfl) dX2_flush_48 ⟨Nat.le_of_ble_eq_true rfl, Nat.le_of_ble_eq_true rfl⟩ (fun u_48 H1 locs hw_48 hP1 hD1 hDA hk9 hS => ?_)
        obtain ⟨hP, hD⟩ := jP_blk hb6 hP hD hF9 hk9 hP1 hD1 (fun i hi => by unfold inb at hi; simp only [cuw]; (repeat' split) <;> first | rfl | omega)
        generalize H1 = H at hP hS ⊢
        have hP : va_P D vwCl (wP cI cB a h O (cuw χ b (plc χ b)) b fi ne 0 0) H := hP
        have hD : va_D A (wP cI cB a h O (cuw χ b (plc χ b)) b fi ne 0 0) := hD
        refine lv_iconst (v := nI 0) hx hb dX2_flush_51 (by decide) ?_
        have hq9 : (wP cI cB a h O (cuw χ b (plc χ b)) b fi ne 0 0 : va_W) = wP cI cB a h (fO χ b ct O, fX χ b ct O, fCt χ b ct, fOn χ b ct on).1 (fO χ b ct O, fX χ b ct O, fCt χ b ct, fOn χ b ct on).2.1 b fi ne (fO χ b ct O, fX χ b ct O, fCt χ b ct, fOn χ b ct on).2.2.1 (fO χ b ct O, fX χ b ct O, fCt χ b ct, fOn χ b ct on).2.2.2 := (by dsimp only; have e1 : fX χ b ct O = (cuw χ b (plc χ b)) := (by unfold fX; rw [cif_f (show ¬ plc χ b = 8 by omega)]; (repeat' (first | rw [cif_t (by omega)] | rw [cif_f (by omega)]))); have e2 : fO χ b ct O = O := (by unfold fO; rw [cif_f (show ¬ plc χ b = 8 by omega)]; (repeat' (first | rw [cif_t (by omega)] | rw [cif_f (by omega)]))); have e3 : fCt χ b ct = 0 := (by unfold fCt; (rw [cif_f (show ¬ plc χ b = 8 by omega)]) <;> omega); have e4 : fOn χ b ct on = 0 := (by unfold fOn; rw [cif_f (show ¬ plc χ b = 8 by omega)]; (repeat' (first | rw [cif_t (by omega)] | rw [cif_f (by omega)]))); rw [e1, e2, e3, e4])
        exact xf_z (post := fun (r : Int32) (u : (Nat → Nat) × (Nat → Nat) × Nat × Nat) => bo r (fOk χ b ct) ∧ u = (fO χ b ct O, fX χ b ct O, fCt χ b ct, fOn χ b ct on)) (w1 := fun (u : (Nat → Nat) × (Nat → Nat) × Nat × Nat) => wP cI cB a h u.1 u.2.1 b fi ne u.2.2.1 u.2.2.2) (fO χ b ct O, fX χ b ct O, fCt χ b ct, fOn χ b ct on) hx hb hr hlocks rfl (⟨bo.zero (by unfold fOk; omega), rfl⟩) (va_P.eqw hq9 hP) hK (va_D.eqw hq9 hD) hS dX2_flush_52
    · have hP := hP1
      have hD := hDA
      generalize H1 = H at hP hS ⊢
      have hP : va_P D vwCl (wP cI cB a h O χ b fi ne (ct - 1) on) H := hP
      have hD : va_D A (wP cI cB a h O χ b fi ne (ct - 1) on) := hD
      refine xz_eq (tgt := 53) hx hb dX2_flush_43 (by decide) (nI_toInt (by omega)) (fun c_43 => ?_) (fun c_43 => ?_)
      · refine lv_aload_n hx hb dX2_flush_53 rfl (lv_at hl 1 rfl) ?_
        refine lv_iload_n hx hb dX2_flush_54 rfl (lv_at hl 0 rfl) ?_
        refine lv_aload_n hx hb dX2_flush_55 rfl (lv_at hl 2 rfl) ?_
        refine va_get (D := D) (ci := 2) (v := .ref (a 2)) (C := RX2) (T := TX2) (N := 8) hx hb hts hiX2 hown hK hP 0 rfl rfl 1 (by decide) (hts (.fieldLink RX2 18 "PairedCells" "openPage" "LPairedCells$EventPage;") (by decide +kernel)) (fun _ h9 => h9) rfl dX2_flush_56 ?_
        have hF9 := x_hF (dP_blkopen hb6 hD) hS hA
        refine xw_Vv (ci := 0) (rest := []) (As := [.int (nI (plc χ b)), .ref (a 2)]) ⟨hx, hb, hml, hown, hts⟩ (c_X0_write l D a χ b hb6 hχ (plc χ b) (by omega) (a 2) (a 3) O H.size) (cwV 2 hts gX2_flush_X0_write rfl rfl rfl (by decide +kernel) ⟨Nat.le_of_ble_eq_true rfl, Nat.le_of_ble_eq_true rfl⟩) hN hK (wP_blkopen hb6 hP) (dP_blkopen hb6 hD) hS hA rfl 0 rfl rfl hl.1 rfl (Nat.le_of_ble_eq_true rfl) dX2_flush_59 ⟨Nat.le_of_ble_eq_true rfl, Nat.le_of_ble_eq_true rfl⟩ (fun u_59 H1 locs hw_59 hP1 hD1 hDA hk9 hS => ?_)
        obtain ⟨hP, hD⟩ := jP_blkopen hb6 hP hD hF9 hk9 hP1 hD1 (fun i hi => by unfold inb at hi; simp only [wrt]; (repeat' split) <;> first | rfl | omega)
        generalize H1 = H at hP hS ⊢
        have hP : va_P D vwCl (wP cI cB a h O (wrt χ b (plc χ b) O) b fi ne (ct - 1) on) H := hP
        have hD : va_D A (wP cI cB a h O (wrt χ b (plc χ b) O) b fi ne (ct - 1) on) := hD
        refine lv_aload_n hx hb dX2_flush_62 rfl (lv_at hl 2 rfl) ?_
        refine va_get (D := D) (ci := 2) (v := .ref (a 2)) (C := RX2) (T := TX2) (N := 8) hx hb hts hiX2 hown hK hP 0 rfl rfl 1 (by decide) (hts (.fieldLink RX2 18 "PairedCells" "openPage" "LPairedCells$EventPage;") (by decide +kernel)) (fun _ h9 => h9) rfl dX2_flush_63 ?_
        have hF9 := x_hF (dP_open hD) hS hA
        refine xw_Vv (ci := 1) (rest := []) (As := []) ⟨hx, hb, hml, hown, hts⟩ (c_X1_clear l D (a 2) (a 3) O hO0 H.size) (cwV 0 hts gX2_flush_X1_clear rfl rfl rfl (by decide +kernel) ⟨Nat.le_of_ble_eq_true rfl, Nat.le_of_ble_eq_true rfl⟩) hN hK (wP_open hP) (dP_open hD) hS hA rfl 0 rfl rfl hl.1 rfl (Nat.le_of_ble_eq_true rfl) dX2_flush_66 ⟨Nat.le_of_ble_eq_true rfl, Nat.le_of_ble_eq_true rfl⟩ (fun u_66 H1 locs hw_66 hP1 hD1 hDA hk9 hS => ?_)
        obtain ⟨hP, hD⟩ := jP_open hP hD hF9 hk9 hP1 hD1
        generalize H1 = H at hP hS ⊢
        have hP : va_P D vwCl (wP cI cB a h (fun _ => 0) (wrt χ b (plc χ b) O) b fi ne (ct - 1) on) H := hP
        have hD : va_D A (wP cI cB a h (fun _ => 0) (wrt χ b (plc χ b) O) b fi ne (ct - 1) on) := hD
        refine lv_iconst (v := nI 1) hx hb dX2_flush_69 (by decide) ?_
        have hq9 : (wP cI cB a h (fun _ => 0) (wrt χ b (plc χ b) O) b fi ne (ct - 1) on : va_W) = wP cI cB a h (fO χ b ct O, fX χ b ct O, fCt χ b ct, fOn χ b ct on).1 (fO χ b ct O, fX χ b ct O, fCt χ b ct, fOn χ b ct on).2.1 b fi ne (fO χ b ct O, fX χ b ct O, fCt χ b ct, fOn χ b ct on).2.2.1 (fO χ b ct O, fX χ b ct O, fCt χ b ct, fOn χ b ct on).2.2.2 := (by dsimp only; have e1 : fX χ b ct O = (wrt χ b (plc χ b) O) := (by unfold fX; rw [cif_f (show ¬ plc χ b = 8 by omega)]; (repeat' (first | rw [cif_t (by omega)] | rw [cif_f (by omega)]))); have e2 : fO χ b ct O = (fun _ => 0) := (by unfold fO; rw [cif_f (show ¬ plc χ b = 8 by omega)]; (repeat' (first | rw [cif_t (by omega)] | rw [cif_f (by omega)]))); have e3 : fCt χ b ct = (ct - 1) := (by unfold fCt; (rw [cif_f (show ¬ plc χ b = 8 by omega)]) <;> omega); have e4 : fOn χ b ct on = on := (by unfold fOn; rw [cif_f (show ¬ plc χ b = 8 by omega)]; (repeat' (first | rw [cif_t (by omega)] | rw [cif_f (by omega)]))); rw [e1, e2, e3, e4])
        exact xf_z (post := fun (r : Int32) (u : (Nat → Nat) × (Nat → Nat) × Nat × Nat) => bo r (fOk χ b ct) ∧ u = (fO χ b ct O, fX χ b ct O, fCt χ b ct, fOn χ b ct on)) (w1 := fun (u : (Nat → Nat) × (Nat → Nat) × Nat × Nat) => wP cI cB a h u.1 u.2.1 b fi ne u.2.2.1 u.2.2.2) (fO χ b ct O, fX χ b ct O, fCt χ b ct, fOn χ b ct on) hx hb hr hlocks rfl (⟨bo.one (by unfold fOk; omega), rfl⟩) (va_P.eqw hq9 hP) hK (va_D.eqw hq9 hD) hS dX2_flush_70
      · exfalso; omega
  · refine lv_aload_n hx hb dX2_flush_29 rfl (lv_at hl 2 rfl) ?_
    refine lv_aload_n hx hb dX2_flush_30 rfl (lv_at hl 1 rfl) ?_
    have hF9 := x_hF (hD) hS hA
    refine xw_Vi (ci := 2) (rest := []) (As := [.ref (a (6 + 4 * b))]) ⟨hx, hb, hml, hown, hts⟩ (c_X2_programGuard l D a h O χ b fi ne ct on hct b hb6 hχ H.size) (cwV 1 hts gX2_flush_X2_programGuard rfl rfl rfl (by decide +kernel) ⟨Nat.le_of_ble_eq_true rfl, Nat.le_of_ble_eq_true rfl⟩) hN hK (hP) (hD) hS hA rfl 0 rfl rfl hl.1 rfl (Nat.le_of_ble_eq_true rfl) dX2_flush_31 ⟨Nat.le_of_ble_eq_true rfl, Nat.le_of_ble_eq_true rfl⟩ (fun r_31 u_31 H1 locs hw_31 hP1 hD1 hDA hk9 hS => ?_)
    rcases hw_31 with ⟨hg1, rfl, rfl⟩ | ⟨hg1, rfl, rfl⟩
    · have hP := hP1
      have hD := hDA
      generalize H1 = H at hP hS ⊢
      have hP : va_P D vwCl (wP cI cB a h O (up χ (100 + b) 2) b fi ne 0 0) H := hP
      have hD : va_D A (wP cI cB a h O (up χ (100 + b) 2) b fi ne 0 0) := hD
      refine xz_ne (tgt := 39) hx hb dX2_flush_34 (by decide) (nI_toInt (by omega)) (fun c_34 => ?_) (fun c_34 => ?_)
      · exfalso; omega
      · refine lv_iconst (v := nI 0) hx hb dX2_flush_37 (by decide) ?_
        have hq9 : (wP cI cB a h O (up χ (100 + b) 2) b fi ne 0 0 : va_W) = wP cI cB a h (fO χ b ct O, fX χ b ct O, fCt χ b ct, fOn χ b ct on).1 (fO χ b ct O, fX χ b ct O, fCt χ b ct, fOn χ b ct on).2.1 b fi ne (fO χ b ct O, fX χ b ct O, fCt χ b ct, fOn χ b ct on).2.2.1 (fO χ b ct O, fX χ b ct O, fCt χ b ct, fOn χ b ct on).2.2.2 := (by dsimp only; have e1 : fX χ b ct O = (up χ (100 + b) 2) := (by unfold fX; rw [cif_t (show plc χ b = 8 by omega)]; (repeat' (first | rw [cif_t (by omega)] | rw [cif_f (by omega)]))); have e2 : fO χ b ct O = O := (by unfold fO; rw [cif_t (show plc χ b = 8 by omega)]; (repeat' (first | rw [cif_t (by omega)] | rw [cif_f (by omega)]))); have e3 : fCt χ b ct = 0 := (by unfold fCt; (rw [cif_t (show plc χ b = 8 by omega)]) <;> omega); have e4 : fOn χ b ct on = 0 := (by unfold fOn; rw [cif_t (show plc χ b = 8 by omega)]; (repeat' (first | rw [cif_t (by omega)] | rw [cif_f (by omega)]))); rw [e1, e2, e3, e4])
        exact xf_z (post := fun (r : Int32) (u : (Nat → Nat) × (Nat → Nat) × Nat × Nat) => bo r (fOk χ b ct) ∧ u = (fO χ b ct O, fX χ b ct O, fCt χ b ct, fOn χ b ct on)) (w1 := fun (u : (Nat → Nat) × (Nat → Nat) × Nat × Nat) => wP cI cB a h u.1 u.2.1 b fi ne u.2.2.1 u.2.2.2) (fO χ b ct O, fX χ b ct O, fCt χ b ct, fOn χ b ct on) hx hb hr hlocks rfl (⟨bo.zero (by unfold fOk; omega), rfl⟩) (va_P.eqw hq9 hP) hK (va_D.eqw hq9 hD) hS dX2_flush_38
    · have hP := hP1
      have hD := hDA
      generalize H1 = H at hP hS ⊢
      have hP : va_P D vwCl (wP cI cB a h O (wgd χ b) b fi ne (ct - 1) on) H := hP
      have hD : va_D A (wP cI cB a h O (wgd χ b) b fi ne (ct - 1) on) := hD
      refine xz_ne (tgt := 39) hx hb dX2_flush_34 (by decide) (nI_toInt (by omega)) (fun c_34 => ?_) (fun c_34 => ?_)
      · refine lv_aload_n hx hb dX2_flush_39 rfl (lv_at hl 2 rfl) ?_
        have hF9 := x_hF (hD) hS hA
        refine xw_Vi (ci := 2) (rest := []) (As := []) ⟨hx, hb, hml, hown, hts⟩ (c_X2_cutIsDue l D a h O (wgd χ b) b fi ne (ct - 1) on (by omega) H.size) (cwV 0 hts gX2_flush_X2_cutIsDue rfl rfl rfl (by decide +kernel) ⟨Nat.le_of_ble_eq_true rfl, Nat.le_of_ble_eq_true rfl⟩) hN hK (hP) (hD) hS hA rfl 0 rfl rfl hl.1 rfl (Nat.le_of_ble_eq_true rfl) dX2_flush_40 ⟨Nat.le_of_ble_eq_true rfl, Nat.le_of_ble_eq_true rfl⟩ (fun r_40 u_40 H1 locs hw_40 hP1 hD1 hDA hk9 hS => ?_)
        rcases hw_40 with ⟨hc1, rfl, rfl⟩ | ⟨hc1, rfl, rfl⟩
        · have hP := hP1
          have hD := hDA
          generalize H1 = H at hP hS ⊢
          have hP : va_P D vwCl (wP cI cB a h O (wgd χ b) b fi ne 0 0) H := hP
          have hD : va_D A (wP cI cB a h O (wgd χ b) b fi ne 0 0) := hD
          refine xz_eq (tgt := 53) hx hb dX2_flush_43 (by decide) (nI_toInt (by omega)) (fun c_43 => ?_) (fun c_43 => ?_)
          · exfalso; omega
          · refine lv_aload_n hx hb dX2_flush_46 rfl (lv_at hl 1 rfl) ?_
            refine lv_iload_n hx hb dX2_flush_47 rfl (lv_at hl 0 rfl) ?_
            have hF9 := x_hF (dP_blk hb6 hD) hS hA
            refine xw_Vv (ci := 0) (rest := []) (As := [.int (nI (plc χ b))]) ⟨hx, hb, hml, hown, hts⟩ (c_X0_cutAt l D a (wgd χ b) b hb6 hχg (plc χ b) (by omega) H.size) (cwV 1 hts gX2_flush_X0_cutAt rfl rfl rfl (by decide +kernel) ⟨Nat.le_of_ble_eq_true rfl, Nat.le_of_ble_eq_true rfl⟩) hN hK (wP_blk hb6 hP) (dP_blk hb6 hD) hS hA rfl 0 rfl rfl hl.1 rfl (Nat.le_of_ble_eq_true rfl) dX2_flush_48 ⟨Nat.le_of_ble_eq_true rfl, Nat.le_of_ble_eq_true rfl⟩ (fun u_48 H1 locs hw_48 hP1 hD1 hDA hk9 hS => ?_)
            obtain ⟨hP, hD⟩ := jP_blk hb6 hP hD hF9 hk9 hP1 hD1 (fun i hi => by unfold inb at hi; simp only [cuw]; (repeat' split) <;> first | rfl | omega)
            generalize H1 = H at hP hS ⊢
            have hP : va_P D vwCl (wP cI cB a h O (cuw (wgd χ b) b (plc χ b)) b fi ne 0 0) H := hP
            have hD : va_D A (wP cI cB a h O (cuw (wgd χ b) b (plc χ b)) b fi ne 0 0) := hD
            refine lv_iconst (v := nI 0) hx hb dX2_flush_51 (by decide) ?_
            have hq9 : (wP cI cB a h O (cuw (wgd χ b) b (plc χ b)) b fi ne 0 0 : va_W) = wP cI cB a h (fO χ b ct O, fX χ b ct O, fCt χ b ct, fOn χ b ct on).1 (fO χ b ct O, fX χ b ct O, fCt χ b ct, fOn χ b ct on).2.1 b fi ne (fO χ b ct O, fX χ b ct O, fCt χ b ct, fOn χ b ct on).2.2.1 (fO χ b ct O, fX χ b ct O, fCt χ b ct, fOn χ b ct on).2.2.2 := (by dsimp only; have e1 : fX χ b ct O = (cuw (wgd χ b) b (plc χ b)) := (by unfold fX; rw [cif_t (show plc χ b = 8 by omega)]; (repeat' (first | rw [cif_t (by omega)] | rw [cif_f (by omega)])); rw [show plc χ b = 8 by omega]); have e2 : fO χ b ct O = O := (by unfold fO; rw [cif_t (show plc χ b = 8 by omega)]; (repeat' (first | rw [cif_t (by omega)] | rw [cif_f (by omega)]))); have e3 : fCt χ b ct = 0 := (by unfold fCt; (rw [cif_t (show plc χ b = 8 by omega)]) <;> omega); have e4 : fOn χ b ct on = 0 := (by unfold fOn; rw [cif_t (show plc χ b = 8 by omega)]; (repeat' (first | rw [cif_t (by omega)] | rw [cif_f (by omega)]))); rw [e1, e2, e3, e4])
            exact xf_z (post := fun (r : Int32) (u : (Nat → Nat) × (Nat → Nat) × Nat × Nat) => bo r (fOk χ b ct) ∧ u = (fO χ b ct O, fX χ b ct O, fCt χ b ct, fOn χ b ct on)) (w1 := fun (u : (Nat → Nat) × (Nat → Nat) × Nat × Nat) => wP cI cB a h u.1 u.2.1 b fi ne u.2.2.1 u.2.2.2) (fO χ b ct O, fX χ b ct O, fCt χ b ct, fOn χ b ct on) hx hb hr hlocks rfl (⟨bo.zero (by unfold fOk; omega), rfl⟩) (va_P.eqw hq9 hP) hK (va_D.eqw hq9 hD) hS dX2_flush_52
        · have hP := hP1
          have hD := hDA
          generalize H1 = H at hP hS ⊢
          have hP : va_P D vwCl (wP cI cB a h O (wgd χ b) b fi ne ((ct - 1) - 1) on) H := hP
          have hD : va_D A (wP cI cB a h O (wgd χ b) b fi ne ((ct - 1) - 1) on) := hD
          refine xz_eq (tgt := 53) hx hb dX2_flush_43 (by decide) (nI_toInt (by omega)) (fun c_43 => ?_) (fun c_43 => ?_)
          · refine lv_aload_n hx hb dX2_flush_53 rfl (lv_at hl 1 rfl) ?_
            refine lv_iload_n hx hb dX2_flush_54 rfl (lv_at hl 0 rfl) ?_
            refine lv_aload_n hx hb dX2_flush_55 rfl (lv_at hl 2 rfl) ?_
            refine va_get (D := D) (ci := 2) (v := .ref (a 2)) (C := RX2) (T := TX2) (N := 8) hx hb hts hiX2 hown hK hP 0 rfl rfl 1 (by decide) (hts (.fieldLink RX2 18 "PairedCells" "openPage" "LPairedCells$EventPage;") (by decide +kernel)) (fun _ h9 => h9) rfl dX2_flush_56 ?_
            have hF9 := x_hF (dP_blkopen hb6 hD) hS hA
            refine xw_Vv (ci := 0) (rest := []) (As := [.int (nI (plc χ b)), .ref (a 2)]) ⟨hx, hb, hml, hown, hts⟩ (c_X0_write l D a (wgd χ b) b hb6 hχg (plc χ b) (by omega) (a 2) (a 3) O H.size) (cwV 2 hts gX2_flush_X0_write rfl rfl rfl (by decide +kernel) ⟨Nat.le_of_ble_eq_true rfl, Nat.le_of_ble_eq_true rfl⟩) hN hK (wP_blkopen hb6 hP) (dP_blkopen hb6 hD) hS hA rfl 0 rfl rfl hl.1 rfl (Nat.le_of_ble_eq_true rfl) dX2_flush_59 ⟨Nat.le_of_ble_eq_true rfl, Nat.le_of_ble_eq_true rfl⟩ (fun u_59 H1 locs hw_59 hP1 hD1 hDA hk9 hS => ?_)
            obtain ⟨hP, hD⟩ := jP_blkopen hb6 hP hD hF9 hk9 hP1 hD1 (fun i hi => by unfold inb at hi; simp only [wrt]; (repeat' split) <;> first | rfl | omega)
            generalize H1 = H at hP hS ⊢
            have hP : va_P D vwCl (wP cI cB a h O (wrt (wgd χ b) b (plc χ b) O) b fi ne ((ct - 1) - 1) on) H := hP
            have hD : va_D A (wP cI cB a h O (wrt (wgd χ b) b (plc χ b) O) b fi ne ((ct - 1) - 1) on) := hD
            refine lv_aload_n hx hb dX2_flush_62 rfl (lv_at hl 2 rfl) ?_
            refine va_get (D := D) (ci := 2) (v := .ref (a 2)) (C := RX2) (T := TX2) (N := 8) hx hb hts hiX2 hown hK hP 0 rfl rfl 1 (by decide) (hts (.fieldLink RX2 18 "PairedCells" "openPage" "LPairedCells$EventPage;") (by decide +kernel)) (fun _ h9 => h9) rfl dX2_flush_63 ?_
            have hF9 := x_hF (dP_open hD) hS hA
            refine xw_Vv (ci := 1) (rest := []) (As := []) ⟨hx, hb, hml, hown, hts⟩ (c_X1_clear l D (a 2) (a 3) O hO0 H.size) (cwV 0 hts gX2_flush_X1_clear rfl rfl rfl (by decide +kernel) ⟨Nat.le_of_ble_eq_true rfl, Nat.le_of_ble_eq_true rfl⟩) hN hK (wP_open hP) (dP_open hD) hS hA rfl 0 rfl rfl hl.1 rfl (Nat.le_of_ble_eq_true rfl) dX2_flush_66 ⟨Nat.le_of_ble_eq_true rfl, Nat.le_of_ble_eq_true rfl⟩ (fun u_66 H1 locs hw_66 hP1 hD1 hDA hk9 hS => ?_)
            obtain ⟨hP, hD⟩ := jP_open hP hD hF9 hk9 hP1 hD1
            generalize H1 = H at hP hS ⊢
            have hP : va_P D vwCl (wP cI cB a h (fun _ => 0) (wrt (wgd χ b) b (plc χ b) O) b fi ne ((ct - 1) - 1) on) H := hP
            have hD : va_D A (wP cI cB a h (fun _ => 0) (wrt (wgd χ b) b (plc χ b) O) b fi ne ((ct - 1) - 1) on) := hD
            refine lv_iconst (v := nI 1) hx hb dX2_flush_69 (by decide) ?_
            have hq9 : (wP cI cB a h (fun _ => 0) (wrt (wgd χ b) b (plc χ b) O) b fi ne ((ct - 1) - 1) on : va_W) = wP cI cB a h (fO χ b ct O, fX χ b ct O, fCt χ b ct, fOn χ b ct on).1 (fO χ b ct O, fX χ b ct O, fCt χ b ct, fOn χ b ct on).2.1 b fi ne (fO χ b ct O, fX χ b ct O, fCt χ b ct, fOn χ b ct on).2.2.1 (fO χ b ct O, fX χ b ct O, fCt χ b ct, fOn χ b ct on).2.2.2 := (by dsimp only; have e1 : fX χ b ct O = (wrt (wgd χ b) b (plc χ b) O) := (by unfold fX; rw [cif_t (show plc χ b = 8 by omega)]; (repeat' (first | rw [cif_t (by omega)] | rw [cif_f (by omega)])); rw [show plc χ b = 8 by omega]); have e2 : fO χ b ct O = (fun _ => 0) := (by unfold fO; rw [cif_t (show plc χ b = 8 by omega)]; (repeat' (first | rw [cif_t (by omega)] | rw [cif_f (by omega)]))); have e3 : fCt χ b ct = ((ct - 1) - 1) := (by unfold fCt; (rw [cif_t (show plc χ b = 8 by omega)]) <;> omega); have e4 : fOn χ b ct on = on := (by unfold fOn; rw [cif_t (show plc χ b = 8 by omega)]; (repeat' (first | rw [cif_t (by omega)] | rw [cif_f (by omega)]))); rw [e1, e2, e3, e4])
            exact xf_z (post := fun (r : Int32) (u : (Nat → Nat) × (Nat → Nat) × Nat × Nat) => bo r (fOk χ b ct) ∧ u = (fO χ b ct O, fX χ b ct O, fCt χ b ct, fOn χ b ct on)) (w1 := fun (u : (Nat → Nat) × (Nat → Nat) × Nat × Nat) => wP cI cB a h u.1 u.2.1 b fi ne u.2.2.1 u.2.2.2) (fO χ b ct O, fX χ b ct O, fCt χ b ct, fOn χ b ct on) hx hb hr hlocks rfl (⟨bo.one (by unfold fOk; omega), rfl⟩) (va_P.eqw hq9 hP) hK (va_D.eqw hq9 hD) hS dX2_flush_70
          · exfalso; omega
      · exfalso; omega
end
section
set_option maxHeartbeats 4000000 in
set_option maxRecDepth 100000 in
theorem c_X2_greatestEvent (l : Launch) (D : va_G) {cI cB : ClassId} (a h O χ : Nat → Nat) (cu fi ne ct on : Nat) (b : Nat) (hb6 : b < 6) (hχ : ∀ i, χ i < 65536) (hwf : wfs χ) (sz : Nat) : Met l yX2_greatestEvent wsX2_greatestEvent ({ frames := 4, cells := 0, slots := 0, locals := 87 }) (va_Pc [.ref (a 0), .ref (a (6 + 4 * b))] (x_U D (tyP cI cB) (wP cI cB a h O χ cu fi ne ct on) sz)) (va_Qi (fun (r : Int32) (u : Nat → Nat) => r = mI (grt χ b 16)) (fun u t => x_E D (tyP cI cB) (va_A (wP cI cB a h O χ cu fi ne ct on) sz) (wP cI cB a u O χ cu fi ne ct on) t) (va_A (wP cI cB a h O χ cu fi ne ct on) sz)) 0 0 (va_A (wP cI cB a h O χ cu fi ne ct on) sz) := by
  refine Met.ofW (cc := cX2_greatestEvent) (maxL := 4) (ret := (some .int)) (by decide) rfl ?_
  intro p e s m args below meth c s₁ B hml hv
  obtain ⟨rfl, hsz, hN, hP, hK, hD0⟩ := hv
  have hx := B.exec
  have hb := B.bytes
  have hr := B.returns
  have hts := atoms_spec (ws := wsX2_greatestEvent) B.pre
  have hown : s.vm.findClass RX2 = some m.cls := findClass_of_methodNamed B.named
  have hlocks := B.notSynchronized
  subst hsz
  have hD := hD0.self (sz := s.heap.size)
  generalize hAe : va_A (wP cI cB a h O χ cu fi ne ct on) s.heap.size = A at hD ⊢
  have hA : ∀ q : Nat, s.heap.size ≤ q → A q := fun q h => by rw [← hAe]; exact Or.inr h
  obtain ⟨H, hH⟩ : ∃ H : Heap, s.heap = H := ⟨_, rfl⟩
  obtain ⟨locs, hlo⟩ : ∃ L : List Loc, ([] : List Loc) = L := ⟨_, rfl⟩
  have hS : va_S A s.heap H locs := by rw [← hH, ← hlo]; exact va_S.rf
  have hP : va_P D vwCl (wP cI cB a h O χ cu fi ne ct on) H := hH ▸ hP
  rw [hH, hlo]
  have hiX2 : ∀ w ∈ u_ws RX2 TX2 8, w ∈ wsX2_greatestEvent := by decide +kernel
  have hl := lv_entry ([.ref (a 0), .ref (a (6 + 4 * b))]) (n := 4) (Nat.le_of_ble_eq_true rfl)
  rw [lg_entry_eq]
  generalize (lg_sl ([.ref (a 0), .ref (a (6 + 4 * b))]) ++ List.replicate (4 - (lg_sl ([.ref (a 0), .ref (a (6 + 4 * b))])).length) Slot.unset).toArray = ls at hl ⊢
  have hl : lv_has ls 4 [(0, .ref (a 0)), (1, .ref (a (6 + 4 * b)))] := hl
  refine lv_iconst (v := mI 0) hx hb dX2_greatestEvent_0 (by decide) ?_
  refine lv_istore_n (lv' := [(2, .int (mI (0))), (0, .ref (a 0)), (1, .ref (a (6 + 4 * b)))]) hx hb dX2_greatestEvent_1 rfl hl (by decide) rfl (fun ls hl => ?_)
  refine lv_iconst (v := nI 0) hx hb dX2_greatestEvent_2 (by decide) ?_
  refine lv_istore_n (lv' := [(3, .int (nI (0))), (2, .int (mI (0))), (0, .ref (a 0)), (1, .ref (a (6 + 4 * b)))]) hx hb dX2_greatestEvent_3 rfl hl (by decide) rfl (fun ls hl => ?_)
  refine lpW (α := Nat × (Nat → Nat)) (fun (j, h9) H locs => (j ≤ 16) ∧ va_P D vwCl (wP cI cB a h9 O χ cu fi ne ct on) H ∧ va_D A (wP cI cB a h9 O χ cu fi ne ct on) ∧ va_S A s.heap H locs) (fun (j, h9) => [(0, .ref (a 0)), (1, .ref (a (6 + 4 * b))), (2, .int (mI (grt χ b j))), (3, .int (nI (j)))]) 4 (fun (j, h9) => 16 - j) (0, h) (⟨by omega, hP, hD, hS⟩) (lv_sub hl [2, 3, 1, 0] rfl) (fun s9 H locs ls hI9 hl9 ih_4 => ?_)
  obtain ⟨j, h9⟩ := s9
  have hl : lv_has ls 4 [(0, .ref (a 0)), (1, .ref (a (6 + 4 * b))), (2, .int (mI (grt χ b j))), (3, .int (nI (j)))] := hl9
  obtain ⟨hj, hP, hD, hS⟩ : (j ≤ 16) ∧ va_P D vwCl (wP cI cB a h9 O χ cu fi ne ct on) H ∧ va_D A (wP cI cB a h9 O χ cu fi ne ct on) ∧ va_S A s.heap H locs := hI9
  refine lv_iload_n hx hb dX2_greatestEvent_4 rfl (lv_at hl 3 rfl) ?_
  refine lv_bipush (v := nI 16) hx hb dX2_greatestEvent_5 (by decide) ?_
  refine xi_ge (tgt := 40) hx hb dX2_greatestEvent_7 (by decide) (nI_toInt (by omega)) (nI_toInt (by omega)) (fun c_7 => ?_) (fun c_7 => ?_)
  · refine lv_iload_n hx hb dX2_greatestEvent_40 rfl (lv_at hl 2 rfl) ?_
    exact xf_i (post := fun (r : Int32) (u : Nat → Nat) => r = mI (grt χ b 16)) (w1 := fun (u : Nat → Nat) => wP cI cB a u O χ cu fi ne ct on) h9 hx hb hr hlocks (by rw [show j = 16 by omega]) hP hK hD hS dX2_greatestEvent_41
  · refine lv_aload_n hx hb dX2_greatestEvent_10 rfl (lv_at hl 1 rfl) ?_
    refine lv_iload_n hx hb dX2_greatestEvent_11 rfl (lv_at hl 3 rfl) ?_
    refine lv_aload_n hx hb dX2_greatestEvent_12 rfl (lv_at hl 0 rfl) ?_
    refine va_get (D := D) (ci := 2) (v := .ref (a 4)) (C := RX2) (T := TX2) (N := 8) hx hb hts hiX2 hown hK hP 0 rfl rfl 2 (by decide) (hts (.fieldLink RX2 22 "PairedCells" "shown" "LPairedCells$EventPage;") (by decide +kernel)) (fun _ h9 => h9) rfl dX2_greatestEvent_13 ?_
    have hF9 := x_hF (dP_blkshown hb6 hD) hS hA
    refine xw_Vi (ci := 0) (rest := []) (As := [.int (nI (j)), .ref (a 4)]) ⟨hx, hb, hml, hown, hts⟩ (c_X0_show l D a χ b hb6 hχ j (by omega) (a 4) (a 5) h9 H.size) (cwV 2 hts gX2_greatestEvent_X0_show rfl rfl rfl (by decide +kernel) ⟨Nat.le_of_ble_eq_true rfl, Nat.le_of_ble_eq_true rfl⟩) hN hK (wP_blkshown hb6 hP) (dP_blkshown hb6 hD) hS hA rfl 0 rfl rfl hl.1 rfl (Nat.le_of_ble_eq_true rfl) dX2_greatestEvent_16 ⟨Nat.le_of_ble_eq_true rfl, Nat.le_of_ble_eq_true rfl⟩ (fun r_16 u_16 H1 locs hw_16 hP1 hD1 hDA hk9 hS => ?_)
    rcases hw_16 with ⟨rfl, hr9, rfl⟩ | ⟨rfl, hn9, hu9⟩
    · obtain ⟨hP, hD⟩ := jP_blkshown hb6 hP hD hF9 hk9 hP1 hD1
      obtain ⟨hw0, hw1, hw2, -⟩ := hwf b j hb6 (by omega) hr9
      generalize H1 = H at hP hS ⊢
      have hP : va_P D vwCl (wP cI cB a (byt χ b j) O χ cu fi ne ct on) H := hP
      have hD : va_D A (wP cI cB a (byt χ b j) O χ cu fi ne ct on) := hD
      refine xz_eq (tgt := 34) hx hb dX2_greatestEvent_19 (by decide) (nI_toInt (by omega)) (fun c_19 => ?_) (fun c_19 => ?_)
      · exfalso; omega
      · refine lv_iload_n hx hb dX2_greatestEvent_22 rfl (lv_at hl 2 rfl) ?_
        refine lv_aload_n hx hb dX2_greatestEvent_23 rfl (lv_at hl 0 rfl) ?_
        refine va_get (D := D) (ci := 2) (v := .ref (a 4)) (C := RX2) (T := TX2) (N := 8) hx hb hts hiX2 hown hK hP 0 rfl rfl 2 (by decide) (hts (.fieldLink RX2 22 "PairedCells" "shown" "LPairedCells$EventPage;") (by decide +kernel)) (fun _ h9 => h9) rfl dX2_greatestEvent_24 ?_
        refine xc_Vi (ci := 1) (rest := [.int (mI (grt χ b j))]) (As := []) ⟨hx, hb, hml, hown, hts⟩ (c_X1_lastNumber l D (a 4) (a 5) (byt χ b j) (by omega) hw1 hw2) (cwV 0 hts gX2_greatestEvent_X1_lastNumber rfl rfl rfl (by decide +kernel) ⟨Nat.le_of_ble_eq_true rfl, Nat.le_of_ble_eq_true rfl⟩) hN hK (wP_shown hP) rfl 0 rfl rfl hl.1 rfl (Nat.le_of_ble_eq_true rfl) dX2_greatestEvent_27 ⟨Nat.le_of_ble_eq_true rfl, Nat.le_of_ble_eq_true rfl⟩ (fun r_27 hw_27 => ?_)
        subst hw_27
        refine va_mmax hx hb (by rw [hml]; exact hl.1.symm) hown (hts (.methodLink RX2 219 Lib.Math.max.name) (by decide +kernel)) (hts (.static Lib.Math.max.name) (by decide +kernel)) (hts (.initialized "java/lang/Math") (by decide +kernel)) (hts (.code Lib.Math.max.name Lib.Math.max.code 2 (some .int)) (by decide +kernel)) (Nat.le_of_ble_eq_true rfl) (Nat.le_of_ble_eq_true rfl) (Nat.le_of_ble_eq_true rfl) (Nat.le_of_ble_eq_true rfl) dX2_greatestEvent_30 ?_
        have hg9 := grt_lt hwf hb6 j (by omega)
        refine xr_same ((xl_max (by omega) (by omega)).trans (congrArg mI (grt_in hr9).symm)) ?_
        refine lv_istore_n (lv' := [(2, .int (mI (grt χ b (j + 1)))), (0, .ref (a 0)), (1, .ref (a (6 + 4 * b))), (3, .int (nI (j)))]) hx hb dX2_greatestEvent_33 rfl hl (by decide) rfl (fun ls hl => ?_)
        refine lv_iinc (v := nI (j + 1)) (lv' := [(3, .int (nI (j + 1))), (2, .int (mI (grt χ b (j + 1)))), (0, .ref (a 0)), (1, .ref (a (6 + 4 * b)))]) hx hb dX2_greatestEvent_34 hl (k := 3) rfl (nI_add _ _) (by decide) rfl (fun ls hl => ?_)
        refine lv_goto (tgt := 4) hx hb dX2_greatestEvent_37 (by decide) ?_
        exact ih_4 (j + 1, (byt χ b j)) _ _ _ (⟨by omega, hP, hD, hS⟩) (by first | omega | (dsimp only; omega)) (lv_sub hl [2, 3, 1, 0] rfl)
    · rw [hu9] at hP1 hD1
      obtain ⟨hP, hD⟩ := jP_blkshown hb6 hP hD hF9 hk9 hP1 hD1
      generalize H1 = H at hP hS ⊢
      have hP : va_P D vwCl (wP cI cB a h9 O χ cu fi ne ct on) H := hP
      have hD : va_D A (wP cI cB a h9 O χ cu fi ne ct on) := hD
      refine xz_eq (tgt := 34) hx hb dX2_greatestEvent_19 (by decide) (nI_toInt (by omega)) (fun c_19 => ?_) (fun c_19 => ?_)
      · refine lv_iinc (v := nI (j + 1)) (lv' := [(3, .int (nI (j + 1))), (0, .ref (a 0)), (1, .ref (a (6 + 4 * b))), (2, .int (mI (grt χ b j)))]) hx hb dX2_greatestEvent_34 hl (k := 3) rfl (nI_add _ _) (by decide) rfl (fun ls hl => ?_)
        refine lv_goto (tgt := 4) hx hb dX2_greatestEvent_37 (by decide) ?_
        have e9 : grt χ b j = grt χ b (j + 1) := (grt_out hn9).symm
        rw [e9] at hl
        exact ih_4 (j + 1, h9) _ _ _ (⟨by omega, hP, hD, hS⟩) (by first | omega | (dsimp only; omega)) (lv_sub hl [1, 2, 3, 0] rfl)
      · exfalso; omega

set_option maxHeartbeats 4000000 in
set_option maxRecDepth 100000 in
theorem c_X2_leastEvent (l : Launch) (D : va_G) {cI cB : ClassId} (a h O χ : Nat → Nat) (cu fi ne ct on : Nat) (b : Nat) (hb6 : b < 6) (hχ : ∀ i, χ i < 65536) (hwf : wfs χ) (sz : Nat) : Met l yX2_leastEvent wsX2_leastEvent ({ frames := 4, cells := 0, slots := 0, locals := 87 }) (va_Pc [.ref (a 0), .ref (a (6 + 4 * b))] (x_U D (tyP cI cB) (wP cI cB a h O χ cu fi ne ct on) sz)) (va_Qi (fun (r : Int32) (u : Nat → Nat) => r = mI (lst χ b 16)) (fun u t => x_E D (tyP cI cB) (va_A (wP cI cB a h O χ cu fi ne ct on) sz) (wP cI cB a u O χ cu fi ne ct on) t) (va_A (wP cI cB a h O χ cu fi ne ct on) sz)) 0 0 (va_A (wP cI cB a h O χ cu fi ne ct on) sz) := by
  refine Met.ofW (cc := cX2_leastEvent) (maxL := 4) (ret := (some .int)) (by decide) rfl ?_
  intro p e s m args below meth c s₁ B hml hv
  obtain ⟨rfl, hsz, hN, hP, hK, hD0⟩ := hv
  have hx := B.exec
  have hb := B.bytes
  have hr := B.returns
  have hts := atoms_spec (ws := wsX2_leastEvent) B.pre
  have hown : s.vm.findClass RX2 = some m.cls := findClass_of_methodNamed B.named
  have hlocks := B.notSynchronized
  subst hsz
  have hD := hD0.self (sz := s.heap.size)
  generalize hAe : va_A (wP cI cB a h O χ cu fi ne ct on) s.heap.size = A at hD ⊢
  have hA : ∀ q : Nat, s.heap.size ≤ q → A q := fun q h => by rw [← hAe]; exact Or.inr h
  obtain ⟨H, hH⟩ : ∃ H : Heap, s.heap = H := ⟨_, rfl⟩
  obtain ⟨locs, hlo⟩ : ∃ L : List Loc, ([] : List Loc) = L := ⟨_, rfl⟩
  have hS : va_S A s.heap H locs := by rw [← hH, ← hlo]; exact va_S.rf
  have hP : va_P D vwCl (wP cI cB a h O χ cu fi ne ct on) H := hH ▸ hP
  rw [hH, hlo]
  have hiX2 : ∀ w ∈ u_ws RX2 TX2 8, w ∈ wsX2_leastEvent := by decide +kernel
  have hl := lv_entry ([.ref (a 0), .ref (a (6 + 4 * b))]) (n := 4) (Nat.le_of_ble_eq_true rfl)
  rw [lg_entry_eq]
  generalize (lg_sl ([.ref (a 0), .ref (a (6 + 4 * b))]) ++ List.replicate (4 - (lg_sl ([.ref (a 0), .ref (a (6 + 4 * b))])).length) Slot.unset).toArray = ls at hl ⊢
  have hl : lv_has ls 4 [(0, .ref (a 0)), (1, .ref (a (6 + 4 * b)))] := hl
  refine lv_iconst (v := mI 0) hx hb dX2_leastEvent_0 (by decide) ?_
  refine lv_istore_n (lv' := [(2, .int (mI (0))), (0, .ref (a 0)), (1, .ref (a (6 + 4 * b)))]) hx hb dX2_leastEvent_1 rfl hl (by decide) rfl (fun ls hl => ?_)
  refine lv_iconst (v := nI 0) hx hb dX2_leastEvent_2 (by decide) ?_
  refine lv_istore_n (lv' := [(3, .int (nI (0))), (2, .int (mI (0))), (0, .ref (a 0)), (1, .ref (a (6 + 4 * b)))]) hx hb dX2_leastEvent_3 rfl hl (by decide) rfl (fun ls hl => ?_)
  refine lpW (α := Nat × (Nat → Nat)) (fun (j, h9) H locs => (j ≤ 16) ∧ va_P D vwCl (wP cI cB a h9 O χ cu fi ne ct on) H ∧ va_D A (wP cI cB a h9 O χ cu fi ne ct on) ∧ va_S A s.heap H locs) (fun (j, h9) => [(0, .ref (a 0)), (1, .ref (a (6 + 4 * b))), (2, .int (mI (lst χ b j))), (3, .int (nI (j)))]) 4 (fun (j, h9) => 16 - j) (0, h) (⟨by omega, hP, hD, hS⟩) (lv_sub hl [2, 3, 1, 0] rfl) (fun s9 H locs ls hI9 hl9 ih_4 => ?_)
  obtain ⟨j, h9⟩ := s9
  have hl : lv_has ls 4 [(0, .ref (a 0)), (1, .ref (a (6 + 4 * b))), (2, .int (mI (lst χ b j))), (3, .int (nI (j)))] := hl9
  obtain ⟨hj, hP, hD, hS⟩ : (j ≤ 16) ∧ va_P D vwCl (wP cI cB a h9 O χ cu fi ne ct on) H ∧ va_D A (wP cI cB a h9 O χ cu fi ne ct on) ∧ va_S A s.heap H locs := hI9
  refine lv_iload_n hx hb dX2_leastEvent_4 rfl (lv_at hl 3 rfl) ?_
  refine lv_bipush (v := nI 16) hx hb dX2_leastEvent_5 (by decide) ?_
  refine xi_ge (tgt := 52) hx hb dX2_leastEvent_7 (by decide) (nI_toInt (by omega)) (nI_toInt (by omega)) (fun c_7 => ?_) (fun c_7 => ?_)
  · refine lv_iload_n hx hb dX2_leastEvent_52 rfl (lv_at hl 2 rfl) ?_
    exact xf_i (post := fun (r : Int32) (u : Nat → Nat) => r = mI (lst χ b 16)) (w1 := fun (u : Nat → Nat) => wP cI cB a u O χ cu fi ne ct on) h9 hx hb hr hlocks (by rw [show j = 16 by omega]) hP hK hD hS dX2_leastEvent_53
  · refine lv_aload_n hx hb dX2_leastEvent_10 rfl (lv_at hl 1 rfl) ?_
    refine lv_iload_n hx hb dX2_leastEvent_11 rfl (lv_at hl 3 rfl) ?_
    refine lv_aload_n hx hb dX2_leastEvent_12 rfl (lv_at hl 0 rfl) ?_
    refine va_get (D := D) (ci := 2) (v := .ref (a 4)) (C := RX2) (T := TX2) (N := 8) hx hb hts hiX2 hown hK hP 0 rfl rfl 2 (by decide) (hts (.fieldLink RX2 22 "PairedCells" "shown" "LPairedCells$EventPage;") (by decide +kernel)) (fun _ h9 => h9) rfl dX2_leastEvent_13 ?_
    have hF9 := x_hF (dP_blkshown hb6 hD) hS hA
    refine xw_Vi (ci := 0) (rest := []) (As := [.int (nI (j)), .ref (a 4)]) ⟨hx, hb, hml, hown, hts⟩ (c_X0_show l D a χ b hb6 hχ j (by omega) (a 4) (a 5) h9 H.size) (cwV 2 hts gX2_leastEvent_X0_show rfl rfl rfl (by decide +kernel) ⟨Nat.le_of_ble_eq_true rfl, Nat.le_of_ble_eq_true rfl⟩) hN hK (wP_blkshown hb6 hP) (dP_blkshown hb6 hD) hS hA rfl 0 rfl rfl hl.1 rfl (Nat.le_of_ble_eq_true rfl) dX2_leastEvent_16 ⟨Nat.le_of_ble_eq_true rfl, Nat.le_of_ble_eq_true rfl⟩ (fun r_16 u_16 H1 locs hw_16 hP1 hD1 hDA hk9 hS => ?_)
    rcases hw_16 with ⟨rfl, hr9, rfl⟩ | ⟨rfl, hn9, hu9⟩
    · obtain ⟨hP, hD⟩ := jP_blkshown hb6 hP hD hF9 hk9 hP1 hD1
      obtain ⟨hw0, hw1, hw2, -⟩ := hwf b j hb6 (by omega) hr9
      generalize H1 = H at hP hS ⊢
      have hP : va_P D vwCl (wP cI cB a (byt χ b j) O χ cu fi ne ct on) H := hP
      have hD : va_D A (wP cI cB a (byt χ b j) O χ cu fi ne ct on) := hD
      refine xz_eq (tgt := 46) hx hb dX2_leastEvent_19 (by decide) (nI_toInt (by omega)) (fun c_19 => ?_) (fun c_19 => ?_)
      · exfalso; omega
      · have hg9 := lst_lt hwf hb6 j (by omega)
        refine lv_iload_n hx hb dX2_leastEvent_22 rfl (lv_at hl 2 rfl) ?_
        refine lv_iconst (v := mI 0) hx hb dX2_leastEvent_23 (by decide) ?_
        refine xi_eq (tgt := 38) hx hb dX2_leastEvent_24 (by decide) (mI_toInt (by omega)) (mI_toInt (by omega)) (fun c_24 => ?_) (fun c_24 => ?_)
        · refine lv_aload_n hx hb dX2_leastEvent_38 rfl (lv_at hl 0 rfl) ?_
          refine va_get (D := D) (ci := 2) (v := .ref (a 4)) (C := RX2) (T := TX2) (N := 8) hx hb hts hiX2 hown hK hP 0 rfl rfl 2 (by decide) (hts (.fieldLink RX2 22 "PairedCells" "shown" "LPairedCells$EventPage;") (by decide +kernel)) (fun _ h9 => h9) rfl dX2_leastEvent_39 ?_
          refine xc_Vi (ci := 1) (rest := []) (As := []) ⟨hx, hb, hml, hown, hts⟩ (c_X1_firstNumber l D (a 4) (a 5) (byt χ b j) (by omega) hw1 hw2) (cwV 0 hts gX2_leastEvent_X1_firstNumber rfl rfl rfl (by decide +kernel) ⟨Nat.le_of_ble_eq_true rfl, Nat.le_of_ble_eq_true rfl⟩) hN hK (wP_shown hP) rfl 0 rfl rfl hl.1 rfl (Nat.le_of_ble_eq_true rfl) dX2_leastEvent_42 ⟨Nat.le_of_ble_eq_true rfl, Nat.le_of_ble_eq_true rfl⟩ (fun r_42 hw_42 => ?_)
          subst hw_42
          refine xr_same (nI_mI (256 * byt χ b j 1 + byt χ b j 2)) ?_
          refine lv_istore_n (lv' := [(2, .int (mI (256 * byt χ b j 1 + byt χ b j 2 + 1))), (0, .ref (a 0)), (1, .ref (a (6 + 4 * b))), (3, .int (nI (j)))]) hx hb dX2_leastEvent_45 rfl hl (by decide) rfl (fun ls hl => ?_)
          refine lv_iinc (v := nI (j + 1)) (lv' := [(3, .int (nI (j + 1))), (2, .int (mI (256 * byt χ b j 1 + byt χ b j 2 + 1))), (0, .ref (a 0)), (1, .ref (a (6 + 4 * b)))]) hx hb dX2_leastEvent_46 hl (k := 3) rfl (nI_add _ _) (by decide) rfl (fun ls hl => ?_)
          refine lv_goto (tgt := 4) hx hb dX2_leastEvent_49 (by decide) ?_
          have e9 : 256 * byt χ b j 1 + byt χ b j 2 + 1 = lst χ b (j + 1) := by first | exact (lst_out hn9).symm | (rw [lst_in hr9]; unfold mn; (repeat' split) <;> omega)
          rw [e9] at hl
          exact ih_4 (j + 1, (byt χ b j)) _ _ _ (⟨by omega, hP, hD, hS⟩) (by first | omega | (dsimp only; omega)) (lv_sub hl [2, 3, 1, 0] rfl)
        · refine lv_aload_n hx hb dX2_leastEvent_27 rfl (lv_at hl 0 rfl) ?_
          refine va_get (D := D) (ci := 2) (v := .ref (a 4)) (C := RX2) (T := TX2) (N := 8) hx hb hts hiX2 hown hK hP 0 rfl rfl 2 (by decide) (hts (.fieldLink RX2 22 "PairedCells" "shown" "LPairedCells$EventPage;") (by decide +kernel)) (fun _ h9 => h9) rfl dX2_leastEvent_28 ?_
          refine xc_Vi (ci := 1) (rest := []) (As := []) ⟨hx, hb, hml, hown, hts⟩ (c_X1_firstNumber l D (a 4) (a 5) (byt χ b j) (by omega) hw1 hw2) (cwV 0 hts gX2_leastEvent_X1_firstNumber rfl rfl rfl (by decide +kernel) ⟨Nat.le_of_ble_eq_true rfl, Nat.le_of_ble_eq_true rfl⟩) hN hK (wP_shown hP) rfl 0 rfl rfl hl.1 rfl (Nat.le_of_ble_eq_true rfl) dX2_leastEvent_31 ⟨Nat.le_of_ble_eq_true rfl, Nat.le_of_ble_eq_true rfl⟩ (fun r_31 hw_31 => ?_)
          subst hw_31
          refine lv_iload_n hx hb dX2_leastEvent_34 rfl (lv_at hl 2 rfl) ?_
          refine xi_ge (tgt := 46) hx hb dX2_leastEvent_35 (by decide) (nI_toInt (by omega)) (mI_toInt (by omega)) (fun c_35 => ?_) (fun c_35 => ?_)
          · refine lv_iinc (v := nI (j + 1)) (lv' := [(3, .int (nI (j + 1))), (0, .ref (a 0)), (1, .ref (a (6 + 4 * b))), (2, .int (mI (lst χ b j)))]) hx hb dX2_leastEvent_46 hl (k := 3) rfl (nI_add _ _) (by decide) rfl (fun ls hl => ?_)
            refine lv_goto (tgt := 4) hx hb dX2_leastEvent_49 (by decide) ?_
            have e9 : lst χ b j = lst χ b (j + 1) := by first | exact (lst_out hn9).symm | (rw [lst_in hr9]; unfold mn; (repeat' split) <;> omega)
            rw [e9] at hl
            exact ih_4 (j + 1, (byt χ b j)) _ _ _ (⟨by omega, hP, hD, hS⟩) (by first | omega | (dsimp only; omega)) (lv_sub hl [1, 2, 3, 0] rfl)
          · refine lv_aload_n hx hb dX2_leastEvent_38 rfl (lv_at hl 0 rfl) ?_
            refine va_get (D := D) (ci := 2) (v := .ref (a 4)) (C := RX2) (T := TX2) (N := 8) hx hb hts hiX2 hown hK hP 0 rfl rfl 2 (by decide) (hts (.fieldLink RX2 22 "PairedCells" "shown" "LPairedCells$EventPage;") (by decide +kernel)) (fun _ h9 => h9) rfl dX2_leastEvent_39 ?_
            refine xc_Vi (ci := 1) (rest := []) (As := []) ⟨hx, hb, hml, hown, hts⟩ (c_X1_firstNumber l D (a 4) (a 5) (byt χ b j) (by omega) hw1 hw2) (cwV 0 hts gX2_leastEvent_X1_firstNumber rfl rfl rfl (by decide +kernel) ⟨Nat.le_of_ble_eq_true rfl, Nat.le_of_ble_eq_true rfl⟩) hN hK (wP_shown hP) rfl 0 rfl rfl hl.1 rfl (Nat.le_of_ble_eq_true rfl) dX2_leastEvent_42 ⟨Nat.le_of_ble_eq_true rfl, Nat.le_of_ble_eq_true rfl⟩ (fun r_42 hw_42 => ?_)
            subst hw_42
            refine xr_same (nI_mI (256 * byt χ b j 1 + byt χ b j 2)) ?_
            refine lv_istore_n (lv' := [(2, .int (mI (256 * byt χ b j 1 + byt χ b j 2 + 1))), (0, .ref (a 0)), (1, .ref (a (6 + 4 * b))), (3, .int (nI (j)))]) hx hb dX2_leastEvent_45 rfl hl (by decide) rfl (fun ls hl => ?_)
            refine lv_iinc (v := nI (j + 1)) (lv' := [(3, .int (nI (j + 1))), (2, .int (mI (256 * byt χ b j 1 + byt χ b j 2 + 1))), (0, .ref (a 0)), (1, .ref (a (6 + 4 * b)))]) hx hb dX2_leastEvent_46 hl (k := 3) rfl (nI_add _ _) (by decide) rfl (fun ls hl => ?_)
            refine lv_goto (tgt := 4) hx hb dX2_leastEvent_49 (by decide) ?_
            have e9 : 256 * byt χ b j 1 + byt χ b j 2 + 1 = lst χ b (j + 1) := by first | exact (lst_out hn9).symm | (rw [lst_in hr9]; unfold mn; (repeat' split) <;> omega)
            rw [e9] at hl
            exact ih_4 (j + 1, (byt χ b j)) _ _ _ (⟨by omega, hP, hD, hS⟩) (by first | omega | (dsimp only; omega)) (lv_sub hl [2, 3, 1, 0] rfl)
    · rw [hu9] at hP1 hD1
      obtain ⟨hP, hD⟩ := jP_blkshown hb6 hP hD hF9 hk9 hP1 hD1
      generalize H1 = H at hP hS ⊢
      have hP : va_P D vwCl (wP cI cB a h9 O χ cu fi ne ct on) H := hP
      have hD : va_D A (wP cI cB a h9 O χ cu fi ne ct on) := hD
      refine xz_eq (tgt := 46) hx hb dX2_leastEvent_19 (by decide) (nI_toInt (by omega)) (fun c_19 => ?_) (fun c_19 => ?_)
      · refine lv_iinc (v := nI (j + 1)) (lv' := [(3, .int (nI (j + 1))), (0, .ref (a 0)), (1, .ref (a (6 + 4 * b))), (2, .int (mI (lst χ b j)))]) hx hb dX2_leastEvent_46 hl (k := 3) rfl (nI_add _ _) (by decide) rfl (fun ls hl => ?_)
        refine lv_goto (tgt := 4) hx hb dX2_leastEvent_49 (by decide) ?_
        have e9 : lst χ b j = lst χ b (j + 1) := by first | exact (lst_out hn9).symm | (rw [lst_in hr9]; unfold mn; (repeat' split) <;> omega)
        rw [e9] at hl
        exact ih_4 (j + 1, h9) _ _ _ (⟨by omega, hP, hD, hS⟩) (by first | omega | (dsimp only; omega)) (lv_sub hl [1, 2, 3, 0] rfl)
      · exfalso; omega

set_option maxHeartbeats 4000000 in
set_option maxRecDepth 100000 in
theorem c_X2_pageWith (l : Launch) (D : va_G) {cI cB : ClassId} (a h O χ : Nat → Nat) (cu fi ne ct on : Nat) (k : Nat) (hk : k < 65536) (hχ : ∀ i, χ i < 65536) (hwf : wfs χ) (hO0 : O 0 < 65536) (hO1 : O 1 < 256) (hO2 : O 2 < 256) (sz : Nat) : Met l yX2_pageWith wsX2_pageWith ({ frames := 4, cells := 0, slots := 0, locals := 87 }) (va_Pc [.ref (a 0), .int (nI (k))] (x_U D (tyP cI cB) (wP cI cB a h O χ cu fi ne ct on) sz)) (va_Qq (fun (r : Option Nat) (u : Nat → Nat) => (hits O k ∧ r = some (a 2) ∧ u = h) ∨ (¬ hits O k ∧ hpg χ k 96 < 96 ∧ r = some (a 4) ∧ u = byt χ (hpg χ k 96 / 16) (hpg χ k 96 % 16)) ∨ (¬ hits O k ∧ hpg χ k 96 = 96 ∧ r = none)) (fun u t => x_E D (tyP cI cB) (va_A (wP cI cB a h O χ cu fi ne ct on) sz) (wP cI cB a u O χ cu fi ne ct on) t) (va_A (wP cI cB a h O χ cu fi ne ct on) sz)) 0 0 (va_A (wP cI cB a h O χ cu fi ne ct on) sz) := by
  refine Met.ofW (cc := cX2_pageWith) (maxL := 4) (ret := (some (.object "PairedCells$EventPage"))) (by decide) rfl ?_
  intro p e s m args below meth c s₁ B hml hv
  obtain ⟨rfl, hsz, hN, hP, hK, hD0⟩ := hv
  have hx := B.exec
  have hb := B.bytes
  have hr := B.returns
  have hts := atoms_spec (ws := wsX2_pageWith) B.pre
  have hown : s.vm.findClass RX2 = some m.cls := findClass_of_methodNamed B.named
  have hlocks := B.notSynchronized
  subst hsz
  have hD := hD0.self (sz := s.heap.size)
  generalize hAe : va_A (wP cI cB a h O χ cu fi ne ct on) s.heap.size = A at hD ⊢
  have hA : ∀ q : Nat, s.heap.size ≤ q → A q := fun q h => by rw [← hAe]; exact Or.inr h
  obtain ⟨H, hH⟩ : ∃ H : Heap, s.heap = H := ⟨_, rfl⟩
  obtain ⟨locs, hlo⟩ : ∃ L : List Loc, ([] : List Loc) = L := ⟨_, rfl⟩
  have hS : va_S A s.heap H locs := by rw [← hH, ← hlo]; exact va_S.rf
  have hP : va_P D vwCl (wP cI cB a h O χ cu fi ne ct on) H := hH ▸ hP
  rw [hH, hlo]
  have hiX2 : ∀ w ∈ u_ws RX2 TX2 8, w ∈ wsX2_pageWith := by decide +kernel
  have hl := lv_entry ([.ref (a 0), .int (nI (k))]) (n := 4) (Nat.le_of_ble_eq_true rfl)
  rw [lg_entry_eq]
  generalize (lg_sl ([.ref (a 0), .int (nI (k))]) ++ List.replicate (4 - (lg_sl ([.ref (a 0), .int (nI (k))])).length) Slot.unset).toArray = ls at hl ⊢
  have hl : lv_has ls 4 [(0, .ref (a 0)), (1, .int (nI (k)))] := hl
  refine lv_aload_n hx hb dX2_pageWith_0 rfl (lv_at hl 0 rfl) ?_
  refine va_get (D := D) (ci := 2) (v := .ref (a 2)) (C := RX2) (T := TX2) (N := 8) hx hb hts hiX2 hown hK hP 0 rfl rfl 1 (by decide) (hts (.fieldLink RX2 18 "PairedCells" "openPage" "LPairedCells$EventPage;") (by decide +kernel)) (fun _ h9 => h9) rfl dX2_pageWith_1 ?_
  refine lv_iload_n hx hb dX2_pageWith_4 rfl (lv_at hl 1 rfl) ?_
  refine xc_Vi (ci := 1) (rest := []) (As := [.int (nI (k))]) ⟨hx, hb, hml, hown, hts⟩ (c_X1_holds l D (a 2) (a 3) O hO0 hO1 hO2 k hk) (cwV 1 hts gX2_pageWith_X1_holds rfl rfl rfl (by decide +kernel) ⟨Nat.le_of_ble_eq_true rfl, Nat.le_of_ble_eq_true rfl⟩) hN hK (wP_open hP) rfl 0 rfl rfl hl.1 rfl (Nat.le_of_ble_eq_true rfl) dX2_pageWith_5 ⟨Nat.le_of_ble_eq_true rfl, Nat.le_of_ble_eq_true rfl⟩ (fun r_5 hw_5 => ?_)
  refine xz_eq (tgt := 16) hx hb dX2_pageWith_8 (by decide) rfl (fun c_8 => ?_) (fun c_8 => ?_)
  · have h_8 := bo.f hw_5 c_8
    refine lv_iconst (v := nI 0) hx hb dX2_pageWith_16 (by decide) ?_
    refine lv_istore_n (lv' := [(2, .int (nI (0))), (0, .ref (a 0)), (1, .int (nI (k)))]) hx hb dX2_pageWith_17 rfl hl (by decide) rfl (fun ls hl => ?_)
    refine lpW (α := Nat × (Nat → Nat)) (fun (b, h9) H locs => (b ≤ 6 ∧ ∀ j, j < 16 * b → ¬ hit χ k j) ∧ va_P D vwCl (wP cI cB a h9 O χ cu fi ne ct on) H ∧ va_D A (wP cI cB a h9 O χ cu fi ne ct on) ∧ va_S A s.heap H locs) (fun (b, h9) => [(0, .ref (a 0)), (1, .int (nI (k))), (2, .int (nI (b)))]) 4 (fun (b, h9) => 6 - b) (0, h) (⟨⟨by omega, fun j hj => absurd hj (by omega)⟩, hP, hD, hS⟩) (lv_sub hl [1, 2, 0] rfl) (fun s9 H locs ls hI9 hl9 ih_18 => ?_)
    obtain ⟨b, h9⟩ := s9
    have hl : lv_has ls 4 [(0, .ref (a 0)), (1, .int (nI (k))), (2, .int (nI (b)))] := hl9
    obtain ⟨⟨hb7, hz1⟩, hP, hD, hS⟩ : (b ≤ 6 ∧ ∀ j, j < 16 * b → ¬ hit χ k j) ∧ va_P D vwCl (wP cI cB a h9 O χ cu fi ne ct on) H ∧ va_D A (wP cI cB a h9 O χ cu fi ne ct on) ∧ va_S A s.heap H locs := hI9
    refine lv_iload_n hx hb dX2_pageWith_18 rfl (lv_at hl 2 rfl) ?_
    refine lv_bipush (v := nI 6) hx hb dX2_pageWith_19 (by decide) ?_
    refine xi_ge (tgt := 77) hx hb dX2_pageWith_21 (by decide) (nI_toInt (by omega)) (nI_toInt (by omega)) (fun c_21 => ?_) (fun c_21 => ?_)
    · refine lv_null hx hb dX2_pageWith_77 ?_
      exact xf_q (post := fun (r : Option Nat) (u : Nat → Nat) => (hits O k ∧ r = some (a 2) ∧ u = h) ∨ (¬ hits O k ∧ hpg χ k 96 < 96 ∧ r = some (a 4) ∧ u = byt χ (hpg χ k 96 / 16) (hpg χ k 96 % 16)) ∨ (¬ hits O k ∧ hpg χ k 96 = 96 ∧ r = none)) (w1 := fun (u : Nat → Nat) => wP cI cB a u O χ cu fi ne ct on) none h9 hx hb hr hlocks (Or.inr (Or.inr ⟨h_8, (hpg_eq (Nat.le_refl 96) (fun j hj => hz1 j (by omega)) (fun h7 => absurd h7 (Nat.lt_irrefl 96))).symm, rfl⟩)) hP hK hD hS dX2_pageWith_78
    · refine lv_iconst (v := nI 0) hx hb dX2_pageWith_24 (by decide) ?_
      refine lv_istore_n (lv' := [(3, .int (nI (0))), (0, .ref (a 0)), (1, .int (nI (k))), (2, .int (nI (b)))]) hx hb dX2_pageWith_25 rfl hl (by decide) rfl (fun ls hl => ?_)
      refine lpW (α := Nat × (Nat → Nat)) (fun (p9, h9) H locs => (p9 ≤ 16 ∧ ∀ j, j < 16 * b + p9 → ¬ hit χ k j) ∧ va_P D vwCl (wP cI cB a h9 O χ cu fi ne ct on) H ∧ va_D A (wP cI cB a h9 O χ cu fi ne ct on) ∧ va_S A s.heap H locs) (fun (p9, h9) => [(0, .ref (a 0)), (1, .int (nI (k))), (2, .int (nI (b))), (3, .int (nI (p9)))]) 4 (fun (p9, h9) => 16 - p9) (0, h9) (⟨⟨by omega, fun j hj => hz1 j (by omega)⟩, hP, hD, hS⟩) (lv_sub hl [1, 2, 3, 0] rfl) (fun s9 H locs ls hI9 hl9 ih_26 => ?_)
      obtain ⟨p9, h9⟩ := s9
      have hl : lv_has ls 4 [(0, .ref (a 0)), (1, .int (nI (k))), (2, .int (nI (b))), (3, .int (nI (p9)))] := hl9
      obtain ⟨⟨hp9, hz2⟩, hP, hD, hS⟩ : (p9 ≤ 16 ∧ ∀ j, j < 16 * b + p9 → ¬ hit χ k j) ∧ va_P D vwCl (wP cI cB a h9 O χ cu fi ne ct on) H ∧ va_D A (wP cI cB a h9 O χ cu fi ne ct on) ∧ va_S A s.heap H locs := hI9
      have hb6 : b < 6 := by omega
      refine lv_iload_n hx hb dX2_pageWith_26 rfl (lv_at hl 3 rfl) ?_
      refine lv_bipush (v := nI 16) hx hb dX2_pageWith_27 (by decide) ?_
      refine xi_ge (tgt := 71) hx hb dX2_pageWith_29 (by decide) (nI_toInt (by omega)) (nI_toInt (by omega)) (fun c_29 => ?_) (fun c_29 => ?_)
      · refine lv_iinc (v := nI (b + 1)) (lv' := [(2, .int (nI (b + 1))), (0, .ref (a 0)), (1, .int (nI (k))), (3, .int (nI (p9)))]) hx hb dX2_pageWith_71 hl (k := 2) rfl (nI_add _ _) (by decide) rfl (fun ls hl => ?_)
        refine lv_goto (tgt := 18) hx hb dX2_pageWith_74 (by decide) ?_
        exact ih_18 (b + 1, h9) _ _ _ (⟨⟨by omega, fun j hj => hz2 j (by omega)⟩, hP, hD, hS⟩) (by first | omega | (dsimp only; omega)) (lv_sub hl [1, 2, 0] rfl)
      · refine lv_aload_n hx hb dX2_pageWith_32 rfl (lv_at hl 0 rfl) ?_
        refine va_get (D := D) (ci := 2) (v := .ref (a 1)) (C := RX2) (T := TX2) (N := 8) hx hb hts hiX2 hown hK hP 0 rfl rfl 0 (by decide) (hts (.fieldLink RX2 11 "PairedCells" "blocks" "[LPairedCells$Block;") (by decide +kernel)) (fun _ h9 => h9) rfl dX2_pageWith_33 ?_
        refine lv_iload_n hx hb dX2_pageWith_36 rfl (lv_at hl 2 rfl) ?_
        refine xr_aald hx hb hK hP 1 1 rfl rfl (by omega) (by decide) dX2_pageWith_37 ?_
        refine lv_iload_n hx hb dX2_pageWith_38 rfl (lv_at hl 3 rfl) ?_
        refine lv_aload_n hx hb dX2_pageWith_39 rfl (lv_at hl 0 rfl) ?_
        refine va_get (D := D) (ci := 2) (v := .ref (a 4)) (C := RX2) (T := TX2) (N := 8) hx hb hts hiX2 hown hK hP 0 rfl rfl 2 (by decide) (hts (.fieldLink RX2 22 "PairedCells" "shown" "LPairedCells$EventPage;") (by decide +kernel)) (fun _ h9 => h9) rfl dX2_pageWith_40 ?_
        have hF9 := x_hF (dP_blkshown hb6 hD) hS hA
        refine xw_Vi (ci := 0) (rest := []) (As := [.int (nI (p9)), .ref (a 4)]) ⟨hx, hb, hml, hown, hts⟩ (c_X0_show l D a χ b hb6 hχ p9 (by omega) (a 4) (a 5) h9 H.size) (cwV 2 hts gX2_pageWith_X0_show rfl rfl rfl (by decide +kernel) ⟨Nat.le_of_ble_eq_true rfl, Nat.le_of_ble_eq_true rfl⟩) hN hK (wP_blkshown hb6 hP) (dP_blkshown hb6 hD) hS hA rfl 0 rfl rfl hl.1 rfl (Nat.le_of_ble_eq_true rfl) dX2_pageWith_43 ⟨Nat.le_of_ble_eq_true rfl, Nat.le_of_ble_eq_true rfl⟩ (fun r_43 u_43 H1 locs hw_43 hP1 hD1 hDA hk9 hS => ?_)
        rcases hw_43 with ⟨rfl, hr9, rfl⟩ | ⟨rfl, hn9, hu9⟩
        · obtain ⟨hP, hD⟩ := jP_blkshown hb6 hP hD hF9 hk9 hP1 hD1
          obtain ⟨hw0, hw1, hw2, -⟩ := hwf b p9 hb6 (by omega) hr9
          generalize H1 = H at hP hS ⊢
          have hP : va_P D vwCl (wP cI cB a (byt χ b p9) O χ cu fi ne ct on) H := hP
          have hD : va_D A (wP cI cB a (byt χ b p9) O χ cu fi ne ct on) := hD
          refine xz_eq (tgt := 65) hx hb dX2_pageWith_46 (by decide) (nI_toInt (by omega)) (fun c_46 => ?_) (fun c_46 => ?_)
          · exfalso; omega
          · refine lv_aload_n hx hb dX2_pageWith_49 rfl (lv_at hl 0 rfl) ?_
            refine va_get (D := D) (ci := 2) (v := .ref (a 4)) (C := RX2) (T := TX2) (N := 8) hx hb hts hiX2 hown hK hP 0 rfl rfl 2 (by decide) (hts (.fieldLink RX2 22 "PairedCells" "shown" "LPairedCells$EventPage;") (by decide +kernel)) (fun _ h9 => h9) rfl dX2_pageWith_50 ?_
            refine lv_iload_n hx hb dX2_pageWith_53 rfl (lv_at hl 1 rfl) ?_
            refine xc_Vi (ci := 1) (rest := []) (As := [.int (nI (k))]) ⟨hx, hb, hml, hown, hts⟩ (c_X1_holds l D (a 4) (a 5) (byt χ b p9) (by omega) hw1 hw2 k hk) (cwV 1 hts gX2_pageWith_X1_holds rfl rfl rfl (by decide +kernel) ⟨Nat.le_of_ble_eq_true rfl, Nat.le_of_ble_eq_true rfl⟩) hN hK (wP_shown hP) rfl 0 rfl rfl hl.1 rfl (Nat.le_of_ble_eq_true rfl) dX2_pageWith_54 ⟨Nat.le_of_ble_eq_true rfl, Nat.le_of_ble_eq_true rfl⟩ (fun r_54 hw_54 => ?_)
            refine xz_eq (tgt := 65) hx hb dX2_pageWith_57 (by decide) rfl (fun c_57 => ?_) (fun c_57 => ?_)
            · have h_57 := bo.f hw_54 c_57
              refine lv_iinc (v := nI (p9 + 1)) (lv' := [(3, .int (nI (p9 + 1))), (0, .ref (a 0)), (1, .int (nI (k))), (2, .int (nI (b)))]) hx hb dX2_pageWith_65 hl (k := 3) rfl (nI_add _ _) (by decide) rfl (fun ls hl => ?_)
              refine lv_goto (tgt := 26) hx hb dX2_pageWith_68 (by decide) ?_
              exact ih_26 (p9 + 1, (byt χ b p9)) _ _ _ (⟨⟨by omega, fun j hj => by (rcases Nat.lt_succ_iff_lt_or_eq.mp (show j < (16 * b + p9) + 1 by omega) with h7 | h7); exact hz2 j h7; (subst h7; intro h8; unfold hit at h8; rw [show (16 * b + p9) / 16 = b by omega, show (16 * b + p9) % 16 = p9 by omega] at h8; first | exact hn9 h8.1 | exact h_57 h8.2)⟩, hP, hD, hS⟩) (by first | omega | (dsimp only; omega)) (lv_sub hl [1, 2, 3, 0] rfl)
            · have h_57 := bo.t hw_54 c_57
              refine lv_aload_n hx hb dX2_pageWith_60 rfl (lv_at hl 0 rfl) ?_
              refine va_get (D := D) (ci := 2) (v := .ref (a 4)) (C := RX2) (T := TX2) (N := 8) hx hb hts hiX2 hown hK hP 0 rfl rfl 2 (by decide) (hts (.fieldLink RX2 22 "PairedCells" "shown" "LPairedCells$EventPage;") (by decide +kernel)) (fun _ h9 => h9) rfl dX2_pageWith_61 ?_
              exact xf_q (post := fun (r : Option Nat) (u : Nat → Nat) => (hits O k ∧ r = some (a 2) ∧ u = h) ∨ (¬ hits O k ∧ hpg χ k 96 < 96 ∧ r = some (a 4) ∧ u = byt χ (hpg χ k 96 / 16) (hpg χ k 96 % 16)) ∨ (¬ hits O k ∧ hpg χ k 96 = 96 ∧ r = none)) (w1 := fun (u : Nat → Nat) => wP cI cB a u O χ cu fi ne ct on) (some (a 4)) (byt χ b p9) hx hb hr hlocks (Or.inr (Or.inl (by rw [← hpg_eq (n := 16 * b + p9) (by omega) hz2 (fun _ => by unfold hit; rw [show (16 * b + p9) / 16 = b by omega, show (16 * b + p9) % 16 = p9 by omega]; exact ⟨hr9, h_57⟩)]; exact ⟨h_8, by omega, rfl, by rw [show (16 * b + p9) / 16 = b by omega, show (16 * b + p9) % 16 = p9 by omega]⟩))) hP hK hD hS dX2_pageWith_64
        · rw [hu9] at hP1 hD1
          obtain ⟨hP, hD⟩ := jP_blkshown hb6 hP hD hF9 hk9 hP1 hD1
          generalize H1 = H at hP hS ⊢
          have hP : va_P D vwCl (wP cI cB a h9 O χ cu fi ne ct on) H := hP
          have hD : va_D A (wP cI cB a h9 O χ cu fi ne ct on) := hD
          refine xz_eq (tgt := 65) hx hb dX2_pageWith_46 (by decide) (nI_toInt (by omega)) (fun c_46 => ?_) (fun c_46 => ?_)
          · refine lv_iinc (v := nI (p9 + 1)) (lv' := [(3, .int (nI (p9 + 1))), (0, .ref (a 0)), (1, .int (nI (k))), (2, .int (nI (b)))]) hx hb dX2_pageWith_65 hl (k := 3) rfl (nI_add _ _) (by decide) rfl (fun ls hl => ?_)
            refine lv_goto (tgt := 26) hx hb dX2_pageWith_68 (by decide) ?_
            exact ih_26 (p9 + 1, h9) _ _ _ (⟨⟨by omega, fun j hj => by (rcases Nat.lt_succ_iff_lt_or_eq.mp (show j < (16 * b + p9) + 1 by omega) with h7 | h7); exact hz2 j h7; (subst h7; intro h8; unfold hit at h8; rw [show (16 * b + p9) / 16 = b by omega, show (16 * b + p9) % 16 = p9 by omega] at h8; first | exact hn9 h8.1 | exact h_57 h8.2)⟩, hP, hD, hS⟩) (by first | omega | (dsimp only; omega)) (lv_sub hl [1, 2, 3, 0] rfl)
          · exfalso; omega
  · have h_8 := bo.t hw_5 c_8
    refine lv_aload_n hx hb dX2_pageWith_11 rfl (lv_at hl 0 rfl) ?_
    refine va_get (D := D) (ci := 2) (v := .ref (a 2)) (C := RX2) (T := TX2) (N := 8) hx hb hts hiX2 hown hK hP 0 rfl rfl 1 (by decide) (hts (.fieldLink RX2 18 "PairedCells" "openPage" "LPairedCells$EventPage;") (by decide +kernel)) (fun _ h9 => h9) rfl dX2_pageWith_12 ?_
    exact xf_q (post := fun (r : Option Nat) (u : Nat → Nat) => (hits O k ∧ r = some (a 2) ∧ u = h) ∨ (¬ hits O k ∧ hpg χ k 96 < 96 ∧ r = some (a 4) ∧ u = byt χ (hpg χ k 96 / 16) (hpg χ k 96 % 16)) ∨ (¬ hits O k ∧ hpg χ k 96 = 96 ∧ r = none)) (w1 := fun (u : Nat → Nat) => wP cI cB a u O χ cu fi ne ct on) (some (a 2)) h hx hb hr hlocks (Or.inl ⟨h_8, rfl, rfl⟩) hP hK hD hS dX2_pageWith_15

set_option maxHeartbeats 4000000 in
set_option maxRecDepth 100000 in
theorem c_X2_erasedBlocks (l : Launch) (D : va_G) {cI cB : ClassId} (a h O χ : Nat → Nat) (cu fi ne ct on : Nat) (hχ : ∀ i, χ i < 65536) : Met l yX2_erasedBlocks wsX2_erasedBlocks ({ frames := 2, cells := 0, slots := 0, locals := 41 }) (va_Pc [.ref (a 0)] (x_R D (tyP cI cB) (wP cI cB a h O χ cu fi ne ct on))) (vp_Si (fun r => r = nI (ern χ 6))) 0 0 (fun _ => False) := by
  refine Met.ofW (cc := cX2_erasedBlocks) (maxL := 3) (ret := (some .int)) (by decide) rfl ?_
  intro p e s m args below meth c s₁ B hml hv
  obtain ⟨rfl, hN, hP, hK⟩ := hv
  have hx := B.exec
  have hb := B.bytes
  have hr := B.returns
  have hts := atoms_spec (ws := wsX2_erasedBlocks) B.pre
  have hown : s.vm.findClass RX2 = some m.cls := findClass_of_methodNamed B.named
  have hlocks := B.notSynchronized
  have hiX2 : ∀ w ∈ u_ws RX2 TX2 8, w ∈ wsX2_erasedBlocks := by decide +kernel
  have hl := lv_entry ([.ref (a 0)]) (n := 3) (Nat.le_of_ble_eq_true rfl)
  rw [lg_entry_eq]
  generalize (lg_sl ([.ref (a 0)]) ++ List.replicate (3 - (lg_sl ([.ref (a 0)])).length) Slot.unset).toArray = ls at hl ⊢
  have hl : lv_has ls 3 [(0, .ref (a 0))] := hl
  refine lv_iconst (v := nI 0) hx hb dX2_erasedBlocks_0 (by decide) ?_
  refine lv_istore_n (lv' := [(1, .int (nI (0))), (0, .ref (a 0))]) hx hb dX2_erasedBlocks_1 rfl hl (by decide) rfl (fun ls hl => ?_)
  refine lv_iconst (v := nI 0) hx hb dX2_erasedBlocks_2 (by decide) ?_
  refine lv_istore_n (lv' := [(2, .int (nI (0))), (1, .int (nI (0))), (0, .ref (a 0))]) hx hb dX2_erasedBlocks_3 rfl hl (by decide) rfl (fun ls hl => ?_)
  refine lpR (α := Nat) (fun b => b ≤ 6) (fun b => [(0, .ref (a 0)), (1, .int (nI (ern χ b))), (2, .int (nI (b)))]) 3 (fun b => 6 - b) 0 (by omega) (lv_sub hl [2, 1, 0] rfl) (fun s9 ls hI9 hl9 ih_4 => ?_)
  obtain ⟨b, rfl⟩ : ∃ z, z = s9 := ⟨_, rfl⟩
  have hl : lv_has ls 3 [(0, .ref (a 0)), (1, .int (nI (ern χ b))), (2, .int (nI (b)))] := hl9
  obtain hb7 : b ≤ 6 := hI9
  refine lv_iload_n hx hb dX2_erasedBlocks_4 rfl (lv_at hl 2 rfl) ?_
  refine lv_bipush (v := nI 6) hx hb dX2_erasedBlocks_5 (by decide) ?_
  refine xi_ge (tgt := 31) hx hb dX2_erasedBlocks_7 (by decide) (nI_toInt (by omega)) (nI_toInt (by omega)) (fun c_7 => ?_) (fun c_7 => ?_)
  · refine lv_iload_n hx hb dX2_erasedBlocks_31 rfl (lv_at hl 1 rfl) ?_
    exact xe_i hx hb hr hlocks (by rw [show b = 6 by omega]) rfl rfl dX2_erasedBlocks_32
  · refine lv_aload_n hx hb dX2_erasedBlocks_10 rfl (lv_at hl 0 rfl) ?_
    refine va_get (D := D) (ci := 2) (v := .ref (a 1)) (C := RX2) (T := TX2) (N := 8) hx hb hts hiX2 hown hK hP 0 rfl rfl 0 (by decide) (hts (.fieldLink RX2 11 "PairedCells" "blocks" "[LPairedCells$Block;") (by decide +kernel)) (fun _ h9 => h9) rfl dX2_erasedBlocks_11 ?_
    refine lv_iload_n hx hb dX2_erasedBlocks_14 rfl (lv_at hl 2 rfl) ?_
    refine xr_aald hx hb hK hP 1 1 rfl rfl (by omega) (by decide) dX2_erasedBlocks_15 ?_
    refine xc_Vi (ci := 0) (rest := []) (As := []) ⟨hx, hb, hml, hown, hts⟩ (c_X0_isErased l D a χ b (by omega) hχ) (cwV 0 hts gX2_erasedBlocks_X0_isErased rfl rfl rfl (by decide +kernel) ⟨Nat.le_of_ble_eq_true rfl, Nat.le_of_ble_eq_true rfl⟩) hN hK (wP_blk (show b < 6 by omega) hP) rfl 0 rfl rfl hl.1 rfl (Nat.le_of_ble_eq_true rfl) dX2_erasedBlocks_16 ⟨Nat.le_of_ble_eq_true rfl, Nat.le_of_ble_eq_true rfl⟩ (fun r_16 hw_16 => ?_)
    refine xz_eq (tgt := 25) hx hb dX2_erasedBlocks_19 (by decide) rfl (fun c_19 => ?_) (fun c_19 => ?_)
    · have h_19 := bo.f hw_16 c_19
      refine lv_iinc (v := nI (b + 1)) (lv' := [(2, .int (nI (b + 1))), (0, .ref (a 0)), (1, .int (nI (ern χ b)))]) hx hb dX2_erasedBlocks_25 hl (k := 2) rfl (nI_add _ _) (by decide) rfl (fun ls hl => ?_)
      refine lv_goto (tgt := 4) hx hb dX2_erasedBlocks_28 (by decide) ?_
      have e9 : ern χ b = ern χ (b + 1) := by first | exact (if_pos h_19).symm | exact (if_neg h_19).symm
      rw [e9] at hl
      exact ih_4 (b + 1) _ (by omega) (by first | omega | (dsimp only; omega)) (lv_sub hl [1, 2, 0] rfl)
    · have h_19 := bo.t hw_16 c_19
      refine lv_iinc (v := nI (ern χ b + 1)) (lv' := [(1, .int (nI (ern χ b + 1))), (0, .ref (a 0)), (2, .int (nI (b)))]) hx hb dX2_erasedBlocks_22 hl (k := 1) rfl (nI_add _ _) (by decide) rfl (fun ls hl => ?_)
      refine lv_iinc (v := nI (b + 1)) (lv' := [(2, .int (nI (b + 1))), (1, .int (nI (ern χ b + 1))), (0, .ref (a 0))]) hx hb dX2_erasedBlocks_25 hl (k := 2) rfl (nI_add _ _) (by decide) rfl (fun ls hl => ?_)
      refine lv_goto (tgt := 4) hx hb dX2_erasedBlocks_28 (by decide) ?_
      have e9 : ern χ b + 1 = ern χ (b + 1) := by first | exact (if_pos h_19).symm | exact (if_neg h_19).symm
      rw [e9] at hl
      exact ih_4 (b + 1) _ (by omega) (by first | omega | (dsimp only; omega)) (lv_sub hl [2, 1, 0] rfl)

set_option maxHeartbeats 4000000 in
set_option maxRecDepth 100000 in
theorem c_X2_eraseUnreadableBlocks (l : Launch) (D : va_G) {cI cB : ClassId} (a h O χ : Nat → Nat) (cu fi ne ct on : Nat) (hχ : ∀ i, χ i < 65000) (hwf : wfs χ) (sz : Nat) : Met l yX2_eraseUnreadableBlocks wsX2_eraseUnreadableBlocks ({ frames := 5, cells := 0, slots := 0, locals := 110 }) (va_Pc [.ref (a 0)] (x_U D (tyP cI cB) (wP cI cB a h O χ cu fi ne ct on) sz)) (va_Qv (fun (u : Nat → Nat) => True) (fun u t => x_E D (tyP cI cB) (va_A (wP cI cB a h O χ cu fi ne ct on) sz) (wP cI cB a u O (eu χ 6) cu fi ne ct on) t) (va_A (wP cI cB a h O χ cu fi ne ct on) sz)) 0 0 (va_A (wP cI cB a h O χ cu fi ne ct on) sz) := by
  refine Met.ofW (cc := cX2_eraseUnreadableBlocks) (maxL := 2) (ret := none) (by decide) rfl ?_
  intro p e s m args below meth c s₁ B hml hv
  obtain ⟨rfl, hsz, hN, hP, hK, hD0⟩ := hv
  have hx := B.exec
  have hb := B.bytes
  have hr := B.returns
  have hts := atoms_spec (ws := wsX2_eraseUnreadableBlocks) B.pre
  have hown : s.vm.findClass RX2 = some m.cls := findClass_of_methodNamed B.named
  have hlocks := B.notSynchronized
  subst hsz
  have hD := hD0.self (sz := s.heap.size)
  generalize hAe : va_A (wP cI cB a h O χ cu fi ne ct on) s.heap.size = A at hD ⊢
  have hA : ∀ q : Nat, s.heap.size ≤ q → A q := fun q h => by rw [← hAe]; exact Or.inr h
  obtain ⟨H, hH⟩ : ∃ H : Heap, s.heap = H := ⟨_, rfl⟩
  obtain ⟨locs, hlo⟩ : ∃ L : List Loc, ([] : List Loc) = L := ⟨_, rfl⟩
  have hS : va_S A s.heap H locs := by rw [← hH, ← hlo]; exact va_S.rf
  have hP : va_P D vwCl (wP cI cB a h O χ cu fi ne ct on) H := hH ▸ hP
  rw [hH, hlo]
  have hiX2 : ∀ w ∈ u_ws RX2 TX2 8, w ∈ wsX2_eraseUnreadableBlocks := by decide +kernel
  have hl := lv_entry ([.ref (a 0)]) (n := 2) (Nat.le_of_ble_eq_true rfl)
  rw [lg_entry_eq]
  generalize (lg_sl ([.ref (a 0)]) ++ List.replicate (2 - (lg_sl ([.ref (a 0)])).length) Slot.unset).toArray = ls at hl ⊢
  have hl : lv_has ls 2 [(0, .ref (a 0))] := hl
  refine lv_iconst (v := nI 0) hx hb dX2_eraseUnreadableBlocks_0 (by decide) ?_
  refine lv_istore_n (lv' := [(1, .int (nI (0))), (0, .ref (a 0))]) hx hb dX2_eraseUnreadableBlocks_1 rfl hl (by decide) rfl (fun ls hl => ?_)
  refine lpW (α := Nat × (Nat → Nat)) (fun (b, h9) H locs => (b ≤ 6) ∧ va_P D vwCl (wP cI cB a h9 O (eu χ b) cu fi ne ct on) H ∧ va_D A (wP cI cB a h9 O (eu χ b) cu fi ne ct on) ∧ va_S A s.heap H locs) (fun (b, h9) => [(0, .ref (a 0)), (1, .int (nI (b)))]) 2 (fun (b, h9) => 6 - b) (0, h) (⟨by omega, hP, hD, hS⟩) (lv_sub hl [1, 0] rfl) (fun s9 H locs ls hI9 hl9 ih_2 => ?_)
  obtain ⟨b, h9⟩ := s9
  have hl : lv_has ls 2 [(0, .ref (a 0)), (1, .int (nI (b)))] := hl9
  obtain ⟨hb7, hP, hD, hS⟩ : (b ≤ 6) ∧ va_P D vwCl (wP cI cB a h9 O (eu χ b) cu fi ne ct on) H ∧ va_D A (wP cI cB a h9 O (eu χ b) cu fi ne ct on) ∧ va_S A s.heap H locs := hI9
  refine lv_iload_n hx hb dX2_eraseUnreadableBlocks_2 rfl (lv_at hl 1 rfl) ?_
  refine lv_bipush (v := nI 6) hx hb dX2_eraseUnreadableBlocks_3 (by decide) ?_
  refine xi_ge (tgt := 49) hx hb dX2_eraseUnreadableBlocks_5 (by decide) (nI_toInt (by omega)) (nI_toInt (by omega)) (fun c_5 => ?_) (fun c_5 => ?_)
  · have hq9 : (wP cI cB a h9 O (eu χ b) cu fi ne ct on : va_W) = wP cI cB a h9 O (eu χ 6) cu fi ne ct on := (by rw [show b = 6 by omega])
    exact xf_v (post := fun (u : Nat → Nat) => True) (w1 := fun (u : Nat → Nat) => wP cI cB a u O (eu χ 6) cu fi ne ct on) h9 hx hb hr hlocks (trivial) (va_P.eqw hq9 hP) hK (va_D.eqw hq9 hD) hS dX2_eraseUnreadableBlocks_49
  · refine lv_aload_n hx hb dX2_eraseUnreadableBlocks_8 rfl (lv_at hl 0 rfl) ?_
    refine va_get (D := D) (ci := 2) (v := .ref (a 1)) (C := RX2) (T := TX2) (N := 8) hx hb hts hiX2 hown hK hP 0 rfl rfl 0 (by decide) (hts (.fieldLink RX2 11 "PairedCells" "blocks" "[LPairedCells$Block;") (by decide +kernel)) (fun _ h9 => h9) rfl dX2_eraseUnreadableBlocks_9 ?_
    refine lv_iload_n hx hb dX2_eraseUnreadableBlocks_12 rfl (lv_at hl 1 rfl) ?_
    refine xr_aald hx hb hK hP 1 1 rfl rfl (by omega) (by decide) dX2_eraseUnreadableBlocks_13 ?_
    refine xc_Vi (ci := 0) (rest := []) (As := []) ⟨hx, hb, hml, hown, hts⟩ (c_X0_isErased l D a (eu χ b) b (by omega) (fun i => by have h7 := (eu_le (χ := χ) b (by omega) i).1; have h8 := hχ i; omega)) (cwV 0 hts gX2_eraseUnreadableBlocks_X0_isErased rfl rfl rfl (by decide +kernel) ⟨Nat.le_of_ble_eq_true rfl, Nat.le_of_ble_eq_true rfl⟩) hN hK (wP_blk (show b < 6 by omega) hP) rfl 0 rfl rfl hl.1 rfl (Nat.le_of_ble_eq_true rfl) dX2_eraseUnreadableBlocks_14 ⟨Nat.le_of_ble_eq_true rfl, Nat.le_of_ble_eq_true rfl⟩ (fun r_14 hw_14 => ?_)
    refine xz_ne (tgt := 43) hx hb dX2_eraseUnreadableBlocks_17 (by decide) rfl (fun c_17 => ?_) (fun c_17 => ?_)
    · have h_17 := bo.t hw_14 c_17
      refine lv_iinc (v := nI (b + 1)) (lv' := [(1, .int (nI (b + 1))), (0, .ref (a 0))]) hx hb dX2_eraseUnreadableBlocks_43 hl (k := 1) rfl (nI_add _ _) (by decide) rfl (fun ls hl => ?_)
      refine lv_goto (tgt := 2) hx hb dX2_eraseUnreadableBlocks_46 (by decide) ?_
      have hq9 : (wP cI cB a h9 O (eu χ b) cu fi ne ct on : va_W) = wP cI cB a h9 O (eu χ (b + 1)) cu fi ne ct on := (by first | rw [eu_out (fun h7 => h_17n h7.1)] | rw [eu_out (fun h7 => by omega)] | rw [eu_out (fun h7 => h7.1 h_17)])
      exact ih_2 (b + 1, h9) _ _ _ (⟨by omega, va_P.eqw hq9 hP, va_D.eqw hq9 hD, hS⟩) (by first | omega | (dsimp only; omega)) (lv_sub hl [1, 0] rfl)
    · have h_17 := bo.f hw_14 c_17
      refine lv_aload_n hx hb dX2_eraseUnreadableBlocks_20 rfl (lv_at hl 0 rfl) ?_
      refine lv_aload_n hx hb dX2_eraseUnreadableBlocks_21 rfl (lv_at hl 0 rfl) ?_
      refine va_get (D := D) (ci := 2) (v := .ref (a 1)) (C := RX2) (T := TX2) (N := 8) hx hb hts hiX2 hown hK hP 0 rfl rfl 0 (by decide) (hts (.fieldLink RX2 11 "PairedCells" "blocks" "[LPairedCells$Block;") (by decide +kernel)) (fun _ h9 => h9) rfl dX2_eraseUnreadableBlocks_22 ?_
      refine lv_iload_n hx hb dX2_eraseUnreadableBlocks_25 rfl (lv_at hl 1 rfl) ?_
      refine xr_aald hx hb hK hP 1 1 rfl rfl (by omega) (by decide) dX2_eraseUnreadableBlocks_26 ?_
      have hg9 := grt_lt (wfs_eu hwf b (by omega)) (show b < 6 by omega) 16 (Nat.le_refl _)
      have hF9 := x_hF (hD) hS hA
      refine xw_Vi (ci := 2) (rest := []) (As := [.ref (a (6 + 4 * b))]) ⟨hx, hb, hml, hown, hts⟩ (c_X2_greatestEvent l D a h9 O (eu χ b) cu fi ne ct on b (by omega) (fun i => by have h7 := (eu_le (χ := χ) b (by omega) i).1; have h8 := hχ i; omega) (wfs_eu hwf b (by omega)) H.size) (cwV 1 hts gX2_eraseUnreadableBlocks_X2_greatestEvent rfl rfl rfl (by decide +kernel) ⟨Nat.le_of_ble_eq_true rfl, Nat.le_of_ble_eq_true rfl⟩) hN hK (hP) (hD) hS hA rfl 0 rfl rfl hl.1 rfl (Nat.le_of_ble_eq_true rfl) dX2_eraseUnreadableBlocks_27 ⟨Nat.le_of_ble_eq_true rfl, Nat.le_of_ble_eq_true rfl⟩ (fun r_27 u_27 H1 locs hw_27 hP1 hD1 hDA hk9 hS => ?_)
      subst hw_27
      have hP := hP1
      have hD := hDA
      generalize H1 = H at hP hS ⊢
      have hP : va_P D vwCl (wP cI cB a u_27 O (eu χ b) cu fi ne ct on) H := hP
      have hD : va_D A (wP cI cB a u_27 O (eu χ b) cu fi ne ct on) := hD
      refine lv_iconst (v := mI 0) hx hb dX2_eraseUnreadableBlocks_30 (by decide) ?_
      refine xi_ne (tgt := 43) hx hb dX2_eraseUnreadableBlocks_31 (by decide) (mI_toInt (by omega)) (mI_toInt (by omega)) (fun c_31 => ?_) (fun c_31 => ?_)
      · refine lv_iinc (v := nI (b + 1)) (lv' := [(1, .int (nI (b + 1))), (0, .ref (a 0))]) hx hb dX2_eraseUnreadableBlocks_43 hl (k := 1) rfl (nI_add _ _) (by decide) rfl (fun ls hl => ?_)
        refine lv_goto (tgt := 2) hx hb dX2_eraseUnreadableBlocks_46 (by decide) ?_
        have hq9 : (wP cI cB a u_27 O (eu χ b) cu fi ne ct on : va_W) = wP cI cB a u_27 O (eu χ (b + 1)) cu fi ne ct on := (by first | rw [eu_out (fun h7 => h_17n h7.1)] | rw [eu_out (fun h7 => by omega)] | rw [eu_out (fun h7 => h7.1 h_17)])
        exact ih_2 (b + 1, u_27) _ _ _ (⟨by omega, va_P.eqw hq9 hP, va_D.eqw hq9 hD, hS⟩) (by first | omega | (dsimp only; omega)) (lv_sub hl [1, 0] rfl)
      · refine lv_aload_n hx hb dX2_eraseUnreadableBlocks_34 rfl (lv_at hl 0 rfl) ?_
        refine va_get (D := D) (ci := 2) (v := .ref (a 1)) (C := RX2) (T := TX2) (N := 8) hx hb hts hiX2 hown hK hP 0 rfl rfl 0 (by decide) (hts (.fieldLink RX2 11 "PairedCells" "blocks" "[LPairedCells$Block;") (by decide +kernel)) (fun _ h9 => h9) rfl dX2_eraseUnreadableBlocks_35 ?_
        refine lv_iload_n hx hb dX2_eraseUnreadableBlocks_38 rfl (lv_at hl 1 rfl) ?_
        refine xr_aald hx hb hK hP 1 1 rfl rfl (by omega) (by decide) dX2_eraseUnreadableBlocks_39 ?_
        have hF9 := x_hF (dP_blk (show b < 6 by omega) hD) hS hA
        refine xw_Vv (ci := 0) (rest := []) (As := []) ⟨hx, hb, hml, hown, hts⟩ (c_X0_erase l D a (eu χ b) b (by omega) (fun i => by have h7 := (eu_le (χ := χ) b (by omega) i).1; have h8 := hχ i; omega) H.size) (cwV 0 hts gX2_eraseUnreadableBlocks_X0_erase rfl rfl rfl (by decide +kernel) ⟨Nat.le_of_ble_eq_true rfl, Nat.le_of_ble_eq_true rfl⟩) hN hK (wP_blk (show b < 6 by omega) hP) (dP_blk (show b < 6 by omega) hD) hS hA rfl 0 rfl rfl hl.1 rfl (Nat.le_of_ble_eq_true rfl) dX2_eraseUnreadableBlocks_40 ⟨Nat.le_of_ble_eq_true rfl, Nat.le_of_ble_eq_true rfl⟩ (fun u_40 H1 locs hw_40 hP1 hD1 hDA hk9 hS => ?_)
        obtain ⟨hP, hD⟩ := jP_blk (show b < 6 by omega) hP hD hF9 hk9 hP1 hD1 (fun i hi => ers_out i hi)
        generalize H1 = H at hP hS ⊢
        have hP : va_P D vwCl (wP cI cB a u_27 O (ers (eu χ b) b) cu fi ne ct on) H := hP
        have hD : va_D A (wP cI cB a u_27 O (ers (eu χ b) b) cu fi ne ct on) := hD
        refine lv_iinc (v := nI (b + 1)) (lv' := [(1, .int (nI (b + 1))), (0, .ref (a 0))]) hx hb dX2_eraseUnreadableBlocks_43 hl (k := 1) rfl (nI_add _ _) (by decide) rfl (fun ls hl => ?_)
        refine lv_goto (tgt := 2) hx hb dX2_eraseUnreadableBlocks_46 (by decide) ?_
        have hq9 : (wP cI cB a u_27 O (ers (eu χ b) b) cu fi ne ct on : va_W) = wP cI cB a u_27 O (eu χ (b + 1)) cu fi ne ct on := (by rw [eu_in ⟨h_17, by omega⟩])
        exact ih_2 (b + 1, u_27) _ _ _ (⟨by omega, va_P.eqw hq9 hP, va_D.eqw hq9 hD, hS⟩) (by first | omega | (dsimp only; omega)) (lv_sub hl [1, 0] rfl)

set_option maxHeartbeats 4000000 in
set_option maxRecDepth 100000 in
theorem c_X2_findEvents (l : Launch) (D : va_G) {cI cB : ClassId} (a h O χ : Nat → Nat) (cu fi ne ct on : Nat) (hχ : ∀ i, χ i < 65536) (hwf : wfs χ) (sz : Nat) : Met l yX2_findEvents wsX2_findEvents ({ frames := 5, cells := 0, slots := 0, locals := 110 }) (va_Pc [.ref (a 0)] (x_U D (tyP cI cB) (wP cI cB a h O χ cu fi ne ct on) sz)) (va_Qv (fun (u : Nat → Nat) => True) (fun u t => x_E D (tyP cI cB) (va_A (wP cI cB a h O χ cu fi ne ct on) sz) (wP cI cB a u O χ (cuA χ 6) (lsA χ 6 - 1) (grA χ 6) ct on) t) (va_A (wP cI cB a h O χ cu fi ne ct on) sz)) 0 0 (va_A (wP cI cB a h O χ cu fi ne ct on) sz) := by
  refine Met.ofW (cc := cX2_findEvents) (maxL := 6) (ret := none) (by decide) rfl ?_
  intro p e s m args below meth c s₁ B hml hv
  obtain ⟨rfl, hsz, hN, hP, hK, hD0⟩ := hv
  have hx := B.exec
  have hb := B.bytes
  have hr := B.returns
  have hts := atoms_spec (ws := wsX2_findEvents) B.pre
  have hown : s.vm.findClass RX2 = some m.cls := findClass_of_methodNamed B.named
  have hlocks := B.notSynchronized
  subst hsz
  have hD := hD0.self (sz := s.heap.size)
  generalize hAe : va_A (wP cI cB a h O χ cu fi ne ct on) s.heap.size = A at hD ⊢
  have hA : ∀ q : Nat, s.heap.size ≤ q → A q := fun q h => by rw [← hAe]; exact Or.inr h
  obtain ⟨H, hH⟩ : ∃ H : Heap, s.heap = H := ⟨_, rfl⟩
  obtain ⟨locs, hlo⟩ : ∃ L : List Loc, ([] : List Loc) = L := ⟨_, rfl⟩
  have hS : va_S A s.heap H locs := by rw [← hH, ← hlo]; exact va_S.rf
  have hP : va_P D vwCl (wP cI cB a h O χ cu fi ne ct on) H := hH ▸ hP
  rw [hH, hlo]
  have hiX2 : ∀ w ∈ u_ws RX2 TX2 8, w ∈ wsX2_findEvents := by decide +kernel
  have hl := lv_entry ([.ref (a 0)]) (n := 6) (Nat.le_of_ble_eq_true rfl)
  rw [lg_entry_eq]
  generalize (lg_sl ([.ref (a 0)]) ++ List.replicate (6 - (lg_sl ([.ref (a 0)])).length) Slot.unset).toArray = ls at hl ⊢
  have hl : lv_has ls 6 [(0, .ref (a 0))] := hl
  refine lv_iconst (v := mI 0) hx hb dX2_findEvents_0 (by decide) ?_
  refine lv_istore_n (lv' := [(1, .int (mI (0))), (0, .ref (a 0))]) hx hb dX2_findEvents_1 rfl hl (by decide) rfl (fun ls hl => ?_)
  refine lv_iconst (v := mI 0) hx hb dX2_findEvents_2 (by decide) ?_
  refine lv_istore_n (lv' := [(2, .int (mI (0))), (1, .int (mI (0))), (0, .ref (a 0))]) hx hb dX2_findEvents_3 rfl hl (by decide) rfl (fun ls hl => ?_)
  refine lv_aload_n hx hb dX2_findEvents_4 rfl (lv_at hl 2 rfl) ?_
  refine lv_iconst (v := nI 0) hx hb dX2_findEvents_5 (by decide) ?_
  refine va_put (D := D) (ci := 2) (v := .int (nI (0))) (ty := .int) (C := RX2) (T := TX2) (N := 8) hx hb hts hiX2 tyX2 tyX2_ok nmX2 hown hK hP hD hS 0 rfl rfl 3 (by decide) (hts (.fieldLink RX2 25 "PairedCells" "current" "I") (by decide +kernel)) (fun _ h9 => h9) rfl (by decide +kernel) rfl rfl (Nat.le_of_ble_eq_true rfl) dX2_findEvents_6 (fun H locs hP hD hS => ?_)
  have hP : va_P D vwCl (wP cI cB a h O χ 0 fi ne ct on) H := hP
  have hD : va_D A (wP cI cB a h O χ 0 fi ne ct on) := hD
  refine lv_iconst (v := nI 0) hx hb dX2_findEvents_9 (by decide) ?_
  refine lv_istore_n (lv' := [(3, .int (nI (0))), (2, .int (mI (0))), (1, .int (mI (0))), (0, .ref (a 0))]) hx hb dX2_findEvents_10 rfl hl (by decide) rfl (fun ls hl => ?_)
  refine lpW (α := Nat × (Nat → Nat)) (fun (b, h9) H locs => (b ≤ 6) ∧ va_P D vwCl (wP cI cB a h9 O χ (cuA χ b) fi ne ct on) H ∧ va_D A (wP cI cB a h9 O χ (cuA χ b) fi ne ct on) ∧ va_S A s.heap H locs) (fun (b, h9) => [(0, .ref (a 0)), (1, .int (mI (lsA χ b))), (2, .int (mI (grA χ b))), (3, .int (nI (b)))]) 6 (fun (b, h9) => 6 - b) (0, h) (⟨by omega, hP, hD, hS⟩) (lv_sub hl [3, 2, 1, 0] rfl) (fun s9 H locs ls hI9 hl9 ih_11 => ?_)
  obtain ⟨b, h9⟩ := s9
  have hl : lv_has ls 6 [(0, .ref (a 0)), (1, .int (mI (lsA χ b))), (2, .int (mI (grA χ b))), (3, .int (nI (b)))] := hl9
  obtain ⟨hb7, hP, hD, hS⟩ : (b ≤ 6) ∧ va_P D vwCl (wP cI cB a h9 O χ (cuA χ b) fi ne ct on) H ∧ va_D A (wP cI cB a h9 O χ (cuA χ b) fi ne ct on) ∧ va_S A s.heap H locs := hI9
  have hl9 := lsA_lt hwf b (by omega)
  have hg9 := grA_lt hwf b (by omega)
  refine lv_iload_n hx hb dX2_findEvents_11 rfl (lv_at hl 3 rfl) ?_
  refine lv_bipush (v := nI 6) hx hb dX2_findEvents_12 (by decide) ?_
  refine xi_ge (tgt := 81) hx hb dX2_findEvents_14 (by decide) (nI_toInt (by omega)) (nI_toInt (by omega)) (fun c_14 => ?_) (fun c_14 => ?_)
  · refine lv_aload_n hx hb dX2_findEvents_81 rfl (lv_at hl 0 rfl) ?_
    refine lv_iload_n hx hb dX2_findEvents_82 rfl (lv_at hl 1 rfl) ?_
    refine lv_iconst (v := mI 0) hx hb dX2_findEvents_83 (by decide) ?_
    refine xi_ne (tgt := 91) hx hb dX2_findEvents_84 (by decide) (mI_toInt (by omega)) (mI_toInt (by omega)) (fun c_84 => ?_) (fun c_84 => ?_)
    · refine lv_iload_n hx hb dX2_findEvents_91 rfl (lv_at hl 1 rfl) ?_
      refine xr_same (mI_nI (show 0 < lsA χ b by omega)) ?_
      refine va_put (D := D) (ci := 2) (v := .int (nI (lsA χ b - 1))) (ty := .int) (C := RX2) (T := TX2) (N := 8) hx hb hts hiX2 tyX2 tyX2_ok nmX2 hown hK hP hD hS 0 rfl rfl 4 (by decide) (hts (.fieldLink RX2 29 "PairedCells" "firstEvent" "I") (by decide +kernel)) (fun _ h9 => h9) rfl (by decide +kernel) rfl rfl (Nat.le_of_ble_eq_true rfl) dX2_findEvents_92 (fun H locs hP hD hS => ?_)
      have hP : va_P D vwCl (wP cI cB a h9 O χ (cuA χ b) (lsA χ b - 1) ne ct on) H := hP
      have hD : va_D A (wP cI cB a h9 O χ (cuA χ b) (lsA χ b - 1) ne ct on) := hD
      refine lv_aload_n hx hb dX2_findEvents_95 rfl (lv_at hl 0 rfl) ?_
      refine lv_iload_n hx hb dX2_findEvents_96 rfl (lv_at hl 2 rfl) ?_
      refine lv_iconst (v := nI 1) hx hb dX2_findEvents_97 (by decide) ?_
      refine xr_addm hx hb dX2_findEvents_98 ?_
      refine va_put (D := D) (ci := 2) (v := .int (nI (grA χ b))) (ty := .int) (C := RX2) (T := TX2) (N := 8) hx hb hts hiX2 tyX2 tyX2_ok nmX2 hown hK hP hD hS 0 rfl rfl 5 (by decide) (hts (.fieldLink RX2 32 "PairedCells" "nextEvent" "I") (by decide +kernel)) (fun _ h9 => h9) rfl (by decide +kernel) rfl rfl (Nat.le_of_ble_eq_true rfl) dX2_findEvents_99 (fun H locs hP hD hS => ?_)
      have hP : va_P D vwCl (wP cI cB a h9 O χ (cuA χ b) (lsA χ b - 1) (grA χ b) ct on) H := hP
      have hD : va_D A (wP cI cB a h9 O χ (cuA χ b) (lsA χ b - 1) (grA χ b) ct on) := hD
      have hq9 : (wP cI cB a h9 O χ (cuA χ b) (lsA χ b - 1) (grA χ b) ct on : va_W) = wP cI cB a h9 O χ (cuA χ 6) (lsA χ 6 - 1) (grA χ 6) ct on := (by have e9 : b = 6 := (by omega); subst e9; first | rfl | (rw [show lsA χ 6 = 0 by omega]))
      exact xf_v (post := fun (u : Nat → Nat) => True) (w1 := fun (u : Nat → Nat) => wP cI cB a u O χ (cuA χ 6) (lsA χ 6 - 1) (grA χ 6) ct on) h9 hx hb hr hlocks (trivial) (va_P.eqw hq9 hP) hK (va_D.eqw hq9 hD) hS dX2_findEvents_102
    · refine lv_iconst (v := nI 0) hx hb dX2_findEvents_87 (by decide) ?_
      refine lv_goto (tgt := 92) hx hb dX2_findEvents_88 (by decide) ?_
      refine va_put (D := D) (ci := 2) (v := .int (nI (0))) (ty := .int) (C := RX2) (T := TX2) (N := 8) hx hb hts hiX2 tyX2 tyX2_ok nmX2 hown hK hP hD hS 0 rfl rfl 4 (by decide) (hts (.fieldLink RX2 29 "PairedCells" "firstEvent" "I") (by decide +kernel)) (fun _ h9 => h9) rfl (by decide +kernel) rfl rfl (Nat.le_of_ble_eq_true rfl) dX2_findEvents_92 (fun H locs hP hD hS => ?_)
      have hP : va_P D vwCl (wP cI cB a h9 O χ (cuA χ b) 0 ne ct on) H := hP
      have hD : va_D A (wP cI cB a h9 O χ (cuA χ b) 0 ne ct on) := hD
      refine lv_aload_n hx hb dX2_findEvents_95 rfl (lv_at hl 0 rfl) ?_
      refine lv_iload_n hx hb dX2_findEvents_96 rfl (lv_at hl 2 rfl) ?_
      refine lv_iconst (v := nI 1) hx hb dX2_findEvents_97 (by decide) ?_
      refine xr_addm hx hb dX2_findEvents_98 ?_
      refine va_put (D := D) (ci := 2) (v := .int (nI (grA χ b))) (ty := .int) (C := RX2) (T := TX2) (N := 8) hx hb hts hiX2 tyX2 tyX2_ok nmX2 hown hK hP hD hS 0 rfl rfl 5 (by decide) (hts (.fieldLink RX2 32 "PairedCells" "nextEvent" "I") (by decide +kernel)) (fun _ h9 => h9) rfl (by decide +kernel) rfl rfl (Nat.le_of_ble_eq_true rfl) dX2_findEvents_99 (fun H locs hP hD hS => ?_)
      have hP : va_P D vwCl (wP cI cB a h9 O χ (cuA χ b) 0 (grA χ b) ct on) H := hP
      have hD : va_D A (wP cI cB a h9 O χ (cuA χ b) 0 (grA χ b) ct on) := hD
      have hq9 : (wP cI cB a h9 O χ (cuA χ b) 0 (grA χ b) ct on : va_W) = wP cI cB a h9 O χ (cuA χ 6) (lsA χ 6 - 1) (grA χ 6) ct on := (by have e9 : b = 6 := (by omega); subst e9; first | rfl | (rw [show lsA χ 6 = 0 by omega]))
      exact xf_v (post := fun (u : Nat → Nat) => True) (w1 := fun (u : Nat → Nat) => wP cI cB a u O χ (cuA χ 6) (lsA χ 6 - 1) (grA χ 6) ct on) h9 hx hb hr hlocks (trivial) (va_P.eqw hq9 hP) hK (va_D.eqw hq9 hD) hS dX2_findEvents_102
  · have hl8 := lst_lt hwf (show b < 6 by omega) 16 (Nat.le_refl _)
    have hg8 := grt_lt hwf (show b < 6 by omega) 16 (Nat.le_refl _)
    refine lv_aload_n hx hb dX2_findEvents_17 rfl (lv_at hl 0 rfl) ?_
    refine lv_aload_n hx hb dX2_findEvents_18 rfl (lv_at hl 0 rfl) ?_
    refine va_get (D := D) (ci := 2) (v := .ref (a 1)) (C := RX2) (T := TX2) (N := 8) hx hb hts hiX2 hown hK hP 0 rfl rfl 0 (by decide) (hts (.fieldLink RX2 11 "PairedCells" "blocks" "[LPairedCells$Block;") (by decide +kernel)) (fun _ h9 => h9) rfl dX2_findEvents_19 ?_
    refine lv_iload_n hx hb dX2_findEvents_22 rfl (lv_at hl 3 rfl) ?_
    refine xr_aald hx hb hK hP 1 1 rfl rfl (by omega) (by decide) dX2_findEvents_23 ?_
    have hF9 := x_hF (hD) hS hA
    refine xw_Vi (ci := 2) (rest := []) (As := [.ref (a (6 + 4 * b))]) ⟨hx, hb, hml, hown, hts⟩ (c_X2_leastEvent l D a h9 O χ (cuA χ b) fi ne ct on b (by omega) hχ hwf H.size) (cwV 1 hts gX2_findEvents_X2_leastEvent rfl rfl rfl (by decide +kernel) ⟨Nat.le_of_ble_eq_true rfl, Nat.le_of_ble_eq_true rfl⟩) hN hK (hP) (hD) hS hA rfl 0 rfl rfl hl.1 rfl (Nat.le_of_ble_eq_true rfl) dX2_findEvents_24 ⟨Nat.le_of_ble_eq_true rfl, Nat.le_of_ble_eq_true rfl⟩ (fun r_24 u_24 H1 locs hw_24 hP1 hD1 hDA hk9 hS => ?_)
    subst hw_24
    have hP := hP1
    have hD := hDA
    generalize H1 = H at hP hS ⊢
    have hP : va_P D vwCl (wP cI cB a u_24 O χ (cuA χ b) fi ne ct on) H := hP
    have hD : va_D A (wP cI cB a u_24 O χ (cuA χ b) fi ne ct on) := hD
    refine lv_istore (lv' := [(4, .int (mI (lst χ b 16))), (0, .ref (a 0)), (1, .int (mI (lsA χ b))), (2, .int (mI (grA χ b))), (3, .int (nI (b)))]) hx hb dX2_findEvents_27 hl (by decide) rfl (fun ls hl => ?_)
    refine lv_aload_n hx hb dX2_findEvents_29 rfl (lv_at hl 1 rfl) ?_
    refine lv_aload_n hx hb dX2_findEvents_30 rfl (lv_at hl 1 rfl) ?_
    refine va_get (D := D) (ci := 2) (v := .ref (a 1)) (C := RX2) (T := TX2) (N := 8) hx hb hts hiX2 hown hK hP 0 rfl rfl 0 (by decide) (hts (.fieldLink RX2 11 "PairedCells" "blocks" "[LPairedCells$Block;") (by decide +kernel)) (fun _ h9 => h9) rfl dX2_findEvents_31 ?_
    refine lv_iload_n hx hb dX2_findEvents_34 rfl (lv_at hl 4 rfl) ?_
    refine xr_aald hx hb hK hP 1 1 rfl rfl (by omega) (by decide) dX2_findEvents_35 ?_
    have hF9 := x_hF (hD) hS hA
    refine xw_Vi (ci := 2) (rest := []) (As := [.ref (a (6 + 4 * b))]) ⟨hx, hb, hml, hown, hts⟩ (c_X2_greatestEvent l D a u_24 O χ (cuA χ b) fi ne ct on b (by omega) hχ hwf H.size) (cwV 1 hts gX2_findEvents_X2_greatestEvent rfl rfl rfl (by decide +kernel) ⟨Nat.le_of_ble_eq_true rfl, Nat.le_of_ble_eq_true rfl⟩) hN hK (hP) (hD) hS hA rfl 0 rfl rfl hl.1 rfl (Nat.le_of_ble_eq_true rfl) dX2_findEvents_36 ⟨Nat.le_of_ble_eq_true rfl, Nat.le_of_ble_eq_true rfl⟩ (fun r_36 u_36 H1 locs hw_36 hP1 hD1 hDA hk9 hS => ?_)
    subst hw_36
    have hP := hP1
    have hD := hDA
    generalize H1 = H at hP hS ⊢
    have hP : va_P D vwCl (wP cI cB a u_36 O χ (cuA χ b) fi ne ct on) H := hP
    have hD : va_D A (wP cI cB a u_36 O χ (cuA χ b) fi ne ct on) := hD
    refine lv_istore (lv' := [(5, .int (mI (grt χ b 16))), (4, .int (mI (lst χ b 16))), (0, .ref (a 0)), (1, .int (mI (lsA χ b))), (2, .int (mI (grA χ b))), (3, .int (nI (b)))]) hx hb dX2_findEvents_39 hl (by decide) rfl (fun ls hl => ?_)
    refine lv_iload hx hb dX2_findEvents_41 (lv_at hl 1 rfl) ?_
    refine lv_iconst (v := mI 0) hx hb dX2_findEvents_43 (by decide) ?_
    refine xi_eq (tgt := 61) hx hb dX2_findEvents_44 (by decide) (mI_toInt (by omega)) (mI_toInt (by omega)) (fun c_44 => ?_) (fun c_44 => ?_)
    · refine lv_iload hx hb dX2_findEvents_61 (lv_at hl 0 rfl) ?_
      refine lv_iload_n hx hb dX2_findEvents_63 rfl (lv_at hl 4 rfl) ?_
      refine xi_le (tgt := 75) hx hb dX2_findEvents_64 (by decide) (mI_toInt (by omega)) (mI_toInt (by omega)) (fun c_64 => ?_) (fun c_64 => ?_)
      · refine lv_iinc (v := nI (b + 1)) (lv' := [(3, .int (nI (b + 1))), (5, .int (mI (grt χ b 16))), (4, .int (mI (lst χ b 16))), (0, .ref (a 0)), (1, .int (mI (lsA χ b))), (2, .int (mI (grA χ b)))]) hx hb dX2_findEvents_75 hl (k := 5) rfl (nI_add _ _) (by decide) rfl (fun ls hl => ?_)
        refine lv_goto (tgt := 11) hx hb dX2_findEvents_78 (by decide) ?_
        have e9 : lsA χ b = lsA χ (b + 1) := by show _ = mn (lsA χ b) (lst χ b 16); unfold mn; (repeat' split) <;> omega
        rw [e9] at hl
        have e9 : grA χ b = grA χ (b + 1) := by show _ = max (grA χ b) (grt χ b 16); omega
        rw [e9] at hl
        have hq9 : (wP cI cB a u_36 O χ (cuA χ b) fi ne ct on : va_W) = wP cI cB a u_36 O χ (cuA χ (b + 1)) fi ne ct on := (by rw [show cuA χ (b + 1) = cuA χ b from cif_f (by omega)])
        exact ih_11 (b + 1, u_36) _ _ _ (⟨by omega, va_P.eqw hq9 hP, va_D.eqw hq9 hD, hS⟩) (by first | omega | (dsimp only; omega)) (lv_sub hl [3, 4, 5, 0] rfl)
      · refine lv_iload hx hb dX2_findEvents_67 (lv_at hl 0 rfl) ?_
        refine lv_istore_n (lv' := [(2, .int (mI (grt χ b 16))), (5, .int (mI (grt χ b 16))), (4, .int (mI (lst χ b 16))), (0, .ref (a 0)), (1, .int (mI (lsA χ b))), (3, .int (nI (b)))]) hx hb dX2_findEvents_69 rfl hl (by decide) rfl (fun ls hl => ?_)
        refine lv_aload_n hx hb dX2_findEvents_70 rfl (lv_at hl 3 rfl) ?_
        refine lv_iload_n hx hb dX2_findEvents_71 rfl (lv_at hl 5 rfl) ?_
        refine va_put (D := D) (ci := 2) (v := .int (nI (b))) (ty := .int) (C := RX2) (T := TX2) (N := 8) hx hb hts hiX2 tyX2 tyX2_ok nmX2 hown hK hP hD hS 0 rfl rfl 3 (by decide) (hts (.fieldLink RX2 25 "PairedCells" "current" "I") (by decide +kernel)) (fun _ h9 => h9) rfl (by decide +kernel) rfl rfl (Nat.le_of_ble_eq_true rfl) dX2_findEvents_72 (fun H locs hP hD hS => ?_)
        have hP : va_P D vwCl (wP cI cB a u_36 O χ b fi ne ct on) H := hP
        have hD : va_D A (wP cI cB a u_36 O χ b fi ne ct on) := hD
        refine lv_iinc (v := nI (b + 1)) (lv' := [(3, .int (nI (b + 1))), (2, .int (mI (grt χ b 16))), (5, .int (mI (grt χ b 16))), (4, .int (mI (lst χ b 16))), (0, .ref (a 0)), (1, .int (mI (lsA χ b)))]) hx hb dX2_findEvents_75 hl (k := 5) rfl (nI_add _ _) (by decide) rfl (fun ls hl => ?_)
        refine lv_goto (tgt := 11) hx hb dX2_findEvents_78 (by decide) ?_
        have e9 : lsA χ b = lsA χ (b + 1) := by show _ = mn (lsA χ b) (lst χ b 16); unfold mn; (repeat' split) <;> omega
        rw [e9] at hl
        have e9 : grt χ b 16 = grA χ (b + 1) := by show _ = max (grA χ b) (grt χ b 16); omega
        rw [e9] at hl
        have hq9 : (wP cI cB a u_36 O χ b fi ne ct on : va_W) = wP cI cB a u_36 O χ (cuA χ (b + 1)) fi ne ct on := (by rw [show cuA χ (b + 1) = b from cif_t (by omega)])
        exact ih_11 (b + 1, u_36) _ _ _ (⟨by omega, va_P.eqw hq9 hP, va_D.eqw hq9 hD, hS⟩) (by first | omega | (dsimp only; omega)) (lv_sub hl [4, 5, 1, 0] rfl)
    · refine lv_iload_n hx hb dX2_findEvents_47 rfl (lv_at hl 3 rfl) ?_
      refine lv_iconst (v := mI 0) hx hb dX2_findEvents_48 (by decide) ?_
      refine xi_eq (tgt := 58) hx hb dX2_findEvents_49 (by decide) (mI_toInt (by omega)) (mI_toInt (by omega)) (fun c_49 => ?_) (fun c_49 => ?_)
      · refine lv_iload hx hb dX2_findEvents_58 (lv_at hl 1 rfl) ?_
        refine lv_istore_n (lv' := [(1, .int (mI (lst χ b 16))), (5, .int (mI (grt χ b 16))), (4, .int (mI (lst χ b 16))), (0, .ref (a 0)), (2, .int (mI (grA χ b))), (3, .int (nI (b)))]) hx hb dX2_findEvents_60 rfl hl (by decide) rfl (fun ls hl => ?_)
        refine lv_iload hx hb dX2_findEvents_61 (lv_at hl 1 rfl) ?_
        refine lv_iload_n hx hb dX2_findEvents_63 rfl (lv_at hl 4 rfl) ?_
        refine xi_le (tgt := 75) hx hb dX2_findEvents_64 (by decide) (mI_toInt (by omega)) (mI_toInt (by omega)) (fun c_64 => ?_) (fun c_64 => ?_)
        · refine lv_iinc (v := nI (b + 1)) (lv' := [(3, .int (nI (b + 1))), (1, .int (mI (lst χ b 16))), (5, .int (mI (grt χ b 16))), (4, .int (mI (lst χ b 16))), (0, .ref (a 0)), (2, .int (mI (grA χ b)))]) hx hb dX2_findEvents_75 hl (k := 5) rfl (nI_add _ _) (by decide) rfl (fun ls hl => ?_)
          refine lv_goto (tgt := 11) hx hb dX2_findEvents_78 (by decide) ?_
          have e9 : lst χ b 16 = lsA χ (b + 1) := by show _ = mn (lsA χ b) (lst χ b 16); unfold mn; (repeat' split) <;> omega
          rw [e9] at hl
          have e9 : grA χ b = grA χ (b + 1) := by show _ = max (grA χ b) (grt χ b 16); omega
          rw [e9] at hl
          have hq9 : (wP cI cB a u_36 O χ (cuA χ b) fi ne ct on : va_W) = wP cI cB a u_36 O χ (cuA χ (b + 1)) fi ne ct on := (by rw [show cuA χ (b + 1) = cuA χ b from cif_f (by omega)])
          exact ih_11 (b + 1, u_36) _ _ _ (⟨by omega, va_P.eqw hq9 hP, va_D.eqw hq9 hD, hS⟩) (by first | omega | (dsimp only; omega)) (lv_sub hl [4, 1, 5, 0] rfl)
        · refine lv_iload hx hb dX2_findEvents_67 (lv_at hl 1 rfl) ?_
          refine lv_istore_n (lv' := [(2, .int (mI (grt χ b 16))), (1, .int (mI (lst χ b 16))), (5, .int (mI (grt χ b 16))), (4, .int (mI (lst χ b 16))), (0, .ref (a 0)), (3, .int (nI (b)))]) hx hb dX2_findEvents_69 rfl hl (by decide) rfl (fun ls hl => ?_)
          refine lv_aload_n hx hb dX2_findEvents_70 rfl (lv_at hl 4 rfl) ?_
          refine lv_iload_n hx hb dX2_findEvents_71 rfl (lv_at hl 5 rfl) ?_
          refine va_put (D := D) (ci := 2) (v := .int (nI (b))) (ty := .int) (C := RX2) (T := TX2) (N := 8) hx hb hts hiX2 tyX2 tyX2_ok nmX2 hown hK hP hD hS 0 rfl rfl 3 (by decide) (hts (.fieldLink RX2 25 "PairedCells" "current" "I") (by decide +kernel)) (fun _ h9 => h9) rfl (by decide +kernel) rfl rfl (Nat.le_of_ble_eq_true rfl) dX2_findEvents_72 (fun H locs hP hD hS => ?_)
          have hP : va_P D vwCl (wP cI cB a u_36 O χ b fi ne ct on) H := hP
          have hD : va_D A (wP cI cB a u_36 O χ b fi ne ct on) := hD
          refine lv_iinc (v := nI (b + 1)) (lv' := [(3, .int (nI (b + 1))), (2, .int (mI (grt χ b 16))), (1, .int (mI (lst χ b 16))), (5, .int (mI (grt χ b 16))), (4, .int (mI (lst χ b 16))), (0, .ref (a 0))]) hx hb dX2_findEvents_75 hl (k := 5) rfl (nI_add _ _) (by decide) rfl (fun ls hl => ?_)
          refine lv_goto (tgt := 11) hx hb dX2_findEvents_78 (by decide) ?_
          have e9 : lst χ b 16 = lsA χ (b + 1) := by show _ = mn (lsA χ b) (lst χ b 16); unfold mn; (repeat' split) <;> omega
          rw [e9] at hl
          have e9 : grt χ b 16 = grA χ (b + 1) := by show _ = max (grA χ b) (grt χ b 16); omega
          rw [e9] at hl
          have hq9 : (wP cI cB a u_36 O χ b fi ne ct on : va_W) = wP cI cB a u_36 O χ (cuA χ (b + 1)) fi ne ct on := (by rw [show cuA χ (b + 1) = b from cif_t (by omega)])
          exact ih_11 (b + 1, u_36) _ _ _ (⟨by omega, va_P.eqw hq9 hP, va_D.eqw hq9 hD, hS⟩) (by first | omega | (dsimp only; omega)) (lv_sub hl [5, 2, 1, 0] rfl)
      · refine lv_iload hx hb dX2_findEvents_52 (lv_at hl 1 rfl) ?_
        refine lv_iload_n hx hb dX2_findEvents_54 rfl (lv_at hl 3 rfl) ?_
        refine xi_ge (tgt := 61) hx hb dX2_findEvents_55 (by decide) (mI_toInt (by omega)) (mI_toInt (by omega)) (fun c_55 => ?_) (fun c_55 => ?_)
        · refine lv_iload hx hb dX2_findEvents_61 (lv_at hl 0 rfl) ?_
          refine lv_iload_n hx hb dX2_findEvents_63 rfl (lv_at hl 4 rfl) ?_
          refine xi_le (tgt := 75) hx hb dX2_findEvents_64 (by decide) (mI_toInt (by omega)) (mI_toInt (by omega)) (fun c_64 => ?_) (fun c_64 => ?_)
          · refine lv_iinc (v := nI (b + 1)) (lv' := [(3, .int (nI (b + 1))), (5, .int (mI (grt χ b 16))), (4, .int (mI (lst χ b 16))), (0, .ref (a 0)), (1, .int (mI (lsA χ b))), (2, .int (mI (grA χ b)))]) hx hb dX2_findEvents_75 hl (k := 5) rfl (nI_add _ _) (by decide) rfl (fun ls hl => ?_)
            refine lv_goto (tgt := 11) hx hb dX2_findEvents_78 (by decide) ?_
            have e9 : lsA χ b = lsA χ (b + 1) := by show _ = mn (lsA χ b) (lst χ b 16); unfold mn; (repeat' split) <;> omega
            rw [e9] at hl
            have e9 : grA χ b = grA χ (b + 1) := by show _ = max (grA χ b) (grt χ b 16); omega
            rw [e9] at hl
            have hq9 : (wP cI cB a u_36 O χ (cuA χ b) fi ne ct on : va_W) = wP cI cB a u_36 O χ (cuA χ (b + 1)) fi ne ct on := (by rw [show cuA χ (b + 1) = cuA χ b from cif_f (by omega)])
            exact ih_11 (b + 1, u_36) _ _ _ (⟨by omega, va_P.eqw hq9 hP, va_D.eqw hq9 hD, hS⟩) (by first | omega | (dsimp only; omega)) (lv_sub hl [3, 4, 5, 0] rfl)
          · refine lv_iload hx hb dX2_findEvents_67 (lv_at hl 0 rfl) ?_
            refine lv_istore_n (lv' := [(2, .int (mI (grt χ b 16))), (5, .int (mI (grt χ b 16))), (4, .int (mI (lst χ b 16))), (0, .ref (a 0)), (1, .int (mI (lsA χ b))), (3, .int (nI (b)))]) hx hb dX2_findEvents_69 rfl hl (by decide) rfl (fun ls hl => ?_)
            refine lv_aload_n hx hb dX2_findEvents_70 rfl (lv_at hl 3 rfl) ?_
            refine lv_iload_n hx hb dX2_findEvents_71 rfl (lv_at hl 5 rfl) ?_
            refine va_put (D := D) (ci := 2) (v := .int (nI (b))) (ty := .int) (C := RX2) (T := TX2) (N := 8) hx hb hts hiX2 tyX2 tyX2_ok nmX2 hown hK hP hD hS 0 rfl rfl 3 (by decide) (hts (.fieldLink RX2 25 "PairedCells" "current" "I") (by decide +kernel)) (fun _ h9 => h9) rfl (by decide +kernel) rfl rfl (Nat.le_of_ble_eq_true rfl) dX2_findEvents_72 (fun H locs hP hD hS => ?_)
            have hP : va_P D vwCl (wP cI cB a u_36 O χ b fi ne ct on) H := hP
            have hD : va_D A (wP cI cB a u_36 O χ b fi ne ct on) := hD
            refine lv_iinc (v := nI (b + 1)) (lv' := [(3, .int (nI (b + 1))), (2, .int (mI (grt χ b 16))), (5, .int (mI (grt χ b 16))), (4, .int (mI (lst χ b 16))), (0, .ref (a 0)), (1, .int (mI (lsA χ b)))]) hx hb dX2_findEvents_75 hl (k := 5) rfl (nI_add _ _) (by decide) rfl (fun ls hl => ?_)
            refine lv_goto (tgt := 11) hx hb dX2_findEvents_78 (by decide) ?_
            have e9 : lsA χ b = lsA χ (b + 1) := by show _ = mn (lsA χ b) (lst χ b 16); unfold mn; (repeat' split) <;> omega
            rw [e9] at hl
            have e9 : grt χ b 16 = grA χ (b + 1) := by show _ = max (grA χ b) (grt χ b 16); omega
            rw [e9] at hl
            have hq9 : (wP cI cB a u_36 O χ b fi ne ct on : va_W) = wP cI cB a u_36 O χ (cuA χ (b + 1)) fi ne ct on := (by rw [show cuA χ (b + 1) = b from cif_t (by omega)])
            exact ih_11 (b + 1, u_36) _ _ _ (⟨by omega, va_P.eqw hq9 hP, va_D.eqw hq9 hD, hS⟩) (by first | omega | (dsimp only; omega)) (lv_sub hl [4, 5, 1, 0] rfl)
        · refine lv_iload hx hb dX2_findEvents_58 (lv_at hl 1 rfl) ?_
          refine lv_istore_n (lv' := [(1, .int (mI (lst χ b 16))), (5, .int (mI (grt χ b 16))), (4, .int (mI (lst χ b 16))), (0, .ref (a 0)), (2, .int (mI (grA χ b))), (3, .int (nI (b)))]) hx hb dX2_findEvents_60 rfl hl (by decide) rfl (fun ls hl => ?_)
          refine lv_iload hx hb dX2_findEvents_61 (lv_at hl 1 rfl) ?_
          refine lv_iload_n hx hb dX2_findEvents_63 rfl (lv_at hl 4 rfl) ?_
          refine xi_le (tgt := 75) hx hb dX2_findEvents_64 (by decide) (mI_toInt (by omega)) (mI_toInt (by omega)) (fun c_64 => ?_) (fun c_64 => ?_)
          · refine lv_iinc (v := nI (b + 1)) (lv' := [(3, .int (nI (b + 1))), (1, .int (mI (lst χ b 16))), (5, .int (mI (grt χ b 16))), (4, .int (mI (lst χ b 16))), (0, .ref (a 0)), (2, .int (mI (grA χ b)))]) hx hb dX2_findEvents_75 hl (k := 5) rfl (nI_add _ _) (by decide) rfl (fun ls hl => ?_)
            refine lv_goto (tgt := 11) hx hb dX2_findEvents_78 (by decide) ?_
            have e9 : lst χ b 16 = lsA χ (b + 1) := by show _ = mn (lsA χ b) (lst χ b 16); unfold mn; (repeat' split) <;> omega
            rw [e9] at hl
            have e9 : grA χ b = grA χ (b + 1) := by show _ = max (grA χ b) (grt χ b 16); omega
            rw [e9] at hl
            have hq9 : (wP cI cB a u_36 O χ (cuA χ b) fi ne ct on : va_W) = wP cI cB a u_36 O χ (cuA χ (b + 1)) fi ne ct on := (by rw [show cuA χ (b + 1) = cuA χ b from cif_f (by omega)])
            exact ih_11 (b + 1, u_36) _ _ _ (⟨by omega, va_P.eqw hq9 hP, va_D.eqw hq9 hD, hS⟩) (by first | omega | (dsimp only; omega)) (lv_sub hl [4, 1, 5, 0] rfl)
          · refine lv_iload hx hb dX2_findEvents_67 (lv_at hl 1 rfl) ?_
            refine lv_istore_n (lv' := [(2, .int (mI (grt χ b 16))), (1, .int (mI (lst χ b 16))), (5, .int (mI (grt χ b 16))), (4, .int (mI (lst χ b 16))), (0, .ref (a 0)), (3, .int (nI (b)))]) hx hb dX2_findEvents_69 rfl hl (by decide) rfl (fun ls hl => ?_)
            refine lv_aload_n hx hb dX2_findEvents_70 rfl (lv_at hl 4 rfl) ?_
            refine lv_iload_n hx hb dX2_findEvents_71 rfl (lv_at hl 5 rfl) ?_
            refine va_put (D := D) (ci := 2) (v := .int (nI (b))) (ty := .int) (C := RX2) (T := TX2) (N := 8) hx hb hts hiX2 tyX2 tyX2_ok nmX2 hown hK hP hD hS 0 rfl rfl 3 (by decide) (hts (.fieldLink RX2 25 "PairedCells" "current" "I") (by decide +kernel)) (fun _ h9 => h9) rfl (by decide +kernel) rfl rfl (Nat.le_of_ble_eq_true rfl) dX2_findEvents_72 (fun H locs hP hD hS => ?_)
            have hP : va_P D vwCl (wP cI cB a u_36 O χ b fi ne ct on) H := hP
            have hD : va_D A (wP cI cB a u_36 O χ b fi ne ct on) := hD
            refine lv_iinc (v := nI (b + 1)) (lv' := [(3, .int (nI (b + 1))), (2, .int (mI (grt χ b 16))), (1, .int (mI (lst χ b 16))), (5, .int (mI (grt χ b 16))), (4, .int (mI (lst χ b 16))), (0, .ref (a 0))]) hx hb dX2_findEvents_75 hl (k := 5) rfl (nI_add _ _) (by decide) rfl (fun ls hl => ?_)
            refine lv_goto (tgt := 11) hx hb dX2_findEvents_78 (by decide) ?_
            have e9 : lst χ b 16 = lsA χ (b + 1) := by show _ = mn (lsA χ b) (lst χ b 16); unfold mn; (repeat' split) <;> omega
            rw [e9] at hl
            have e9 : grt χ b 16 = grA χ (b + 1) := by show _ = max (grA χ b) (grt χ b 16); omega
            rw [e9] at hl
            have hq9 : (wP cI cB a u_36 O χ b fi ne ct on : va_W) = wP cI cB a u_36 O χ (cuA χ (b + 1)) fi ne ct on := (by rw [show cuA χ (b + 1) = b from cif_t (by omega)])
            exact ih_11 (b + 1, u_36) _ _ _ (⟨by omega, va_P.eqw hq9 hP, va_D.eqw hq9 hD, hS⟩) (by first | omega | (dsimp only; omega)) (lv_sub hl [5, 2, 1, 0] rfl)
end
section
theorem zz_one : (1 : Nat) = 1 := rfl
end
