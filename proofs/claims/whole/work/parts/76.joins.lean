/-! ===== two worlds side by side ===== -/
theorem x_apl {D : va_G} {cl : List vw_C} {u v : va_W} {H : Heap} (h : va_P D cl (u ++ v) H) : va_P D cl u H := fun k q hk => h k q (by
  have hlt : k < u.length := (List.getElem?_eq_some_iff.mp hk).1
  rw [List.getElem?_append_left hlt]; exact hk)
theorem x_apr {D : va_G} {cl : List vw_C} {u v : va_W} {H : Heap} (h : va_P D cl (u ++ v) H) : va_P D cl v H := fun k q hk => h (u.length + k) q (by
  rw [List.getElem?_append_right (Nat.le_add_right _ _), Nat.add_sub_cancel_left]; exact hk)
theorem x_dpl {A : Nat → Prop} {u v : va_W} (h : va_D A (u ++ v)) : va_D A u := by
  have e1 : ∀ (k : Nat) (q : Nat × va_E), u[k]? = some q → (u ++ v)[k]? = some q := fun k q hk => by
    have hlt : k < u.length := (List.getElem?_eq_some_iff.mp hk).1
    rw [List.getElem?_append_left hlt]; exact hk
  exact ⟨fun i j q9 q8 hi hj => h.1 i j q9 q8 (e1 i q9 hi) (e1 j q8 hj), fun k q hk => h.2 k q (e1 k q hk)⟩
theorem x_dpr {A : Nat → Prop} {u v : va_W} (h : va_D A (u ++ v)) : va_D A v := by
  have e1 : ∀ (k : Nat) (q : Nat × va_E), v[k]? = some q → (u ++ v)[u.length + k]? = some q := fun k q hk => by
    rw [List.getElem?_append_right (Nat.le_add_right _ _), Nat.add_sub_cancel_left]; exact hk
  refine ⟨fun i j q9 q8 hi hj he => ?_, fun k q hk => h.2 _ q (e1 k q hk)⟩
  have h9 := h.1 _ _ q9 q8 (e1 i q9 hi) (e1 j q8 hj) he
  omega
theorem x_apart {A : Nat → Prop} {u v : va_W} (h : va_D A (u ++ v)) {i j : Nat} {q9 q8 : Nat × va_E} (hi : u[i]? = some q9) (hj : v[j]? = some q8) : q9.1 ≠ q8.1 := fun he => by
  have hlt : i < u.length := (List.getElem?_eq_some_iff.mp hi).1
  have h9 := h.1 i (u.length + j) q9 q8 (by rw [List.getElem?_append_left hlt]; exact hi) (by rw [List.getElem?_append_right (Nat.le_add_right _ _), Nat.add_sub_cancel_left]; exact hj) he
  omega
/-- the left one was changed by a call -/
theorem x_joinL {D : va_G} {A : Nat → Prop} {u u' v : va_W} {H H1 : Heap} (hP : va_P D vwCl (u ++ v) H) (hD : va_D A (u ++ v)) (hF : ∀ q, va_A u H.size q → A q) (hk : ∀ q : Nat, q < H.size → ¬ va_A u H.size q → H1[q]? = H[q]?) (hP1 : va_P D vwCl u' H1) (hD1 : va_D (va_A u H.size) u') : va_P D vwCl (u' ++ v) H1 ∧ va_D A (u' ++ v) := by
  have hPv := x_apr hP
  have hno : ∀ (j : Nat) (q8 : Nat × va_E), v[j]? = some q8 → ¬ va_A u H.size q8.1 := fun j q8 hj h9 => h9.elim (fun ⟨k, e, h8⟩ => x_apart hD h8 hj rfl) (fun h8 => absurd (vx_lt hPv hj) (by omega))
  refine ⟨va_P.app hP1 (hPv.kept (fun k q hk9 => hk q.1 (vx_lt hPv hk9) (hno k q hk9))), va_D.app (hD1.weaken (fun _ q _ h9 => hF q.1 h9)) (x_dpr hD) (fun i j q9 q8 hi hj he => hno j q8 hj (he ▸ hD1.2 i q9 hi))⟩
/-- the right one was -/
theorem x_joinR {D : va_G} {A : Nat → Prop} {u v v' : va_W} {H H1 : Heap} (hP : va_P D vwCl (u ++ v) H) (hD : va_D A (u ++ v)) (hF : ∀ q, va_A v H.size q → A q) (hk : ∀ q : Nat, q < H.size → ¬ va_A v H.size q → H1[q]? = H[q]?) (hP1 : va_P D vwCl v' H1) (hD1 : va_D (va_A v H.size) v') : va_P D vwCl (u ++ v') H1 ∧ va_D A (u ++ v') := by
  have hPu := x_apl hP
  have hno : ∀ (j : Nat) (q8 : Nat × va_E), u[j]? = some q8 → ¬ va_A v H.size q8.1 := fun j q8 hj h9 => h9.elim (fun ⟨k, e, h8⟩ => x_apart hD hj h8 rfl) (fun h8 => absurd (vx_lt hPu hj) (by omega))
  refine ⟨va_P.app (hPu.kept (fun k q hk9 => hk q.1 (vx_lt hPu hk9) (hno k q hk9))) hP1, va_D.app (x_dpl hD) (hD1.weaken (fun _ q _ h9 => hF q.1 h9)) (fun i j q9 q8 hi hj he => hno i q9 hi (he ▸ hD1.2 j q8 hj))⟩
theorem x_kl {D : va_G} {t1 t2 : List (ClassId × FieldType)} {U : State} (h : va_K D vwCl (t1 ++ t2) U) : va_K D vwCl t1 U := ⟨h.1, fun k q hk => h.2 k q (by
  have hlt : k < t1.length := (List.getElem?_eq_some_iff.mp hk).1
  rw [List.getElem?_append_left hlt]; exact hk)⟩
theorem x_kr {D : va_G} {t1 t2 : List (ClassId × FieldType)} {U : State} (h : va_K D vwCl (t1 ++ t2) U) : va_K D vwCl t2 U := ⟨h.1, fun k q hk => h.2 (t1.length + k) q (by
  rw [List.getElem?_append_right (Nat.le_add_right _ _), Nat.add_sub_cancel_left]; exact hk)⟩
