/-! town's pre, in the law -/
theorem jT_narrow {A A0 : Nat → Prop} {U : State} {H : Heap} (h : jT A0 U H) (hA : ∀ q, A q → A0 q) : jT A U H := by
  obtain ⟨t1, t2, a, b, c, d⟩ := h
  exact ⟨t1, t2, a.narrow hA, b.narrow hA, c.narrow hA, d.narrow hA⟩
theorem jpreVL {s : State} {H : Heap} {locs : List Loc} {D : va_G} {cI cS : ClassId} {A A0 : Nat → Prop} {w : va_W} (hE : jE D cI cS s) (hP : va_P D vwCl w H) (hT0 : jT A0 s s.heap) (hS : va_S A0 s.heap H locs) (hA : ∀ q, A q → A0 q) (ci q0 : Nat) {q : vw_C} {a : Nat} {fs : List Value} (hc : vwCl[ci]? = some q) (he : w[q0]? = some (a, .inr (ci, fs))) {As : List Value} : PreV s H q.1 a (va_Pc (.ref a :: As) (fun U => jB D cI cS w U ∧ jT A U U.heap)) As :=
  ⟨fun _ U _ _ q => ⟨q.1, ⟨jE_same (u := U) rfl q.2.1.1, q.2.1.2⟩, jT_moved (u := U) (Vm.Alike.refl U.vm) q.2.2⟩, va_recv hE.1 hP hc he, fun U hU hW => ⟨rfl, ⟨jE_warm hW hE, by rw [hU]; exact hP⟩, by rw [hU]; exact jT_moved hW.alike (jT_narrow (jT_kept hT0 hS.2.1) hA)⟩⟩
/-- the law's state of things -/
def Inv (A0 : Nat → Prop) (D : va_G) (cI cS : ClassId) (a0 m0 : Nat) (H : Heap) : Prop := ∃ (ad am : Nat → Nat) (I R : Nat → Nat → Int) (F : Nat → Int) (R' : Nat → Nat → Int), ad 0 = a0 ∧ am 0 = m0 ∧ va_P D vwCl (wC cI cS ad I R) H ∧ va_D A0 (wC cI cS ad I R) ∧ va_P D vwCl (wM cI am F R') H ∧ va_D A0 (wM cI am F R') ∧ Apt (wC cI cS ad I R) (wM cI am F R') ∧ St I R F R'
theorem Apt_C {cI cS : ClassId} {ad : Nat → Nat} {I R I2 R2 : Nat → Nat → Int} {w2 : va_W} (h : Apt (wC cI cS ad I R) w2) : Apt (wC cI cS ad I2 R2) w2 := by
  have e : (wC cI cS ad I2 R2).map (fun q => q.1) = (wC cI cS ad I R).map (fun q => q.1) := rfl
  refine h.map (fun i q hq => ?_) (fun i q hq => ⟨i, q, hq, rfl⟩)
  have h1 : ((wC cI cS ad I2 R2).map (fun q => q.1))[i]? = some q.1 := by rw [List.getElem?_map, hq]; rfl
  rw [e, List.getElem?_map] at h1
  cases h0 : (wC cI cS ad I R)[i]? with
  | none => rw [h0] at h1; cases h1
  | some q0 => rw [h0] at h1; exact ⟨i, q0, h0, Option.some.inj h1⟩
theorem Apt_M {cI : ClassId} {am : Nat → Nat} {F F2 : Nat → Int} {R R2 : Nat → Nat → Int} {w1 : va_W} (h : Apt w1 (wM cI am F R)) : Apt w1 (wM cI am F2 R2) := by
  have e : (wM cI am F2 R2).map (fun q => q.1) = (wM cI am F R).map (fun q => q.1) := rfl
  refine h.map (fun i q hq => ⟨i, q, hq, rfl⟩) (fun i q hq => ?_)
  have h1 : ((wM cI am F2 R2).map (fun q => q.1))[i]? = some q.1 := by rw [List.getElem?_map, hq]; rfl
  rw [e, List.getElem?_map] at h1
  cases h0 : (wM cI am F R)[i]? with
  | none => rw [h0] at h1; cases h1
  | some q0 => rw [h0] at h1; exact ⟨i, q0, h0, Option.some.inj h1⟩
theorem Apt.symm {w1 w2 : va_W} (h : Apt w1 w2) : Apt w2 w1 := fun i j p q hp hq e => h j i q p hq hp e.symm
