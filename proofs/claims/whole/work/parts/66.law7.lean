/-! the law's entry: what the tables and the start give -/
theorem lt_m {w : Cond} (i : Nat) (h : tables_1[i]? = some w) : w ∈ lw_tbl := List.mem_append_right _ (List.mem_of_getElem? h)
theorem jK_of {args : Array Value} {s : State} (hts : ∀ w ∈ lw_tbl, w.before args s = true) : ∃ (D : va_G) (cI cS : ClassId), va_K D vwCl [(cI, .int), (cS, .object RX0)] s := by
  obtain ⟨c0, i0, h0⟩ := u_known (C := RX0) (T := TX0) (N := 3) (n := 3) hts wsX00_intbl (hts (.instantiable RX0 3) (lt_m 117 (by decide +kernel)))
  obtain ⟨c1, i1, h1⟩ := u_known (C := RX1) (T := TX1) (N := 3) (n := 3) hts wsX10_intbl (hts (.instantiable RX1 3) (lt_m 21 (by decide +kernel)))
  obtain ⟨c2, i2, h2⟩ := u_known (C := RX2) (T := TX2) (N := 18) (n := 18) hts wsX20_intbl (hts (.instantiable RX2 18) (lt_m 39 (by decide +kernel)))
  obtain ⟨c3, i3, h3⟩ := u_known (C := RX3) (T := TX3) (N := 7) (n := 7) hts wsX30_intbl (hts (.instantiable RX3 7) (lt_m 11 (by decide +kernel)))
  obtain ⟨c4, i4, h4⟩ := u_known (C := RX4) (T := TX4) (N := 32) (n := 32) hts wsX40_intbl (hts (.instantiable RX4 32) (lt_m 522 (by decide +kernel)))
  obtain ⟨cI, kI, compI, a1, a2, a3⟩ := Cond.arrayClass_spec (hts (.arrayClass .int) (lt_m 37 (by decide +kernel)))
  obtain ⟨compS, cS, kS, b1, b2, b3, b4, b5⟩ := Cond.arrayOver_spec (hts (.arrayOver (.object RX0)) (lt_m 19 (by decide +kernel)))
  refine ⟨(fun k => if k = 0 then c0 else if k = 1 then c1 else if k = 2 then c2 else if k = 3 then c3 else c4, fun k => if k = 0 then i0 else if k = 1 then i1 else if k = 2 then i2 else if k = 3 then i3 else i4), cI, cS, ?_, ?_⟩
  · intro k q hq
    match k, hq with
    | 0, hq => cases hq; exact h0
    | 1, hq => cases hq; exact h1
    | 2, hq => cases hq; exact h2
    | 3, hq => cases hq; exact h3
    | 4, hq => cases hq; exact h4
    | k + 5, hq => cases hq
  · intro k q hq
    match k, hq with
    | 0, hq => cases hq; exact ⟨fun n z => ⟨(fun k h => by cases h), kI, a2, compI, a3⟩, a1⟩
    | 1, hq => cases hq; exact ⟨fun n z => ⟨(fun k h => by cases h), kS, b3, compS, b4⟩, kS, compS, b3, b4, b1, b5⟩
    | k + 2, hq => cases hq
theorem jN_of {args : Array Value} {s : State} (hts : ∀ w ∈ lw_tbl, w.before args s = true) : jN s :=
  ⟨va_Nw.of rfl (hts (.methodLinkNest RX1 27 yX3_read RX3) (lt_m 188 (by decide +kernel))), va_Nw.of rfl (hts (.methodLinkNest RX1 31 yX3_write RX3) (lt_m 191 (by decide +kernel))), va_Nw.of rfl (hts (.methodLinkNest RX2 72 yX3_write RX3) (lt_m 234 (by decide +kernel))), va_Nw.of rfl (hts (.methodLinkNest RX2 88 yX3_read RX3) (lt_m 245 (by decide +kernel))), va_Nw.of rfl (hts (.fieldLinkNest RX2 85 RX3 "STEP_DOWN" "[I" RX3) (lt_m 243 (by decide +kernel))), va_Nw.of rfl (hts (.fieldLinkNest RX2 92 RX3 "STEP_RIGHT" "[I" RX3) (lt_m 246 (by decide +kernel)))⟩
theorem jX_of {args : Array Value} {s : State} (hts : ∀ w ∈ lw_tbl, w.before args s = true) : jX s :=
  ⟨va_Nw.of rfl (hts (.methodLinkNest RX3 19 yX1_init RX3) (lt_m 22 (by decide +kernel))), va_Nw.of rfl (hts (.methodLinkNest RX3 30 yX2_init RX3) (lt_m 40 (by decide +kernel))), va_Nw.of rfl (hts (.methodLinkNest RX3 45 yX0_init RX3) (lt_m 118 (by decide +kernel))), va_AO.of (hts (.arrayOver (.object RX0)) (lt_m 19 (by decide +kernel)))⟩
theorem jX_same {u U : State} (h : u.vm = U.vm) (hJ : jX u) : jX U :=
  ⟨va_Nw.same rfl h hJ.1, va_Nw.same rfl h hJ.2.1, va_Nw.same rfl h hJ.2.2.1, va_AO.moved (h ▸ Vm.Alike.refl u.vm) hJ.2.2.2⟩
theorem jX_warm {s U : State} (hW : s.WarmedH U.vm) (hJ : jX s) : jX U :=
  ⟨va_Nw.warmM hW hJ.1, va_Nw.warmM hW hJ.2.1, va_Nw.warmM hW hJ.2.2.1, va_AO.moved hW.alike hJ.2.2.2⟩
theorem jT_of {args : Array Value} {s : State} (hts : ∀ w ∈ lw_tbl, w.before args s = true) (hgv : (Jvm.Cond.and given_1 narrow_1).before args s = true) : jT (fun q => s.heap.size ≤ q) s s.heap := by
  have hq := flat_of_before _ hgv
  have hA : ∀ a : Nat, a < s.heap.size → ¬ (fun q : Nat => s.heap.size ≤ q) a := fun a h => Nat.not_le.mpr h
  have d0 : (Term.elem (.static RX3 "STEP_DOWN" "[I") (.int 0)).eval args s none [] s = some (.int (iI (-1))) := va_eqt (hq (.eq (.elem (.static RX3 "STEP_DOWN" "[I") (.int 0)) (.int (-1))) (by decide +kernel))
  have d1 : (Term.elem (.static RX3 "STEP_DOWN" "[I") (.int 1)).eval args s none [] s = some (.int (iI 0)) := va_eqt (hq (.eq (.elem (.static RX3 "STEP_DOWN" "[I") (.int 1)) (.int 0)) (by decide +kernel))
  have d2 : (Term.elem (.static RX3 "STEP_DOWN" "[I") (.int 2)).eval args s none [] s = some (.int (iI 1)) := va_eqt (hq (.eq (.elem (.static RX3 "STEP_DOWN" "[I") (.int 2)) (.int 1)) (by decide +kernel))
  have d3 : (Term.elem (.static RX3 "STEP_DOWN" "[I") (.int 3)).eval args s none [] s = some (.int (iI 0)) := va_eqt (hq (.eq (.elem (.static RX3 "STEP_DOWN" "[I") (.int 3)) (.int 0)) (by decide +kernel))
  have r0 : (Term.elem (.static RX3 "STEP_RIGHT" "[I") (.int 0)).eval args s none [] s = some (.int (iI 0)) := va_eqt (hq (.eq (.elem (.static RX3 "STEP_RIGHT" "[I") (.int 0)) (.int 0)) (by decide +kernel))
  have r1 : (Term.elem (.static RX3 "STEP_RIGHT" "[I") (.int 1)).eval args s none [] s = some (.int (iI 1)) := va_eqt (hq (.eq (.elem (.static RX3 "STEP_RIGHT" "[I") (.int 1)) (.int 1)) (by decide +kernel))
  have r2 : (Term.elem (.static RX3 "STEP_RIGHT" "[I") (.int 2)).eval args s none [] s = some (.int (iI 0)) := va_eqt (hq (.eq (.elem (.static RX3 "STEP_RIGHT" "[I") (.int 2)) (.int 0)) (by decide +kernel))
  have r3 : (Term.elem (.static RX3 "STEP_RIGHT" "[I") (.int 3)).eval args s none [] s = some (.int (iI (-1))) := va_eqt (hq (.eq (.elem (.static RX3 "STEP_RIGHT" "[I") (.int 3)) (.int (-1))) (by decide +kernel))
  have ld : (Term.length (.static RX3 "STEP_DOWN" "[I")).eval args s none [] s = some (.int (Int32.ofNat 4)) := va_eqt (hq (.eq (.length (.static RX3 "STEP_DOWN" "[I")) (.int 4)) (by decide +kernel))
  have lr : (Term.length (.static RX3 "STEP_RIGHT" "[I")).eval args s none [] s = some (.int (Int32.ofNat 4)) := va_eqt (hq (.eq (.length (.static RX3 "STEP_RIGHT" "[I")) (.int 4)) (by decide +kernel))
  obtain ⟨t1, e1, T1⟩ := va_Tof (tm := .static RX3 "STEP_DOWN" "[I") (ty := .int) (N := 4) (f := fun j => .int (iI (sd j))) (Nat.lt_of_sub_pos (by decide)) (hq (.arrayOf (.static RX3 "STEP_DOWN" "[I") .int) (by decide +kernel)) ld (fun j hj => by
    rcases (show j = 0 ∨ j = 1 ∨ j = 2 ∨ j = 3 by omega) with rfl | rfl | rfl | rfl
    · exact d0
    · exact d1
    · exact d2
    · exact d3) hA
  obtain ⟨t2, e2, T2⟩ := va_Tof (tm := .static RX3 "STEP_RIGHT" "[I") (ty := .int) (N := 4) (f := fun j => .int (iI (sr j))) (Nat.lt_of_sub_pos (by decide)) (hq (.arrayOf (.static RX3 "STEP_RIGHT" "[I") .int) (by decide +kernel)) lr (fun j hj => by
    rcases (show j = 0 ∨ j = 1 ∨ j = 2 ∨ j = 3 by omega) with rfl | rfl | rfl | rfl
    · exact r0
    · exact r1
    · exact r2
    · exact r3) hA
  exact ⟨t1, t2, va_Zof (hts (.laysStatic RX3 "STEP_DOWN" "[I") (lt_m 244 (by decide +kernel))) (hts (.initialized RX3) (lt_m 1 (by decide +kernel))) e1 hA, T1, va_Zof (hts (.laysStatic RX3 "STEP_RIGHT" "[I") (lt_m 247 (by decide +kernel))) (hts (.initialized RX3) (lt_m 1 (by decide +kernel))) e2 hA, T2⟩
theorem Apt_of {A : Nat → Prop} {w1 w2 : va_W} (h : va_D A (w1 ++ w2)) : va_D A w1 ∧ va_D A w2 ∧ Apt w1 w2 := by
  have l1 : ∀ (i : Nat) (p : Nat × va_E), w1[i]? = some p → (w1 ++ w2)[i]? = some p ∧ i < w1.length := fun i p hp => by
    have hi := (List.getElem?_eq_some_iff.mp hp).1
    exact ⟨by rw [List.getElem?_append_left hi]; exact hp, hi⟩
  have l2 : ∀ (i : Nat) (p : Nat × va_E), w2[i]? = some p → (w1 ++ w2)[w1.length + i]? = some p := fun i p hp => by
    rw [List.getElem?_append_right (by omega), show w1.length + i - w1.length = i by omega]; exact hp
  refine ⟨⟨fun i j p q hp hq e => h.1 i j p q (l1 i p hp).1 (l1 j q hq).1 e, fun k q hk => h.2 k q (l1 k q hk).1⟩, ⟨fun i j p q hp hq e => ?_, fun k q hk => h.2 _ q (l2 k q hk)⟩, fun i j p q hp hq e => ?_⟩
  · have := h.1 _ _ p q (l2 i p hp) (l2 j q hq) e; omega
  · have := h.1 _ _ p q (l1 i p hp).1 (l2 j q hq) e
    have := (l1 i p hp).2
    omega
theorem P_of {D : va_G} {cl : List vw_C} {w1 w2 : va_W} {H : Heap} (h : va_P D cl (w1 ++ w2) H) : va_P D cl w1 H ∧ va_P D cl w2 H := by
  refine ⟨fun k q hk => h k q ?_, fun k q hk => h (w1.length + k) q ?_⟩
  · rw [List.getElem?_append_left (List.getElem?_eq_some_iff.mp hk).1]; exact hk
  · rw [List.getElem?_append_right (by omega), show w1.length + k - w1.length = k by omega]; exact hk
