/-! the start; rows of the model that nobody asks -/
section JST
variable {I R : Nat → Nat → Int} {F : Nat → Int} {R' : Nat → Nat → Int}
theorem St.jm (h : St I R F R') {R2 : Nat → Nat → Int} (e : jm9 R2 R') : St I R F R2 := by
  have hr : ∀ q, q ≠ 22 → q ≠ 30 → R2 q = R' q := e
  have m4 := hr 4 (by decide) (by decide)
  have m5 := hr 5 (by decide) (by decide)
  have m6 := hr 6 (by decide) (by decide)
  have m8 := hr 8 (by decide) (by decide)
  have m9 := hr 9 (by decide) (by decide)
  have m10 := hr 10 (by decide) (by decide)
  have m25 := hr 25 (by decide) (by decide)
  have m26 := hr 26 (by decide) (by decide)
  have m27 := hr 27 (by decide) (by decide)
  have m28 := hr 28 (by decide) (by decide)
  have m29 := hr 29 (by decide) (by decide)
  have hM : MI F R2 := by
    have := h.mv.town
    unfold MI at this ⊢
    rw [m4, m5, m6, m8, m9, m10, m25, m26]
    exact this
  refine ⟨h.vi, ⟨hM, h.mv.2.1, ?_, ?_⟩, ?_, ?_, ?_, h.stands, h.cells, ?_, ?_, h.fault, h.trace, ?_⟩
  · rw [m27, m28]; exact h.mv.2.2.1
  · rw [m29]; exact h.mv.2.2.2
  · have := h.sr
    unfold SR at this ⊢
    rw [m4, m5]; exact this
  · have := h.wr
    unfold WR at this ⊢
    rw [m8, m9, m10]; exact this
  · have := h.rr
    unfold RR at this ⊢
    rw [m25, m26]; exact this
  · rw [m6]; exact h.vs
  · rw [m4]; exact h.wc
  · intro k hk
    rw [m27, m28, m29]
    exact h.sh k hk
theorem R0m_27 : ∀ k : Nat, k < 4 → R0m 27 k = -1 := by decide
theorem St_0 : St I0 (fun _ _ => 0) F0m R0m := by
  have z : (0 : Int) ≤ 0 := Int.le_refl 0
  have a9 : (0 : Int) ≤ 9 := by decide
  have a2 : (0 : Int) ≤ 2 := by decide
  have a99 : (0 : Int) ≤ 99 := by decide
  have aM : (0 : Int) ≤ 1000000 := by decide
  have a24 : (0 : Int) < 24 := by decide
  have a4 : (0 : Int) < 4 := by decide
  have m1 : (-2147483648 : Int) ≤ 0 := by decide
  have m2 : (0 : Int) < 2147483648 := by decide
  have b1 : (-1 : Int) ≤ -1 ∧ (-1 : Int) ≤ 2 := by decide
  have b2 : (0 : Int) ≤ 0 ∧ (0 : Int) ≤ 60 := by decide
  have hT : TI I0 (fun _ _ => 0) := ⟨by decide, by decide, by decide, by decide, by decide, by decide, fun _ _ => ⟨z, a9⟩, fun _ _ => ⟨z, aM⟩, fun _ _ => ⟨z, a9⟩, fun _ _ => ⟨z, a24⟩, fun _ _ => ⟨z, a2⟩, fun _ _ => ⟨z, a24⟩, fun _ _ => ⟨z, a24⟩, fun _ _ => ⟨z, a99⟩⟩
  have hM : MI F0m R0m := ⟨by decide, by decide, by decide, by decide, by decide, by decide, Or.inl (by decide), fun _ _ => ⟨z, a24⟩, fun _ _ => ⟨z, a9⟩, fun _ _ => ⟨z, a4⟩, fun _ _ => ⟨z, a24⟩, fun _ _ => ⟨z, a2⟩, fun _ _ => ⟨z, a9⟩, fun _ _ => ⟨z, a24⟩, fun _ _ => ⟨z, a99⟩⟩
  refine ⟨⟨hT, by decide, fun _ _ => ⟨b1, b2⟩, fun _ _ _ _ => ⟨m1, m2⟩, by decide, ⟨fun _ _ => ⟨z, a9⟩, fun _ _ => ⟨z, aM⟩, fun _ _ => ⟨z, a9⟩, fun _ _ => ⟨z, a24⟩, fun _ _ => ⟨z, a2⟩, fun _ _ => ⟨z, a24⟩, fun _ _ => ⟨z, a24⟩, fun _ _ => ⟨z, a99⟩⟩, fun _ _ => ⟨m1, m2⟩⟩, ⟨hM, by decide, fun k hk => ⟨by rw [R0m_27 k hk]; decide, ⟨z, a2⟩⟩, fun _ _ => ⟨m1, m2⟩⟩, ⟨rfl, rfl, fun w hw => absurd (show (w : Int) < 0 from hw) (by omega), fun w _ _ hw => absurd (show (w : Int) < 0 from hw) (by omega)⟩, ⟨rfl, fun w hw => absurd (show (w : Int) < 0 from hw) (by omega)⟩, ⟨rfl, fun w hw => absurd (show (w : Int) < 0 from hw) (by omega)⟩, Iff.rfl, rfl, fun w hw => absurd (show (w : Int) < 0 from hw) (by omega), fun w hw => absurd (show (w : Int) < 0 from hw) (by omega), rfl, rfl, ?_⟩
  intro k hk
  exact ⟨Or.inl ⟨rfl, R0m_27 k hk⟩, fun i hi => absurd hi (by rw [R0m_27 k hk]; omega)⟩
end JST
