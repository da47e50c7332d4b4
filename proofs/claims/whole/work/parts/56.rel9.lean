/-! what reading a text leaves -/
section JEQ9
variable {I R : Nat → Nat → Int} {F : Nat → Int} {R' : Nat → Nat → Int}
theorem St.frm (h : St I R F R') {I2 R2 : Nat → Nat → Int} {F2 : Nat → Int} {R2' : Nat → Nat → Int} (hI : ∀ q f, q ≠ 2 → q ≠ 15 → I2 q f = I q f) (hR : ∀ q, q ≠ 3 → (q < 16 ∨ 23 < q) → R2 q = R q) (hF : ∀ q, (q < 12 ∨ 16 < q) → F2 q = F q) (hR' : ∀ q, (q < 17 ∨ 21 < q) → R2' q = R' q) (hS : SP R2) (hcd : ∀ j, j < 60 → -2147483648 ≤ R2 3 j ∧ R2 3 j < 2147483648) : St I2 R2 F2 R2' := by
  have e5 : I2 5 = I 5 := funext fun f => hI 5 f (by decide) (by decide)
  have e0 : I2 0 = I 0 := funext fun f => hI 0 f (by decide) (by decide)
  have e25 : I2 25 = I 25 := funext fun f => hI 25 f (by decide) (by decide)
  have e26 : I2 26 = I 26 := funext fun f => hI 26 f (by decide) (by decide)
  have er : ∀ k : Nat, R2 (26 + 2 * k) = R (26 + 2 * k) := fun k => hR _ (by omega) (by omega)
  have r6 := hR 6 (by decide) (by decide)
  have r7 := hR 7 (by decide) (by decide)
  have r8 := hR 8 (by decide) (by decide)
  have r9 := hR 9 (by decide) (by decide)
  have r10 := hR 10 (by decide) (by decide)
  have r11 := hR 11 (by decide) (by decide)
  have r12 := hR 12 (by decide) (by decide)
  have r13 := hR 13 (by decide) (by decide)
  have f0 := hF 0 (by decide)
  have f1 := hF 1 (by decide)
  have f2 := hF 2 (by decide)
  have f3 := hF 3 (by decide)
  have f7 := hF 7 (by decide)
  have f11 := hF 11 (by decide)
  have f24 := hF 24 (by decide)
  have f31 := hF 31 (by decide)
  have m4 := hR' 4 (by decide)
  have m5 := hR' 5 (by decide)
  have m6 := hR' 6 (by decide)
  have m8 := hR' 8 (by decide)
  have m9 := hR' 9 (by decide)
  have m10 := hR' 10 (by decide)
  have m25 := hR' 25 (by decide)
  have m26 := hR' 26 (by decide)
  have m27 := hR' 27 (by decide)
  have m28 := hR' 28 (by decide)
  have m29 := hR' 29 (by decide)
  have hT : TI I2 R2 := by
    have := h.vi.town
    unfold TI at this ⊢
    rw [e5, r6, r7, r8, r9, r10, r11, r12, r13]
    exact this
  have hM : MI F2 R2' := by
    have := h.mv.town
    unfold MI at this ⊢
    rw [f1, f2, f3, f7, f11, f24, m4, m5, m6, m8, m9, m10, m25, m26]
    exact this
  refine ⟨⟨hT, ?_, ?_, ?_, ?_, hS, hcd⟩, ⟨hM, ?_, ?_, ?_⟩, ?_, ?_, ?_, ?_, ?_, ?_, ?_, ?_, ?_, ?_⟩
  · rw [e5]; exact h.vi.stands
  · rw [e25, e26]; exact fun k hk => ⟨h.vi.lane hk, h.vi.size hk⟩
  · intro k hk j hj; rw [er]; exact h.vi.row hk hj
  · rw [e0]; exact h.vi.fault
  · rw [f0]; exact h.mv.2.1
  · rw [m27, m28]; exact h.mv.2.2.1
  · rw [m29]; exact h.mv.2.2.2
  · have := h.sr
    unfold SR at this ⊢
    rw [e5, r10, r13, m4, m5, f1, f2, f3, f11]
    exact this
  · have := h.wr
    unfold WR at this ⊢
    rw [e5, r6, r7, r8, m8, m9, m10, f1, f2, f7]
    exact this
  · have := h.rr
    unfold RR at this ⊢
    rw [e5, r11, r12, m25, m26, f1, f2, f24]
    exact this
  · rw [e5, f1]; exact h.stands
  · rw [e5, f1, f2]; exact h.cells
  · rw [e5, m6, f3]; exact h.vs
  · rw [r9, m4, f3]; exact h.wc
  · rw [e0, f0]; exact h.fault
  · rw [e0, f31]; exact h.trace
  · intro k hk
    rw [e25, e26, er, m27, m28, m29]
    exact h.sh k hk
/-- rows that nobody asks differ -/
theorem St.jq (h : St I R F R') {R2 : Nat → Nat → Int} (e : jq R2 R) : St I R2 F R' := by
  have hr : ∀ q, q ≠ 14 → q ≠ 4 → R2 q = R q := e
  have er : ∀ k : Nat, R2 (26 + 2 * k) = R (26 + 2 * k) := fun k => hr _ (by omega) (by omega)
  have r3 := hr 3 (by decide) (by decide)
  have r6 := hr 6 (by decide) (by decide)
  have r7 := hr 7 (by decide) (by decide)
  have r8 := hr 8 (by decide) (by decide)
  have r9 := hr 9 (by decide) (by decide)
  have r10 := hr 10 (by decide) (by decide)
  have r11 := hr 11 (by decide) (by decide)
  have r12 := hr 12 (by decide) (by decide)
  have r13 := hr 13 (by decide) (by decide)
  have hT : TI I R2 := by
    have := h.vi.town
    unfold TI at this ⊢
    rw [r6, r7, r8, r9, r10, r11, r12, r13]
    exact this
  have hS : SP R2 := by
    have := h.vi.spare
    unfold SP at this ⊢
    rw [hr 16 (by decide) (by decide), hr 17 (by decide) (by decide), hr 18 (by decide) (by decide), hr 19 (by decide) (by decide), hr 20 (by decide) (by decide), hr 21 (by decide) (by decide), hr 22 (by decide) (by decide), hr 23 (by decide) (by decide)]
    exact this
  refine ⟨⟨hT, h.vi.stands, h.vi.2.2.1, fun k hk j hj => by rw [er]; exact h.vi.row hk hj, h.vi.fault, hS, by rw [r3]; exact h.vi.code⟩, h.mv, ?_, ?_, ?_, h.stands, h.cells, h.vs, ?_, h.fault, h.trace, fun k hk => by rw [er]; exact h.sh k hk⟩
  · have := h.sr
    unfold SR at this ⊢
    rw [r10, r13]; exact this
  · have := h.wr
    unfold WR at this ⊢
    rw [r6, r7, r8]; exact this
  · have := h.rr
    unfold RR at this ⊢
    rw [r11, r12]; exact this
  · rw [r9]; exact h.wc
end JEQ9
