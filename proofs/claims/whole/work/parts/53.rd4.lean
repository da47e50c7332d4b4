/-! the rows of a text, all -/
section JRD4
variable {I R : Nat → Nat → Int} {F0 : Nat → Int} {R0 : Nat → Nat → Int} {fr n : Int}
theorem text_sim (hB0 : BM F0 R0 n fr) (hh : F0 13 ≤ 4) {W : Nat} (hW : F0 14 = (W : Int)) (h : Rd I R F0 R0 fr n) : ∀ r : Nat, (r : Int) ≤ F0 13 →
    (tS I R r).1 = (spS F0 R0 fr n (r * W)).1 ∧ Rd (tS I R r).2.1 (tS I R r).2.2 (spS F0 R0 fr n (r * W)).2.1 (spS F0 R0 fr n (r * W)).2.2 fr n ∧ keR R (tS I R r).2.2 := by
  intro r
  induction r with
  | zero =>
    intro _
    rw [Nat.zero_mul]
    exact ⟨rfl, h, keR.rf⟩
  | succ r ih =>
    intro hr
    have i1 := ih (by omega)
    have hok := spS_ok hB0 (r * W)
    by_cases ez : (spS F0 R0 fr n (r * W)).1 = 0
    · have hx1 : tS I R (r + 1) = tS I R r := tS_0 (by rw [i1.1, ez]) _ (by omega)
      have hz1 : spS F0 R0 fr n ((r + 1) * W) = spS F0 R0 fr n (r * W) := spS_0 ez _ (by rw [Nat.add_mul]; omega)
      rw [hx1, hz1]
      exact i1
    · have ez1 := hok.1.resolve_left ez
      have hx0 : tS I R r = (1, (tS I R r).2.1, (tS I R r).2.2) := by rw [← (i1.1.trans ez1)]
      have hz0 : spS F0 R0 fr n (r * W) = (1, (spS F0 R0 fr n (r * W)).2.1, (spS F0 R0 fr n (r * W)).2.2) := by rw [← ez1]
      have hx1 : tS I R (r + 1) = k_X1_readRow (tS I R r).2.1 (tS I R r).2.2 r := tS_s hx0
      have hs := row_sim hB0 hh hW (r := r) (by omega) hz0 i1.2.1
      rw [hx1]
      exact ⟨hs.1, hs.2.1, i1.2.2.tr hs.2.2⟩
end JRD4
