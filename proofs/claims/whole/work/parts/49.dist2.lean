/-! the distances of a work, all ways -/
theorem dm_o {T : Nat → Int} {hi wd r0 c0 dr dc : Int} {B x : Nat} (hh : hi ≤ 4) (hw : 2 ≤ wd ∧ wd ≤ 6) (hx : x < B ∨ B + 24 ≤ x) : ∀ k : Nat, dm T hi wd (B : Int) r0 c0 dr dc k x = T x := by
  intro k
  induction k with
  | zero => rfl
  | succ k ih =>
    by_cases g : (0 ≤ ps r0 dr k ∧ ps r0 dr k < hi) ∧ 0 ≤ ps c0 dc k ∧ ps c0 dc k < wd
    · rw [dm_t g]
      have h1 : 0 ≤ ps r0 dr k * wd := Int.mul_nonneg g.1.1 (by omega)
      have h2 : ps r0 dr k * wd ≤ 3 * wd := Int.mul_le_mul_of_nonneg_right (by omega) (by omega)
      rw [u1_n (by omega)]
      exact ih
    · rw [dm_f g]; exact ih
theorem dw_o {T : Nat → Int} {hi wd r0 c0 : Int} {w v x : Nat} (hh : hi ≤ 4) (hw : 2 ≤ wd ∧ wd ≤ 6) (hx : x < (w * 4 + v) * 24 ∨ (w * 4 + v) * 24 + 24 ≤ x) : dw T hi wd w v r0 c0 x = T x := by
  unfold dw
  have e : (((w : Int) * 4 + (v : Int)) * 24) = (((w * 4 + v) * 24 : Nat) : Int) := by omega
  rw [e, Int.toNat_natCast, dm_o hh hw hx]
  unfold fb
  rw [if_neg (by omega)]
theorem da_o {T : Nat → Int} {hi wd r0 c0 : Int} {w x : Nat} (hh : hi ≤ 4) (hw : 2 ≤ wd ∧ wd ≤ 6) (hx : x < w * 96 ∨ w * 96 + 96 ≤ x) : ∀ n : Nat, n ≤ 4 → da T hi wd w r0 c0 n x = T x := by
  intro n
  induction n with
  | zero => intro _; rfl
  | succ n ih =>
    intro hn
    simp only [da]
    rw [dw_o hh hw (by omega)]
    exact ih (by omega)
theorem da_at {T : Nat → Int} {hi wd r0 c0 q m : Int} {w v : Nat} (hh : hi ≤ 4) (hw : 2 ≤ wd ∧ wd ≤ 6) (hr : 0 ≤ r0 ∧ r0 < hi) (hc : 0 ≤ c0 ∧ c0 < wd) (hq : 0 ≤ q ∧ q < hi) (hm : 0 ≤ m ∧ m < wd) : ∀ n : Nat, n ≤ 4 → v < n → da T hi wd w r0 c0 n ((w * 4 + v) * 24 + Int.toNat (q * wd + m)) = dsp wd (r0 * wd + c0) v (q * wd + m) := by
  have hqw : 0 ≤ q * wd := Int.mul_nonneg hq.1 (by omega)
  have h6 : q * wd + m < 24 := by
    rcases (show wd = 2 ∨ wd = 3 ∨ wd = 4 ∨ wd = 5 ∨ wd = 6 by omega) with e | e | e | e | e <;> rw [e] at hm ⊢ <;> omega
  intro n
  induction n with
  | zero => intro _ h; exact absurd h (Nat.not_lt_zero v)
  | succ n ih =>
    intro hn hv
    simp only [da]
    by_cases e : v = n
    · subst e
      exact dw_at hh hw hr hc hq hm (by omega)
    · rw [dw_o hh hw (by omega)]
      exact ih (by omega) (by omega)
/-- a cell by its row and column -/
theorem cell_rc {hi wd c : Int} (hh : hi ≤ 4) (hw : 2 ≤ wd ∧ wd ≤ 6) (hc : 0 ≤ c ∧ c < hi * wd) : ∃ q m : Int, c = q * wd + m ∧ (0 ≤ q ∧ q < hi) ∧ (0 ≤ m ∧ m < wd) := by
  refine ⟨c / wd, c % wd, ?_, ?_, Int.emod_nonneg c (by omega), Int.emod_lt_of_pos c (by omega)⟩
  · rw [Int.mul_comm]; exact (Int.mul_ediv_add_emod c wd).symm
  · exact ⟨Int.ediv_nonneg hc.1 (by omega), Int.ediv_lt_of_lt_mul (by omega) hc.2⟩
/-- every distance of a work -/
theorem da_all {T : Nat → Int} {hi wd r0 c0 c : Int} {w v : Nat} (hh : hi ≤ 4) (hw : 2 ≤ wd ∧ wd ≤ 6) (hr : 0 ≤ r0 ∧ r0 < hi) (hc : 0 ≤ c0 ∧ c0 < wd) (hv : v < 4) (hcc : 0 ≤ c ∧ c < hi * wd) : da T hi wd w r0 c0 4 ((w * 4 + v) * 24 + Int.toNat c) = dsp wd (r0 * wd + c0) v c := by
  obtain ⟨q, m, rfl, h1, h2⟩ := cell_rc hh hw hcc
  exact da_at hh hw hr hc h1 h2 4 (by omega) hv
theorem cell24 {hi wd c : Int} (hh : hi ≤ 4) (hw : 2 ≤ wd ∧ wd ≤ 6) (hc : 0 ≤ c ∧ c < hi * wd) : c < 24 := by
  obtain ⟨q, m, rfl, h1, h2⟩ := cell_rc hh hw hc
  rcases (show wd = 2 ∨ wd = 3 ∨ wd = 4 ∨ wd = 5 ∨ wd = 6 by omega) with e | e | e | e | e <;> rw [e] at h2 ⊢ <;> omega
/-- what is written stays in the range of distances -/
theorem dm_rng {T : Nat → Int} {hi wd b r0 c0 dr dc : Int} (h : ∀ j, j < 384 → 0 ≤ T j ∧ T j ≤ 1000000) : ∀ k : Nat, k ≤ 6 → ∀ j, j < 384 → 0 ≤ dm T hi wd b r0 c0 dr dc k j ∧ dm T hi wd b r0 c0 dr dc k j ≤ 1000000 := by
  intro k
  induction k with
  | zero => intro _; exact h
  | succ k ih =>
    intro hk j hj
    have h1 := ih (by omega) j hj
    simp only [dm]
    split
    · unfold u1
      split <;> omega
    · exact h1
theorem da_rng {T : Nat → Int} {hi wd w r0 c0 : Int} (h : ∀ j, j < 384 → 0 ≤ T j ∧ T j ≤ 1000000) : ∀ n : Nat, ∀ j, j < 384 → 0 ≤ da T hi wd w r0 c0 n j ∧ da T hi wd w r0 c0 n j ≤ 1000000 := by
  intro n
  induction n with
  | zero => exact h
  | succ n ih =>
    simp only [da, dw]
    refine dm_rng (fun j hj => ?_) 6 (Nat.le_refl 6)
    have h1 := ih j hj
    unfold fb
    split <;> omega
