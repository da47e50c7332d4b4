/-! a text into the spare town -/
def clr (I : Nat → Nat → Int) : Nat → Nat → Int := u2 (u2 (u2 (u2 (u2 (u2 (u2 (u2 (u2 I 15 9 0) 15 13 0) 15 14 0) 15 15 0) 15 16 0) 15 17 0) 15 10 0) 15 11 0) 15 12 (0 * 0)
def msr (I : Nat → Nat → Int) (a b c h w : Int) : Nat → Nat → Int := u2 (u2 (u2 (u2 (u2 (u2 (clr I) 2 2 a) 2 2 b) 2 2 c) 15 10 h) 15 11 w) 15 12 (h * w)
def rtC (J R : Nat → Nat → Int) (N : Nat) : jS := if (tS J R N).1 = 0 then (0, (tS J R N).2.1, (tS J R N).2.2) else ((if (tS J R N).2.1 2 2 = (tS J R N).2.1 2 1 then 1 else 0), u2 (tS J R N).2.1 15 9 (if (tS J R N).2.1 2 2 = (tS J R N).2.1 2 1 then 1 else 0), (tS J R N).2.2)
theorem ri_e {I R : Nat → Nat → Int} : k_X1_readInto I R = if nx (I 2 2) (I 2 1) (R 3) = 116 then (if 49 ≤ nx (I 2 2 + 1) (I 2 1) (R 3) ∧ nx (I 2 2 + 1) (I 2 1) (R 3) ≤ 52 then (if 50 ≤ nx (I 2 2 + 1 + 1) (I 2 1) (R 3) ∧ nx (I 2 2 + 1 + 1) (I 2 1) (R 3) ≤ 54 then rtC (msr I (I 2 2 + 1) (I 2 2 + 1 + 1) (I 2 2 + 1 + 1 + 1) (nx (I 2 2 + 1) (I 2 1) (R 3) - 48) (nx (I 2 2 + 1 + 1) (I 2 1) (R 3) - 48)) R (Int.toNat (nx (I 2 2 + 1) (I 2 1) (R 3) - 48)) else (0, u2 (u2 (clr I) 2 2 (I 2 2 + 1)) 2 2 (I 2 2 + 1 + 1), R)) else (0, u2 (clr I) 2 2 (I 2 2 + 1), R)) else (0, clr I, R) := rfl
theorem clr_o {I : Nat → Nat → Int} : ∀ q f, q ≠ 15 → clr I q f = I q f := by
  intro q f h
  simp only [clr, u2, if_neg h]
theorem msr_o {I : Nat → Nat → Int} {a b c h w : Int} : ∀ q f, q ≠ 2 → q ≠ 15 → msr I a b c h w q f = I q f := by
  intro q f h1 h2
  simp only [msr, u2, if_neg h1, if_neg h2]
  exact clr_o q f h2
