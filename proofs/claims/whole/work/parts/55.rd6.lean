/-! a text, on both sides -/
section JRD6
variable {I R : Nat → Nat → Int} {F : Nat → Int} {R' : Nat → Nat → Int} {fr n : Int}
def RT (I R : Nat → Nat → Int) (K : jS) (K' : jM) (fr n : Int) : Prop := K.1 = K'.1 ∧ K.2.1 2 2 = K'.2.1 12 ∧ keR R K.2.2 ∧ (∀ q f, q ≠ 2 → q ≠ 15 → K.2.1 q f = I q f) ∧ SP K.2.2 ∧ (K.1 = 1 → Rd K.2.1 K.2.2 K'.2.1 K'.2.2 fr n ∧ K.2.1 15 9 = 1 ∧ K.2.1 15 12 = K'.2.1 13 * K'.2.1 14 ∧ K.2.1 15 15 = 0 ∧ K.2.1 15 16 = 0 ∧ K.2.1 15 17 = 0)
theorem ri_rt (h2 : I 2 2 = 0) (h1 : I 2 1 = n) (hc : ∀ p : Nat, (p : Int) < n → R 3 p = R' 29 (Int.toNat (fr + (p : Int)))) (hfr : 0 ≤ fr ∧ 0 ≤ n ∧ fr + n ≤ 240) (hn6 : n ≤ 60) (hcd : ∀ j, j < 60 → -2147483648 ≤ R 3 j ∧ R 3 j < 2147483648) (hT : ∀ j, j < 240 → -2147483648 ≤ R' 29 j ∧ R' 29 j < 2147483648) (hS : SP R) : RT I R (k_X1_readInto I R) (k_X4_readsTown F R' fr n) fr n := by
  have n0 := nxc (R := R) (R' := R') (fr := fr) (n := n) (p := 0) (by omega) hc
  have n1 := nxc (R := R) (R' := R') (fr := fr) (n := n) (p := 1) (by omega) hc
  have n2 := nxc (R := R) (R' := R') (fr := fr) (n := n) (p := 2) (by omega) hc
  have no : ¬ ((0 : Int) = 1) := by decide
  rw [ri_e, rt_e, h1, h2, show (0 : Int) + 1 = 1 from rfl, show (1 : Int) + 1 = 2 from rfl, show (2 : Int) + 1 = 3 from rfl]
  by_cases e0 : cdx 0 n fr (R' 29) = 116
  · rw [if_pos (show nx 0 n (R 3) = 116 by omega), if_pos e0]
    by_cases e1 : 49 ≤ cdx 1 n fr (R' 29) ∧ cdx 1 n fr (R' 29) ≤ 52
    · rw [if_pos (show 49 ≤ nx 1 n (R 3) ∧ nx 1 n (R 3) ≤ 52 by omega), if_pos e1]
      by_cases e2 : 50 ≤ cdx 2 n fr (R' 29) ∧ cdx 2 n fr (R' 29) ≤ 54
      · rw [if_pos (show 50 ≤ nx 2 n (R 3) ∧ nx 2 n (R 3) ≤ 54 by omega), if_pos e2]
        have q1 : nx 1 n (R 3) = cdx 1 n fr (R' 29) := by omega
        have q2 : nx 2 n (R 3) = cdx 2 n fr (R' 29) := by omega
        have l3 : 2 < n := by omega
        rw [q1, q2]
        generalize hH : cdx 1 n fr (R' 29) - 48 = H9
        generalize hW : cdx 2 n fr (R' 29) - 48 = W9
        have bH : 1 ≤ H9 ∧ H9 ≤ 4 := by omega
        have bW : 2 ≤ W9 ∧ W9 ≤ 6 := by omega
        obtain ⟨Hn, rfl⟩ := Int.eq_ofNat_of_zero_le (show 0 ≤ H9 by omega)
        obtain ⟨Wn, rfl⟩ := Int.eq_ofNat_of_zero_le (show 0 ≤ W9 by omega)
        have hB0 : BM (rF F 3 (Hn : Int) (Wn : Int)) R' n fr := ⟨⟨show (0 : Int) ≤ 3 by decide, show (3 : Int) ≤ n by omega⟩, hfr, ⟨show (0 : Int) ≤ 0 by decide, show (0 : Int) ≤ 4 by decide⟩, ⟨show (0 : Int) ≤ 0 by decide, show (0 : Int) ≤ 6 by decide⟩, bW, hT⟩
        have hRd : Rd (msr I 1 2 3 (Hn : Int) (Wn : Int)) R (rF F 3 (Hn : Int) (Wn : Int)) R' fr n := ⟨rfl, h1, hc, rfl, rfl, rfl, rfl, fun w hw => absurd (show (w : Int) < 0 from hw) (by omega), fun w hw => absurd (show (w : Int) < 0 from hw) (by omega), hS⟩
        have hBI : BI (msr I 1 2 3 (Hn : Int) (Wn : Int)) R := ⟨⟨show (0 : Int) ≤ 3 by decide, show (3 : Int) ≤ I 2 1 by omega, show I 2 1 ≤ 60 by omega⟩, hcd, ⟨show (0 : Int) ≤ 0 by decide, show (0 : Int) ≤ 4 by decide⟩, ⟨show (0 : Int) ≤ 0 by decide, show (0 : Int) ≤ 6 by decide⟩, ⟨show (0 : Int) ≤ (Hn : Int) by omega, show (Hn : Int) ≤ 4 by omega⟩, ⟨show (0 : Int) ≤ (Wn : Int) by omega, show (Wn : Int) ≤ 6 by omega⟩⟩
        have hs := text_sim hB0 (show (Hn : Int) ≤ 4 by omega) (W := Wn) rfl hRd Hn (show (Hn : Int) ≤ (Hn : Int) by omega)
        have hk := (tS_ok hBI Hn).2.2
        have hz := spS_ok hB0 (Hn * Wn)
        rw [show Int.toNat ((Hn : Nat) : Int) = Hn from Int.toNat_natCast Hn, show Int.toNat ((Hn : Int) * (Wn : Int)) = Hn * Wn by rw [← Int.natCast_mul, Int.toNat_natCast]]
        unfold rtC rtl
        generalize tS (msr I 1 2 3 (Hn : Int) (Wn : Int)) R Hn = X at hs hk
        generalize spS (rF F 3 (Hn : Int) (Wn : Int)) R' fr n (Hn * Wn) = Z at hs hz
        have z13 : Z.2.1 13 = (Hn : Int) := hz.2.2.1 13 (by decide) (by decide) (by decide)
        have z14 : Z.2.1 14 = (Wn : Int) := hz.2.2.1 14 (by decide) (by decide) (by decide)
        have hfrm : ∀ q f, q ≠ 2 → q ≠ 15 → X.2.1 q f = I q f := fun q f a b => (hk q f (Or.inl b) (Or.inl a)).trans (msr_o q f a b)
        have r2 := hs.2.1.1
        have r1 := hs.2.1.2.1
        have hSX : SP X.2.2 := hs.2.1.2.2.2.2.2.2.2.2.2
        by_cases ez : Z.1 = 0
        · rw [if_pos (hs.1.trans ez), if_pos ez]
          exact ⟨rfl, r2, hs.2.2, hfrm, hSX, fun q => absurd q no⟩
        · rw [if_neg (fun q => ez (hs.1.symm.trans q)), if_neg ez]
          by_cases ep : Z.2.1 12 = n
          · rw [if_pos (show X.2.1 2 2 = X.2.1 2 1 by omega), if_pos ep]
            refine ⟨rfl, r2, hs.2.2, fun q f a b => ?_, hSX, fun _ => ⟨hs.2.1, rfl, ?_, ?_, ?_, ?_⟩⟩
            · show u2 X.2.1 15 9 1 q f = I q f
              rw [show u2 X.2.1 15 9 1 q f = X.2.1 q f by simp only [u2, if_neg b]]
              exact hfrm q f a b
            · show X.2.1 15 12 = Z.2.1 13 * Z.2.1 14
              rw [z13, z14]
              exact hk 15 12 (Or.inr ⟨by decide, by decide⟩) (Or.inl (by decide))
            · exact hk 15 15 (Or.inr ⟨by decide, by decide⟩) (Or.inl (by decide))
            · exact hk 15 16 (Or.inr ⟨by decide, by decide⟩) (Or.inl (by decide))
            · exact hk 15 17 (Or.inr ⟨by decide, by decide⟩) (Or.inl (by decide))
          · rw [if_neg (show ¬ X.2.1 2 2 = X.2.1 2 1 by omega), if_neg ep]
            refine ⟨rfl, r2, hs.2.2, fun q f a b => ?_, hSX, fun q => absurd q no⟩
            show u2 X.2.1 15 9 0 q f = I q f
            rw [show u2 X.2.1 15 9 0 q f = X.2.1 q f by simp only [u2, if_neg b]]
            exact hfrm q f a b
      · rw [if_neg (show ¬ (50 ≤ nx 2 n (R 3) ∧ nx 2 n (R 3) ≤ 54) by omega), if_neg e2]
        exact ⟨rfl, rfl, keR.rf, fun q f a b => by simp only [u2, if_neg a]; exact clr_o q f b, hS, fun q => absurd q no⟩
    · rw [if_neg (show ¬ (49 ≤ nx 1 n (R 3) ∧ nx 1 n (R 3) ≤ 52) by omega), if_neg e1]
      exact ⟨rfl, rfl, keR.rf, fun q f a b => by simp only [u2, if_neg a]; exact clr_o q f b, hS, fun q => absurd q no⟩
  · rw [if_neg (show ¬ nx 0 n (R 3) = 116 by omega), if_neg e0]
    exact ⟨rfl, h2, keR.rf, fun q f a b => clr_o q f b, hS, fun q => absurd q no⟩
end JRD6
