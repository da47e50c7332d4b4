/-! a text that is read -/
/-- the numbers ahead of the rows -/
def rF (F : Nat → Int) (p h w : Int) : Nat → Int := fun q => if q = 12 then p else if q = 13 then h else if q = 14 then w else if q = 15 then 0 else if q = 16 then 0 else F q
def rtl (F0 : Nat → Int) (R : Nat → Nat → Int) (fr n : Int) (N : Nat) : jM := if (spS F0 R fr n N).1 = 0 then (0, (spS F0 R fr n N).2.1, (spS F0 R fr n N).2.2) else if (spS F0 R fr n N).2.1 12 = n then (1, (spS F0 R fr n N).2.1, (spS F0 R fr n N).2.2) else (0, (spS F0 R fr n N).2.1, (spS F0 R fr n N).2.2)
theorem rF_1 {F : Nat → Int} {a b c d e : Int} : u1 (u1 (u1 (u1 (u1 (u1 (u1 (u1 F 12 0) 15 0) 16 0) 12 a) 12 b) 13 c) 12 d) 14 e = rF F d c e := by
  funext q
  simp only [u1, rF]
  by_cases h1 : q = 12
  · subst h1; rfl
  · by_cases h2 : q = 13
    · subst h2; rfl
    · by_cases h3 : q = 14
      · subst h3; rfl
      · by_cases h4 : q = 15
        · subst h4; rfl
        · by_cases h5 : q = 16
          · subst h5; rfl
          · simp only [if_neg h1, if_neg h2, if_neg h3, if_neg h4, if_neg h5]
theorem rF_2 {F : Nat → Int} {a b c e : Int} : u1 (u1 (u1 (u1 (u1 (u1 (u1 F 12 0) 15 0) 16 0) 12 a) 12 b) 13 c) 14 e = rF F b c e := by
  funext q
  simp only [u1, rF]
  by_cases h1 : q = 12
  · subst h1; rfl
  · by_cases h2 : q = 13
    · subst h2; rfl
    · by_cases h3 : q = 14
      · subst h3; rfl
      · by_cases h4 : q = 15
        · subst h4; rfl
        · by_cases h5 : q = 16
          · subst h5; rfl
          · simp only [if_neg h1, if_neg h2, if_neg h3, if_neg h4, if_neg h5]
theorem rF_3 {F : Nat → Int} {a c e : Int} : u1 (u1 (u1 (u1 (u1 (u1 F 12 0) 15 0) 16 0) 12 a) 13 c) 14 e = rF F a c e := by
  funext q
  simp only [u1, rF]
  by_cases h1 : q = 12
  · subst h1; rfl
  · by_cases h2 : q = 13
    · subst h2; rfl
    · by_cases h3 : q = 14
      · subst h3; rfl
      · by_cases h4 : q = 15
        · subst h4; rfl
        · by_cases h5 : q = 16
          · subst h5; rfl
          · simp only [if_neg h1, if_neg h2, if_neg h3, if_neg h4, if_neg h5]
theorem rt_e {F : Nat → Int} {R : Nat → Nat → Int} {fr n : Int} : k_X4_readsTown F R fr n = if cdx 0 n fr (R 29) = 116 then (if 49 ≤ cdx 1 n fr (R 29) ∧ cdx 1 n fr (R 29) ≤ 52 then (if 50 ≤ cdx 2 n fr (R 29) ∧ cdx 2 n fr (R 29) ≤ 54 then rtl (rF F 3 (cdx 1 n fr (R 29) - 48) (cdx 2 n fr (R 29) - 48)) R fr n (Int.toNat ((cdx 1 n fr (R 29) - 48) * (cdx 2 n fr (R 29) - 48))) else (0, rF F 2 (cdx 1 n fr (R 29) - 48) (-9), R)) else (0, rF F 1 (-9) (-9), R)) else (0, rF F 0 (-9) (-9), R) := by
  unfold k_X4_readsTown rtl
  simp only [rF_1, rF_2, rF_3, Int.reduceAdd, Int.add_zero, Int.zero_add]
theorem rt_ok {F : Nat → Int} {R : Nat → Nat → Int} {fr n : Int} (hfr : 0 ≤ fr ∧ 0 ≤ n ∧ fr + n ≤ 240) (hT : ∀ j, j < 240 → -2147483648 ≤ R 29 j ∧ R 29 j < 2147483648) :
    ((k_X4_readsTown F R fr n).1 = 0 ∨ (k_X4_readsTown F R fr n).1 = 1) ∧ (0 ≤ (k_X4_readsTown F R fr n).2.1 12 ∧ (k_X4_readsTown F R fr n).2.1 12 ≤ n) ∧ (0 ≤ (k_X4_readsTown F R fr n).2.1 15 ∧ (k_X4_readsTown F R fr n).2.1 15 ≤ 4) ∧ (0 ≤ (k_X4_readsTown F R fr n).2.1 16 ∧ (k_X4_readsTown F R fr n).2.1 16 ≤ 6) ∧ (∀ q, (q < 12 ∨ 16 < q) → (k_X4_readsTown F R fr n).2.1 q = F q) ∧ (∀ q, (q < 17 ∨ 21 < q) → (k_X4_readsTown F R fr n).2.2 q = R q) ∧ ((k_X4_readsTown F R fr n).1 = 1 → (1 ≤ (k_X4_readsTown F R fr n).2.1 13 ∧ (k_X4_readsTown F R fr n).2.1 13 ≤ 4) ∧ (2 ≤ (k_X4_readsTown F R fr n).2.1 14 ∧ (k_X4_readsTown F R fr n).2.1 14 ≤ 6)) := by
  have keep : ∀ (p h w : Int) (q : Nat), (q < 12 ∨ 16 < q) → rF F p h w q = F q := by
    intro p h w q hq
    simp only [rF, if_neg (show ¬ q = 12 by omega), if_neg (show ¬ q = 13 by omega), if_neg (show ¬ q = 14 by omega), if_neg (show ¬ q = 15 by omega), if_neg (show ¬ q = 16 by omega)]
  have base : ∀ (p h w : Int), 0 ≤ p → p ≤ n → (((0 : Int) = 0 ∨ (0 : Int) = 1) ∧ (0 ≤ rF F p h w 12 ∧ rF F p h w 12 ≤ n) ∧ (0 ≤ rF F p h w 15 ∧ rF F p h w 15 ≤ 4) ∧ (0 ≤ rF F p h w 16 ∧ rF F p h w 16 ≤ 6) ∧ (∀ q, (q < 12 ∨ 16 < q) → rF F p h w q = F q) ∧ (∀ q, (q < 17 ∨ 21 < q) → R q = R q) ∧ ((0 : Int) = 1 → (1 ≤ rF F p h w 13 ∧ rF F p h w 13 ≤ 4) ∧ (2 ≤ rF F p h w 14 ∧ rF F p h w 14 ≤ 6))) := fun p h w h0 h1 => ⟨Or.inl rfl, ⟨h0, h1⟩, ⟨show (0 : Int) ≤ 0 by decide, show (0 : Int) ≤ 4 by decide⟩, ⟨show (0 : Int) ≤ 0 by decide, show (0 : Int) ≤ 6 by decide⟩, keep p h w, fun _ _ => rfl, fun q => absurd q (by decide)⟩
  rw [rt_e]
  split
  · next h1 =>
    have l1 := cdx_lt (p := 0) (n := n) (fr := fr) (T := R 29) (by omega)
    split
    · next h2 =>
      have l2 := cdx_lt (p := 1) (n := n) (fr := fr) (T := R 29) (by omega)
      split
      · next h3 =>
        have l3 := cdx_lt (p := 2) (n := n) (fr := fr) (T := R 29) (by omega)
        have hB0 : BM (rF F 3 (cdx 1 n fr (R 29) - 48) (cdx 2 n fr (R 29) - 48)) R n fr := ⟨⟨by show (0 : Int) ≤ 3; omega, by show 3 ≤ n; omega⟩, hfr, ⟨by show (0 : Int) ≤ 0; omega, by show (0 : Int) ≤ 4; omega⟩, ⟨by show (0 : Int) ≤ 0; omega, by show (0 : Int) ≤ 6; omega⟩, ⟨by show 2 ≤ cdx 2 n fr (R 29) - 48; omega, by show cdx 2 n fr (R 29) - 48 ≤ 6; omega⟩, hT⟩
        have hS := spS_ok hB0 (Int.toNat ((cdx 1 n fr (R 29) - 48) * (cdx 2 n fr (R 29) - 48)))
        generalize hX : spS (rF F 3 (cdx 1 n fr (R 29) - 48) (cdx 2 n fr (R 29) - 48)) R fr n (Int.toNat ((cdx 1 n fr (R 29) - 48) * (cdx 2 n fr (R 29) - 48))) = X at hS
        have e13 : X.2.1 13 = cdx 1 n fr (R 29) - 48 := hS.2.2.1 13 (by decide) (by decide) (by decide)
        have e14 : X.2.1 14 = cdx 2 n fr (R 29) - 48 := hS.2.2.1 14 (by decide) (by decide) (by decide)
        have hk : ∀ q, (q < 12 ∨ 16 < q) → X.2.1 q = F q := fun q hq => (hS.2.2.1 q (by omega) (by omega) (by omega)).trans (keep _ _ _ q hq)
        unfold rtl
        rw [hX]
        split
        · exact ⟨Or.inl rfl, hS.2.1.1, hS.2.1.2.2.1, hS.2.1.2.2.2.1, hk, hS.2.2.2, fun q => absurd q (show ¬ (0 : Int) = 1 by decide)⟩
        · split
          · exact ⟨Or.inr rfl, hS.2.1.1, hS.2.1.2.2.1, hS.2.1.2.2.2.1, hk, hS.2.2.2, fun _ => by simp only [e13, e14]; omega⟩
          · exact ⟨Or.inl rfl, hS.2.1.1, hS.2.1.2.2.1, hS.2.1.2.2.2.1, hk, hS.2.2.2, fun q => absurd q (show ¬ (0 : Int) = 1 by decide)⟩
      · exact base 2 (cdx 1 n fr (R 29) - 48) (-9) (by omega) (by omega)
    · exact base 1 (-9) (-9) (by omega) (by omega)
  · exact base 0 (-9) (-9) (by omega) (by omega)
