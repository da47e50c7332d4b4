/-! sheets -/
section JEQ4
variable {I R : Nat → Nat → Int} {F : Nat → Int} {R' : Nat → Nat → Int}
theorem St.shs (h : St I R F R') {I2 R2 R2' : Nat → Nat → Int} (hI : ∀ q f, q ≠ 25 → q ≠ 26 → I2 q f = I q f) (hR : ∀ q, q < 25 → R2 q = R q) (hR' : ∀ q, q ≠ 27 → q ≠ 28 → q ≠ 29 → R2' q = R' q)
    (h1 : ∀ k, k < 4 → (-1 ≤ I2 25 k ∧ I2 25 k ≤ 2) ∧ (0 ≤ I2 26 k ∧ I2 26 k ≤ 60)) (h2 : ∀ k, k < 4 → ∀ j, j < 60 → -2147483648 ≤ R2 (26 + 2 * k) j ∧ R2 (26 + 2 * k) j < 2147483648)
    (h3 : ∀ k, k < 4 → (-1 ≤ R2' 27 k ∧ R2' 27 k ≤ 60) ∧ (0 ≤ R2' 28 k ∧ R2' 28 k ≤ 2)) (h4 : ∀ j, j < 240 → -2147483648 ≤ R2' 29 j ∧ R2' 29 j < 2147483648) (h5 : ShR I2 R2 R2') : St I2 R2 F R2' := by
  have e5 : I2 5 = I 5 := funext fun f => hI 5 f (by decide) (by decide)
  have e0 : I2 0 = I 0 := funext fun f => hI 0 f (by decide) (by decide)
  have hT : TI I2 R2 := by
    have := h.vi.town
    unfold TI at this ⊢
    rw [e5, hR 6 (by decide), hR 7 (by decide), hR 8 (by decide), hR 9 (by decide), hR 10 (by decide), hR 11 (by decide), hR 12 (by decide), hR 13 (by decide)]
    exact this
  have hS : SP R2 := by
    have := h.vi.spare
    unfold SP at this ⊢
    rw [hR 16 (by decide), hR 17 (by decide), hR 18 (by decide), hR 19 (by decide), hR 20 (by decide), hR 21 (by decide), hR 22 (by decide), hR 23 (by decide)]
    exact this
  have hM : MI F R2' := by
    have := h.mv.town
    unfold MI at this ⊢
    rw [hR' 4 (by decide) (by decide) (by decide), hR' 5 (by decide) (by decide) (by decide), hR' 6 (by decide) (by decide) (by decide), hR' 8 (by decide) (by decide) (by decide), hR' 9 (by decide) (by decide) (by decide), hR' 10 (by decide) (by decide) (by decide), hR' 25 (by decide) (by decide) (by decide), hR' 26 (by decide) (by decide) (by decide)]
    exact this
  refine ⟨⟨hT, ?_, h1, h2, ?_, hS, ?_⟩, ⟨hM, h.mv.2.1, h3, h4⟩, ?_, ?_, ?_, ?_, ?_, ?_, ?_, ?_, ?_, h5⟩
  · rw [e5]; exact h.vi.stands
  · rw [e0]; exact h.vi.fault
  · rw [hR 3 (by decide)]; exact h.vi.code
  · have := h.sr
    unfold SR at this ⊢
    rw [e5, hR 10 (by decide), hR 13 (by decide), hR' 4 (by decide) (by decide) (by decide), hR' 5 (by decide) (by decide) (by decide)]
    exact this
  · have := h.wr
    unfold WR at this ⊢
    rw [e5, hR 6 (by decide), hR 7 (by decide), hR 8 (by decide), hR' 8 (by decide) (by decide) (by decide), hR' 9 (by decide) (by decide) (by decide), hR' 10 (by decide) (by decide) (by decide)]
    exact this
  · have := h.rr
    unfold RR at this ⊢
    rw [e5, hR 11 (by decide), hR 12 (by decide), hR' 25 (by decide) (by decide) (by decide), hR' 26 (by decide) (by decide) (by decide)]
    exact this
  · rw [e5]; exact h.stands
  · rw [e5]; exact h.cells
  · rw [e5, hR' 6 (by decide) (by decide) (by decide)]; exact h.vs
  · rw [hR 9 (by decide), hR' 4 (by decide) (by decide) (by decide)]; exact h.wc
  · rw [e0]; exact h.fault
  · rw [e0]; exact h.trace
theorem ft_ftm (h : St I R F R') {k : Nat} (hk : k < 4) {al i n : Int} (ha : 0 ≤ al) : ft (I 25 k) (I 26 k) al i n = ftm (R' 27 k) (R' 28 k) al i n := by
  have hs := (h.sh k hk).1
  unfold ft ftm
  rcases hs with ⟨a, b⟩ | ⟨a, b, c, d⟩
  · rw [if_pos a, if_pos (by omega)]
  · rw [if_neg (show ¬ I 25 k = -1 by omega), if_neg (show ¬ R' 27 k < 0 by omega), b, c]
    by_cases e : R' 28 k = al
    · rw [if_pos e, if_pos e]
      by_cases e2 : n < 0
      · rw [if_pos e2, if_pos e2]
      · rw [if_neg e2, if_neg e2]
        by_cases e3 : 0 ≤ i ∧ 0 ≤ n ∧ i + n ≤ R' 27 k
        · rw [if_pos e3, if_pos (by omega)]
        · rw [if_neg e3, if_neg (by omega)]
    · rw [if_neg e, if_neg e]
theorem ft_nc (h : St I R F R') {k : Nat} (hk : k < 4) {i : Int} : ft (I 25 k) (I 26 k) (I 25 k) i 1 = nc (R' 27 k) i := by
  have hs := (h.sh k hk).1
  unfold ft nc
  rcases hs with ⟨a, b⟩ | ⟨a, b, c, d⟩
  · rw [if_pos a, if_pos (by omega)]
  · rw [if_neg (show ¬ I 25 k = -1 by omega), if_neg (show ¬ R' 27 k < 0 by omega), if_pos rfl, if_neg (by decide), c]
    by_cases e3 : 0 ≤ i ∧ i ≤ R' 27 k - 1
    · rw [if_pos e3, if_pos (by omega)]
    · rw [if_neg e3, if_neg (by omega)]
theorem u2_b {I : Nat → Nat → Int} {k j : Nat} {a b : Int} : u2 (u2 I 25 k a) 26 k b 25 j = u1 (I 25) k a j := by simp only [u2, u1]; rfl
theorem u2_c {I : Nat → Nat → Int} {k j : Nat} {a b : Int} : u2 (u2 I 25 k a) 26 k b 26 j = u1 (I 26) k b j := by simp only [u2, u1]; rfl
theorem u2_k {I : Nat → Nat → Int} {k : Nat} {a b : Int} : ∀ q f, q ≠ 25 → q ≠ 26 → u2 (u2 I 25 k a) 26 k b q f = I q f := by
  intro q f h1 h2
  simp only [u2, if_neg h1, if_neg h2]
theorem eq_lose (h : St I R F R') (k : Int) : Same (k_X3_lose I R k) (k_X4_lose F R' k) := by
  unfold k_X3_lose k_X4_lose
  by_cases e : 0 ≤ k ∧ k < 4
  · rw [if_pos e, if_neg (show ¬ ¬ (0 ≤ k ∧ k ≤ 3) by omega)]
    have hk : Int.toNat k < 4 := by omega
    have hs := (h.sh (Int.toNat k) hk).1
    generalize Int.toNat k = m at hk hs ⊢
    by_cases e2 : I 25 m = -1
    · rw [if_neg (fun q => q e2), if_pos (by omega)]
      refine ⟨rfl, ?_⟩
      have e3 : uR R' 27 (u1 (R' 27) m (-1)) = R' := by
        rw [show u1 (R' 27) m (-1) = R' 27 by rw [show (-1 : Int) = R' 27 m by omega]; exact u1_id, uR_id]
      show St I R F (uR R' 27 (u1 (R' 27) m (-1)))
      rw [e3]
      exact h
    · rw [if_pos e2, if_neg (by omega)]
      refine ⟨rfl, ?_⟩
      dsimp only
      refine h.shs u2_k (fun q hq => uR_n (by omega)) (fun q a b c => uR_n a) ?_ ?_ ?_ h.mv.2.2.2 ?_
      · intro j hj
        rw [u2_b, u2_c]
        have h1 := h.vi.lane hj
        have h2 := h.vi.size hj
        unfold u1
        split <;> omega
      · intro j hj i hi
        by_cases ej : j = m
        · subst ej; rw [uR_s]; unfold fl; rw [if_pos hi]; omega
        · rw [uR_n (by omega)]; exact h.vi.row hj hi
      · intro j hj
        refine ⟨?_, h.mv.lane hj⟩
        show -1 ≤ u1 (R' 27) m (-1) j ∧ u1 (R' 27) m (-1) j ≤ 60
        have h1 := h.mv.size hj
        unfold u1
        split <;> omega
      · intro j hj
        show ((u2 (u2 I 25 m (-1)) 26 m 0 25 j = -1 ∧ u1 (R' 27) m (-1) j = -1) ∨ (0 ≤ u2 (u2 I 25 m (-1)) 26 m 0 25 j ∧ u2 (u2 I 25 m (-1)) 26 m 0 25 j = R' 28 j ∧ u2 (u2 I 25 m (-1)) 26 m 0 26 j = u1 (R' 27) m (-1) j ∧ 0 ≤ u1 (R' 27) m (-1) j)) ∧ ∀ i : Nat, (i : Int) < u1 (R' 27) m (-1) j → uR R (26 + 2 * m) (fl (R (26 + 2 * m)) 0 60) (26 + 2 * j) i = R' 29 (60 * j + i)
        rw [u2_b, u2_c]
        by_cases ej : j = m
        · subst ej
          rw [u1_s, u1_s, u1_s]
          exact ⟨Or.inl ⟨rfl, rfl⟩, fun i hi => by omega⟩
        · rw [u1_n ej, u1_n ej, u1_n ej, uR_n (by omega)]
          exact h.sh j hj
  · rw [if_neg e, if_pos (show ¬ (0 ≤ k ∧ k ≤ 3) by omega)]; exact ⟨rfl, h⟩
theorem eq_sheet (h : St I R F R') (k lane n : Int) : Same (k_X3_sheet I R k lane n) (k_X4_sheet F R' k lane n) := by
  unfold k_X3_sheet k_X4_sheet
  by_cases e : 0 ≤ k ∧ k < 4
  · rw [if_pos e, if_neg (show ¬ ¬ (0 ≤ k ∧ k ≤ 3) by omega)]
    by_cases e2 : 0 ≤ lane ∧ lane ≤ 2
    · rw [if_pos e2, if_pos e2]
      by_cases e3 : 60 < n
      · rw [if_pos e3, if_pos e3]; exact ⟨rfl, h.flt (by decide)⟩
      · rw [if_neg e3, if_neg e3]
        by_cases e4 : n < 0
        · rw [if_pos e4, if_pos e4, u2_u]; exact ⟨rfl, h.flt (by decide)⟩
        · rw [if_neg e4, if_neg e4]
          refine ⟨rfl, ?_⟩
          dsimp only
          have hf := h.flt (x := 0) (by decide)
          have hk : Int.toNat k < 4 := by omega
          rw [show Int.toNat (60 * k) = 60 * Int.toNat k by omega]
          generalize Int.toNat k = m at hk ⊢
          generalize u1 F 0 0 = F2 at hf ⊢
          generalize u2 I 0 6 0 = I2 at hf ⊢
          refine hf.shs u2_k (fun q hq => uR_n (by omega)) (fun q a b c => by rw [uR_n c, uR_n b, uR_n a]) ?_ ?_ ?_ ?_ ?_
          · intro j hj
            rw [u2_b, u2_c]
            have h1 := hf.vi.lane hj
            have h2 := hf.vi.size hj
            unfold u1
            split <;> omega
          · intro j hj i hi
            by_cases ej : j = m
            · subst ej; rw [uR_s]; unfold fl; rw [if_pos hi]; omega
            · rw [uR_n (by omega)]; exact hf.vi.row hj hi
          · intro j hj
            show (-1 ≤ u1 (R' 27) m n j ∧ u1 (R' 27) m n j ≤ 60) ∧ (0 ≤ u1 (R' 28) m lane j ∧ u1 (R' 28) m lane j ≤ 2)
            have h1 := hf.mv.size hj
            have h2 := hf.mv.lane hj
            unfold u1
            split <;> omega
          · intro j hj
            show -2147483648 ≤ zb (R' 29) (60 * m) (Int.toNat n) j ∧ zb (R' 29) (60 * m) (Int.toNat n) j < 2147483648
            have h1 := hf.mv.row hj
            unfold zb
            split <;> omega
          · intro j hj
            show ((u2 (u2 I2 25 m lane) 26 m n 25 j = -1 ∧ u1 (R' 27) m n j = -1) ∨ (0 ≤ u2 (u2 I2 25 m lane) 26 m n 25 j ∧ u2 (u2 I2 25 m lane) 26 m n 25 j = u1 (R' 28) m lane j ∧ u2 (u2 I2 25 m lane) 26 m n 26 j = u1 (R' 27) m n j ∧ 0 ≤ u1 (R' 27) m n j)) ∧ ∀ i : Nat, (i : Int) < u1 (R' 27) m n j → uR R (26 + 2 * m) (fl (R (26 + 2 * m)) 0 60) (26 + 2 * j) i = zb (R' 29) (60 * m) (Int.toNat n) (60 * j + i)
            rw [u2_b, u2_c]
            by_cases ej : j = m
            · subst ej
              rw [u1_s, u1_s, u1_s, u1_s]
              refine ⟨Or.inr ⟨e2.1, rfl, rfl, by omega⟩, fun i hi => ?_⟩
              rw [uR_s]
              unfold fl zb
              rw [if_pos (by omega), if_pos (by omega)]
            · rw [u1_n ej, u1_n ej, u1_n ej, u1_n ej, uR_n (by omega)]
              refine ⟨(hf.sh j hj).1, fun i hi => ?_⟩
              have h1 := hf.mv.size hj
              unfold zb
              rw [if_neg (by omega)]
              exact (hf.sh j hj).2 i hi
    · rw [if_neg e2, if_neg e2]; exact ⟨rfl, h.flt (by decide)⟩
  · rw [if_neg e, if_pos (show ¬ (0 ≤ k ∧ k ≤ 3) by omega)]; exact ⟨rfl, h.flt (by decide)⟩
end JEQ4
