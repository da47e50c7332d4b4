/-! cells of sheets -/
section JEQ5
variable {I R : Nat → Nat → Int} {F : Nat → Int} {R' : Nat → Nat → Int}
/-- a row of cells is put into a sheet, on both sides -/
theorem St.cells2 (h : St I R F R') {m : Nat} (hm : m < 4) {f g : Nat → Int} (hf : ∀ j, j < 60 → -2147483648 ≤ f j ∧ f j < 2147483648) (hg : ∀ j, j < 240 → -2147483648 ≤ g j ∧ g j < 2147483648) (h1 : ∀ i : Nat, (i : Int) < R' 27 m → f i = g (60 * m + i)) (h2 : ∀ k i : Nat, k < 4 → k ≠ m → i < 60 → g (60 * k + i) = R' 29 (60 * k + i)) : St I (uR R (26 + 2 * m) f) F (uR R' 29 g) := by
  refine h.shs (fun _ _ _ _ => rfl) (fun q hq => uR_n (by omega)) (fun q a b c => uR_n c) (fun k hk => ⟨h.vi.lane hk, h.vi.size hk⟩) ?_ (fun k hk => ⟨h.mv.size hk, h.mv.lane hk⟩) hg ?_
  · intro j hj i hi
    by_cases ej : j = m
    · subst ej; rw [uR_s]; exact hf i hi
    · rw [uR_n (by omega)]; exact h.vi.row hj hi
  · intro j hj
    refine ⟨(h.sh j hj).1, ?_⟩
    show ∀ i : Nat, (i : Int) < R' 27 j → uR R (26 + 2 * m) f (26 + 2 * j) i = g (60 * j + i)
    intro i hi
    by_cases ej : j = m
    · subst ej; rw [uR_s]; exact h1 i hi
    · have h3 := h.mv.size hj
      rw [uR_n (by omega), h2 j i hj ej (by omega)]
      exact (h.sh j hj).2 i hi
theorem cut_bd {lane v : Int} (hv : -2147483648 ≤ v ∧ v < 2147483648) : -2147483648 ≤ cut lane v ∧ cut lane v < 2147483648 := by
  unfold cut bz sz
  split
  · exact iI_rng _
  · split
    · exact iI_rng _
    · exact hv
theorem eq_put (h : St I R F R') (k i v : Int) (hv : -2147483648 ≤ v ∧ v < 2147483648) : Same (k_X3_put I R k i v) (k_X4_put F R' k i v) := by
  unfold k_X3_put k_X4_put
  by_cases e : 0 ≤ k ∧ k < 4
  · rw [if_pos e, if_neg (show ¬ ¬ (0 ≤ k ∧ k ≤ 3) by omega)]
    have hk : Int.toNat k < 4 := by omega
    rw [ft_nc h hk]
    have hb := nc_bd (R' 27 (Int.toNat k)) i
    by_cases e2 : nc (R' 27 (Int.toNat k)) i = 0
    · rw [if_pos e2, if_neg (show ¬ 0 < nc (R' 27 (Int.toNat k)) i by omega)]
      have hi := nc_0 (show nc (R' 27 (Int.toNat k)) i ≤ 0 by omega)
      have hs := (h.sh (Int.toNat k) hk).1
      have hz := h.mv.size hk
      have hl := h.mv.lane hk
      have hlane : I 25 (Int.toNat k) = R' 28 (Int.toNat k) := by omega
      have hf := h.flt (x := 0) (by decide)
      have hg : ∀ x : Int, (-2147483648 ≤ x ∧ x < 2147483648) → St (u2 I 0 6 0) (uR R (26 + 2 * Int.toNat k) (u1 (R (26 + 2 * Int.toNat k)) (Int.toNat i) x)) (u1 F 0 0) (uR R' 29 (u1 (R' 29) (Int.toNat (60 * k + i)) x)) := by
        intro x hx
        rw [show Int.toNat (60 * k + i) = 60 * Int.toNat k + Int.toNat i by omega]
        refine hf.cells2 hk (u1_rnl (fun j hj => h.vi.row hk hj) hx) (u1_rnl (fun j hj => h.mv.row hj) hx) ?_ ?_
        · intro j hj
          by_cases ej : j = Int.toNat i
          · rw [ej, u1_s, u1_s]
          · rw [u1_n ej, u1_n (by omega)]
            exact (h.sh (Int.toNat k) hk).2 j hj
        · intro q j hq hne hj
          rw [u1_n (by omega)]
      rw [hlane]
      unfold cut
      by_cases e3 : R' 28 (Int.toNat k) = 0
      · rw [if_pos e3, if_pos e3]
        exact ⟨rfl, hg _ (iI_rng _)⟩
      · rw [if_neg e3, if_neg e3]
        by_cases e4 : R' 28 (Int.toNat k) = 1
        · rw [if_pos e4, if_pos e4]
          exact ⟨rfl, hg _ (iI_rng _)⟩
        · rw [if_neg e4, if_neg e4]
          exact ⟨rfl, hg _ hv⟩
    · rw [if_neg e2, if_pos (show 0 < nc (R' 27 (Int.toNat k)) i by omega), u2_u]
      exact ⟨rfl, h.flt (by omega)⟩
  · rw [if_neg e, if_pos (show ¬ (0 ≤ k ∧ k ≤ 3) by omega)]; exact ⟨rfl, h.flt (by decide)⟩
theorem ft_cell (h : St I R F R') {k : Nat} (hk : k < 4) {al i : Int} (ha : 0 ≤ al) : ft (I 25 k) (I 26 k) al i 1 = if R' 27 k < 0 then 1 else if R' 28 k = al then nc (R' 27 k) i else 2 := by
  have hs := (h.sh k hk).1
  unfold ft nc
  rcases hs with ⟨a, b⟩ | ⟨a, b, c, d⟩
  · rw [if_pos a, if_pos (by omega)]
  · rw [if_neg (show ¬ I 25 k = -1 by omega), if_neg (show ¬ R' 27 k < 0 by omega), b, c, if_neg (show ¬ (1 : Int) < 0 by decide)]
    by_cases e : R' 28 k = al
    · rw [if_pos e, if_pos e]
      by_cases e3 : 0 ≤ i ∧ i ≤ R' 27 k - 1
      · rw [if_pos (show 0 ≤ i ∧ i ≤ R' 27 k ∧ 0 ≤ (1 : Int) ∧ 1 ≤ R' 27 k - i by omega), if_neg (show ¬ R' 27 k < 0 by omega), if_pos e3]
      · rw [if_neg (show ¬ (0 ≤ i ∧ i ≤ R' 27 k ∧ 0 ≤ (1 : Int) ∧ 1 ≤ R' 27 k - i) by omega), if_neg (show ¬ R' 27 k < 0 by omega), if_neg e3]
    · rw [if_neg e, if_neg e]
theorem eq_cell (h : St I R F R') (k i lane : Int) : Same (k_X3_cell I R k i lane) (k_X4_cell F R' k i lane) := by
  unfold k_X3_cell k_X4_cell
  by_cases e : 0 ≤ k ∧ k < 4
  · rw [if_pos e, if_neg (show ¬ ¬ (0 ≤ k ∧ k ≤ 3) by omega)]
    have hk : Int.toNat k < 4 := by omega
    by_cases e2 : 0 ≤ lane ∧ lane ≤ 2
    · rw [if_pos e2, if_pos e2, ft_cell h hk e2.1]
      have hb := nc_bd (R' 27 (Int.toNat k)) i
      by_cases e3 : R' 27 (Int.toNat k) < 0
      · have hn : nc (R' 27 (Int.toNat k)) i = 1 := if_pos e3
        rw [if_pos e3, if_pos e3, hn, if_neg (by decide), if_pos (by decide), u2_u, u1_u]
        exact ⟨rfl, h.flt (by decide)⟩
      · rw [if_neg e3, if_neg e3]
        by_cases e4 : R' 28 (Int.toNat k) = lane
        · rw [if_pos e4, if_pos e4]
          by_cases e5 : nc (R' 27 (Int.toNat k)) i = 0
          · have hi := nc_0 (show nc (R' 27 (Int.toNat k)) i ≤ 0 by omega)
            have hr := (h.sh (Int.toNat k) hk).2 (Int.toNat i) (by omega)
            rw [if_pos e5, if_neg (show ¬ 0 < nc (R' 27 (Int.toNat k)) i by omega), u2_u, e5, show Int.toNat (60 * k + i) = 60 * Int.toNat k + Int.toNat i by omega, ← hr]
            exact ⟨rfl, h.flt (by decide)⟩
          · rw [if_neg e5, if_pos (show 0 < nc (R' 27 (Int.toNat k)) i by omega), u2_u, u1_u]
            exact ⟨rfl, h.flt (by omega)⟩
        · rw [if_neg e4, if_neg e4, if_neg (by decide), u2_u, u1_u]
          exact ⟨rfl, h.flt (by decide)⟩
    · rw [if_neg e2, if_neg e2]; exact ⟨rfl, h.flt (by decide)⟩
  · rw [if_neg e, if_pos (show ¬ (0 ≤ k ∧ k ≤ 3) by omega)]; exact ⟨rfl, h.flt (by decide)⟩
theorem eq_copy (h : St I R F R') (k i other j n : Int) : Same (k_X3_copy I R k i other j n) (k_X4_copy F R' k i other j n) := by
  unfold k_X3_copy k_X4_copy
  by_cases e : 0 ≤ k ∧ k < 4
  · rw [if_pos e, if_neg (show ¬ ¬ (0 ≤ k ∧ k ≤ 3) by omega)]
    by_cases e2 : 0 ≤ other ∧ other < 4
    · rw [if_pos e2, if_neg (show ¬ ¬ (0 ≤ other ∧ other ≤ 3) by omega)]
      have hk : Int.toNat k < 4 := by omega
      have ho : Int.toNat other < 4 := by omega
      have hs := (h.sh (Int.toNat k) hk).1
      have hs2 := (h.sh (Int.toNat other) ho).1
      by_cases e3 : I 25 (Int.toNat k) = -1
      · rw [if_neg (fun q => q e3), if_pos (show R' 27 (Int.toNat k) < 0 by omega), u2_u]
        exact ⟨rfl, h.flt (by decide)⟩
      · rw [if_pos e3, if_neg (show ¬ R' 27 (Int.toNat k) < 0 by omega)]
        by_cases e4 : I 25 (Int.toNat other) = -1
        · rw [if_neg (fun q => q e4), if_pos (show R' 27 (Int.toNat other) < 0 by omega), u2_u]
          exact ⟨rfl, h.flt (by decide)⟩
        · rw [if_pos e4, if_neg (show ¬ R' 27 (Int.toNat other) < 0 by omega)]
          by_cases e5 : R' 28 (Int.toNat k) = R' 28 (Int.toNat other)
          · rw [if_pos (show I 25 (Int.toNat k) = I 25 (Int.toNat other) by omega), if_pos e5]
            by_cases e6 : 0 ≤ i ∧ 0 ≤ n ∧ i + n ≤ R' 27 (Int.toNat k)
            · rw [if_pos (show 0 ≤ i ∧ i ≤ I 26 (Int.toNat k) ∧ 0 ≤ n ∧ n ≤ I 26 (Int.toNat k) - i by omega), if_neg (show ¬ ¬ (0 ≤ i ∧ 0 ≤ n ∧ i + n ≤ R' 27 (Int.toNat k)) from fun q => q e6)]
              by_cases e7 : 0 ≤ j ∧ 0 ≤ n ∧ j + n ≤ R' 27 (Int.toNat other)
              · rw [if_pos (show 0 ≤ j ∧ j ≤ I 26 (Int.toNat other) ∧ 0 ≤ n ∧ n ≤ I 26 (Int.toNat other) - j by omega), if_neg (show ¬ ¬ (0 ≤ j ∧ 0 ≤ n ∧ j + n ≤ R' 27 (Int.toNat other)) from fun q => q e7)]
                refine ⟨rfl, ?_⟩
                have hf := h.flt (x := 0) (by decide)
                have hz := h.mv.size hk
                have hz2 := h.mv.size ho
                have hrow := (h.sh (Int.toNat k) hk).2
                rw [show Int.toNat (60 * k + i) = 60 * Int.toNat k + Int.toNat i by omega, show Int.toNat (60 * other + j) = 60 * Int.toNat other + Int.toNat j by omega]
                refine hf.cells2 ho ?_ ?_ ?_ ?_
                · intro q hq
                  unfold cpz
                  split
                  · exact h.vi.row hk (by omega)
                  · exact h.vi.row ho hq
                · intro q hq
                  unfold cpz
                  split
                  · exact h.mv.row (by omega)
                  · exact h.mv.row hq
                · intro q hq
                  have hq2 : (q : Int) < R' 27 (Int.toNat other) := hq
                  unfold cpz
                  by_cases e8 : Int.toNat j ≤ q ∧ q < Int.toNat j + Int.toNat n
                  · rw [if_pos e8, if_pos (by omega), hrow _ (by omega)]
                    congr 1
                    omega
                  · rw [if_neg e8, if_neg (by omega)]
                    exact (h.sh (Int.toNat other) ho).2 q hq2
                · intro q x hq hne hx
                  unfold cpz
                  rw [if_neg (by omega)]
              · rw [if_neg (show ¬ (0 ≤ j ∧ j ≤ I 26 (Int.toNat other) ∧ 0 ≤ n ∧ n ≤ I 26 (Int.toNat other) - j) by omega), if_pos e7, u2_u]
                exact ⟨rfl, h.flt (by decide)⟩
            · rw [if_neg (show ¬ (0 ≤ i ∧ i ≤ I 26 (Int.toNat k) ∧ 0 ≤ n ∧ n ≤ I 26 (Int.toNat k) - i) by omega), if_pos e6, u2_u]
              exact ⟨rfl, h.flt (by decide)⟩
          · rw [if_neg (show ¬ I 25 (Int.toNat k) = I 25 (Int.toNat other) by omega), if_neg e5, u2_u]
            exact ⟨rfl, h.flt (by decide)⟩
    · rw [if_neg e2, if_pos (show ¬ (0 ≤ other ∧ other ≤ 3) by omega)]; exact ⟨rfl, h.flt (by decide)⟩
  · rw [if_neg e, if_pos (show ¬ (0 ≤ k ∧ k ≤ 3) by omega)]
    by_cases e2 : 0 ≤ other ∧ other < 4
    · rw [if_pos e2]; exact ⟨rfl, h.flt (by decide)⟩
    · rw [if_neg e2]; exact ⟨rfl, h.flt (by decide)⟩
end JEQ5
