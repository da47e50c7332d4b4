/-! rows of a text -/
section JRD3
variable {I R : Nat → Nat → Int} {F F0 : Nat → Int} {R' R0 : Nat → Nat → Int} {fr n : Int}
theorem row_sim (hB0 : BM F0 R0 n fr) (hh : F0 13 ≤ 4) {W r : Nat} (hW : F0 14 = (W : Int)) (hr : (r : Int) < F0 13) (hY : spS F0 R0 fr n (r * W) = (1, F, R')) (h : Rd I R F R' fr n) :
    (k_X1_readRow I R r).1 = (spS F0 R0 fr n ((r + 1) * W)).1 ∧ Rd (k_X1_readRow I R r).2.1 (k_X1_readRow I R r).2.2 (spS F0 R0 fr n ((r + 1) * W)).2.1 (spS F0 R0 fr n ((r + 1) * W)).2.2 fr n ∧ keR R (k_X1_readRow I R r).2.2 := by
  have hw0 := hB0.2.2.2.2.1
  have hok := spS_ok hB0 (r * W)
  rw [hY] at hok
  have hM : BM F R' n fr := hok.2.1
  have e13 : F 13 = F0 13 := hok.2.2.1 13 (by decide) (by decide) (by decide)
  have e14 : F 14 = F0 14 := hok.2.2.1 14 (by decide) (by decide) (by decide)
  have a2 := h.1
  have a1 := h.2.1
  have hp := hM.1
  have hn := nxc (R := R) (R' := R') (fr := fr) (n := n) (p := F 12) (by omega) h.2.2.1
  have hN : nx (I 2 2) (I 2 1) (R 3) = nx (F 12) n (R 3) := by rw [a1, a2]
  have hmod : ((r * W : Nat) : Int) % F 14 = 0 := by rw [e14, hW, Int.natCast_mul]; exact Int.mul_emod_left _ _
  have hs1 := spS_s hY
  rw [spot_e, if_pos hmod] at hs1
  unfold k_X1_readRow
  by_cases e : cdx (F 12) n fr (R' 29) = 59
  · rw [if_pos (show nx (I 2 2) (I 2 1) (R 3) = 59 by omega)]
    rw [if_pos e] at hs1
    have hlt : F 12 < n := by omega
    have hI : I 15 11 = (W : Int) := by rw [h.2.2.2.2.2.2.1, e14, hW]
    rw [show Int.toNat (I 15 11) = W by omega]
    have key : ∀ c : Nat, c + 1 ≤ W → (rowS (u2 I 2 2 (I 2 2 + 1)) R r (c + 1)).1 = (spS F0 R0 fr n (r * W + (c + 1))).1 ∧ Rd (rowS (u2 I 2 2 (I 2 2 + 1)) R r (c + 1)).2.1 (rowS (u2 I 2 2 (I 2 2 + 1)) R r (c + 1)).2.2 (spS F0 R0 fr n (r * W + (c + 1))).2.1 (spS F0 R0 fr n (r * W + (c + 1))).2.2 fr n ∧ keR R (rowS (u2 I 2 2 (I 2 2 + 1)) R r (c + 1)).2.2 := by
      intro c
      induction c with
      | zero =>
        intro _
        have h0 : rowS (u2 I 2 2 (I 2 2 + 1)) R r 1 = ce (u2 I 2 2 (I 2 2 + 1)) R r 0 := rowS_s (c := 0) rfl
        show (rowS (u2 I 2 2 (I 2 2 + 1)) R r 1).1 = (spS F0 R0 fr n (r * W + 1)).1 ∧ Rd (rowS (u2 I 2 2 (I 2 2 + 1)) R r 1).2.1 (rowS (u2 I 2 2 (I 2 2 + 1)) R r 1).2.2 (spS F0 R0 fr n (r * W + 1)).2.1 (spS F0 R0 fr n (r * W + 1)).2.2 fr n ∧ keR R (rowS (u2 I 2 2 (I 2 2 + 1)) R r 1).2.2
        rw [h0, hs1, show ((r * W : Nat) : Int) = (r : Int) * (u1 F 12 (F 12 + 1)) 14 + 0 by show ((r * W : Nat) : Int) = (r : Int) * F 14 + 0; rw [e14, hW, Int.natCast_mul]; omega]
        exact ce_sp1 (h.pl (by omega)) (hM.pl hlt) (show F 13 ≤ 4 by omega) (show 0 ≤ (r : Int) ∧ (r : Int) < F 13 by omega) (show 0 ≤ (0 : Int) ∧ 0 < F 14 by omega)
      | succ c ih =>
        intro hc
        have i1 := ih (by omega)
        have hokc := spS_ok hB0 (r * W + (c + 1))
        generalize hX : rowS (u2 I 2 2 (I 2 2 + 1)) R r (c + 1) = X at i1
        generalize hZ : spS F0 R0 fr n (r * W + (c + 1)) = Z at i1 hokc
        have g13 : Z.2.1 13 = F0 13 := hokc.2.2.1 13 (by decide) (by decide) (by decide)
        have g14 : Z.2.1 14 = F0 14 := hokc.2.2.1 14 (by decide) (by decide) (by decide)
        by_cases ez : Z.1 = 0
        · have hx1 : rowS (u2 I 2 2 (I 2 2 + 1)) R r (c + 1 + 1) = X := by rw [← hX]; exact rowS_0 (by rw [hX, i1.1, ez]) _ (by omega)
          have hz1 : spS F0 R0 fr n (r * W + (c + 1 + 1)) = Z := by rw [← hZ]; exact spS_0 (by rw [hZ, ez]) _ (by omega)
          rw [hx1, hz1]
          exact i1
        · have ez1 := hokc.1.resolve_left ez
          have hx1 : rowS (u2 I 2 2 (I 2 2 + 1)) R r (c + 1 + 1) = ce X.2.1 X.2.2 r ((c + 1 : Nat) : Int) := rowS_s (I1 := X.2.1) (R1 := X.2.2) (by rw [hX, ← (i1.1.trans ez1)])
          have hz1 : spS F0 R0 fr n (r * W + (c + 1 + 1)) = k_X4_readsSpot Z.2.1 Z.2.2 fr n ((r * W + (c + 1) : Nat) : Int) := spS_s (c := r * W + (c + 1)) (F1 := Z.2.1) (R1 := Z.2.2) (by rw [hZ, ← ez1])
          have hidx : ((r * W + (c + 1) : Nat) : Int) = (r : Int) * Z.2.1 14 + ((c + 1 : Nat) : Int) := by rw [g14, hW, Int.natCast_add, Int.natCast_mul]
          have hm2 : ¬ ((r * W + (c + 1) : Nat) : Int) % Z.2.1 14 = 0 := by
            rw [hidx, g14, hW, Int.mul_add_emod_self_right]
            have := Int.emod_eq_of_lt (a := ((c + 1 : Nat) : Int)) (b := (W : Int)) (by omega) (by omega)
            omega
          rw [hx1, hz1, spot_e, if_neg hm2, hidx]
          have := ce_sp1 i1.2.1 hokc.2.1 (show Z.2.1 13 ≤ 4 by omega) (show 0 ≤ (r : Int) ∧ (r : Int) < Z.2.1 13 by omega) (show 0 ≤ ((c + 1 : Nat) : Int) ∧ ((c + 1 : Nat) : Int) < Z.2.1 14 by rw [g14, hW]; omega)
          exact ⟨this.1, this.2.1, i1.2.2.tr this.2.2⟩
    have hk := key (W - 1) (by omega)
    rw [show W - 1 + 1 = W by omega] at hk
    rw [Nat.add_mul, Nat.one_mul]
    exact hk
  · rw [if_neg (show ¬ nx (I 2 2) (I 2 1) (R 3) = 59 by omega)]
    rw [if_neg e] at hs1
    have hz1 : spS F0 R0 fr n ((r + 1) * W) = (0, F, R') := by
      rw [← hs1]
      exact spS_0 (by rw [hs1]) _ (by rw [Nat.add_mul]; omega)
    rw [hz1]
    exact ⟨rfl, h, keR.rf⟩
end JRD3
