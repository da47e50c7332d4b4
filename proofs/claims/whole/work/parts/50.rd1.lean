/-! a text read by the class and by the model -/
def Rd (I R : Nat → Nat → Int) (F : Nat → Int) (R' : Nat → Nat → Int) (fr n : Int) : Prop := I 2 2 = F 12 ∧ I 2 1 = n ∧ (∀ p : Nat, (p : Int) < n → R 3 p = R' 29 (Int.toNat (fr + (p : Int)))) ∧ I 15 13 = F 15 ∧ I 15 14 = F 16 ∧ I 15 10 = F 13 ∧ I 15 11 = F 14
  ∧ (∀ w : Nat, (w : Int) < F 15 → R 19 w = R' 17 w ∧ R 20 w = R' 18 w ∧ (0 ≤ R' 17 w ∧ R' 17 w < F 13 * F 14) ∧ (0 ≤ R' 18 w ∧ R' 18 w ≤ 9) ∧ ∀ (v : Nat) (c : Int), v < 4 → 0 ≤ c ∧ c < F 13 * F 14 → R 23 ((w * 4 + v) * 24 + Int.toNat c) = dsp (F 14) (R' 17 w) v c)
  ∧ (∀ k : Nat, (k : Int) < F 16 → R 16 k = R' 20 k ∧ R 17 k = R' 21 k ∧ R 18 k = R' 19 k ∧ (0 ≤ R' 19 k ∧ R' 19 k < F 13 * F 14) ∧ (0 ≤ R' 20 k ∧ R' 20 k ≤ 2) ∧ (0 ≤ R' 21 k ∧ R' 21 k ≤ 9)) ∧ SP R
/-- what the class's reading leaves as it is -/
def keR (R R2 : Nat → Nat → Int) : Prop := ∀ q, (q < 16 ∨ 23 < q) → R2 q = R q
theorem keR.rf {R : Nat → Nat → Int} : keR R R := fun _ _ => rfl
theorem keR.tr {R R2 R3 : Nat → Nat → Int} (h : keR R R2) (h2 : keR R2 R3) : keR R R3 := fun q a => (h2 q a).trans (h q a)
section JRD
variable {I R : Nat → Nat → Int} {F : Nat → Int} {R' : Nat → Nat → Int} {fr n : Int}
theorem nxc {p : Int} (hp : 0 ≤ p) (hc : ∀ p : Nat, (p : Int) < n → R 3 p = R' 29 (Int.toNat (fr + (p : Int)))) : (p < n ∧ nx p n (R 3) = cdx p n fr (R' 29)) ∨ (n ≤ p ∧ nx p n (R 3) = -1 ∧ cdx p n fr (R' 29) = -9) := by
  unfold nx cdx
  by_cases e : p < n
  · rw [if_pos e, if_pos e, hc (Int.toNat p) (by omega), show ((Int.toNat p : Nat) : Int) = p by omega]
    exact Or.inl ⟨e, rfl⟩
  · rw [if_neg e, if_neg e]
    exact Or.inr ⟨by omega, rfl, rfl⟩
/-- the reading's place moves by one, on both sides -/
theorem Rd.pl (h : Rd I R F R' fr n) {x y : Int} (e : x = y) : Rd (u2 I 2 2 x) R (u1 F 12 y) R' fr n := ⟨e, h.2⟩
theorem rk_rp (h : Rd I R F R' fr n) (hM : BM F R' n fr) (hh : F 13 ≤ 4) {r c : Int} (hr : 0 ≤ r ∧ r < F 13) (hc : 0 ≤ c ∧ c < F 14) (hx : nx (I 2 2) (I 2 1) (R 3) = 120) : (k_X1_readPart I R r c).1 = (k_X4_readsWork F R' fr n (r * F 14 + c)).1 ∧ Rd (k_X1_readPart I R r c).2.1 (k_X1_readPart I R r c).2.2 (k_X4_readsWork F R' fr n (r * F 14 + c)).2.1 (k_X4_readsWork F R' fr n (r * F 14 + c)).2.2 fr n ∧ keR R (k_X1_readPart I R r c).2.2 := by
  obtain ⟨a2, a1, ac, aw, ad, ah, ai, aW, aD, aS⟩ := h
  have hp := hM.1
  have hw := hM.2.2.1
  have hwd := hM.2.2.2.2.1
  have hrc : 0 ≤ r * F 14 + c ∧ r * F 14 + c < F 13 * F 14 := by
    have h1 : 0 ≤ r * F 14 := Int.mul_nonneg hr.1 (by omega)
    have h2 : (r + 1) * F 14 ≤ F 13 * F 14 := Int.mul_le_mul_of_nonneg_right (by omega) (by omega)
    rw [Int.add_mul] at h2
    omega
  have h24 := cell24 hh hwd hrc
  have hn := nxc (R := R) (R' := R') (fr := fr) (n := n) (p := F 12 + 1) (by omega) ac
  unfold k_X1_readPart k_X4_readsWork
  rw [if_pos hx]
  by_cases e : F 15 = 4
  · rw [if_neg (show ¬ I 15 13 < 4 by omega), if_pos e]
    exact ⟨rfl, ⟨a2, a1, ac, aw, ad, ah, ai, aW, aD, aS⟩, keR.rf⟩
  · rw [if_pos (show I 15 13 < 4 by omega), if_neg e, a1, a2]
    by_cases e2 : 49 ≤ cdx (F 12 + 1) n fr (R' 29) ∧ cdx (F 12 + 1) n fr (R' 29) ≤ 57
    · have e3 : nx (F 12 + 1) n (R 3) = cdx (F 12 + 1) n fr (R' 29) := by omega
      rw [if_pos e2, e3, if_pos e2, aw, ah, ai]
      refine ⟨rfl, ⟨rfl, a1, ac, rfl, ad, ah, ai, ?_, aD, ?_⟩, ?_⟩
      · intro w hw2
        have hw3 : (w : Int) < F 15 + 1 := hw2
        show u1 (R 19) (Int.toNat (F 15)) (r * F 14 + c) w = u1 (R' 17) (Int.toNat (F 15)) (r * F 14 + c) w ∧ u1 (R 20) (Int.toNat (F 15)) (cdx (F 12 + 1) n fr (R' 29) - 48) w = u1 (R' 18) (Int.toNat (F 15)) (cdx (F 12 + 1) n fr (R' 29) - 48) w ∧ (0 ≤ u1 (R' 17) (Int.toNat (F 15)) (r * F 14 + c) w ∧ u1 (R' 17) (Int.toNat (F 15)) (r * F 14 + c) w < F 13 * F 14) ∧ (0 ≤ u1 (R' 18) (Int.toNat (F 15)) (cdx (F 12 + 1) n fr (R' 29) - 48) w ∧ u1 (R' 18) (Int.toNat (F 15)) (cdx (F 12 + 1) n fr (R' 29) - 48) w ≤ 9) ∧ ∀ (v : Nat) (cc : Int), v < 4 → 0 ≤ cc ∧ cc < F 13 * F 14 → da (R 23) (F 13) (F 14) (F 15) r c 4 ((w * 4 + v) * 24 + Int.toNat cc) = dsp (F 14) (u1 (R' 17) (Int.toNat (F 15)) (r * F 14 + c) w) v cc
        rw [show da (R 23) (F 13) (F 14) (F 15) r c 4 = da (R 23) (F 13) (F 14) ((Int.toNat (F 15) : Nat) : Int) r c 4 by rw [show ((Int.toNat (F 15) : Nat) : Int) = F 15 by omega]]
        by_cases ew : w = Int.toNat (F 15)
        · subst ew
          rw [u1_s, u1_s, u1_s, u1_s]
          exact ⟨rfl, rfl, hrc, by omega, fun v cc hv hcc => da_all hh hwd hr hc hv hcc⟩
        · rw [u1_n ew, u1_n ew, u1_n ew, u1_n ew]
          have ho := aW w (by omega)
          refine ⟨ho.1, ho.2.1, ho.2.2.1, ho.2.2.2.1, fun v cc hv hcc => ?_⟩
          have hcc2 := cell24 hh hwd hcc
          rw [da_o hh hwd (by omega) 4 (Nat.le_refl 4)]
          exact ho.2.2.2.2 v cc hv hcc
      · exact ⟨u1_rng aS.1 (by omega), da_rng aS.2.1 4, aS.2.2.1, aS.2.2.2.1, aS.2.2.2.2.1, u1_rnl aS.2.2.2.2.2.1 (by omega), aS.2.2.2.2.2.2⟩
      · intro q hq
        show uR (uR (uR R 19 _) 20 _) 23 _ q = R q
        rw [uR_n (by omega), uR_n (by omega), uR_n (by omega)]
    · have e3 : ¬ (49 ≤ nx (F 12 + 1) n (R 3) ∧ nx (F 12 + 1) n (R 3) ≤ 57) := by omega
      rw [if_neg e2, if_neg e3]
      exact ⟨rfl, ⟨by show F 12 + 1 = F 12 + 1 + 0; omega, a1, ac, aw, ad, ah, ai, aW, aD, aS⟩, keR.rf⟩
end JRD
