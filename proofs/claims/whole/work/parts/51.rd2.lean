/-! wards, cells -/
section JRD2
variable {I R : Nat → Nat → Int} {F : Nat → Int} {R' : Nat → Nat → Int} {fr n : Int}
theorem rd_rp (h : Rd I R F R' fr n) (hM : BM F R' n fr) (hh : F 13 ≤ 4) {r c kd : Int} (hr : 0 ≤ r ∧ r < F 13) (hc : 0 ≤ c ∧ c < F 14) (hx : ¬ nx (I 2 2) (I 2 1) (R 3) = 120) (hk : ko (nx (I 2 2) (I 2 1) (R 3)) = kd) (hkd : 0 ≤ kd ∧ kd ≤ 2) : (k_X1_readPart I R r c).1 = (k_X4_readsWard F R' fr n (r * F 14 + c) kd).1 ∧ Rd (k_X1_readPart I R r c).2.1 (k_X1_readPart I R r c).2.2 (k_X4_readsWard F R' fr n (r * F 14 + c) kd).2.1 (k_X4_readsWard F R' fr n (r * F 14 + c) kd).2.2 fr n ∧ keR R (k_X1_readPart I R r c).2.2 := by
  obtain ⟨a2, a1, ac, aw, ad, ah, ai, aW, aD, aS⟩ := h
  have hp := hM.1
  have hw := hM.2.2.2.1
  have hwd := hM.2.2.2.2.1
  have hrc : 0 ≤ r * F 14 + c ∧ r * F 14 + c < F 13 * F 14 := by
    have h1 : 0 ≤ r * F 14 := Int.mul_nonneg hr.1 (by omega)
    have h2 : (r + 1) * F 14 ≤ F 13 * F 14 := Int.mul_le_mul_of_nonneg_right (by omega) (by omega)
    rw [Int.add_mul] at h2
    omega
  have h24 := cell24 hh hwd hrc
  have hn := nxc (R := R) (R' := R') (fr := fr) (n := n) (p := F 12 + 1) (by omega) ac
  unfold k_X1_readPart k_X4_readsWard
  rw [if_neg hx, hk, if_pos (show ¬ kd = -1 by omega)]
  by_cases e : F 16 = 6
  · rw [if_neg (show ¬ I 15 14 < 6 by omega), if_pos e]
    exact ⟨rfl, ⟨a2, a1, ac, aw, ad, ah, ai, aW, aD, aS⟩, keR.rf⟩
  · rw [if_pos (show I 15 14 < 6 by omega), if_neg e, a1, a2]
    by_cases e2 : 49 ≤ cdx (F 12 + 1) n fr (R' 29) ∧ cdx (F 12 + 1) n fr (R' 29) ≤ 57
    · have e3 : nx (F 12 + 1) n (R 3) = cdx (F 12 + 1) n fr (R' 29) := by omega
      rw [if_pos e2, e3, if_pos e2, ad, ai]
      refine ⟨rfl, ⟨rfl, a1, ac, aw, rfl, ah, ai, aW, ?_, ?_⟩, ?_⟩
      · intro k hk2
        have hk3 : (k : Int) < F 16 + 1 := hk2
        show u1 (R 16) (Int.toNat (F 16)) kd k = u1 (R' 20) (Int.toNat (F 16)) kd k ∧ u1 (R 17) (Int.toNat (F 16)) (cdx (F 12 + 1) n fr (R' 29) - 48) k = u1 (R' 21) (Int.toNat (F 16)) (cdx (F 12 + 1) n fr (R' 29) - 48) k ∧ u1 (R 18) (Int.toNat (F 16)) (r * F 14 + c) k = u1 (R' 19) (Int.toNat (F 16)) (r * F 14 + c) k ∧ (0 ≤ u1 (R' 19) (Int.toNat (F 16)) (r * F 14 + c) k ∧ u1 (R' 19) (Int.toNat (F 16)) (r * F 14 + c) k < F 13 * F 14) ∧ (0 ≤ u1 (R' 20) (Int.toNat (F 16)) kd k ∧ u1 (R' 20) (Int.toNat (F 16)) kd k ≤ 2) ∧ (0 ≤ u1 (R' 21) (Int.toNat (F 16)) (cdx (F 12 + 1) n fr (R' 29) - 48) k ∧ u1 (R' 21) (Int.toNat (F 16)) (cdx (F 12 + 1) n fr (R' 29) - 48) k ≤ 9)
        by_cases ek : k = Int.toNat (F 16)
        · subst ek
          rw [u1_s, u1_s, u1_s, u1_s, u1_s, u1_s]
          exact ⟨rfl, rfl, rfl, hrc, hkd, by omega⟩
        · rw [u1_n ek, u1_n ek, u1_n ek, u1_n ek, u1_n ek, u1_n ek]
          exact aD k (by omega)
      · exact ⟨aS.1, aS.2.1, u1_rng aS.2.2.1 (by omega), u1_rnl aS.2.2.2.1 (by omega), u1_rng aS.2.2.2.2.1 hkd, aS.2.2.2.2.2⟩
      · intro q hq
        show uR (uR (uR R 16 _) 18 _) 17 _ q = R q
        rw [uR_n (by omega), uR_n (by omega), uR_n (by omega)]
    · have e3 : ¬ (49 ≤ nx (F 12 + 1) n (R 3) ∧ nx (F 12 + 1) n (R 3) ≤ 57) := by omega
      rw [if_neg e2, if_neg e3]
      exact ⟨rfl, ⟨by show F 12 + 1 = F 12 + 1 + 0; omega, a1, ac, aw, ad, ah, ai, aW, aD, aS⟩, keR.rf⟩
/-- a cell of a text -/
theorem ce_sp1 (h : Rd I R F R' fr n) (hM : BM F R' n fr) (hh : F 13 ≤ 4) {r c : Int} (hr : 0 ≤ r ∧ r < F 13) (hc : 0 ≤ c ∧ c < F 14) : (ce I R r c).1 = (sp1 F R' fr n (r * F 14 + c)).1 ∧ Rd (ce I R r c).2.1 (ce I R r c).2.2 (sp1 F R' fr n (r * F 14 + c)).2.1 (sp1 F R' fr n (r * F 14 + c)).2.2 fr n ∧ keR R (ce I R r c).2.2 := by
  have hp := hM.1
  have a2 := h.1
  have a1 := h.2.1
  have hn := nxc (R := R) (R' := R') (fr := fr) (n := n) (p := F 12) (by omega) h.2.2.1
  have hkn : ∀ x : Int, x = nx (I 2 2) (I 2 1) (R 3) → x = nx (F 12) n (R 3) := fun x hx => by rw [hx, a1, a2]
  have hN := hkn _ rfl
  unfold ce sp1
  by_cases e : cdx (F 12) n fr (R' 29) = 46
  · rw [if_pos (show nx (I 2 2) (I 2 1) (R 3) = 46 by omega), if_pos e]
    exact ⟨rfl, h.pl (by omega), keR.rf⟩
  · rw [if_neg (show ¬ nx (I 2 2) (I 2 1) (R 3) = 46 by omega), if_neg e]
    by_cases e1 : cdx (F 12) n fr (R' 29) = 102
    · rw [if_pos e1]
      exact rd_rp h hM hh hr hc (by omega) (by rw [show nx (I 2 2) (I 2 1) (R 3) = 102 by omega]; rfl) (by decide)
    · rw [if_neg e1]
      by_cases e2 : cdx (F 12) n fr (R' 29) = 114
      · rw [if_pos e2]
        exact rd_rp h hM hh hr hc (by omega) (by rw [show nx (I 2 2) (I 2 1) (R 3) = 114 by omega]; rfl) (by decide)
      · rw [if_neg e2]
        by_cases e3 : cdx (F 12) n fr (R' 29) = 119
        · rw [if_pos e3]
          exact rd_rp h hM hh hr hc (by omega) (by rw [show nx (I 2 2) (I 2 1) (R 3) = 119 by omega]; rfl) (by decide)
        · rw [if_neg e3]
          by_cases e4 : cdx (F 12) n fr (R' 29) = 120
          · rw [if_pos e4]
            exact rk_rp h hM hh hr hc (by omega)
          · rw [if_neg e4]
            have hko : ko (nx (I 2 2) (I 2 1) (R 3)) = -1 := by
              unfold ko
              rw [if_neg (by omega), if_neg (by omega), if_neg (by omega)]
            unfold k_X1_readPart
            rw [if_neg (show ¬ nx (I 2 2) (I 2 1) (R 3) = 120 by omega), if_neg (fun q => q hko)]
            exact ⟨rfl, h, keR.rf⟩
end JRD2
