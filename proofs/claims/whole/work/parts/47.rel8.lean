/-! told -/
section JEQ6
variable {I R : Nat → Nat → Int} {F : Nat → Int} {R' : Nat → Nat → Int}
theorem av_congr {f g : Nat → Int} {n : Nat} (h : ∀ k, k < n → f k = g k) : av f n = av g n := by
  induction n with
  | zero => rfl
  | succ n ih => simp only [av]; rw [ih (fun k hk => h k (by omega)), h n (by omega)]
theorem vz_tld {n : Int} {f : Nat → Int} (hn : 0 ≤ n ∧ n ≤ 4) : ∀ w : Nat, (w : Int) ≤ n → av f w = true → ∀ x : Nat, x < w → vz n (tld n f w) (x : Int) = f x := by
  intro w
  induction w with
  | zero => intro _ _ x hx; omega
  | succ w ih =>
    intro hw ha x hx
    have h1 := av_mono (show w ≤ w + 1 by omega) ha
    have h2 := av_at (show w < w + 1 by omega) ha
    have h3 := tld_bd hn (w := w) (by omega) h1
    have h4 := pow_bd hn h3
    simp only [tld]
    rw [vz_tz hn h4 (by omega) (by omega) (by omega)]
    by_cases e : x = w
    · rw [e, if_pos rfl]
    · rw [if_neg (by omega)]
      exact ih (by omega) h1 x (by omega)
theorem eq_told (h : St I R F R') (sheet lane i n : Int) : Same (k_X3_told I R sheet lane i n) (k_X4_told F R' sheet lane i n) := by
  unfold k_X3_told k_X4_told
  have h3 := h.mv.town.works
  by_cases e : 0 ≤ sheet ∧ sheet < 4
  · rw [if_pos e, if_neg (show ¬ ¬ (0 ≤ sheet ∧ sheet ≤ 3) by omega)]
    have hk : Int.toNat sheet < 4 := by omega
    by_cases e2 : 0 ≤ lane ∧ lane ≤ 2
    · rw [if_pos e2, if_pos e2]
      by_cases e3 : F 1 = 0
      · rw [if_pos (h.stands.mpr e3), if_pos e3]; exact ⟨rfl, h.flt (by decide)⟩
      · rw [if_neg (fun q => e3 (h.stands.mp q)), if_neg e3, ft_ftm h hk e2.1]
        by_cases e4 : ftm (R' 27 (Int.toNat sheet)) (R' 28 (Int.toNat sheet)) lane i n = 0
        · rw [if_pos e4, if_pos e4, h.sr.1]
          have hx := ftm_0 e4
          have hrow := (h.sh (Int.toNat sheet) hk).2
          by_cases e5 : n = F 3
          · rw [if_pos e5]
            have hfg : ∀ y : Nat, y < Int.toNat (F 3) → R (26 + 2 * Int.toNat sheet) (Int.toNat (i + (y : Int))) = R' 29 (Int.toNat (60 * sheet + i) + y) := by
              intro y hy
              rw [hrow (Int.toNat (i + (y : Int))) (by omega), show 60 * Int.toNat sheet + Int.toNat (i + (y : Int)) = Int.toNat (60 * sheet + i) + y by omega]
            have hav := av_congr (f := fun y9 : Nat => R (26 + 2 * Int.toNat sheet) (Int.toNat (i + (y9 : Int)))) (g := fun y9 : Nat => R' 29 (Int.toNat (60 * sheet + i) + y9)) (n := Int.toNat (F 3)) hfg
            rw [e5, hav]
            by_cases e6 : av (fun y9 : Nat => R' 29 (Int.toNat (60 * sheet + i) + y9)) (Int.toNat (F 3)) = true
            · rw [if_pos e6, if_pos ⟨rfl, e6⟩]
              have e7 := hav.trans e6
              have hV : VS (F 3) (lcd (R' 6) (R' 29) (Int.toNat (60 * sheet + i)) (Int.toNat (F 3))) (tld (F 3) (fun y9 : Nat => R (26 + 2 * Int.toNat sheet) (Int.toNat (i + (y9 : Int)))) (Int.toNat (F 3))) := by
                intro w hw
                rw [vz_tld h3 (Int.toNat (F 3)) (by omega) e7 w (by omega)]
                show _ = R (26 + 2 * Int.toNat sheet) (Int.toNat (i + (w : Int)))
                rw [hfg w (by omega)]
                unfold lcd
                rw [if_pos (by omega)]
              refine ⟨?_, h.flt (by decide)⟩
              exact su_mm h.sr h.wr h.mv.town hV
            · rw [if_neg e6, if_neg (fun q => e6 q.2)]; exact ⟨rfl, h.flt (by decide)⟩
          · rw [if_neg e5, if_neg (fun q => e5 q.1)]; exact ⟨rfl, h.flt (by decide)⟩
        · rw [if_neg e4, if_neg e4, u2_u]
          have hb := ftm_bd (sz := R' 27 (Int.toNat sheet)) (ln := R' 28 (Int.toNat sheet)) (al := lane) (i := i) (n := n)
          exact ⟨rfl, h.flt hb⟩
    · rw [if_neg e2, if_neg e2]; exact ⟨rfl, h.flt (by decide)⟩
  · rw [if_neg e, if_pos (show ¬ (0 ≤ sheet ∧ sheet ≤ 3) by omega)]; exact ⟨rfl, h.flt (by decide)⟩
end JEQ6
