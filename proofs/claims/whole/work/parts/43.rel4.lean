/-! calls over all settings, laws, strengths -/
section JEQ2
variable {I R : Nat → Nat → Int} {F : Nat → Int} {R' : Nat → Nat → Int}
theorem eq_least {I R : Nat → Nat → Int} (hT : TI I R) {g : Nat → Int} (hg : ∀ x : Nat, 0 ≤ g x ∧ g x < 1000000) {G : Int → Int} (hG : ∀ x : Nat, g x = G (x : Int)) : G (am g (2 ^ (Int.toNat (2 * I 5 13)))).1 = (am g (2 ^ (Int.toNat (2 * I 5 13)))).2 := by
  have hp := pw8 hT.works
  have hn := pwN (Int.toNat (2 * I 5 13))
  have h1 := am_2 (g := g) (n := 2 ^ (Int.toNat (2 * I 5 13))) (fun x _ => hg x) (by omega)
  have h2 := am_bd (g := g) (n := 2 ^ (Int.toNat (2 * I 5 13))) (fun x _ => hg x)
  rw [hG, show ((Int.toNat (am g (2 ^ (Int.toNat (2 * I 5 13)))).1 : Nat) : Int) = (am g (2 ^ (Int.toNat (2 * I 5 13)))).1 by omega] at h1
  exact h1
theorem eq_best (h : St I R F R') (w : Int) : k_X3_best I R w = (k_X4_best F R' w).1 ∧ St I R (k_X4_best F R' w).2.1 (k_X4_best F R' w).2.2 := by
  have hT := h.vi.town
  have hK := hT.wards
  unfold k_X3_best k_X3_leastBy_b k_X4_best
  by_cases e : w < -1
  · rw [if_pos e, if_pos e]; exact ⟨rfl, h⟩
  · rw [if_neg e, if_neg e]
    by_cases e2 : F 1 = 0
    · rw [if_pos (h.stands.mpr e2), if_pos e2]; exact ⟨rfl, h⟩
    · rw [if_neg (fun q => e2 (h.stands.mp q)), if_neg e2]
      have hl := eq_least hT (g := fun t : Nat => su (mz I R (t : Int)) (Int.toNat (I 5 14))) (fun x => by
        have h5 := su_bd (f := mz I R (x : Int)) (n := Int.toNat (I 5 14)) (b := 720) (fun y hy => mz_bd hT (by omega))
        exact ⟨h5.1, by first | omega | (simp only; omega)⟩) (G := fun t : Int => su (mz I R t) (Int.toNat (I 5 14))) (fun _ => rfl)
      rw [hl, am_su h, h.sr.1]
      by_cases e3 : w = -1
      · rw [if_pos e3, if_pos (show w < 0 by omega)]; exact ⟨rfl, h⟩
      · rw [if_neg e3, if_neg (show ¬ w < 0 by omega)]
        by_cases e4 : 0 ≤ w ∧ w < F 3
        · rw [if_pos e4, if_neg (show ¬ ¬ (0 ≤ w ∧ w ≤ F 3 - 1) by omega)]; exact ⟨rfl, h⟩
        · rw [if_neg e4, if_pos (show ¬ (0 ≤ w ∧ w ≤ F 3 - 1) by omega)]; exact ⟨rfl, h⟩
theorem eq_calm (h : St I R F R') (w : Int) : k_X3_calm I R w = (k_X4_calm F R' w).1 ∧ St I R (k_X4_calm F R' w).2.1 (k_X4_calm F R' w).2.2 := by
  have hT := h.vi.town
  have hK := hT.wards
  unfold k_X3_calm k_X3_leastBy_c k_X4_calm
  by_cases e : w < -1
  · rw [if_pos e, if_pos e]; exact ⟨rfl, h⟩
  · rw [if_neg e, if_neg e]
    by_cases e2 : F 1 = 0
    · rw [if_pos (h.stands.mpr e2), if_pos e2]; exact ⟨rfl, h⟩
    · rw [if_neg (fun q => e2 (h.stands.mp q)), if_neg e2]
      have hl := eq_least hT (g := fun t : Nat => mx (mz I R (t : Int)) (Int.toNat (I 5 14))) (fun x => by
        have h5 := mx_bd (f := mz I R (x : Int)) (n := Int.toNat (I 5 14)) (b := 720) (by omega) (fun y hy => mz_bd hT (by omega))
        exact ⟨h5.1, by first | omega | (simp only; omega)⟩) (G := fun t : Int => mx (mz I R t) (Int.toNat (I 5 14))) (fun _ => rfl)
      rw [hl, am_mx h, h.sr.1]
      by_cases e3 : w = -1
      · rw [if_pos e3, if_pos (show w < 0 by omega)]; exact ⟨rfl, h⟩
      · rw [if_neg e3, if_neg (show ¬ w < 0 by omega)]
        by_cases e4 : 0 ≤ w ∧ w < F 3
        · rw [if_pos e4, if_neg (show ¬ ¬ (0 ≤ w ∧ w ≤ F 3 - 1) by omega)]; exact ⟨rfl, h⟩
        · rw [if_neg e4, if_pos (show ¬ (0 ≤ w ∧ w ≤ F 3 - 1) by omega)]; exact ⟨rfl, h⟩
theorem ag_row (h : St I R F R') (k : Nat) : ag I R (k : Int) (Int.toNat (I 5 17)) = aM F (wt F R' (k : Int)) (Int.toNat (F 24)) := by
  have h8 := h.mv.town.reads
  rw [h.rr.1]
  exact ag_aM h.sr h.rr h.mv.town VS_tA _ (by omega)
theorem eq_settings (h : St I R F R') (w : Int) : k_X3_settings I R w = (k_X4_settings F R' w).1 ∧ (k_X4_settings F R' w).2 = (F, R') := by
  unfold k_X3_settings k_X4_settings
  have e0 : ∀ n : Nat, cn (fun y9 : Nat => ag I R (y9 : Int) (Int.toNat (I 5 17))) n = cn (fun y9 : Nat => aM F (wt F R' (y9 : Int)) (Int.toNat (F 24))) n := fun n => cn_congr (fun k _ => ag_row h k)
  have e1 : ∀ n : Nat, fic (fun y9 : Nat => ag I R (y9 : Int) (Int.toNat (I 5 17))) n = fi (fun y9 : Nat => aM F (wt F R' (y9 : Int)) (Int.toNat (F 24))) n := fun n => (fic_fi n).trans (fi_congr (fun k _ => ag_row h k))
  have hb := fic_bd (P := fun y9 : Nat => ag I R (y9 : Int) (Int.toNat (I 5 17))) (n := 2 ^ (Int.toNat (2 * I 5 13)))
  rw [e0, e1] at hb
  rw [e0, e1]
  rw [h.sr.1] at hb ⊢
  by_cases e : w < -1
  · rw [if_pos e, if_pos e]; exact ⟨rfl, rfl⟩
  · rw [if_neg e, if_neg e]
    by_cases e2 : F 1 = 0
    · rw [if_pos (h.stands.mpr e2), if_pos e2]; exact ⟨rfl, rfl⟩
    · rw [if_neg (fun q => e2 (h.stands.mp q)), if_neg e2]
      by_cases e3 : w = -1
      · rw [if_pos e3, if_pos (show w < 0 by omega)]; exact ⟨rfl, rfl⟩
      · rw [if_neg e3, if_neg (show ¬ w < 0 by omega)]
        by_cases e5 : cn (fun y9 : Nat => aM F (wt F R' (y9 : Int)) (Int.toNat (F 24))) (2 ^ (Int.toNat (2 * F 3))) = 0
        · have hfi : fi (fun y9 : Nat => aM F (wt F R' (y9 : Int)) (Int.toNat (F 24))) (2 ^ (Int.toNat (2 * F 3))) < 0 := by have := hb.2.2.2 e5; omega
          rw [if_pos e5, if_pos hfi]; exact ⟨rfl, rfl⟩
        · have hfi : ¬ fi (fun y9 : Nat => aM F (wt F R' (y9 : Int)) (Int.toNat (F 24))) (2 ^ (Int.toNat (2 * F 3))) < 0 := by have := hb.2.2.1 e5; omega
          rw [if_neg e5, if_neg hfi]
          by_cases e4 : 0 ≤ w ∧ w < F 3
          · rw [if_pos e4, if_neg (show ¬ ¬ (0 ≤ w ∧ w ≤ F 3 - 1) by omega)]; exact ⟨rfl, rfl⟩
          · rw [if_neg e4, if_pos (show ¬ (0 ≤ w ∧ w ≤ F 3 - 1) by omega)]; exact ⟨rfl, rfl⟩
theorem eq_laws (h : St I R F R') : (k_X3_laws I R).1 = (k_X4_laws F R').1 ∧ (k_X3_laws I R).2 = (I, R) ∧ (k_X4_laws F R').2 = (F, R') := by
  unfold k_X3_laws k_X4_laws
  have h8 := h.mv.town.reads
  by_cases e2 : F 1 = 0
  · rw [if_pos (h.stands.mpr e2), if_pos e2]; exact ⟨rfl, rfl, rfl⟩
  · rw [if_neg (fun q => e2 (h.stands.mp q)), if_neg e2]
    have key : ∀ k : Nat, k < 3 → (fun y9 : Nat => ag (u2 I 5 15 (y9 : Int)) R (I 5 16) (Int.toNat (I 5 17))) k = (fun y9 : Nat => aM (u1 F 11 (y9 : Int)) R' (Int.toNat (F 24))) k := fun k hk => by
      have hS : SR (u2 I 5 15 (k : Int)) R (u1 F 11 (k : Int)) R' := ⟨h.sr.1, rfl, h.sr.2.2.1, h.sr.2.2.2⟩
      have hR : RR (u2 I 5 15 (k : Int)) R (u1 F 11 (k : Int)) R' := h.rr
      have e := ag_aM hS hR (MI_law h.mv.town (by omega)) (V := R' 6) (s := I 5 16) h.vs (Int.toNat (F 24)) (show ((Int.toNat (F 24) : Nat) : Int) ≤ F 24 by omega)
      rw [uR6] at e
      show ag (u2 I 5 15 (k : Int)) R (I 5 16) (Int.toNat (I 5 17)) = aM (u1 F 11 (k : Int)) R' (Int.toNat (F 24))
      rw [h.rr.1]
      exact e
    exact ⟨by rw [bs_congr key], rfl, rfl⟩
theorem eq_powers (h : St I R F R') (w : Int) : (k_X3_powers I R w).1 = (k_X4_powers F R' w).1 ∧ (k_X3_powers I R w).2 = (I, R) ∧ (k_X4_powers F R' w).2 = (F, R') := by
  unfold k_X3_powers k_X4_powers
  have h8 := h.mv.town.reads
  rw [h.sr.1]
  by_cases e2 : 0 ≤ w ∧ w < F 3
  · rw [if_pos e2, if_neg (show ¬ ¬ (0 ≤ w ∧ w ≤ F 3 - 1) by omega)]
    have key : ∀ k : Nat, k < 10 → (fun y9 : Nat => !(y9 == 0) && ag I (uR R 10 (u1 (R 10) (Int.toNat w) (y9 : Int))) (I 5 16) (Int.toNat (I 5 17))) k = (fun y9 : Nat => !(y9 == 0) && aM F (uR R' 5 (u1 (R' 5) (Int.toNat w) (y9 : Int))) (Int.toNat (F 24))) k := fun k hk => by
      have hS : SR I (uR R 10 (u1 (R 10) (Int.toNat w) (k : Int))) F (uR R' 5 (u1 (R' 5) (Int.toNat w) (k : Int))) := ⟨h.sr.1, h.sr.2.1, fun x hx => by
        show (if x = Int.toNat w then (k : Int) else R 10 x) = (if x = Int.toNat w then (k : Int) else R' 5 x)
        rw [h.sr.2.2.1 x hx], h.sr.2.2.2⟩
      have hR : RR I (uR R 10 (u1 (R 10) (Int.toNat w) (k : Int))) F (uR R' 5 (u1 (R' 5) (Int.toNat w) (k : Int))) := h.rr
      have e := ag_aM hS hR (MI_str h.mv.town (by omega)) (V := R' 6) (s := I 5 16) h.vs (Int.toNat (F 24)) (by omega)
      rw [show uR (uR R' 5 (u1 (R' 5) (Int.toNat w) (k : Int))) 6 (R' 6) = uR R' 5 (u1 (R' 5) (Int.toNat w) (k : Int)) from uR_id (R := uR R' 5 (u1 (R' 5) (Int.toNat w) (k : Int)))] at e
      show (!(k == 0) && ag I (uR R 10 (u1 (R 10) (Int.toNat w) (k : Int))) (I 5 16) (Int.toNat (I 5 17))) = (!(k == 0) && aM F (uR R' 5 (u1 (R' 5) (Int.toNat w) (k : Int))) (Int.toNat (F 24)))
      rw [h.rr.1, e]
    exact ⟨by rw [bs_congr key], rfl, rfl⟩
  · rw [if_neg e2, if_pos (show ¬ (0 ≤ w ∧ w ≤ F 3 - 1) by omega)]
    exact ⟨rfl, rfl, rfl⟩
theorem eq_odds (h : St I R F R') (c v which : Int) : k_X3_odds I R c v which = (k_X4_odds F R' c v which).1 ∧ (k_X4_odds F R' c v which).2 = (F, R') := by
  unfold k_X3_odds k_X4_odds
  have h3 := h.mv.town.works
  rw [h.cells]
  by_cases e : 0 ≤ c ∧ c < F 1 * F 2
  · rw [if_pos e, if_neg (show ¬ ¬ (0 ≤ c ∧ c ≤ F 1 * F 2 - 1) by omega)]
    by_cases e2 : 0 ≤ v ∧ v ≤ 99
    · rw [if_pos e2, if_pos e2]
      by_cases e3 : 0 ≤ which ∧ which ≤ 1
      · rw [if_pos e3, if_pos e3]
        refine ⟨?_, rfl⟩
        have hP : cn (fun y9 : Nat => decide (v ≤ cs I R (y9 : Int) c)) (2 ^ (Int.toNat (2 * I 5 13))) = cn (fun y9 : Nat => decide (v ≤ ms F (wt F R' (y9 : Int)) c)) (2 ^ (Int.toNat (2 * F 3))) := by
          rw [h.sr.1]
          exact cn_congr (fun k _ => by rw [cs_ms h.sr h.mv.town (V := tA (F 3) (k : Int) (R' 6)) VS_tA e]; rfl)
        rw [hP, h.sr.1]
        have hb := cn_bd (P := fun y9 : Nat => decide (v ≤ ms F (wt F R' (y9 : Int)) c)) (n := 2 ^ (Int.toNat (2 * F 3)))
        have hp := pw8 h3
        have hn := pwN (Int.toNat (2 * F 3))
        generalize cn (fun y9 : Nat => decide (v ≤ ms F (wt F R' (y9 : Int)) c)) (2 ^ (Int.toNat (2 * F 3))) = u at hb ⊢
        obtain ⟨x, rfl⟩ := Int.eq_ofNat_of_zero_le hb.1
        have hk := odds_k (Int.toNat (F 3)) (by omega) x (by omega)
        rw [show 2 * Int.toNat (F 3) = Int.toNat (2 * F 3) by omega] at hk
        show _ = (if which = 0 then (x : Int) else 2 ^ (Int.toNat (2 * F 3))) / ((Nat.gcd (Int.toNat (x : Int)) (Int.toNat (2 ^ (Int.toNat (2 * F 3)))) : Nat) : Int)
        rw [Int.toNat_natCast, show Int.toNat ((2 : Int) ^ (Int.toNat (2 * F 3))) = 2 ^ (Int.toNat (2 * F 3)) by rw [← hn, Int.toNat_natCast]]
        by_cases e4 : which = 0
        · rw [if_pos e4, if_pos e4]; exact hk.1
        · rw [if_neg e4, if_neg e4]; exact hk.2
      · rw [if_neg e3, if_neg e3]; exact ⟨rfl, rfl⟩
    · rw [if_neg e2, if_neg e2]; exact ⟨rfl, rfl⟩
  · rw [if_neg e, if_pos (show ¬ (0 ≤ c ∧ c ≤ F 1 * F 2 - 1) by omega)]; exact ⟨rfl, rfl⟩
theorem eq_round (h : St I R F R') (what : Int) : (k_X3_round I R what).1 = (k_X4_round F R' what).1 ∧ (k_X3_round I R what).2 = (I, R) ∧ (k_X4_round F R' what).2 = (F, R') := by
  unfold k_X3_round k_X4_round
  have e0 := ro_rom h.sr h.wr h.mv.town h.vi.town 257 0 (I 5 16) (R' 6) (fl (R 4) (-1) 256) (fl (R' 22) (-9) 256) (by omega) (by rw [cneg_0]; decide) FYR_0 h.vi.town.set h.vs
  rw [e0]
  by_cases e : 0 ≤ what ∧ what ≤ 1
  · rw [if_pos e, if_pos e]
    by_cases e2 : F 1 = 0
    · rw [if_pos (h.stands.mpr e2), if_pos e2]; exact ⟨rfl, rfl, rfl⟩
    · rw [if_neg (fun q => e2 (h.stands.mp q)), if_neg e2]
      by_cases e3 : what = 0
      · rw [if_pos e3, if_pos e3]; exact ⟨rfl, rfl, rfl⟩
      · rw [if_neg e3, if_neg e3]; exact ⟨rfl, rfl, rfl⟩
  · rw [if_neg e, if_neg e]; exact ⟨rfl, rfl, rfl⟩
theorem eq_trace (h : St I R F R') : k_X3_trace I R = k_X4_trace F R' := h.trace
theorem eq_fault (h : St I R F R') : k_X3_fault I R = k_X4_fault F R' := h.fault
theorem eq_many (h : St I R F R') (what : Int) : k_X3_many I R what = k_X4_many F R' what := by
  unfold k_X3_many k_X4_many
  rw [h.cells, h.sr.1, h.wr.1, h.sr.2.1, h.rr.1]
end JEQ2
