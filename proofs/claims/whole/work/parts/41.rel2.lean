/-! sums, years, rounds, readings of both towns -/
theorem su_mm {I R : Nat → Nat → Int} {F : Nat → Int} {R' : Nat → Nat → Int} (h : SR I R F R') (hW : WR I R F R') (hM : MI F R') {V : Nat → Int} {s : Int} (hV : VS (F 3) V s) : su (mz I R s) (Int.toNat (I 5 14)) = su (mm F (uR R' 6 V)) (Int.toNat (F 7)) := by
  have h7 := hM.wards
  rw [hW.1]
  exact su_congr (fun k hk => mz_mm h hW hM hV (by omega))
theorem mx_mm {I R : Nat → Nat → Int} {F : Nat → Int} {R' : Nat → Nat → Int} (h : SR I R F R') (hW : WR I R F R') (hM : MI F R') {V : Nat → Int} {s : Int} (hV : VS (F 3) V s) : mx (mz I R s) (Int.toNat (I 5 14)) = mx (mm F (uR R' 6 V)) (Int.toNat (F 7)) := by
  have h7 := hM.wards
  rw [hW.1]
  exact mx_congr (fun k hk => mz_mm h hW hM hV (by omega))
theorem ye_ym {I R : Nat → Nat → Int} {F : Nat → Int} {R' : Nat → Nat → Int} (h : SR I R F R') (hW : WR I R F R') (hM : MI F R') (hT : TI I R) {V : Nat → Int} {s : Int} (hs : 0 ≤ s ∧ s < 2 ^ (Int.toNat (2 * I 5 13))) (hV : VS (F 3) V s) : ∀ w : Nat, (w : Int) ≤ F 3 → VS (F 3) (ym F (uR R' 6 V) w) (ye I R s w) := by
  intro w
  induction w with
  | zero => intro _; exact hV
  | succ w ih =>
    intro hw
    have h3 := hM.works
    have i1 := ih (by omega)
    have hy := ye_bd hT hs w (by rw [h.1]; omega)
    have hy2 := pow_bd hT.works hy
    simp only [ym, ye]
    rw [uR_u, h.1, ← wi_wm h hW hM hy2 i1 (w := w) (by omega), bv_0]
    exact i1.turn h3 hy2 (by omega) wi_bd
theorem yc_tcn {I R : Nat → Nat → Int} {F : Nat → Int} {R' : Nat → Nat → Int} (h : SR I R F R') (hW : WR I R F R') (hM : MI F R') (hT : TI I R) {V : Nat → Int} {s : Int} (hs : 0 ≤ s ∧ s < 2 ^ (Int.toNat (2 * I 5 13))) (hV : VS (F 3) V s) : ∀ w : Nat, (w : Int) ≤ F 3 → tcn (F 3) s (ye I R s (Int.toNat (F 3))) w = yc F (uR R' 6 V) w := by
  intro w
  induction w with
  | zero => intro _; rfl
  | succ w ih =>
    intro hw
    have h3 := hM.works
    have hend := ye_ym h hW hM hT hs hV (Int.toNat (F 3)) (by omega)
    have e1 : vz (F 3) (ye I R s (Int.toNat (F 3))) (w : Int) = wm F (uR (uR R' 6 V) 6 (ym F (uR R' 6 V) w)) (w : Int) 0 0 := by
      rw [← hend w (by omega)]
      have key : ∀ n : Nat, w + 1 ≤ n → ym F (uR R' 6 V) n w = wm F (uR (uR R' 6 V) 6 (ym F (uR R' 6 V) w)) (w : Int) 0 0 := by
        intro n
        induction n with
        | zero => intro hn; omega
        | succ n ihn =>
          intro hn
          by_cases e : n = w
          · subst e; simp only [ym]; exact u1_s
          · simp only [ym]; rw [u1_n (Ne.symm e)]; exact ihn (by omega)
      exact key _ (by omega)
    have e2 : vz (F 3) s (w : Int) = ym F (uR R' 6 V) w w := by
      rw [ym_hi (Nat.le_refl w)]
      show _ = V w
      exact (hV w (by omega)).symm
    simp only [tcn, yc]
    rw [e1, e2, ih (by omega)]
    by_cases e : ym F (uR R' 6 V) w w = wm F (uR (uR R' 6 V) 6 (ym F (uR R' 6 V) w)) (w : Int) 0 0
    · rw [if_pos e, if_pos e.symm]
    · rw [if_neg e, if_neg (Ne.symm e)]
/-- years that are counted: the class's row and the model's -/
def FYR (f g : Nat → Int) : Prop := ∀ j : Nat, j < 256 → (f j = -1 ∧ g j < 0) ∨ (f j = g j ∧ 0 ≤ g j)
theorem ro_rom {I R : Nat → Nat → Int} {F : Nat → Int} {R' : Nat → Nat → Int} (h : SR I R F R') (hW : WR I R F R') (hM : MI F R') (hT : TI I R) : ∀ (k : Nat) (i s : Int) (V f g : Nat → Int), 0 ≤ i → cneg g < k → FYR f g → (0 ≤ s ∧ s < 2 ^ (Int.toNat (2 * I 5 13))) → VS (F 3) V s → ro (fun y : Int => ye I R y (Int.toNat (I 5 13))) k i s f = rom F R' k i V g := by
  have h3 := hM.works
  intro k
  induction k with
  | zero =>
    intro i s V f g _ hc
    have hb := cn_bd (P := fun j => decide (g j < 0)) (n := 256)
    unfold cneg at hc
    omega
  | succ k ih =>
    intro i s V f g hi hc hf hs hV
    have hs2 := pow_bd hT.works hs
    have he : en V (Int.toNat (F 3)) = s := en_vz (n := Int.toNat (F 3)) (by omega) (by rw [h.1, show Int.toNat (2 * F 3) = 2 * Int.toNat (F 3) by omega] at hs; exact hs) (fun w hw => by rw [show ((Int.toNat (F 3) : Nat) : Int) = F 3 by omega]; exact hV w (by omega))
    have hfs := hf (Int.toNat s) (by omega)
    by_cases e : g (Int.toNat s) < 0
    · have e2 : f (Int.toNat s) = -1 := by omega
      rw [ro_t e2, rom_t (by rw [he]; exact e), he]
      refine ih (i + 1) _ _ _ _ (by omega) ?_ ?_ ?_ ?_
      · rw [cneg_s (by omega) e hi]; omega
      · intro j hj
        by_cases ej : j = Int.toNat s
        · subst ej; rw [u1_s, u1_s]; exact Or.inr ⟨rfl, hi⟩
        · rw [u1_n ej, u1_n ej]; exact hf j hj
      · exact ye_bd hT hs _ (by have := hT.works; omega)
      · have := ye_ym h hW hM hT hs hV (Int.toNat (F 3)) (by omega)
        rw [h.1]; exact this
    · have e2 : ¬ f (Int.toNat s) = -1 := by omega
      rw [ro_f e2, rom_f (by rw [he]; exact e), he]
      rw [show f (Int.toNat s) = g (Int.toNat s) by omega]
theorem FYR_0 {f g : Nat → Int} : FYR (fl f (-1) 256) (fl g (-9) 256) := by
  intro j hj
  unfold fl
  rw [if_pos hj, if_pos hj]
  exact Or.inl ⟨rfl, by decide⟩
theorem ag_aM {I R : Nat → Nat → Int} {F : Nat → Int} {R' : Nat → Nat → Int} (h : SR I R F R') (hR : RR I R F R') (hM : MI F R') {V : Nat → Int} {s : Int} (hV : VS (F 3) V s) : ∀ n : Nat, (n : Int) ≤ F 24 → ag I R s n = aM F (uR R' 6 V) n := by
  intro n
  induction n with
  | zero => intro _; rfl
  | succ n ih =>
    intro hn
    have hr := hR.2 n (by omega)
    have e := cs_ms h hM hV hr.2.2
    simp only [ag, aM]
    show (ag I R s n && decide (cs I R s (R 11 n) = R 12 n)) = (aM F (uR R' 6 V) n && decide (ms F (uR R' 6 V) (R' 25 n) = R' 26 n))
    rw [ih (by omega), hr.1, hr.2.1, e]
theorem fic_fi {P : Nat → Bool} : ∀ n : Nat, fic P n = fi P n := by
  intro n
  induction n with
  | zero => rfl
  | succ n ih =>
    have hb := fic_bd (P := P) (n := n)
    by_cases e : P n = true
    · rw [fic_t e, fi_t e, ← ih]
      by_cases e2 : cn P n = 0
      · rw [if_pos e2, if_pos (by have := hb.2.2.2 e2; omega)]
      · rw [if_neg e2, if_neg (by have := hb.2.2.1 e2; omega)]
    · rw [fic_f e, fi_f e, ih]
theorem cn_congr {P Q : Nat → Bool} {n : Nat} (h : ∀ k, k < n → P k = Q k) : cn P n = cn Q n := by
  induction n with
  | zero => rfl
  | succ n ih => simp only [cn]; rw [ih (fun k hk => h k (by omega)), h n (by omega)]
theorem fi_congr {P Q : Nat → Bool} {n : Nat} (h : ∀ k, k < n → P k = Q k) : fi P n = fi Q n := by
  induction n with
  | zero => rfl
  | succ n ih => simp only [fi]; rw [ih (fun k hk => h k (by omega)), h n (by omega)]
theorem bs_congr {P Q : Nat → Bool} {n : Nat} (h : ∀ k, k < n → P k = Q k) : bs P n = bs Q n := by
  induction n with
  | zero => rfl
  | succ n ih => simp only [bs]; rw [ih (fun k hk => h k (by omega)), h n (by omega)]
theorem br_congr {P Q : Nat → Bool} {n : Nat} (h : ∀ k, k < n → P k = Q k) : br P n = br Q n := by
  induction n with
  | zero => rfl
  | succ n ih => simp only [br]; rw [ih (fun k hk => h k (by omega)), h n (by omega)]
set_option maxRecDepth 100000 in
theorem odds_k : ∀ n : Nat, n < 5 → ∀ u : Nat, u < 257 → (hv (u : Int) (2 ^ (2 * n)) 8).1 = (u : Int) / ((Nat.gcd u (2 ^ (2 * n)) : Nat) : Int) ∧ (hv (u : Int) (2 ^ (2 * n)) 8).2 = 2 ^ (2 * n) / ((Nat.gcd u (2 ^ (2 * n)) : Nat) : Int) := by decide +kernel
