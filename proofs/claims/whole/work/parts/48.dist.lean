/-! the distances of a work, as the class writes them -/
theorem ps_e {r d : Int} (j : Nat) : ps r d j = r + d * j := by
  induction j with
  | zero => simp [ps]
  | succ j ih =>
    simp only [ps, ih]
    rw [Int.natCast_add, Int.mul_add]
    simp
    omega
theorem grid_inj {wd r c q m : Int} (hw : 2 ≤ wd ∧ wd ≤ 6) (hc : 0 ≤ c ∧ c < wd) (hm : 0 ≤ m ∧ m < wd) (h : r * wd + c = q * wd + m) : r = q ∧ c = m := by
  rcases (show wd = 2 ∨ wd = 3 ∨ wd = 4 ∨ wd = 5 ∨ wd = 6 by omega) with rfl | rfl | rfl | rfl | rfl <;> omega
theorem dm_at {T : Nat → Int} {hi wd b r0 c0 dr dc q m : Int} (hb : 0 ≤ b) (hw : 2 ≤ wd ∧ wd ≤ 6) (hq : 0 ≤ q ∧ q < hi) (hm : 0 ≤ m ∧ m < wd) : ∀ k : Nat, (∃ j : Nat, j < k ∧ ps r0 dr j = q ∧ ps c0 dc j = m ∧ (∀ i : Nat, j < i → i < k → ¬ (ps r0 dr i = q ∧ ps c0 dc i = m)) ∧ dm T hi wd b r0 c0 dr dc k (Int.toNat (b + q * wd + m)) = j) ∨ ((∀ j : Nat, j < k → ¬ (ps r0 dr j = q ∧ ps c0 dc j = m)) ∧ dm T hi wd b r0 c0 dr dc k (Int.toNat (b + q * wd + m)) = T (Int.toNat (b + q * wd + m))) := by
  have hqw : 0 ≤ q * wd := Int.mul_nonneg hq.1 (by omega)
  intro k
  induction k with
  | zero => exact Or.inr ⟨fun j hj => absurd hj (Nat.not_lt_zero j), rfl⟩
  | succ k ih =>
    by_cases e : ps r0 dr k = q ∧ ps c0 dc k = m
    · refine Or.inl ⟨k, Nat.lt_succ_self k, e.1, e.2, fun i h1 h2 => by omega, ?_⟩
      rw [dm_t (by rw [e.1, e.2]; exact ⟨hq, hm⟩), e.1, e.2, u1_s]
    · have hsame : dm T hi wd b r0 c0 dr dc (k + 1) (Int.toNat (b + q * wd + m)) = dm T hi wd b r0 c0 dr dc k (Int.toNat (b + q * wd + m)) := by
        by_cases g : (0 ≤ ps r0 dr k ∧ ps r0 dr k < hi) ∧ 0 ≤ ps c0 dc k ∧ ps c0 dc k < wd
        · rw [dm_t g]
          have hpw : 0 ≤ ps r0 dr k * wd := Int.mul_nonneg g.1.1 (by omega)
          exact u1_n (fun h9 => e (by
            have := grid_inj hw g.2 hm (r := ps r0 dr k) (q := q) (by omega)
            exact this))
        · rw [dm_f g]
      rcases ih with ⟨j, h1, h2, h3, h4, h5⟩ | ⟨h1, h2⟩
      · refine Or.inl ⟨j, by omega, h2, h3, fun i a b => ?_, hsame.trans h5⟩
        by_cases ei : i = k
        · rw [ei]; exact e
        · exact h4 i a (by omega)
      · refine Or.inr ⟨fun j hj => ?_, hsame.trans h2⟩
        by_cases ej : j = k
        · rw [ej]; exact e
        · exact h1 j (by omega)
theorem dsp_g {wd r0 c0 q m : Int} {v : Nat} (hw : 2 ≤ wd ∧ wd ≤ 6) (hc : 0 ≤ c0 ∧ c0 < wd) (hm : 0 ≤ m ∧ m < wd) : dsp wd (r0 * wd + c0) v (q * wd + m) = if v = 0 then (if m - c0 = 0 ∧ q - r0 ≤ 0 then -(q - r0) else 1000000) else if v = 1 then (if q - r0 = 0 ∧ 0 ≤ m - c0 then m - c0 else 1000000) else if v = 2 then (if m - c0 = 0 ∧ 0 ≤ q - r0 then q - r0 else 1000000) else (if q - r0 = 0 ∧ m - c0 ≤ 0 then -(m - c0) else 1000000) := by
  unfold dsp
  have h1 : (q * wd + m) / wd = q := by
    rcases (show wd = 2 ∨ wd = 3 ∨ wd = 4 ∨ wd = 5 ∨ wd = 6 by omega) with rfl | rfl | rfl | rfl | rfl <;> omega
  have h2 : (q * wd + m) % wd = m := by
    rcases (show wd = 2 ∨ wd = 3 ∨ wd = 4 ∨ wd = 5 ∨ wd = 6 by omega) with rfl | rfl | rfl | rfl | rfl <;> omega
  have h3 : (r0 * wd + c0) / wd = r0 := by
    rcases (show wd = 2 ∨ wd = 3 ∨ wd = 4 ∨ wd = 5 ∨ wd = 6 by omega) with rfl | rfl | rfl | rfl | rfl <;> omega
  have h4 : (r0 * wd + c0) % wd = c0 := by
    rcases (show wd = 2 ∨ wd = 3 ∨ wd = 4 ∨ wd = 5 ∨ wd = 6 by omega) with rfl | rfl | rfl | rfl | rfl <;> omega
  rw [h1, h2, h3, h4]
theorem sd_v (v : Nat) (hv : v < 4) : (v = 0 ∧ sd v = -1 ∧ sr v = 0) ∨ (v = 1 ∧ sd v = 0 ∧ sr v = 1) ∨ (v = 2 ∧ sd v = 1 ∧ sr v = 0) ∨ (v = 3 ∧ sd v = 0 ∧ sr v = -1) := by
  rcases (show v = 0 ∨ v = 1 ∨ v = 2 ∨ v = 3 by omega) with rfl | rfl | rfl | rfl <;> simp [sd, sr]
theorem dw_at {T : Nat → Int} {hi wd r0 c0 q m : Int} {w v : Nat} (hh : hi ≤ 4) (hw : 2 ≤ wd ∧ wd ≤ 6) (hr : 0 ≤ r0 ∧ r0 < hi) (hc : 0 ≤ c0 ∧ c0 < wd) (hq : 0 ≤ q ∧ q < hi) (hm : 0 ≤ m ∧ m < wd) (hv : v < 4) : dw T hi wd w v r0 c0 ((w * 4 + v) * 24 + Int.toNat (q * wd + m)) = dsp wd (r0 * wd + c0) v (q * wd + m) := by
  have hqw : 0 ≤ q * wd := Int.mul_nonneg hq.1 (by omega)
  have hqw2 : q * wd ≤ 3 * wd := Int.mul_le_mul_of_nonneg_right (by omega) (by omega)
  have hidx : (w * 4 + v) * 24 + Int.toNat (q * wd + m) = Int.toNat ((((w : Int) * 4 + (v : Int)) * 24) + q * wd + m) := by omega
  have hfb : fb T (Int.toNat (((w : Int) * 4 + (v : Int)) * 24)) 24 (Int.toNat (((w : Int) * 4 + (v : Int)) * 24 + q * wd + m)) = 1000000 := by
    have h6 : q * wd + m < 24 := by
      rcases (show wd = 2 ∨ wd = 3 ∨ wd = 4 ∨ wd = 5 ∨ wd = 6 by omega) with e | e | e | e | e <;> rw [e] at hm ⊢ <;> omega
    unfold fb
    rw [if_pos (by omega)]
  have h := dm_at (T := fb T (Int.toNat (((w : Int) * 4 + (v : Int)) * 24)) 24) (hi := hi) (wd := wd) (b := ((w : Int) * 4 + (v : Int)) * 24) (r0 := r0) (c0 := c0) (dr := sd v) (dc := sr v) (by omega) hw hq hm 6
  rw [dsp_g hw hc hm, hidx]
  unfold dw
  rw [Int.toNat_natCast]
  rcases h with ⟨j, h1, h2, h3, h4, h5⟩ | ⟨h1, h2⟩
  · rw [h5]
    rw [ps_e] at h2 h3
    rcases sd_v v hv with ⟨rfl, a, b⟩ | ⟨rfl, a, b⟩ | ⟨rfl, a, b⟩ | ⟨rfl, a, b⟩ <;> rw [a] at h2 <;> rw [b] at h3
    · rw [if_pos rfl, if_pos (by omega)]; omega
    · rw [if_neg (by decide), if_pos rfl, if_pos (by omega)]; omega
    · rw [if_neg (by decide), if_neg (by decide), if_pos rfl, if_pos (by omega)]; omega
    · rw [if_neg (by decide), if_neg (by decide), if_neg (by decide), if_pos (by omega)]; omega
  · rw [h2, hfb]
    rcases sd_v v hv with ⟨rfl, a, b⟩ | ⟨rfl, a, b⟩ | ⟨rfl, a, b⟩ | ⟨rfl, a, b⟩
    · rw [if_pos rfl, if_neg (fun g => h1 (Int.toNat (r0 - q)) (by omega) (by rw [ps_e, ps_e, a, b]; omega))]
    · rw [if_neg (by decide), if_pos rfl, if_neg (fun g => h1 (Int.toNat (m - c0)) (by omega) (by rw [ps_e, ps_e, a, b]; omega))]
    · rw [if_neg (by decide), if_neg (by decide), if_pos rfl, if_neg (fun g => h1 (Int.toNat (q - r0)) (by omega) (by rw [ps_e, ps_e, a, b]; omega))]
    · rw [if_neg (by decide), if_neg (by decide), if_neg (by decide), if_neg (fun g => h1 (Int.toNat (c0 - m)) (by omega) (by rw [ps_e, ps_e, a, b]; omega))]
