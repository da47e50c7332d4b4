/-! the check's model -/
/-- the vanes of a setting -/
def tA (n s : Int) (V : Nat → Int) : Nat → Int := fun w => if (w : Int) < n then vz n s w else V w
/-- the setting of the vanes -/
def en (V : Nat → Int) : Nat → Int
  | 0 => 0
  | w + 1 => 4 * en V w + V w
def MI (F : Nat → Int) (R : Nat → Nat → Int) : Prop := (0 ≤ F 3 ∧ F 3 ≤ 4) ∧ (0 ≤ F 7 ∧ F 7 ≤ 6) ∧ (0 ≤ F 11 ∧ F 11 ≤ 2) ∧ (0 ≤ F 24 ∧ F 24 ≤ 8) ∧ (0 ≤ F 1 ∧ F 1 ≤ 4) ∧ (0 ≤ F 2 ∧ F 2 ≤ 6) ∧ ((F 1 = 0 ∧ F 2 = 0 ∧ F 3 = 0 ∧ F 7 = 0) ∨ (1 ≤ F 1 ∧ 2 ≤ F 2)) ∧ (∀ w, w < 4 → 0 ≤ R 4 w ∧ R 4 w < 24) ∧ (∀ w, w < 4 → 0 ≤ R 5 w ∧ R 5 w ≤ 9) ∧ (∀ w, w < 4 → 0 ≤ R 6 w ∧ R 6 w < 4) ∧ (∀ k, k < 6 → 0 ≤ R 8 k ∧ R 8 k < 24) ∧ (∀ k, k < 6 → 0 ≤ R 9 k ∧ R 9 k ≤ 2) ∧ (∀ k, k < 6 → 0 ≤ R 10 k ∧ R 10 k ≤ 9) ∧ (∀ k, k < 8 → 0 ≤ R 25 k ∧ R 25 k < 24) ∧ (∀ k, k < 8 → 0 ≤ R 26 k ∧ R 26 k ≤ 99)
theorem MI.works {F : Nat → Int} {R : Nat → Nat → Int} (h : MI F R) : 0 ≤ F 3 ∧ F 3 ≤ 4 := h.1
theorem MI.wards {F : Nat → Int} {R : Nat → Nat → Int} (h : MI F R) : 0 ≤ F 7 ∧ F 7 ≤ 6 := h.2.1
theorem MI.law {F : Nat → Int} {R : Nat → Nat → Int} (h : MI F R) : 0 ≤ F 11 ∧ F 11 ≤ 2 := h.2.2.1
theorem MI.reads {F : Nat → Int} {R : Nat → Nat → Int} (h : MI F R) : 0 ≤ F 24 ∧ F 24 ≤ 8 := h.2.2.2.1
theorem MI.high {F : Nat → Int} {R : Nat → Nat → Int} (h : MI F R) : 0 ≤ F 1 ∧ F 1 ≤ 4 := h.2.2.2.2.1
theorem MI.wide {F : Nat → Int} {R : Nat → Nat → Int} (h : MI F R) : 0 ≤ F 2 ∧ F 2 ≤ 6 := h.2.2.2.2.2.1
theorem MI.some {F : Nat → Int} {R : Nat → Nat → Int} (h : MI F R) : (F 1 = 0 ∧ F 2 = 0 ∧ F 3 = 0 ∧ F 7 = 0) ∨ (1 ≤ F 1 ∧ 2 ≤ F 2) := h.2.2.2.2.2.2.1
theorem MI.win {F : Nat → Int} {R : Nat → Nat → Int} (h : MI F R) : ∀ w, w < 4 → 0 ≤ R 4 w ∧ R 4 w < 24 := h.2.2.2.2.2.2.2.1
theorem MI.str {F : Nat → Int} {R : Nat → Nat → Int} (h : MI F R) : ∀ w, w < 4 → 0 ≤ R 5 w ∧ R 5 w ≤ 9 := h.2.2.2.2.2.2.2.2.1
theorem MI.vane {F : Nat → Int} {R : Nat → Nat → Int} (h : MI F R) : ∀ w, w < 4 → 0 ≤ R 6 w ∧ R 6 w < 4 := h.2.2.2.2.2.2.2.2.2.1
theorem MI.wcell {F : Nat → Int} {R : Nat → Nat → Int} (h : MI F R) : ∀ k, k < 6 → 0 ≤ R 8 k ∧ R 8 k < 24 := h.2.2.2.2.2.2.2.2.2.2.1
theorem MI.kind {F : Nat → Int} {R : Nat → Nat → Int} (h : MI F R) : ∀ k, k < 6 → 0 ≤ R 9 k ∧ R 9 k ≤ 2 := h.2.2.2.2.2.2.2.2.2.2.2.1
theorem MI.nose {F : Nat → Int} {R : Nat → Nat → Int} (h : MI F R) : ∀ k, k < 6 → 0 ≤ R 10 k ∧ R 10 k ≤ 9 := h.2.2.2.2.2.2.2.2.2.2.2.2.1
theorem MI.rcell {F : Nat → Int} {R : Nat → Nat → Int} (h : MI F R) : ∀ k, k < 8 → 0 ≤ R 25 k ∧ R 25 k < 24 := h.2.2.2.2.2.2.2.2.2.2.2.2.2.1
theorem MI.rsm {F : Nat → Int} {R : Nat → Nat → Int} (h : MI F R) : ∀ k, k < 8 → 0 ≤ R 26 k ∧ R 26 k ≤ 99 := h.2.2.2.2.2.2.2.2.2.2.2.2.2.2
/-- other vanes -/
theorem MI.turn {F : Nat → Int} {R : Nat → Nat → Int} (h : MI F R) {V : Nat → Int} (hv : ∀ w, w < 4 → 0 ≤ V w ∧ V w < 4) : MI F (uR R 6 V) := ⟨h.1, h.2.1, h.2.2.1, h.2.2.2.1, h.2.2.2.2.1, h.2.2.2.2.2.1, h.2.2.2.2.2.2.1, h.2.2.2.2.2.2.2.1, h.2.2.2.2.2.2.2.2.1, hv, h.2.2.2.2.2.2.2.2.2.2⟩
theorem MI.u1 {F : Nat → Int} {R : Nat → Nat → Int} (h : MI F R) {w : Nat} {v : Int} (hv : 0 ≤ v ∧ v < 4) : ∀ x, x < 4 → 0 ≤ u1 (R 6) w v x ∧ u1 (R 6) w v x < 4 := by
  intro x hx
  show 0 ≤ (if x = w then v else R 6 x) ∧ (if x = w then v else R 6 x) < 4
  split
  · exact hv
  · exact h.vane x hx
theorem tA_ok {F : Nat → Int} {R : Nat → Nat → Int} (h : MI F R) {n s : Int} : ∀ x, x < 4 → 0 ≤ tA n s (R 6) x ∧ tA n s (R 6) x < 4 := by
  intro x hx
  unfold tA
  split
  · exact vz_bd _ _ _
  · exact h.vane x hx
theorem tA_tA {n s t : Int} {V : Nat → Int} : tA n t (tA n s V) = tA n t V := by
  funext w
  simp only [tA]
  split <;> rfl
theorem en_bd {V : Nat → Int} : ∀ n : Nat, (∀ w, w < n → 0 ≤ V w ∧ V w < 4) → 0 ≤ en V n ∧ en V n < 2 ^ (2 * n) := by
  intro n
  induction n with
  | zero => intro _; simp [en]
  | succ n ih =>
    intro h
    have h1 := ih (fun w hw => h w (by omega))
    have h2 := h n (by omega)
    have h3 : (2 : Int) ^ (2 * (n + 1)) = 2 ^ (2 * n) * 4 := by rw [show 2 * (n + 1) = 2 * n + 2 by omega, Int.pow_add]; rfl
    simp only [en]
    omega
theorem en_congr {V V' : Nat → Int} {n : Nat} (h : ∀ w, w < n → V w = V' w) : en V n = en V' n := by
  induction n with
  | zero => rfl
  | succ n ih => simp only [en]; rw [ih (fun w hw => h w (by omega)), h n (by omega)]
/-- the vanes of the vanes' setting -/
theorem vz_en {V : Nat → Int} {n : Nat} (hn : n ≤ 4) (h : ∀ w, w < n → 0 ≤ V w ∧ V w < 4) : ∀ w : Nat, w < n → vz n (en V n) w = V w := by
  intro w hw
  rcases (show n = 0 ∨ n = 1 ∨ n = 2 ∨ n = 3 ∨ n = 4 by omega) with rfl | rfl | rfl | rfl | rfl
  · omega
  · have h0 := h 0 (by omega)
    obtain rfl : w = 0 := by omega
    simp [vz, en]; omega
  · have h0 := h 0 (by omega)
    have h1 := h 1 (by omega)
    rcases (show w = 0 ∨ w = 1 by omega) with rfl | rfl <;> simp [vz, en] <;> omega
  · have h0 := h 0 (by omega)
    have h1 := h 1 (by omega)
    have h2 := h 2 (by omega)
    rcases (show w = 0 ∨ w = 1 ∨ w = 2 by omega) with rfl | rfl | rfl <;> simp [vz, en] <;> omega
  · have h0 := h 0 (by omega)
    have h1 := h 1 (by omega)
    have h2 := h 2 (by omega)
    have h3 := h 3 (by omega)
    rcases (show w = 0 ∨ w = 1 ∨ w = 2 ∨ w = 3 by omega) with rfl | rfl | rfl | rfl <;> simp [vz, en] <;> omega
theorem en_vz {n : Nat} {s : Int} (hn : n ≤ 4) (hs : 0 ≤ s ∧ s < 2 ^ (2 * n)) {V : Nat → Int} (h : ∀ w : Nat, w < n → V w = vz n s w) : en V n = s := by
  rcases (show n = 0 ∨ n = 1 ∨ n = 2 ∨ n = 3 ∨ n = 4 by omega) with rfl | rfl | rfl | rfl | rfl
  · simp at hs; simp [en]; omega
  · simp only [en, h 0 (by omega), vz] at hs ⊢; simp at hs ⊢; omega
  · simp only [en, h 0 (by omega), h 1 (by omega), vz] at hs ⊢; simp at hs ⊢; omega
  · simp only [en, h 0 (by omega), h 1 (by omega), h 2 (by omega), vz] at hs ⊢; simp at hs ⊢; omega
  · simp only [en, h 0 (by omega), h 1 (by omega), h 2 (by omega), h 3 (by omega), vz] at hs ⊢; simp at hs ⊢; omega
theorem tA_en {F : Nat → Int} {R : Nat → Nat → Int} (h : MI F R) : tA (F 3) (en (R 6) (Int.toNat (F 3))) (R 6) = R 6 := by
  have hw := h.works
  funext w
  unfold tA
  split
  · next hl =>
    have := vz_en (V := R 6) (n := Int.toNat (F 3)) (by omega) (fun w hw => h.vane w (by omega)) w (by omega)
    rw [show ((Int.toNat (F 3) : Nat) : Int) = F 3 by omega] at this
    exact this
  · rfl
