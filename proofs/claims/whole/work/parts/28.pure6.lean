/-! the model's calls: what they need -/
def jm9 (R R' : Nat → Nat → Int) : Prop := ∀ q, q ≠ 22 → q ≠ 30 → R q = R' q
/-- the model's whole state: the town, the fault, the sheets -/
def MV (F : Nat → Int) (R : Nat → Nat → Int) : Prop := MI F R ∧ (0 ≤ F 0 ∧ F 0 ≤ 4) ∧ (∀ k, k < 4 → (-1 ≤ R 27 k ∧ R 27 k ≤ 60) ∧ (0 ≤ R 28 k ∧ R 28 k ≤ 2)) ∧ (∀ j, j < 240 → -2147483648 ≤ R 29 j ∧ R 29 j < 2147483648)
theorem MV.town {F : Nat → Int} {R : Nat → Nat → Int} (h : MV F R) : MI F R := h.1
theorem MV.size {F : Nat → Int} {R : Nat → Nat → Int} (h : MV F R) {k : Nat} (hk : k < 4) : -1 ≤ R 27 k ∧ R 27 k ≤ 60 := (h.2.2.1 k hk).1
theorem MV.lane {F : Nat → Int} {R : Nat → Nat → Int} (h : MV F R) {k : Nat} (hk : k < 4) : 0 ≤ R 28 k ∧ R 28 k ≤ 2 := (h.2.2.1 k hk).2
theorem MV.row {F : Nat → Int} {R : Nat → Nat → Int} (h : MV F R) {j : Nat} (hj : j < 240) : -2147483648 ≤ R 29 j ∧ R 29 j < 2147483648 := h.2.2.2 j hj
theorem av_mono {f : Nat → Int} {w n : Nat} (hw : w ≤ n) (h : av f n = true) : av f w = true := by
  induction n with
  | zero => rw [show w = 0 by omega]; rfl
  | succ n ih =>
    by_cases e : w = n + 1
    · rw [e]; exact h
    · simp only [av, Bool.and_eq_true] at h
      exact ih (by omega) h.1
theorem av_at {f : Nat → Int} {w n : Nat} (hw : w < n) (h : av f n = true) : 0 ≤ f w ∧ f w ≤ 3 := by
  have h1 := av_mono (show w + 1 ≤ n from hw) h
  simp only [av, Bool.and_eq_true, decide_eq_true_eq] at h1
  exact h1.2
/-- how many are unset -/
def cneg (fy : Nat → Int) : Int := cn (fun j => decide (fy j < 0)) 256
theorem cn_u1 {f : Nat → Int} {k : Nat} {x : Int} (h : f k < 0) (hx : 0 ≤ x) : ∀ n : Nat, cn (fun j => decide (u1 f k x j < 0)) n = if k < n then cn (fun j => decide (f j < 0)) n - 1 else cn (fun j => decide (f j < 0)) n := by
  intro n
  induction n with
  | zero => rw [if_neg (by omega)]; rfl
  | succ n ih =>
    have hs : ∀ (P : Nat → Bool), cn P (n + 1) = if P n = true then cn P n + 1 else cn P n := fun P => by simp only [cn]; split <;> omega
    rw [hs, hs, ih]
    by_cases e : n = k
    · subst e
      have h1 : ¬ (decide (u1 f n x n < 0) = true) := by rw [u1_s, decide_eq_true_eq]; omega
      have h2 : decide (f n < 0) = true := decide_eq_true h
      rw [if_neg h1, if_pos h2, if_neg (Nat.lt_irrefl n), if_pos (Nat.lt_succ_self n)]
      omega
    · have h1 : u1 f k x n = f n := u1_n e
      simp only [h1]
      by_cases e2 : k < n
      · rw [if_pos e2, if_pos (show k < n + 1 by omega)]
        split <;> omega
      · rw [if_neg e2, if_neg (show ¬ k < n + 1 by omega)]
theorem cneg_s {fy : Nat → Int} {k : Nat} {x : Int} (hk : k < 256) (h : fy k < 0) (hx : 0 ≤ x) : cneg (u1 fy k x) = cneg fy - 1 := by
  unfold cneg
  rw [cn_u1 h hx, if_pos hk]
theorem cneg_0 {f : Nat → Int} : cneg (fl f (-9) 256) = 256 := by
  have key : ∀ n : Nat, n ≤ 256 → cn (fun j => decide (fl f (-9) 256 j < 0)) n = n := by
    intro n
    induction n with
    | zero => intro _; rfl
    | succ n ih =>
      intro hn
      simp only [cn, ih (by omega)]
      rw [if_pos (by simp only [fl, if_pos (show n < 256 by omega)]; decide)]
      omega
  exact key 256 (Nat.le_refl _)
theorem cneg_pos {fy : Nat → Int} {k : Nat} (hk : k < 256) (h : fy k < 0) : 1 ≤ cneg fy := by
  have h1 := cneg_s (x := 0) hk h (by omega)
  have h2 := cn_bd (P := fun j => decide (u1 fy k 0 j < 0)) (n := 256)
  unfold cneg at h1 ⊢
  omega
/-- the years till vanes come again -/
def rom (F : Nat → Int) (R : Nat → Nat → Int) : Nat → Int → (Nat → Int) → (Nat → Int) → Int × Int
  | 0, i, V, fy => (fy (Int.toNat (en V (Int.toNat (F 3)))), i)
  | k + 1, i, V, fy => if fy (Int.toNat (en V (Int.toNat (F 3)))) < 0 then rom F R k (i + 1) (ym F (uR R 6 V) (Int.toNat (F 3))) (u1 fy (Int.toNat (en V (Int.toNat (F 3)))) i) else (fy (Int.toNat (en V (Int.toNat (F 3)))), i)
theorem rom_t {F : Nat → Int} {R : Nat → Nat → Int} {k : Nat} {i : Int} {V fy : Nat → Int} (h : fy (Int.toNat (en V (Int.toNat (F 3)))) < 0) : rom F R (k + 1) i V fy = rom F R k (i + 1) (ym F (uR R 6 V) (Int.toNat (F 3))) (u1 fy (Int.toNat (en V (Int.toNat (F 3)))) i) := if_pos h
theorem rom_f {F : Nat → Int} {R : Nat → Nat → Int} {k : Nat} {i : Int} {V fy : Nat → Int} (h : ¬ fy (Int.toNat (en V (Int.toNat (F 3)))) < 0) : rom F R (k + 1) i V fy = (fy (Int.toNat (en V (Int.toNat (F 3)))), i) := if_neg h
theorem ym_22 {F : Nat → Int} {R : Nat → Nat → Int} {g V : Nat → Int} : ∀ w : Nat, ym F (uR (uR R 22 g) 6 V) w = ym F (uR R 6 V) w := by
  intro w
  induction w with
  | zero => rfl
  | succ w ih =>
    simp only [ym]
    rw [ih]
    rfl
theorem ym_hi {F : Nat → Int} {R : Nat → Nat → Int} {n x : Nat} (h : n ≤ x) : ym F R n x = R 6 x := by
  induction n with
  | zero => rfl
  | succ n ih =>
    simp only [ym]
    rw [u1_n (by omega)]
    exact ih (by omega)
def fyM (i : Int) (fy : Nat → Int) : Prop := ∀ j : Nat, j < 256 → -9 ≤ fy j ∧ fy j ≤ i
theorem fyM_0 {f : Nat → Int} : fyM 0 (fl f (-9) 256) := by
  intro j hj
  unfold fl
  rw [if_pos hj]
  omega
theorem fyM_s {i : Int} {fy : Nat → Int} {k : Nat} (hi : 0 ≤ i) (h : fyM i fy) : fyM (i + 1) (u1 fy k i) := by
  intro j hj
  have := h j hj
  unfold u1
  split <;> omega
theorem en_bd4 {F : Nat → Int} {V : Nat → Int} (hn : 0 ≤ F 3 ∧ F 3 ≤ 4) (h : ∀ w, w < 4 → 0 ≤ V w ∧ V w < 4) : 0 ≤ en V (Int.toNat (F 3)) ∧ en V (Int.toNat (F 3)) < 256 := by
  have h1 := en_bd (V := V) (Int.toNat (F 3)) (fun w hw => h w (by omega))
  have h2 := p4_bd (w := Int.toNat (F 3)) (by omega)
  omega
/-- the vanes turned back -/
theorem tA_back {F : Nat → Int} {R : Nat → Nat → Int} (h : MI F R) {V : Nat → Int} (hV : ∀ x : Nat, F 3 ≤ (x : Int) → V x = R 6 x) : tA (F 3) (en (R 6) (Int.toNat (F 3))) V = R 6 := by
  refine Eq.trans ?_ (tA_en h)
  funext w
  unfold tA
  split
  · rfl
  · exact hV w (by omega)
theorem MI_law {F : Nat → Int} {R : Nat → Nat → Int} (h : MI F R) {x : Int} (hx : 0 ≤ x ∧ x ≤ 2) : MI (u1 F 11 x) R := ⟨h.1, h.2.1, hx, h.2.2.2⟩
theorem MI_str {F : Nat → Int} {R : Nat → Nat → Int} (h : MI F R) {w : Nat} {x : Int} (hx : 0 ≤ x ∧ x ≤ 9) : MI F (uR R 5 (u1 (R 5) w x)) := ⟨h.1, h.2.1, h.2.2.1, h.2.2.2.1, h.2.2.2.2.1, h.2.2.2.2.2.1, h.2.2.2.2.2.2.1, h.2.2.2.2.2.2.2.1, fun k hk => by
  show 0 ≤ (if k = w then x else R 5 k) ∧ (if k = w then x else R 5 k) ≤ 9
  split
  · exact hx
  · exact h.str k hk, h.2.2.2.2.2.2.2.2.2⟩
theorem fi_t {P : Nat → Bool} {n : Nat} (h : P n = true) : fi P (n + 1) = if fi P n < 0 then (n : Int) else fi P n := by simp only [fi]; rw [if_pos h]
theorem fi_f {P : Nat → Bool} {n : Nat} (h : ¬ P n = true) : fi P (n + 1) = fi P n := by simp only [fi]; rw [if_neg h]; split <;> rfl
/-- the set so far and how many of it -/
theorem br_pc {P : Nat → Bool} {n : Nat} : ((br P n).1 < 0 → (br P n).2 = 7) ∧ (0 ≤ (br P n).1 → (br P n).2 = pcz (Int.toNat (br P n).1)) := by
  induction n with
  | zero => exact ⟨fun _ => rfl, fun h => absurd h (show ¬ (0 : Int) ≤ -9 by decide)⟩
  | succ n ih =>
    simp only [br]
    split
    · refine ⟨fun h => ?_, fun _ => ?_⟩
      · simp only at h; omega
      · simp only [Int.toNat_natCast]
    · exact ih
