/-! what the check's model makes of its world -/
/-- how a cell smells -/
def ms (F : Nat → Int) (R : Nat → Nat → Int) (c : Int) : Int := sm (F 11) (fun w : Nat => k_X4_comesTo F R (w : Int) c) (Int.toNat (F 3))
def mm (F : Nat → Int) (R : Nat → Nat → Int) (k : Nat) : Int := fz (R 9 k) (R 10 k) * ms F R (R 8 k)
def vm (F : Nat → Int) (R : Nat → Nat → Int) (k : Nat) (w : Int) : Int := (am (fun v : Nat => mm F (uR R 6 (u1 (R 6) (Int.toNat w) (v : Int))) k) 4).1
def wm (F : Nat → Int) (R : Nat → Nat → Int) (w b v : Int) : Int := wi (bv b v (fun k : Nat => vm F R k w)) (Int.toNat (F 7))
def ym (F : Nat → Int) (R : Nat → Nat → Int) : Nat → (Nat → Int)
  | 0 => R 6
  | w + 1 => u1 (ym F R w) w (wm F (uR R 6 (ym F R w)) (w : Int) 0 0)
def yc (F : Nat → Int) (R : Nat → Nat → Int) : Nat → Int
  | 0 => 0
  | w + 1 => if wm F (uR R 6 (ym F R w)) (w : Int) 0 0 = ym F R w w then yc F R w else yc F R w + 1
def aM (F : Nat → Int) (R : Nat → Nat → Int) : Nat → Bool
  | 0 => true
  | x + 1 => aM F R x && decide (ms F R (R 25 x) = R 26 x)
/-- the world by a setting -/
def wt (F : Nat → Int) (R : Nat → Nat → Int) (t : Int) : Nat → Nat → Int := uR R 6 (tA (F 3) t (R 6))
theorem km_bd {F : Nat → Int} {R : Nat → Nat → Int} (h : MI F R) {w : Nat} (hw : w < 4) {c : Int} : 0 ≤ k_X4_comesTo F R (w : Int) c ∧ k_X4_comesTo F R (w : Int) c ≤ 9 := by
  have h1 := h.str w hw
  unfold k_X4_comesTo
  rw [Int.toNat_natCast]
  repeat' split
  all_goals omega
theorem ms_bd {F : Nat → Int} {R : Nat → Nat → Int} (h : MI F R) {c : Int} : 0 ≤ ms F R c ∧ ms F R c ≤ 36 := by
  have h1 := h.works
  have h2 := sm_bd (law := F 11) (f := fun w : Nat => k_X4_comesTo F R (w : Int) c) (n := Int.toNat (F 3)) (fun w hw => km_bd h (by omega))
  unfold ms
  omega
theorem mm_bd {F : Nat → Int} {R : Nat → Nat → Int} (h : MI F R) {k : Nat} (hk : k < 6) : 0 ≤ mm F R k ∧ mm F R k ≤ 720 := by
  have h1 := fz_bd (k := R 9 k) (h.nose k hk)
  have h2 := ms_bd h (c := R 8 k)
  unfold mm
  refine ⟨Int.mul_nonneg h1.1 h2.1, ?_⟩
  have h3 := Int.mul_le_mul h1.2 h2.2 h2.1 (by omega)
  omega
theorem vm_bd {F : Nat → Int} {R : Nat → Nat → Int} (h : MI F R) {k : Nat} (hk : k < 6) {w : Int} : 0 ≤ vm F R k w ∧ vm F R k w < 4 := by
  have h1 := am_bd (g := fun v : Nat => mm F (uR R 6 (u1 (R 6) (Int.toNat w) (v : Int))) k) (n := 4) (fun v hv => by
    have h2 := mm_bd (h.turn (h.u1 (w := Int.toNat w) (v := (v : Int)) (by omega))) hk
    exact ⟨h2.1, by first | omega | (simp only; omega)⟩)
  unfold vm
  exact ⟨h1.1, by have := h1.2.1; simpa using this⟩
theorem ym_ok {F : Nat → Int} {R : Nat → Nat → Int} (h : MI F R) (w : Nat) : ∀ x, x < 4 → 0 ≤ ym F R w x ∧ ym F R w x < 4 := by
  induction w with
  | zero => exact h.vane
  | succ w ih =>
    intro x hx
    show 0 ≤ (if x = w then wm F (uR R 6 (ym F R w)) (w : Int) 0 0 else ym F R w x) ∧ (if x = w then wm F (uR R 6 (ym F R w)) (w : Int) 0 0 else ym F R w x) < 4
    split
    · exact wi_bd
    · exact ih x hx
theorem yc_bd {F : Nat → Int} {R : Nat → Nat → Int} {w : Nat} : 0 ≤ yc F R w ∧ yc F R w ≤ w := by
  induction w with
  | zero => simp [yc]
  | succ w ih => simp only [yc]; split <;> omega
theorem MI.wt {F : Nat → Int} {R : Nat → Nat → Int} (h : MI F R) {t : Int} : MI F (wt F R t) := h.turn (tA_ok h)
theorem MI.yr {F : Nat → Int} {R : Nat → Nat → Int} (h : MI F R) {w : Nat} : MI F (uR R 6 (ym F R w)) := h.turn (ym_ok h w)
theorem MI.wide2 {F : Nat → Int} {R : Nat → Nat → Int} (h : MI F R) (h3 : 0 < F 3 ∨ 0 < F 7 ∨ ¬ F 1 = 0) : 2 ≤ F 2 := by
  rcases h.some with e | e
  · omega
  · exact e.2
theorem wt_wt {F : Nat → Int} {R : Nat → Nat → Int} {s t : Int} : uR (wt F R s) 6 (tA (F 3) t (wt F R s 6)) = wt F R t := by
  show uR (uR R 6 (tA (F 3) s (R 6))) 6 (tA (F 3) t (uR R 6 (tA (F 3) s (R 6)) 6)) = uR R 6 (tA (F 3) t (R 6))
  rw [uR_u, show uR R 6 (tA (F 3) s (R 6)) 6 = tA (F 3) s (R 6) from by simp [uR], tA_tA]
theorem wt_en {F : Nat → Int} {R : Nat → Nat → Int} (h : MI F R) : wt F R (en (R 6) (Int.toNat (F 3))) = R := by
  unfold wt
  rw [tA_en h, uR_id]
theorem smS {law : Int} {f : Nat → Int} {w : Nat} : sm law f (w + 1) = opz law (sm law f w) (f w) := rfl
/-- the least so far, -1 before all -/
def lf (g : Nat → Int) (n : Nat) : Int := if n = 0 then -1 else (am g n).2
def mf (g : Nat → Int) (n : Nat) : Int := if n = 0 then -1 else (wn g n).2
theorem lf_s {g : Nat → Int} {n : Nat} : lf g (n + 1) = (am g (n + 1)).2 := rfl
theorem lf_bd {g : Nat → Int} {n : Nat} (hb : ∀ x, x < n → 0 ≤ g x ∧ g x < 1000000) : -1 ≤ lf g n ∧ lf g n ≤ 1000000 := by
  have h := am_bd hb
  unfold lf
  split <;> omega
theorem lf_a {g : Nat → Int} {v : Nat} (hb : ∀ x, x ≤ v → 0 ≤ g x ∧ g x < 1000000) (h : lf g v < 0) : am g (v + 1) = ((v : Int), g v) := by
  have h1 := am_bd (g := g) (n := v) (fun x hx => hb x (by omega))
  unfold lf at h
  split at h
  · next e => subst e; exact am_s1 (by have := hb 0 (by omega); simp only [am]; omega)
  · omega
theorem lf_b {g : Nat → Int} {v : Nat} (hb : ∀ x, x ≤ v → 0 ≤ g x ∧ g x < 1000000) (h : g v < lf g v) : am g (v + 1) = ((v : Int), g v) := by
  have h1 := hb v (by omega)
  unfold lf at h
  split at h
  · omega
  · exact am_s1 h
theorem lf_c {g : Nat → Int} {v : Nat} (hb : ∀ x, x ≤ v → 0 ≤ g x ∧ g x < 1000000) (h1 : 0 ≤ lf g v) (h2 : lf g v ≤ g v) : am g (v + 1) = am g v ∧ ¬ (am g v).1 = (v : Int) := by
  have h3 := am_bd (g := g) (n := v) (fun x hx => hb x (by omega))
  have h4 := h3.2.1
  unfold lf at h1 h2
  split at h1
  · omega
  · next e =>
    rw [if_neg e] at h2 h4
    exact ⟨am_s2 h2, by omega⟩
theorem mf_bd {g : Nat → Int} {n : Nat} {b : Int} (hb : 0 ≤ b) (h : ∀ w, w < n → 0 ≤ g w ∧ g w ≤ b) : -1 ≤ mf g n ∧ mf g n ≤ b := by
  have h1 := wn_bd hb h
  unfold mf
  split <;> omega
theorem mf_a {g : Nat → Int} {x : Nat} (hb : ∀ y, 0 ≤ g y) (h : mf g x < g x) : (wn g (x + 1)).1 = (x : Int) ∧ mf g (x + 1) = g x := by
  have h0 := hb x
  unfold mf at h ⊢
  rw [if_neg (by omega)]
  split at h
  · next e =>
    subst e
    by_cases h1 : (wn g 0).2 < g 0
    · rw [wn_s1 h1]; exact ⟨rfl, rfl⟩
    · rw [wn_s2 (Int.not_lt.mp h1)]
      simp only [wn] at h1 ⊢
      exact ⟨rfl, by omega⟩
  · rw [wn_s1 h]; exact ⟨rfl, rfl⟩
theorem mf_c {g : Nat → Int} {x : Nat} (hb : ∀ y, 0 ≤ g y) (h : g x ≤ mf g x) : (wn g (x + 1)).1 = (wn g x).1 ∧ mf g (x + 1) = mf g x := by
  have h0 := hb x
  unfold mf at h ⊢
  rw [if_neg (by omega)]
  split at h
  · omega
  · next e => rw [if_neg e, wn_s2 h]; exact ⟨rfl, rfl⟩
theorem p4 {w : Nat} : (2 : Int) ^ (2 * w) * 4 = 2 ^ (2 * (w + 1)) := by
  rw [show 2 * (w + 1) = 2 * w + 2 by omega, Int.pow_add]; rfl
theorem p4_bd {w : Nat} (h : w ≤ 4) : 1 ≤ (2 : Int) ^ (2 * w) ∧ (2 : Int) ^ (2 * w) ≤ 256 := by
  rcases (show w = 0 ∨ w = 1 ∨ w = 2 ∨ w = 3 ∨ w = 4 by omega) with rfl | rfl | rfl | rfl | rfl <;> decide
theorem dv4 {s : Int} {a b : Nat} (h : b = a + 2) : s / 2 ^ a / 4 = s / 2 ^ b := by
  rw [Int.ediv_ediv_of_nonneg (Int.le_of_lt (Int.pow_pos (by decide))), h, Int.pow_add]
  rfl
/-- the vanes behind a work turned -/
def trn (n s : Int) (V : Nat → Int) (j : Nat) : Nat → Int := fun w => if j ≤ w ∧ (w : Int) < n then vz n s w else V w
theorem trn_n {n s : Int} {V : Nat → Int} {j : Nat} (h : n ≤ (j : Int)) : trn n s V j = V := by
  funext w
  unfold trn
  rw [if_neg (by omega)]
theorem trn_0 {n s : Int} {V : Nat → Int} : trn n s V 0 = tA n s V := by
  funext w
  unfold trn tA
  by_cases h : (w : Int) < n
  · rw [if_pos ⟨Nat.zero_le _, h⟩, if_pos h]
  · rw [if_neg (fun q => h q.2), if_neg h]
theorem trn_s {n s x : Int} {V : Nat → Int} {j k : Nat} (hk : k + 1 = j) (hj : (j : Int) ≤ n) (hx : x = vz n s k) : u1 (trn n s V j) k x = trn n s V k := by
  funext w
  unfold u1 trn
  by_cases h : w = k
  · subst h; rw [if_pos rfl, if_pos ⟨Nat.le_refl _, by omega⟩, hx]
  · rw [if_neg h]
    by_cases h2 : j ≤ w ∧ (w : Int) < n
    · rw [if_pos h2, if_pos ⟨by omega, h2.2⟩]
    · rw [if_neg h2, if_neg (by omega)]
theorem MI_least {F : Nat → Int} {R : Nat → Nat → Int} (h : MI F R) {x : Int} : MI (u1 F 23 x) R := h
