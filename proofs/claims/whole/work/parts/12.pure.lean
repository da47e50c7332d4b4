/-! what the two worlds are about, in whole numbers -/
/-- the vane of a work in a setting of n works -/
def vz (n s w : Int) : Int := s / 2 ^ (Int.toNat (2 * (n - 1 - w))) % 2 ^ 2
/-- a setting with the vane of one work turned -/
def tz (n s w v : Int) : Int := s + (v - vz n s w) * 2 ^ (Int.toNat (2 * (n - 1 - w)))
/-- what comes of a smell when the next one meets it -/
def opz (law there comes : Int) : Int := if law = 0 then there + comes else if law = 1 then (if there < comes then comes else there) else (if 0 ≤ there - comes then there - comes else 0 - (there - comes))
def sm (law : Int) (f : Nat → Int) : Nat → Int
  | 0 => 0
  | w + 1 => opz law (sm law f w) (f w)
def su (f : Nat → Int) : Nat → Int
  | 0 => 0
  | k + 1 => su f k + f k
def mx (f : Nat → Int) : Nat → Int
  | 0 => 0
  | k + 1 => if mx f k < f k then f k else mx f k
/-- the first of the least ones -/
def am (g : Nat → Int) : Nat → Int × Int
  | 0 => (0, 1000000)
  | v + 1 => if g v < (am g v).2 then ((v : Int), g v) else am g v
/-- how many of n are x -/
def ct (its : Nat → Int) (x : Int) : Nat → Int
  | 0 => 0
  | k + 1 => ct its x k + (if its k = x then 1 else 0)
/-- the first of the most ones -/
def wn (cnt : Nat → Int) : Nat → Int × Int
  | 0 => (0, 0)
  | v + 1 => if (wn cnt v).2 < cnt v then ((v : Int), cnt v) else wn cnt v
/-- how many of n are so, and the first of them -/
def cn (P : Nat → Bool) : Nat → Int
  | 0 => 0
  | k + 1 => cn P k + (if P k = true then 1 else 0)
def fi (P : Nat → Bool) : Nat → Int
  | 0 => -9
  | k + 1 => if fi P k < 0 then (if P k = true then (k : Int) else fi P k) else fi P k
/-- what a ward minds of a smell of 1 -/
def fz (kd ns : Int) : Int := if kd = 2 then 2 * (ns + 1) else if kd = 1 then ns + 1 else ns
theorem opz_bd {law a b m n : Int} (h1 : 0 ≤ a ∧ a ≤ m) (h2 : 0 ≤ b ∧ b ≤ n) : 0 ≤ opz law a b ∧ opz law a b ≤ m + n := by
  unfold opz
  split
  · omega
  · split
    · split <;> omega
    · split <;> omega
theorem sm_bd {law : Int} {f : Nat → Int} {n : Nat} (h : ∀ w, w < n → 0 ≤ f w ∧ f w ≤ 9) : 0 ≤ sm law f n ∧ sm law f n ≤ 9 * n := by
  induction n with
  | zero => simp [sm]
  | succ n ih =>
    have h1 := ih (fun w hw => h w (by omega))
    have h2 := opz_bd (law := law) h1 (h n (by omega))
    simp only [sm]
    omega
theorem sm_congr {law : Int} {f g : Nat → Int} {n : Nat} (h : ∀ w, w < n → f w = g w) : sm law f n = sm law g n := by
  induction n with
  | zero => rfl
  | succ n ih => simp only [sm]; rw [ih (fun w hw => h w (by omega)), h n (by omega)]
theorem su_congr {f g : Nat → Int} {n : Nat} (h : ∀ w, w < n → f w = g w) : su f n = su g n := by
  induction n with
  | zero => rfl
  | succ n ih => simp only [su]; rw [ih (fun w hw => h w (by omega)), h n (by omega)]
theorem mx_congr {f g : Nat → Int} {n : Nat} (h : ∀ w, w < n → f w = g w) : mx f n = mx g n := by
  induction n with
  | zero => rfl
  | succ n ih => simp only [mx]; rw [ih (fun w hw => h w (by omega)), h n (by omega)]
theorem am_congr {f g : Nat → Int} {n : Nat} (h : ∀ w, w < n → f w = g w) : am f n = am g n := by
  induction n with
  | zero => rfl
  | succ n ih => simp only [am]; rw [ih (fun w hw => h w (by omega)), h n (by omega)]
theorem ct_congr {f g : Nat → Int} {x : Int} {n : Nat} (h : ∀ w, w < n → f w = g w) : ct f x n = ct g x n := by
  induction n with
  | zero => rfl
  | succ n ih => simp only [ct]; rw [ih (fun w hw => h w (by omega)), h n (by omega)]
theorem wn_congr {f g : Nat → Int} {n : Nat} (h : ∀ w, w < n → f w = g w) : wn f n = wn g n := by
  induction n with
  | zero => rfl
  | succ n ih => simp only [wn]; rw [ih (fun w hw => h w (by omega)), h n (by omega)]
theorem su_bd {f : Nat → Int} {n : Nat} {b : Int} (h : ∀ w, w < n → 0 ≤ f w ∧ f w ≤ b) : 0 ≤ su f n ∧ su f n ≤ b * n := by
  induction n with
  | zero => simp [su]
  | succ n ih =>
    have h1 := ih (fun w hw => h w (by omega))
    have h2 := h n (by omega)
    have e : b * ((n + 1 : Nat) : Int) = b * n + b := by rw [Int.natCast_add, Int.mul_add]; simp
    simp only [su]
    rw [e]
    omega
theorem mx_bd {f : Nat → Int} {n : Nat} {b : Int} (hb : 0 ≤ b) (h : ∀ w, w < n → 0 ≤ f w ∧ f w ≤ b) : 0 ≤ mx f n ∧ mx f n ≤ b := by
  induction n with
  | zero => simp [mx]; omega
  | succ n ih =>
    have h1 := ih (fun w hw => h w (by omega))
    have h2 := h n (by omega)
    simp only [mx]
    split <;> omega
theorem am_bd {g : Nat → Int} {n : Nat} (h : ∀ w, w < n → 0 ≤ g w ∧ g w < 1000000) : 0 ≤ (am g n).1 ∧ (am g n).1 < (if n = 0 then 1 else (n : Int)) ∧ 0 ≤ (am g n).2 ∧ (am g n).2 ≤ 1000000 := by
  induction n with
  | zero => simp [am]
  | succ n ih =>
    have h1 := ih (fun w hw => h w (by omega))
    have h2 := h n (by omega)
    simp only [am]
    split
    · simp only; split <;> omega
    · split at h1 <;> split <;> omega
theorem ct_bd {its : Nat → Int} {x : Int} {n : Nat} : 0 ≤ ct its x n ∧ ct its x n ≤ n := by
  induction n with
  | zero => simp [ct]
  | succ n ih => simp only [ct]; split <;> omega
theorem wn_bd {cnt : Nat → Int} {n : Nat} {b : Int} (hb : 0 ≤ b) (h : ∀ w, w < n → 0 ≤ cnt w ∧ cnt w ≤ b) : 0 ≤ (wn cnt n).1 ∧ (wn cnt n).1 < (if n = 0 then 1 else (n : Int)) ∧ 0 ≤ (wn cnt n).2 ∧ (wn cnt n).2 ≤ b := by
  induction n with
  | zero => simp [wn]; omega
  | succ n ih =>
    have h1 := ih (fun w hw => h w (by omega))
    have h2 := h n (by omega)
    simp only [wn]
    split
    · simp only; split <;> omega
    · split at h1 <;> split <;> omega
theorem cn_bd {P : Nat → Bool} {n : Nat} : 0 ≤ cn P n ∧ cn P n ≤ n := by
  induction n with
  | zero => simp [cn]
  | succ n ih => simp only [cn]; split <;> omega
theorem fi_bd {P : Nat → Bool} {n : Nat} : -9 ≤ fi P n ∧ fi P n < (if n = 0 then 1 else (n : Int)) ∧ (fi P n < 0 → fi P n = -9) := by
  induction n with
  | zero => simp [fi]
  | succ n ih =>
    simp only [fi]
    split
    · split
      · split <;> omega
      · split at ih <;> split <;> omega
    · split at ih <;> split <;> omega
theorem vz_bd (n s w : Int) : 0 ≤ vz n s w ∧ vz n s w < 4 := by unfold vz; omega
theorem fz_bd {k n : Int} (h : 0 ≤ n ∧ n ≤ 9) : 0 ≤ fz k n ∧ fz k n ≤ 20 := by
  unfold fz
  split
  · omega
  · split <;> omega
