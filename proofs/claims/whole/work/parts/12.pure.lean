/-! what the two worlds are about, in whole numbers -/
/-- the vane of a work in a setting of n works -/
def vz (n s w : Int) : Int := s / 2 ^ (Int.toNat (2 * (n - 1 - w))) % 2 ^ 2
/-- a setting with the vane of one work turned -/
def tz (n s w v : Int) : Int := s + (v - vz n s w) * 2 ^ (Int.toNat (2 * (n - 1 - w)))
/-- what comes of a smell when the next one meets it -/
def opz (law there comes : Int) : Int := if law = 0 then there + comes else if law = 1 then (if there < comes then comes else there) else (if 0 ≤ there - comes then there - comes else 0 - (there - comes))
def sm (law : Int) (f : Nat → Int) : Nat → Int
  | 0 => 0
  | w + 1 => opz law (sm law f w) (f w)
def su (f : Nat → Int) : Nat → Int
  | 0 => 0
  | k + 1 => su f k + f k
def mx (f : Nat → Int) : Nat → Int
  | 0 => 0
  | k + 1 => if mx f k < f k then f k else mx f k
/-- the first of the least ones -/
def am (g : Nat → Int) : Nat → Int × Int
  | 0 => (0, 1000000)
  | v + 1 => if g v < (am g v).2 then ((v : Int), g v) else am g v
/-- how many of n are x -/
def ct (its : Nat → Int) (x : Int) : Nat → Int
  | 0 => 0
  | k + 1 => ct its x k + (if its k = x then 1 else 0)
/-- the first of the most ones -/
def wn (cnt : Nat → Int) : Nat → Int × Int
  | 0 => (0, 0)
  | v + 1 => if (wn cnt v).2 < cnt v then ((v : Int), cnt v) else wn cnt v
/-- how many of n are so, and the first of them -/
def cn (P : Nat → Bool) : Nat → Int
  | 0 => 0
  | k + 1 => cn P k + (if P k = true then 1 else 0)
def fi (P : Nat → Bool) : Nat → Int
  | 0 => -9
  | k + 1 => if fi P k < 0 then (if P k = true then (k : Int) else fi P k) else fi P k
/-- what a ward minds of a smell of 1 -/
def fz (kd ns : Int) : Int := if kd = 2 then 2 * (ns + 1) else if kd = 1 then ns + 1 else ns
theorem opz_bd {law a b m n : Int} (h1 : 0 ≤ a ∧ a ≤ m) (h2 : 0 ≤ b ∧ b ≤ n) : 0 ≤ opz law a b ∧ opz law a b ≤ m + n := by
  unfold opz
  split
  · omega
  · split
    · split <;> omega
    · split <;> omega
theorem sm_bd {law : Int} {f : Nat → Int} {n : Nat} (h : ∀ w, w < n → 0 ≤ f w ∧ f w ≤ 9) : 0 ≤ sm law f n ∧ sm law f n ≤ 9 * n := by
  induction n with
  | zero => simp [sm]
  | succ n ih =>
    have h1 := ih (fun w hw => h w (by omega))
    have h2 := opz_bd (law := law) h1 (h n (by omega))
    simp only [sm]
    omega
theorem sm_congr {law : Int} {f g : Nat → Int} {n : Nat} (h : ∀ w, w < n → f w = g w) : sm law f n = sm law g n := by
  induction n with
  | zero => rfl
  | succ n ih => simp only [sm]; rw [ih (fun w hw => h w (by omega)), h n (by omega)]
theorem su_congr {f g : Nat → Int} {n : Nat} (h : ∀ w, w < n → f w = g w) : su f n = su g n := by
  induction n with
  | zero => rfl
  | succ n ih => simp only [su]; rw [ih (fun w hw => h w (by omega)), h n (by omega)]
theorem mx_congr {f g : Nat → Int} {n : Nat} (h : ∀ w, w < n → f w = g w) : mx f n = mx g n := by
  induction n with
  | zero => rfl
  | succ n ih => simp only [mx]; rw [ih (fun w hw => h w (by omega)), h n (by omega)]
theorem am_congr {f g : Nat → Int} {n : Nat} (h : ∀ w, w < n → f w = g w) : am f n = am g n := by
  induction n with
  | zero => rfl
  | succ n ih => simp only [am]; rw [ih (fun w hw => h w (by omega)), h n (by omega)]
theorem ct_congr {f g : Nat → Int} {x : Int} {n : Nat} (h : ∀ w, w < n → f w = g w) : ct f x n = ct g x n := by
  induction n with
  | zero => rfl
  | succ n ih => simp only [ct]; rw [ih (fun w hw => h w (by omega)), h n (by omega)]
theorem wn_congr {f g : Nat → Int} {n : Nat} (h : ∀ w, w < n → f w = g w) : wn f n = wn g n := by
  induction n with
  | zero => rfl
  | succ n ih => simp only [wn]; rw [ih (fun w hw => h w (by omega)), h n (by omega)]
theorem su_bd {f : Nat → Int} {n : Nat} {b : Int} (h : ∀ w, w < n → 0 ≤ f w ∧ f w ≤ b) : 0 ≤ su f n ∧ su f n ≤ b * n := by
  induction n with
  | zero => simp [su]
  | succ n ih =>
    have h1 := ih (fun w hw => h w (by omega))
    have h2 := h n (by omega)
    have e : b * ((n + 1 : Nat) : Int) = b * n + b := by rw [Int.natCast_add, Int.mul_add]; simp
    simp only [su]
    rw [e]
    omega
theorem mx_bd {f : Nat → Int} {n : Nat} {b : Int} (hb : 0 ≤ b) (h : ∀ w, w < n → 0 ≤ f w ∧ f w ≤ b) : 0 ≤ mx f n ∧ mx f n ≤ b := by
  induction n with
  | zero => simp [mx]; omega
  | succ n ih =>
    have h1 := ih (fun w hw => h w (by omega))
    have h2 := h n (by omega)
    simp only [mx]
    split <;> omega
theorem am_bd {g : Nat → Int} {n : Nat} (h : ∀ w, w < n → 0 ≤ g w ∧ g w < 1000000) : 0 ≤ (am g n).1 ∧ (am g n).1 < (if n = 0 then 1 else (n : Int)) ∧ 0 ≤ (am g n).2 ∧ (am g n).2 ≤ 1000000 := by
  induction n with
  | zero => simp [am]
  | succ n ih =>
    have h1 := ih (fun w hw => h w (by omega))
    have h2 := h n (by omega)
    simp only [am]
    split
    · simp only; split <;> omega
    · split at h1 <;> split <;> omega
theorem ct_bd {its : Nat → Int} {x : Int} {n : Nat} : 0 ≤ ct its x n ∧ ct its x n ≤ n := by
  induction n with
  | zero => simp [ct]
  | succ n ih => simp only [ct]; split <;> omega
theorem wn_bd {cnt : Nat → Int} {n : Nat} {b : Int} (hb : 0 ≤ b) (h : ∀ w, w < n → 0 ≤ cnt w ∧ cnt w ≤ b) : 0 ≤ (wn cnt n).1 ∧ (wn cnt n).1 < (if n = 0 then 1 else (n : Int)) ∧ 0 ≤ (wn cnt n).2 ∧ (wn cnt n).2 ≤ b := by
  induction n with
  | zero => simp [wn]; omega
  | succ n ih =>
    have h1 := ih (fun w hw => h w (by omega))
    have h2 := h n (by omega)
    simp only [wn]
    split
    · simp only; split <;> omega
    · split at h1 <;> split <;> omega
theorem cn_bd {P : Nat → Bool} {n : Nat} : 0 ≤ cn P n ∧ cn P n ≤ n := by
  induction n with
  | zero => simp [cn]
  | succ n ih => simp only [cn]; split <;> omega
theorem fi_bd {P : Nat → Bool} {n : Nat} : -9 ≤ fi P n ∧ fi P n < (if n = 0 then 1 else (n : Int)) ∧ (fi P n < 0 → fi P n = -9) := by
  induction n with
  | zero => simp [fi]
  | succ n ih =>
    simp only [fi]
    split
    · split
      · split <;> omega
      · split at ih <;> split <;> omega
    · split at ih <;> split <;> omega
theorem vz_bd (n s w : Int) : 0 ≤ vz n s w ∧ vz n s w < 4 := by unfold vz; omega
theorem fz_bd {k n : Int} (h : 0 ≤ n ∧ n ≤ 9) : 0 ≤ fz k n ∧ fz k n ≤ 20 := by
  unfold fz
  split
  · omega
  · split <;> omega
/-- the class's town at place 5: what every one of its methods may count on -/
def TI (I R : Nat → Nat → Int) : Prop := (0 ≤ I 5 13 ∧ I 5 13 ≤ 4) ∧ (0 ≤ I 5 14 ∧ I 5 14 ≤ 6) ∧ (0 ≤ I 5 15 ∧ I 5 15 ≤ 2) ∧ (0 ≤ I 5 17 ∧ I 5 17 ≤ 8) ∧ (0 ≤ I 5 12 ∧ I 5 12 ≤ 24) ∧ (0 ≤ I 5 16 ∧ I 5 16 < 2 ^ (Int.toNat (2 * I 5 13))) ∧ (∀ w, w < 4 → 0 ≤ R 10 w ∧ R 10 w ≤ 9) ∧ (∀ j, j < 384 → 0 ≤ R 13 j ∧ R 13 j ≤ 1000000) ∧ (∀ k, k < 6 → 0 ≤ R 7 k ∧ R 7 k ≤ 9) ∧ (∀ k, k < 6 → 0 ≤ R 8 k ∧ R 8 k < 24) ∧ (∀ k, k < 6 → 0 ≤ R 6 k ∧ R 6 k ≤ 2) ∧ (∀ k, k < 4 → 0 ≤ R 9 k ∧ R 9 k < 24) ∧ (∀ k, k < 8 → 0 ≤ R 11 k ∧ R 11 k < 24) ∧ (∀ k, k < 8 → 0 ≤ R 12 k ∧ R 12 k ≤ 99)
theorem TI.works {I R : Nat → Nat → Int} (h : TI I R) : 0 ≤ I 5 13 ∧ I 5 13 ≤ 4 := h.1
theorem TI.wards {I R : Nat → Nat → Int} (h : TI I R) : 0 ≤ I 5 14 ∧ I 5 14 ≤ 6 := h.2.1
theorem TI.law {I R : Nat → Nat → Int} (h : TI I R) : 0 ≤ I 5 15 ∧ I 5 15 ≤ 2 := h.2.2.1
theorem TI.reads {I R : Nat → Nat → Int} (h : TI I R) : 0 ≤ I 5 17 ∧ I 5 17 ≤ 8 := h.2.2.2.1
theorem TI.cells {I R : Nat → Nat → Int} (h : TI I R) : 0 ≤ I 5 12 ∧ I 5 12 ≤ 24 := h.2.2.2.2.1
theorem TI.set {I R : Nat → Nat → Int} (h : TI I R) : 0 ≤ I 5 16 ∧ I 5 16 < 2 ^ (Int.toNat (2 * I 5 13)) := h.2.2.2.2.2.1
theorem TI.str {I R : Nat → Nat → Int} (h : TI I R) : ∀ w, w < 4 → 0 ≤ R 10 w ∧ R 10 w ≤ 9 := h.2.2.2.2.2.2.1
theorem TI.dist {I R : Nat → Nat → Int} (h : TI I R) : ∀ j, j < 384 → 0 ≤ R 13 j ∧ R 13 j ≤ 1000000 := h.2.2.2.2.2.2.2.1
theorem TI.nose {I R : Nat → Nat → Int} (h : TI I R) : ∀ k, k < 6 → 0 ≤ R 7 k ∧ R 7 k ≤ 9 := h.2.2.2.2.2.2.2.2.1
theorem TI.wcell {I R : Nat → Nat → Int} (h : TI I R) : ∀ k, k < 6 → 0 ≤ R 8 k ∧ R 8 k < 24 := h.2.2.2.2.2.2.2.2.2.1
theorem TI.kind {I R : Nat → Nat → Int} (h : TI I R) : ∀ k, k < 6 → 0 ≤ R 6 k ∧ R 6 k ≤ 2 := h.2.2.2.2.2.2.2.2.2.2.1
theorem TI.kcell {I R : Nat → Nat → Int} (h : TI I R) : ∀ k, k < 4 → 0 ≤ R 9 k ∧ R 9 k < 24 := h.2.2.2.2.2.2.2.2.2.2.2.1
theorem TI.rcell {I R : Nat → Nat → Int} (h : TI I R) : ∀ k, k < 8 → 0 ≤ R 11 k ∧ R 11 k < 24 := h.2.2.2.2.2.2.2.2.2.2.2.2.1
theorem TI.rsm {I R : Nat → Nat → Int} (h : TI I R) : ∀ k, k < 8 → 0 ≤ R 12 k ∧ R 12 k ≤ 99 := h.2.2.2.2.2.2.2.2.2.2.2.2.2
theorem TI.votes {I R : Nat → Nat → Int} (h : TI I R) (g : Nat → Int) : TI I (uR R 14 g) := h
/-- how strong work w smells at c, by the setting s -/
def cz (R : Nat → Nat → Int) (n s c : Int) (w : Nat) : Int := if 0 < R 10 w - R 13 (Int.toNat (((w : Int) * 4 + vz n s w) * 24 + c)) then R 10 w - R 13 (Int.toNat (((w : Int) * 4 + vz n s w) * 24 + c)) else 0
/-- the smell at c -/
def cs (I R : Nat → Nat → Int) (s c : Int) : Int := sm (I 5 15) (cz R (I 5 13) s c) (Int.toNat (I 5 13))
/-- what ward k minds -/
def mz (I R : Nat → Nat → Int) (s : Int) (k : Nat) : Int := fz (R 6 k) (R 7 k) * cs I R s (R 8 k)
/-- the vote of ward k on work w -/
def vo (I R : Nat → Nat → Int) (s : Int) (k : Nat) (w : Int) : Int := (am (fun v => mz I R (tz (I 5 13) s w v) k) 4).1
/-- who wins: n wards, the votes its -/
def wi (its : Nat → Int) (n : Nat) : Int := (wn (fun x => ct its x n) 4).1
/-- the votes where those of a set vote for v -/
def bv (b v : Int) (f : Nat → Int) : Nat → Int := fun k => if b / 2 ^ k % 2 ^ 1 = 1 then v else f k
/-- a year: the setting after w works' ballots -/
def ye (I R : Nat → Nat → Int) (s : Int) : Nat → Int
  | 0 => s
  | w + 1 => tz (I 5 13) (ye I R s w) w (wi (fun k => vo I R (ye I R s w) k w) (Int.toNat (I 5 14)))
theorem cz_bd {I R : Nat → Nat → Int} (h : TI I R) {n s c : Int} (hc : 0 ≤ c ∧ c < 24) {w : Nat} (hw : w < 4) : 0 ≤ cz R n s c w ∧ cz R n s c w ≤ 9 := by
  have h1 := h.str w hw
  have h2 := vz_bd n s w
  have h3 := h.dist (Int.toNat (((w : Int) * 4 + vz n s w) * 24 + c)) (by omega)
  unfold cz
  split <;> omega
theorem cs_bd {I R : Nat → Nat → Int} (h : TI I R) {s c : Int} (hc : 0 ≤ c ∧ c < 24) : 0 ≤ cs I R s c ∧ cs I R s c ≤ 36 := by
  have h1 := h.works
  have h2 := sm_bd (law := I 5 15) (f := cz R (I 5 13) s c) (n := Int.toNat (I 5 13)) (fun w hw => cz_bd h hc (by omega))
  unfold cs
  omega
theorem mz_bd {I R : Nat → Nat → Int} (h : TI I R) {s : Int} {k : Nat} (hk : k < 6) : 0 ≤ mz I R s k ∧ mz I R s k ≤ 720 := by
  have h1 := fz_bd (k := R 6 k) (h.nose k hk)
  have h2 := cs_bd h (s := s) (h.wcell k hk)
  unfold mz
  refine ⟨Int.mul_nonneg h1.1 h2.1, ?_⟩
  have h3 := Int.mul_le_mul h1.2 h2.2 h2.1 (by omega)
  omega
theorem pow_bd {a : Int} {n : Int} (hn : 0 ≤ n ∧ n ≤ 4) (h : 0 ≤ a ∧ a < 2 ^ (Int.toNat (2 * n))) : 0 ≤ a ∧ a < 256 := by
  rcases (show n = 0 ∨ n = 1 ∨ n = 2 ∨ n = 3 ∨ n = 4 by omega) with rfl | rfl | rfl | rfl | rfl <;> simp at h <;> omega
/-- turning a vane stays within the settings -/
theorem tz_bd {n s w v : Int} (hn : 0 ≤ n ∧ n ≤ 4) (hs : 0 ≤ s ∧ s < 2 ^ (Int.toNat (2 * n))) (hw : 0 ≤ w ∧ w < n) (hv : 0 ≤ v ∧ v < 4) : 0 ≤ tz n s w v ∧ tz n s w v < 2 ^ (Int.toNat (2 * n)) := by
  unfold tz vz
  rcases (show n = 0 ∨ n = 1 ∨ n = 2 ∨ n = 3 ∨ n = 4 by omega) with rfl | rfl | rfl | rfl | rfl
  · omega
  · have : w = 0 := by omega
    subst this; simp at hs ⊢; omega
  · rcases (show w = 0 ∨ w = 1 by omega) with rfl | rfl <;> simp at hs ⊢ <;> omega
  · rcases (show w = 0 ∨ w = 1 ∨ w = 2 by omega) with rfl | rfl | rfl <;> simp at hs ⊢ <;> omega
  · rcases (show w = 0 ∨ w = 1 ∨ w = 2 ∨ w = 3 by omega) with rfl | rfl | rfl | rfl <;> simp at hs ⊢ <;> omega
theorem vo_bd {I R : Nat → Nat → Int} (h : TI I R) {s w : Int} {k : Nat} (hk : k < 6) : 0 ≤ vo I R s k w ∧ vo I R s k w < 4 := by
  have h1 := am_bd (g := fun v => mz I R (tz (I 5 13) s w v) k) (n := 4) (fun v hv => by have := mz_bd h (s := tz (I 5 13) s w v) hk; omega)
  simp at h1
  unfold vo
  omega
theorem wi_bd {its : Nat → Int} {n : Nat} : 0 ≤ wi its n ∧ wi its n < 4 := by
  have h1 := wn_bd (cnt := fun x => ct its x n) (n := 4) (b := n) (by omega) (fun w hw => ct_bd)
  simp at h1
  unfold wi
  omega
theorem ye_bd {I R : Nat → Nat → Int} (h : TI I R) {s : Int} (hs : 0 ≤ s ∧ s < 2 ^ (Int.toNat (2 * I 5 13))) : ∀ w : Nat, (w : Int) ≤ I 5 13 → 0 ≤ ye I R s w ∧ ye I R s w < 2 ^ (Int.toNat (2 * I 5 13)) := by
  intro w
  induction w with
  | zero => intro _; exact hs
  | succ w ih =>
    intro hw
    exact tz_bd h.works (ih (by omega)) (by omega) wi_bd
theorem opz_0 {law a b : Int} (h : law = 0) : opz law a b = a + b := if_pos h
theorem opz_1 {law a b : Int} (h : law = 1) : opz law a b = if a < b then b else a := by subst h; rfl
theorem opz_2 {law a b : Int} (h : ¬ law = 0) (h1 : ¬ law = 1) : opz law a b = if 0 ≤ a - b then a - b else 0 - (a - b) := by unfold opz; rw [if_neg h, if_neg h1]
theorem am_s1 {g : Nat → Int} {v : Nat} (h : g v < (am g v).2) : am g (v + 1) = ((v : Int), g v) := if_pos h
theorem am_s2 {g : Nat → Int} {v : Nat} (h : (am g v).2 ≤ g v) : am g (v + 1) = am g v := if_neg (Int.not_lt.mpr h)
theorem wn_s1 {g : Nat → Int} {v : Nat} (h : (wn g v).2 < g v) : wn g (v + 1) = ((v : Int), g v) := if_pos h
theorem wn_s2 {g : Nat → Int} {v : Nat} (h : g v ≤ (wn g v).2) : wn g (v + 1) = wn g v := if_neg (Int.not_lt.mpr h)
theorem jz_turned : ∀ k : Nat, k < 4 → ∀ s : Nat, s < 256 → ∀ v : Nat, v < 4 → ((iI s) &&& (((iI 3) <<< ((iI (2 * k)) &&& 31)) ^^^ (iI (-1)))) ||| ((iI v) <<< ((iI (2 * k)) &&& 31)) = iI ((s : Int) + ((v : Int) - (s : Int) / 2 ^ (2 * k) % 2 ^ 2) * 2 ^ (2 * k)) := by decide +kernel
def cv (I R : Nat → Nat → Int) (s w : Int) (n : Nat) (g0 : Nat → Int) : Nat → Int := fun k => if k < n then vo I R s k w else g0 k
theorem bv_0 (f : Nat → Int) : bv 0 0 f = f := by funext k; simp [bv]
theorem wi_congr {f g : Nat → Int} {n : Nat} (h : ∀ k, k < n → f k = g k) : wi f n = wi g n := by
  unfold wi
  rw [wn_congr (fun x _ => ct_congr h)]
theorem wi_cv {I R : Nat → Nat → Int} {s w : Int} {n : Nat} {g0 : Nat → Int} : wi (cv I R s w n g0) n = wi (fun k => vo I R s k w) n := wi_congr (fun k hk => by unfold cv; rw [if_pos hk])
theorem wi_cvb {I R : Nat → Nat → Int} {s w b v : Int} {n : Nat} {g0 : Nat → Int} : wi (bv b v (cv I R s w n g0)) n = wi (bv b v (fun k => vo I R s k w)) n := wi_congr (fun k hk => by simp only [bv, cv, if_pos hk])
theorem cv_0 {I R : Nat → Nat → Int} {s w : Int} {g0 : Nat → Int} : cv I R s w 0 g0 = g0 := by funext k; simp [cv]
theorem cv_s {I R : Nat → Nat → Int} {s w : Int} {n : Nat} {g0 : Nat → Int} : u1 (cv I R s w n g0) n (vo I R s n w) = cv I R s w (n + 1) g0 := by
  funext k
  simp only [u1, cv]
  by_cases h1 : k = n
  · subst h1; rw [if_pos rfl, if_pos (by omega)]
  · rw [if_neg h1]
    by_cases h2 : k < n
    · rw [if_pos h2, if_pos (by omega)]
    · rw [if_neg h2, if_neg (by omega)]
/-- how many bits -/
def pcz (n : Nat) : Int := ((n % 2 + n / 2 % 2 + n / 4 % 2 + n / 8 % 2 + n / 16 % 2 + n / 32 % 2 : Nat) : Int)
theorem pcz_bd (n : Nat) : 0 ≤ pcz n ∧ pcz n ≤ 6 := by unfold pcz; omega
/-- the fewest bribed -/
def br (P : Nat → Bool) : Nat → Int × Int
  | 0 => (-9, 7)
  | t + 1 => if pcz t < (br P t).2 ∧ P t = true then ((t : Int), pcz t) else br P t
theorem br_bd {P : Nat → Bool} {n : Nat} : -9 ≤ (br P n).1 ∧ (br P n).1 < (if n = 0 then 1 else (n : Int)) ∧ 0 ≤ (br P n).2 ∧ (br P n).2 ≤ 7 ∧ ((br P n).2 < 7 → 0 ≤ (br P n).1) ∧ ((br P n).2 = 7 → (br P n).1 = -9) := by
  induction n with
  | zero => simp [br]
  | succ n ih =>
    have h := pcz_bd n
    simp only [br]
    split
    · simp only; split <;> omega
    · split at ih <;> split <;> omega
theorem br_s1 {P : Nat → Bool} {t : Nat} (h : pcz t < (br P t).2) (h2 : P t = true) : br P (t + 1) = ((t : Int), pcz t) := if_pos ⟨h, h2⟩
theorem br_s2 {P : Nat → Bool} {t : Nat} (h : (br P t).2 ≤ pcz t) : br P (t + 1) = br P t := if_neg (fun q => absurd q.1 (Int.not_lt.mpr h))
theorem br_s3 {P : Nat → Bool} {t : Nat} (h : ¬ P t = true) : br P (t + 1) = br P t := if_neg (fun q => h q.2)
/-- all readings are so, by the setting s -/
def ag (I R : Nat → Nat → Int) (s : Int) : Nat → Bool
  | 0 => true
  | k + 1 => ag I R s k && decide (cs I R s (R 11 k) = R 12 k)
theorem ag_f {I R : Nat → Nat → Int} {s : Int} {k n : Nat} (hk : k < n) (h : ¬ cs I R s (R 11 k) = R 12 k) : ag I R s n = false := by
  induction n with
  | zero => omega
  | succ n ih =>
    simp only [ag]
    by_cases e : k = n
    · subst e; simp [h]
    · rw [ih (by omega)]; rfl
theorem ag_t {I R : Nat → Nat → Int} {s : Int} {k : Nat} (h0 : ag I R s k = true) (h : cs I R s (R 11 k) = R 12 k) : ag I R s (k + 1) = true := by simp [ag, h0, h]
theorem pw6 {n : Int} (h : 0 ≤ n ∧ n ≤ 6) : 0 < (2 : Int) ^ (Int.toNat n) ∧ (2 : Int) ^ (Int.toNat n) ≤ 64 := by
  rcases (show n = 0 ∨ n = 1 ∨ n = 2 ∨ n = 3 ∨ n = 4 ∨ n = 5 ∨ n = 6 by omega) with rfl | rfl | rfl | rfl | rfl | rfl | rfl <;> decide
theorem pw8 {n : Int} (h : 0 ≤ n ∧ n ≤ 4) : 0 < (2 : Int) ^ (Int.toNat (2 * n)) ∧ (2 : Int) ^ (Int.toNat (2 * n)) ≤ 256 := by
  rcases (show n = 0 ∨ n = 1 ∨ n = 2 ∨ n = 3 ∨ n = 4 by omega) with rfl | rfl | rfl | rfl | rfl <;> decide
theorem cv_ok {I R : Nat → Nat → Int} (h : TI I R) {s w : Int} {g0 : Nat → Int} : ∀ k : Nat, k < Int.toNat (I 5 14) → 0 ≤ cv I R s w (Int.toNat (I 5 14)) g0 k ∧ cv I R s w (Int.toNat (I 5 14)) g0 k < 4 := by
  intro k hk
  have h1 := h.wards
  unfold cv
  rw [if_pos hk]
  exact vo_bd h (by omega)
theorem pwN (k : Nat) : ((2 ^ k : Nat) : Int) = (2 : Int) ^ k := by rw [Int.natCast_pow]; rfl
/-- rows alike, but for the votes (14) and the first years (4) -/
def jq (R R' : Nat → Nat → Int) : Prop := ∀ q, q ≠ 14 → q ≠ 4 → R q = R' q
/-- the rows of the town that is made -/
def SP (R : Nat → Nat → Int) : Prop := (∀ w, w < 4 → 0 ≤ R 20 w ∧ R 20 w ≤ 9) ∧ (∀ j, j < 384 → 0 ≤ R 23 j ∧ R 23 j ≤ 1000000) ∧ (∀ k, k < 6 → 0 ≤ R 17 k ∧ R 17 k ≤ 9) ∧ (∀ k, k < 6 → 0 ≤ R 18 k ∧ R 18 k < 24) ∧ (∀ k, k < 6 → 0 ≤ R 16 k ∧ R 16 k ≤ 2) ∧ (∀ k, k < 4 → 0 ≤ R 19 k ∧ R 19 k < 24) ∧ (∀ k, k < 8 → 0 ≤ R 21 k ∧ R 21 k < 24) ∧ (∀ k, k < 8 → 0 ≤ R 22 k ∧ R 22 k ≤ 99)
/-- the class's object: the town at place 5, the sheets -/
def VI (I R : Nat → Nat → Int) : Prop := TI I R ∧ (0 ≤ I 5 9 ∧ I 5 9 ≤ 1) ∧ (∀ k, k < 4 → (-1 ≤ I 25 k ∧ I 25 k ≤ 2) ∧ (0 ≤ I 26 k ∧ I 26 k ≤ 60)) ∧ (∀ k, k < 4 → ∀ j, j < 60 → -2147483648 ≤ R (26 + 2 * k) j ∧ R (26 + 2 * k) j < 2147483648) ∧ (0 ≤ I 0 6 ∧ I 0 6 ≤ 4) ∧ SP R ∧ (∀ j, j < 60 → -2147483648 ≤ R 3 j ∧ R 3 j < 2147483648)
/-- what a byte, a short keeps of a number -/
def bz (v : Int) : Int := ((iI v).toInt8.toInt32).toInt
def sz (v : Int) : Int := ((iI v).toInt16.toInt32).toInt
def cut (lane v : Int) : Int := if lane = 0 then bz v else if lane = 1 then sz v else v
theorem bz_e (v : Int) : iI (bz v) = (iI v).toInt8.toInt32 := (iI_of _).symm
theorem sz_e (v : Int) : iI (sz v) = (iI v).toInt16.toInt32 := (iI_of _).symm
def ft (ln sz al i n : Int) : Int := if ln = -1 then 1 else if ln = al then (if n < 0 then 4 else if 0 ≤ i ∧ i ≤ sz ∧ 0 ≤ n ∧ n ≤ sz - i then 0 else 3) else 2
def fl (f : Nat → Int) (v : Int) (i : Nat) : Nat → Int := fun j => if j < i then v else f j
theorem fl_0 {f : Nat → Int} {v : Int} : fl f v 0 = f := by funext j; simp [fl]
theorem fl_s {f : Nat → Int} {v : Int} {i : Nat} : u1 (fl f v i) i v = fl f v (i + 1) := by
  funext j
  simp only [u1, fl]
  by_cases h1 : j = i
  · subst h1; rw [if_pos rfl, if_pos (by omega)]
  · rw [if_neg h1]
    by_cases h2 : j < i
    · rw [if_pos h2, if_pos (by omega)]
    · rw [if_neg h2, if_neg (by omega)]
theorem ft_bd {ln sz al i n : Int} : 0 ≤ ft ln sz al i n ∧ ft ln sz al i n ≤ 4 := by
  unfold ft
  split
  · omega
  · split
    · split
      · omega
      · split <;> omega
    · omega
theorem VI.town {I R : Nat → Nat → Int} (h : VI I R) : TI I R := h.1
theorem VI.stands {I R : Nat → Nat → Int} (h : VI I R) : 0 ≤ I 5 9 ∧ I 5 9 ≤ 1 := h.2.1
theorem VI.lane {I R : Nat → Nat → Int} (h : VI I R) {k : Nat} (hk : k < 4) : -1 ≤ I 25 k ∧ I 25 k ≤ 2 := (h.2.2.1 k hk).1
theorem VI.size {I R : Nat → Nat → Int} (h : VI I R) {k : Nat} (hk : k < 4) : 0 ≤ I 26 k ∧ I 26 k ≤ 60 := (h.2.2.1 k hk).2
theorem VI.row {I R : Nat → Nat → Int} (h : VI I R) {k : Nat} (hk : k < 4) {j : Nat} (hj : j < 60) : -2147483648 ≤ R (26 + 2 * k) j ∧ R (26 + 2 * k) j < 2147483648 := h.2.2.2.1 k hk j hj
theorem VI.fault {I R : Nat → Nat → Int} (h : VI I R) : 0 ≤ I 0 6 ∧ I 0 6 ≤ 4 := h.2.2.2.2.1
theorem VI.spare {I R : Nat → Nat → Int} (h : VI I R) : SP R := h.2.2.2.2.2.1
theorem VI.code {I R : Nat → Nat → Int} (h : VI I R) : ∀ j, j < 60 → -2147483648 ≤ R 3 j ∧ R 3 j < 2147483648 := h.2.2.2.2.2.2
theorem u2_u {I : Nat → Nat → Int} {q f : Nat} {y z : Int} : u2 (u2 I q f y) q f z = u2 I q f z := by
  funext a b; simp only [u2]; split
  · split <;> rfl
  · rfl
theorem u2_id {I : Nat → Nat → Int} {q f : Nat} : u2 I q f (I q f) = I := by
  funext a b; simp only [u2]; split
  · split
    · next h1 h2 => subst h1; subst h2; rfl
    · next h1 h2 => subst h1; rfl
  · rfl
/-- a set of those below n that are so, as bits -/
def bs (P : Nat → Bool) : Nat → Int
  | 0 => 0
  | v + 1 => if P v = true then bs P v + 1 * 2 ^ v else bs P v
theorem bs_bd {P : Nat → Bool} {n : Nat} : 0 ≤ bs P n ∧ bs P n < 2 ^ n := by
  induction n with
  | zero => simp [bs]
  | succ n ih =>
    have h : (2 : Int) ^ (n + 1) = 2 ^ n * 2 := Int.pow_succ 2 n
    have h0 : (0 : Int) < 2 ^ n := Int.pow_pos (by decide)
    simp only [bs]
    split <;> omega
theorem bs_t {P : Nat → Bool} {n : Nat} (h : P n = true) : bs P (n + 1) = bs P n + 1 * 2 ^ n := if_pos h
theorem bs_f {P : Nat → Bool} {n : Nat} (h : ¬ P n = true) : bs P (n + 1) = bs P n := if_neg h
theorem jz_or0 : ∀ v : Nat, v < 10 → ∀ a : Nat, a < 2 ^ v → (iI a) ||| (iI 1 <<< ((iI v) &&& 31)) = iI ((a : Int) + 1 * 2 ^ v) := by decide +kernel
theorem jz_or1 {a : Int} {v : Nat} (hv : v < 10) (ha : 0 ≤ a ∧ a < 2 ^ v) : (iI a) ||| (iI 1 <<< ((iI v) &&& 31)) = iI (a + 1 * 2 ^ v) := by
  obtain ⟨n, rfl⟩ := Int.eq_ofNat_of_zero_le ha.1
  exact jz_or0 v hv n (by have h2 := ha.2; rw [← pwN] at h2; omega)
/-- how many works' vanes differ -/
def tcn (n a b : Int) : Nat → Int
  | 0 => 0
  | w + 1 => if vz n a w = vz n b w then tcn n a b w else tcn n a b w + 1
theorem tcn_bd {n a b : Int} {w : Nat} : 0 ≤ tcn n a b w ∧ tcn n a b w ≤ w := by
  induction w with
  | zero => simp [tcn]
  | succ w ih => simp only [tcn]; split <;> omega
theorem tcn_t {n a b : Int} {w : Nat} (h : vz n a w = vz n b w) : tcn n a b (w + 1) = tcn n a b w := if_pos h
theorem tcn_f {n a b : Int} {w : Nat} (h : ¬ vz n a w = vz n b w) : tcn n a b (w + 1) = tcn n a b w + 1 := if_neg h
/-- the first that is so, as the class finds it -/
def fic (P : Nat → Bool) : Nat → Int
  | 0 => -9
  | k + 1 => if P k = true then (if cn P k = 0 then (k : Int) else fic P k) else fic P k
theorem cn_t {P : Nat → Bool} {n : Nat} (h : P n = true) : cn P (n + 1) = cn P n + 1 := by simp [cn, h]
theorem cn_f {P : Nat → Bool} {n : Nat} (h : ¬ P n = true) : cn P (n + 1) = cn P n := by simp [cn, h]
theorem fic_t {P : Nat → Bool} {n : Nat} (h : P n = true) : fic P (n + 1) = if cn P n = 0 then (n : Int) else fic P n := if_pos h
theorem fic_f {P : Nat → Bool} {n : Nat} (h : ¬ P n = true) : fic P (n + 1) = fic P n := if_neg h
theorem fic_bd {P : Nat → Bool} {n : Nat} : -9 ≤ fic P n ∧ fic P n < (if n = 0 then 1 else (n : Int)) ∧ (¬ cn P n = 0 → 0 ≤ fic P n) ∧ (cn P n = 0 → fic P n = -9) := by
  induction n with
  | zero => simp [fic, cn]
  | succ n ih =>
    have hb := cn_bd (P := P) (n := n)
    by_cases h : P n = true
    · rw [fic_t h, cn_t h]
      split
      · split <;> omega
      · split at ih <;> split <;> omega
    · rw [fic_f h, cn_f h]
      split at ih <;> split <;> omega
/-- both numbers of a share halved -/
def hv (u l : Int) : Nat → Int × Int
  | 0 => (u, l)
  | k + 1 => if 1 < (hv u l k).2 ∧ (hv u l k).1 % 2 ^ 1 = 0 then ((hv u l k).1 / 2 ^ 1, (hv u l k).2 / 2 ^ 1) else hv u l k
theorem hv_bd {u l : Int} (h : (0 ≤ u ∧ u ≤ 256) ∧ 1 ≤ l ∧ l ≤ 256) : ∀ k : Nat, (0 ≤ (hv u l k).1 ∧ (hv u l k).1 ≤ 256) ∧ 1 ≤ (hv u l k).2 ∧ (hv u l k).2 ≤ 256 := by
  intro k
  induction k with
  | zero => exact h
  | succ k ih =>
    simp only [hv]
    split
    · simp only; omega
    · exact ih
theorem hv_t {u l : Int} {k : Nat} (h1 : 1 < (hv u l k).2) (h2 : (hv u l k).1 % 2 ^ 1 = 0) : hv u l (k + 1) = ((hv u l k).1 / 2 ^ 1, (hv u l k).2 / 2 ^ 1) := if_pos ⟨h1, h2⟩
theorem hv_f1 {u l : Int} {k : Nat} (h1 : (hv u l k).2 ≤ 1) : hv u l (k + 1) = hv u l k := if_neg (fun q => absurd q.1 (Int.not_lt.mpr h1))
theorem hv_f2 {u l : Int} {k : Nat} (h2 : ¬ (hv u l k).1 % 2 ^ 1 = 0) : hv u l (k + 1) = hv u l k := if_neg (fun q => h2 q.2)
/-- years till vanes come again: the class's search -/
def ro (nx : Int → Int) : Nat → Int → Int → (Nat → Int) → Int × Int
  | 0, i, s, fy => (fy (Int.toNat s), i)
  | k + 1, i, s, fy => if fy (Int.toNat s) = -1 then ro nx k (i + 1) (nx s) (u1 fy (Int.toNat s) i) else (fy (Int.toNat s), i)
theorem ro_t {nx : Int → Int} {k : Nat} {i s : Int} {fy : Nat → Int} (h : fy (Int.toNat s) = -1) : ro nx (k + 1) i s fy = ro nx k (i + 1) (nx s) (u1 fy (Int.toNat s) i) := if_pos h
theorem ro_f {nx : Int → Int} {k : Nat} {i s : Int} {fy : Nat → Int} (h : ¬ fy (Int.toNat s) = -1) : ro nx (k + 1) i s fy = (fy (Int.toNat s), i) := if_neg h
/-- the setting told by a row of vanes -/
def tld (n : Int) (f : Nat → Int) : Nat → Int
  | 0 => 0
  | w + 1 => tz n (tld n f w) w (f w)
/-- vanes all, of w numbers -/
def av (f : Nat → Int) : Nat → Bool
  | 0 => true
  | w + 1 => av f w && decide (0 ≤ f w ∧ f w ≤ 3)
theorem av_t {f : Nat → Int} {w : Nat} (h : av f w = true) (h2 : 0 ≤ f w ∧ f w ≤ 3) : av f (w + 1) = true := by simp [av, h, h2]
theorem av_f {f : Nat → Int} {w n : Nat} (hw : w < n) (h2 : ¬ (0 ≤ f w ∧ f w ≤ 3)) : ¬ av f n = true := by
  induction n with
  | zero => omega
  | succ n ih =>
    simp only [av, Bool.and_eq_true, decide_eq_true_eq]
    intro q
    by_cases e : w = n
    · subst e; exact h2 q.2
    · exact ih (by omega) q.1
theorem tld_bd {n : Int} {f : Nat → Int} (hn : 0 ≤ n ∧ n ≤ 4) {w : Nat} (hw : (w : Int) ≤ n) (h : av f w = true) : 0 ≤ tld n f w ∧ tld n f w < 2 ^ (Int.toNat (2 * n)) := by
  induction w with
  | zero => exact ⟨by simp [tld], by have := pw8 hn; simp only [tld]; omega⟩
  | succ w ih =>
    simp only [av, Bool.and_eq_true, decide_eq_true_eq] at h
    exact tz_bd hn (ih (by omega) h.1) (by omega) (by omega)
def cpz (f g : Nat → Int) (sp dp n : Nat) : Nat → Int := fun k => if dp ≤ k ∧ k < dp + n then f (sp + (k - dp)) else g k
theorem cpz_e {f g : Nat → Int} {sp dp n : Nat} : va_cpy (fun j => iI (f j)) (fun j => iI (g j)) sp dp n = fun j => iI (cpz f g sp dp n j) := by
  funext k
  simp only [va_cpy, cpz]
  split <;> rfl
/-- the search's numbers are years, or none -/
def fyo (i : Int) (fy : Nat → Int) : Prop := ∀ j : Nat, j < 256 → -1 ≤ fy j ∧ fy j ≤ i
theorem fyo_0 {f : Nat → Int} : fyo 0 (fl f (-1) 256) := by
  intro j hj
  unfold fl
  rw [if_pos hj]
  omega
theorem fyo_s {i : Int} {fy : Nat → Int} {k : Nat} (hi : 0 ≤ i) (h : fyo i fy) : fyo (i + 1) (u1 fy k i) := by
  intro j hj
  have := h j hj
  unfold u1
  split <;> omega
theorem vo_jq {I R R' : Nat → Nat → Int} (h : jq R R') {s w : Int} {k : Nat} : vo I R s k w = vo I R' s k w := by
  have e6 := h 6 (by decide) (by decide)
  have e7 := h 7 (by decide) (by decide)
  have e8 := h 8 (by decide) (by decide)
  have e10 := h 10 (by decide) (by decide)
  have e13 := h 13 (by decide) (by decide)
  unfold vo mz cs
  have ez : cz R = cz R' := by funext a b c d; unfold cz; rw [e10, e13]
  rw [ez, e6, e7, e8]
theorem ye_jq {I R R' : Nat → Nat → Int} (h : jq R R') {s : Int} {w : Nat} : ye I R s w = ye I R' s w := by
  induction w with
  | zero => rfl
  | succ w ih =>
    simp only [ye]
    rw [ih]
    have e : (fun k => vo I R (ye I R' s w) k (w : Int)) = (fun k => vo I R' (ye I R' s w) k (w : Int)) := by funext k; exact vo_jq h
    rw [e]
