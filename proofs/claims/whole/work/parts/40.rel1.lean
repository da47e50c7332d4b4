/-! the class's town and the model's town: what both make of the same is the same -/
/-- how many steps a smell goes till it comes to a cell, by where it is -/
def dsp (W wc : Int) (v : Nat) (c : Int) : Int := if v = 0 then (if c % W - wc % W = 0 ∧ c / W - wc / W ≤ 0 then -(c / W - wc / W) else 1000000) else if v = 1 then (if c / W - wc / W = 0 ∧ 0 ≤ c % W - wc % W then c % W - wc % W else 1000000) else if v = 2 then (if c % W - wc % W = 0 ∧ 0 ≤ c / W - wc / W then c / W - wc / W else 1000000) else (if c / W - wc / W = 0 ∧ c % W - wc % W ≤ 0 then -(c % W - wc % W) else 1000000)
theorem co0 {F : Nat → Int} {R : Nat → Nat → Int} {w : Nat} {c : Int} (e : R 6 w = 0) : k_X4_comesTo F R (w : Int) c = if (c % F 2 - R 4 w % F 2) = 0 then (if -(c / F 2 - R 4 w / F 2) < 0 then 0 else if -(c / F 2 - R 4 w / F 2) < R 5 w then R 5 w - -(c / F 2 - R 4 w / F 2) else 0) else 0 := by
  unfold k_X4_comesTo
  simp only [Int.toNat_natCast, e, Int.reduceMod, Int.reduceEq, reduceIte, ite_self]
theorem co1 {F : Nat → Int} {R : Nat → Nat → Int} {w : Nat} {c : Int} (e : R 6 w = 1) : k_X4_comesTo F R (w : Int) c = if (c / F 2 - R 4 w / F 2) = 0 then (if (c % F 2 - R 4 w % F 2) < 0 then 0 else if (c % F 2 - R 4 w % F 2) < R 5 w then R 5 w - (c % F 2 - R 4 w % F 2) else 0) else 0 := by
  unfold k_X4_comesTo
  simp only [Int.toNat_natCast, e, Int.reduceMod, Int.reduceEq, reduceIte, ite_self]
theorem co2 {F : Nat → Int} {R : Nat → Nat → Int} {w : Nat} {c : Int} (e : R 6 w = 2) : k_X4_comesTo F R (w : Int) c = if (c % F 2 - R 4 w % F 2) = 0 then (if (c / F 2 - R 4 w / F 2) < 0 then 0 else if (c / F 2 - R 4 w / F 2) < R 5 w then R 5 w - (c / F 2 - R 4 w / F 2) else 0) else 0 := by
  unfold k_X4_comesTo
  simp only [Int.toNat_natCast, e, Int.reduceMod, Int.reduceEq, reduceIte, ite_self]
theorem co3 {F : Nat → Int} {R : Nat → Nat → Int} {w : Nat} {c : Int} (e : R 6 w = 3) : k_X4_comesTo F R (w : Int) c = if (c / F 2 - R 4 w / F 2) = 0 then (if -(c % F 2 - R 4 w % F 2) < 0 then 0 else if -(c % F 2 - R 4 w % F 2) < R 5 w then R 5 w - -(c % F 2 - R 4 w % F 2) else 0) else 0 := by
  unfold k_X4_comesTo
  simp only [Int.toNat_natCast, e, Int.reduceMod, Int.reduceEq, reduceIte, ite_self]
theorem ds0 {W wc c : Int} : dsp W wc 0 c = if c % W - wc % W = 0 ∧ c / W - wc / W ≤ 0 then -(c / W - wc / W) else 1000000 := by unfold dsp; rw [if_pos rfl]
theorem ds1 {W wc c : Int} : dsp W wc 1 c = if c / W - wc / W = 0 ∧ 0 ≤ c % W - wc % W then c % W - wc % W else 1000000 := by unfold dsp; rw [if_neg (by decide), if_pos rfl]
theorem ds2 {W wc c : Int} : dsp W wc 2 c = if c % W - wc % W = 0 ∧ 0 ≤ c / W - wc / W then c / W - wc / W else 1000000 := by unfold dsp; rw [if_neg (by decide), if_neg (by decide), if_pos rfl]
theorem ds3 {W wc c : Int} : dsp W wc 3 c = if c / W - wc / W = 0 ∧ c % W - wc % W ≤ 0 then -(c % W - wc % W) else 1000000 := by unfold dsp; rw [if_neg (by decide), if_neg (by decide), if_neg (by decide)]
theorem comes_e {F : Nat → Int} {R : Nat → Nat → Int} {w : Nat} {c : Int} (hv : 0 ≤ R 6 w ∧ R 6 w < 4) (hs : 0 ≤ R 5 w ∧ R 5 w ≤ 9) : k_X4_comesTo F R (w : Int) c = if 0 < R 5 w - dsp (F 2) (R 4 w) (Int.toNat (R 6 w)) c then R 5 w - dsp (F 2) (R 4 w) (Int.toNat (R 6 w)) c else 0 := by
  rcases (show R 6 w = 0 ∨ R 6 w = 1 ∨ R 6 w = 2 ∨ R 6 w = 3 by omega) with e | e | e | e
  · rw [co0 e, e, show Int.toNat 0 = 0 from rfl, ds0]
    generalize c / F 2 - R 4 w / F 2 = a
    generalize c % F 2 - R 4 w % F 2 = b
    repeat' split
    all_goals omega
  · rw [co1 e, e, show Int.toNat 1 = 1 from rfl, ds1]
    generalize c / F 2 - R 4 w / F 2 = a
    generalize c % F 2 - R 4 w % F 2 = b
    repeat' split
    all_goals omega
  · rw [co2 e, e, show Int.toNat 2 = 2 from rfl, ds2]
    generalize c / F 2 - R 4 w / F 2 = a
    generalize c % F 2 - R 4 w % F 2 = b
    repeat' split
    all_goals omega
  · rw [co3 e, e, show Int.toNat 3 = 3 from rfl, ds3]
    generalize c / F 2 - R 4 w / F 2 = a
    generalize c % F 2 - R 4 w % F 2 = b
    repeat' split
    all_goals omega
/-- what smells rest on is the same -/
def SR (I R : Nat → Nat → Int) (F : Nat → Int) (R' : Nat → Nat → Int) : Prop := I 5 13 = F 3 ∧ I 5 15 = F 11 ∧ (∀ w : Nat, (w : Int) < F 3 → R 10 w = R' 5 w) ∧ (∀ (w v : Nat) (c : Int), (w : Int) < F 3 → v < 4 → 0 ≤ c ∧ c < F 1 * F 2 → R 13 ((w * 4 + v) * 24 + Int.toNat c) = dsp (F 2) (R' 4 w) v c)
/-- wards are the same -/
def WR (I R : Nat → Nat → Int) (F : Nat → Int) (R' : Nat → Nat → Int) : Prop := I 5 14 = F 7 ∧ ∀ k : Nat, (k : Int) < F 7 → R 6 k = R' 9 k ∧ R 7 k = R' 10 k ∧ R 8 k = R' 8 k ∧ 0 ≤ R' 8 k ∧ R' 8 k < F 1 * F 2
/-- readings are the same -/
def RR (I R : Nat → Nat → Int) (F : Nat → Int) (R' : Nat → Nat → Int) : Prop := I 5 17 = F 24 ∧ ∀ x : Nat, (x : Int) < F 24 → R 11 x = R' 25 x ∧ R 12 x = R' 26 x ∧ 0 ≤ R' 25 x ∧ R' 25 x < F 1 * F 2
/-- vanes are as a setting says -/
def VS (n : Int) (V : Nat → Int) (s : Int) : Prop := ∀ w : Nat, (w : Int) < n → V w = vz n s w
theorem cs_ms {I R : Nat → Nat → Int} {F : Nat → Int} {R' : Nat → Nat → Int} (h : SR I R F R') (hM : MI F R') {V : Nat → Int} {s : Int} (hV : VS (F 3) V s) {c : Int} (hc : 0 ≤ c ∧ c < F 1 * F 2) : cs I R s c = ms F (uR R' 6 V) c := by
  unfold cs ms
  rw [h.1, h.2.1]
  refine sm_congr fun w hw => ?_
  have hw3 := hM.works
  have hw1 : (w : Int) < F 3 := by omega
  have hv := hV w hw1
  have hb := vz_bd (F 3) s w
  have e := comes_e (F := F) (R := uR R' 6 V) (w := w) (c := c) (by show 0 ≤ V w ∧ V w < 4; omega) (hM.str w (by omega))
  rw [e]
  show cz R (F 3) s c w = if 0 < R' 5 w - dsp (F 2) (R' 4 w) (Int.toNat (V w)) c then R' 5 w - dsp (F 2) (R' 4 w) (Int.toNat (V w)) c else 0
  rw [hv]
  unfold cz
  have hd := h.2.2.2 w (Int.toNat (vz (F 3) s w)) c hw1 (by omega) hc
  rw [show Int.toNat (((w : Int) * 4 + vz (F 3) s w) * 24 + c) = (w * 4 + Int.toNat (vz (F 3) s w)) * 24 + Int.toNat c by omega, hd, h.2.2.1 w hw1]
theorem mz_mm {I R : Nat → Nat → Int} {F : Nat → Int} {R' : Nat → Nat → Int} (h : SR I R F R') (hW : WR I R F R') (hM : MI F R') {V : Nat → Int} {s : Int} (hV : VS (F 3) V s) {k : Nat} (hk : (k : Int) < F 7) : mz I R s k = mm F (uR R' 6 V) k := by
  have hw := hW.2 k hk
  unfold mz mm
  show fz (R 6 k) (R 7 k) * cs I R s (R 8 k) = fz (R' 9 k) (R' 10 k) * ms F (uR R' 6 V) (R' 8 k)
  rw [hw.1, hw.2.1, hw.2.2.1, cs_ms h hM hV hw.2.2.2]
theorem VS_tA {n s : Int} {V : Nat → Int} : VS n (tA n s V) s := fun w hw => by unfold tA; rw [if_pos hw]
/-- one vane turned -/
theorem vz_tz {n s w v x : Int} (hn : 0 ≤ n ∧ n ≤ 4) (hs : 0 ≤ s ∧ s < 256) (hw : 0 ≤ w ∧ w < n) (hv : 0 ≤ v ∧ v < 4) (hx : 0 ≤ x ∧ x < n) : vz n (tz n s w v) x = if x = w then v else vz n s x := by
  unfold tz vz
  rcases (show n = 1 ∨ n = 2 ∨ n = 3 ∨ n = 4 by omega) with rfl | rfl | rfl | rfl
  · obtain rfl : w = 0 := by omega
    obtain rfl : x = 0 := by omega
    simp; omega
  · rcases (show w = 0 ∨ w = 1 by omega) with rfl | rfl <;> rcases (show x = 0 ∨ x = 1 by omega) with rfl | rfl <;> simp <;> omega
  · rcases (show w = 0 ∨ w = 1 ∨ w = 2 by omega) with rfl | rfl | rfl <;> rcases (show x = 0 ∨ x = 1 ∨ x = 2 by omega) with rfl | rfl | rfl <;> simp <;> omega
  · rcases (show w = 0 ∨ w = 1 ∨ w = 2 ∨ w = 3 by omega) with rfl | rfl | rfl | rfl <;> rcases (show x = 0 ∨ x = 1 ∨ x = 2 ∨ x = 3 by omega) with rfl | rfl | rfl | rfl <;> simp <;> omega
theorem VS.turn {n s v : Int} {V : Nat → Int} {w : Nat} (hn : 0 ≤ n ∧ n ≤ 4) (hs : 0 ≤ s ∧ s < 256) (hw : (w : Int) < n) (hv : 0 ≤ v ∧ v < 4) (h : VS n V s) : VS n (u1 V w v) (tz n s w v) := by
  intro x hx
  rw [vz_tz hn hs (by omega) hv (by omega)]
  show (if x = w then v else V x) = _
  by_cases e : x = w
  · rw [if_pos e, if_pos (by omega)]
  · rw [if_neg e, if_neg (by omega), h x hx]
theorem vo_vm {I R : Nat → Nat → Int} {F : Nat → Int} {R' : Nat → Nat → Int} (h : SR I R F R') (hW : WR I R F R') (hM : MI F R') {V : Nat → Int} {s : Int} (hs : 0 ≤ s ∧ s < 256) (hV : VS (F 3) V s) {k : Nat} (hk : (k : Int) < F 7) {w : Nat} (hw : (w : Int) < F 3) : vo I R s k (w : Int) = vm F (uR R' 6 V) k (w : Int) := by
  have h3 := hM.works
  unfold vo vm
  rw [am_congr (g := fun v : Nat => mm F (uR (uR R' 6 V) 6 (u1 (uR R' 6 V 6) (Int.toNat (w : Int)) (v : Int))) k) (fun v hv => ?_)]
  rw [uR_u, uR_q, Int.toNat_natCast, h.1]
  exact mz_mm h hW hM (hV.turn h3 hs hw (by omega)) hk
theorem bv_congr {b v : Int} {f g : Nat → Int} {k : Nat} (h : f k = g k) : bv b v f k = bv b v g k := by unfold bv; rw [h]
theorem wi_wm {I R : Nat → Nat → Int} {F : Nat → Int} {R' : Nat → Nat → Int} (h : SR I R F R') (hW : WR I R F R') (hM : MI F R') {V : Nat → Int} {s : Int} (hs : 0 ≤ s ∧ s < 256) (hV : VS (F 3) V s) {w : Nat} (hw : (w : Int) < F 3) {b v : Int} : wi (bv b v (fun k : Nat => vo I R s k (w : Int))) (Int.toNat (I 5 14)) = wm F (uR R' 6 V) (w : Int) b v := by
  have h7 := hM.wards
  unfold wm
  rw [hW.1]
  exact wi_congr (fun k hk => bv_congr (vo_vm h hW hM hs hV (by omega) hw))
