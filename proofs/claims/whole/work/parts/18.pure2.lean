/-! what the reading of a text does to the class's world -/
def nx (p n : Int) (cd : Nat → Int) : Int := if p < n then cd (Int.toNat p) else -1
def ko (c : Int) : Int := if c = 102 then 2 else if c = 114 then 1 else if c = 119 then 0 else -1
def sd (j : Nat) : Int := if j = 0 then -1 else if j = 2 then 1 else 0
def sr (j : Nat) : Int := if j = 1 then 1 else if j = 3 then -1 else 0
def ps (r d : Int) : Nat → Int
  | 0 => r
  | k + 1 => ps r d k + d
/-- far off, from b on, c places -/
def fb (T : Nat → Int) (b c : Nat) : Nat → Int := fun j => if b ≤ j ∧ j < b + c then 1000000 else T j
/-- the steps of a way -/
def dm (T : Nat → Int) (hi wd b r0 c0 dr dc : Int) : Nat → (Nat → Int)
  | 0 => T
  | k + 1 => if (0 ≤ ps r0 dr k ∧ ps r0 dr k < hi) ∧ 0 ≤ ps c0 dc k ∧ ps c0 dc k < wd then u1 (dm T hi wd b r0 c0 dr dc k) (Int.toNat (b + ps r0 dr k * wd + ps c0 dc k)) k else dm T hi wd b r0 c0 dr dc k
def dw (T : Nat → Int) (hi wd w v r0 c0 : Int) : Nat → Int := dm (fb T (Int.toNat ((w * 4 + v) * 24)) 24) hi wd ((w * 4 + v) * 24) r0 c0 (sd (Int.toNat v)) (sr (Int.toNat v)) 6
def da (T : Nat → Int) (hi wd w r0 c0 : Int) : Nat → (Nat → Int)
  | 0 => T
  | v + 1 => dw (da T hi wd w r0 c0 v) hi wd w v r0 c0
theorem dm_t {T : Nat → Int} {hi wd b r0 c0 dr dc : Int} {k : Nat} (h : (0 ≤ ps r0 dr k ∧ ps r0 dr k < hi) ∧ 0 ≤ ps c0 dc k ∧ ps c0 dc k < wd) : dm T hi wd b r0 c0 dr dc (k + 1) = u1 (dm T hi wd b r0 c0 dr dc k) (Int.toNat (b + ps r0 dr k * wd + ps c0 dc k)) k := if_pos h
theorem dm_f {T : Nat → Int} {hi wd b r0 c0 dr dc : Int} {k : Nat} (h : ¬ ((0 ≤ ps r0 dr k ∧ ps r0 dr k < hi) ∧ 0 ≤ ps c0 dc k ∧ ps c0 dc k < wd)) : dm T hi wd b r0 c0 dr dc (k + 1) = dm T hi wd b r0 c0 dr dc k := if_neg h
theorem fb_0 {T : Nat → Int} {b : Nat} : fb T b 0 = T := by funext j; unfold fb; rw [if_neg (by omega)]
theorem fb_s {T : Nat → Int} {b c k : Nat} (hk : k = b + c) : u1 (fb T b c) k 1000000 = fb T b (c + 1) := by
  funext j
  simp only [u1, fb]
  by_cases h1 : j = k
  · rw [if_pos h1, if_pos (by omega)]
  · rw [if_neg h1]
    by_cases h2 : b ≤ j ∧ j < b + c
    · rw [if_pos h2, if_pos (by omega)]
    · rw [if_neg h2, if_neg (by omega)]
theorem ps_bd {r d : Int} (hd : -1 ≤ d ∧ d ≤ 1) (k : Nat) : r - k ≤ ps r d k ∧ ps r d k ≤ r + k := by
  induction k with
  | zero => simp [ps]
  | succ k ih => simp only [ps]; omega
theorem sd_bd (j : Nat) : -1 ≤ sd j ∧ sd j ≤ 1 := by unfold sd; split <;> (try split) <;> omega
theorem sr_bd (j : Nat) : -1 ≤ sr j ∧ sr j ≤ 1 := by unfold sr; split <;> (try split) <;> omega
/-- while a text is read: the reader, the town that is made -/
def BI (I R : Nat → Nat → Int) : Prop := (0 ≤ I 2 2 ∧ I 2 2 ≤ I 2 1 ∧ I 2 1 ≤ 60) ∧ (∀ j, j < 60 → -2147483648 ≤ R 3 j ∧ R 3 j < 2147483648) ∧ (0 ≤ I 15 13 ∧ I 15 13 ≤ 4) ∧ (0 ≤ I 15 14 ∧ I 15 14 ≤ 6) ∧ (0 ≤ I 15 10 ∧ I 15 10 ≤ 4) ∧ (0 ≤ I 15 11 ∧ I 15 11 ≤ 6)
theorem BI.place {I R : Nat → Nat → Int} (h : BI I R) : 0 ≤ I 2 2 ∧ I 2 2 ≤ I 2 1 ∧ I 2 1 ≤ 60 := h.1
theorem BI.code {I R : Nat → Nat → Int} (h : BI I R) : ∀ j, j < 60 → -2147483648 ≤ R 3 j ∧ R 3 j < 2147483648 := h.2.1
theorem BI.works {I R : Nat → Nat → Int} (h : BI I R) : 0 ≤ I 15 13 ∧ I 15 13 ≤ 4 := h.2.2.1
theorem BI.wards {I R : Nat → Nat → Int} (h : BI I R) : 0 ≤ I 15 14 ∧ I 15 14 ≤ 6 := h.2.2.2.1
theorem BI.high {I R : Nat → Nat → Int} (h : BI I R) : 0 ≤ I 15 10 ∧ I 15 10 ≤ 4 := h.2.2.2.2.1
theorem BI.wide {I R : Nat → Nat → Int} (h : BI I R) : 0 ≤ I 15 11 ∧ I 15 11 ≤ 6 := h.2.2.2.2.2
theorem BI.nxt {I R : Nat → Nat → Int} (h : BI I R) : -2147483648 ≤ nx (I 2 2) (I 2 1) (R 3) ∧ nx (I 2 2) (I 2 1) (R 3) < 2147483648 := by
  have h1 := h.place
  show -2147483648 ≤ (if I 2 2 < I 2 1 then R 3 (Int.toNat (I 2 2)) else -1) ∧ (if I 2 2 < I 2 1 then R 3 (Int.toNat (I 2 2)) else -1) < 2147483648
  split
  · exact h.code _ (by omega)
  · omega
theorem nx_lt {p n : Int} {cd : Nat → Int} (h : ¬ nx p n cd = -1) : p < n := by
  unfold nx at h
  split at h
  · assumption
  · omega
theorem ko_bd (c : Int) : -1 ≤ ko c ∧ ko c ≤ 2 := by unfold ko; split <;> (try split) <;> (try split) <;> omega
/-- the static rows of steps -/
def jT (A : Nat → Prop) (U : State) (H : Heap) : Prop := ∃ t1 t2 : Nat, va_Z RX3 "STEP_DOWN" "[I" (.ref t1) A U H ∧ va_T .int t1 4 (fun j => .int (iI (sd j))) A U H ∧ va_Z RX3 "STEP_RIGHT" "[I" (.ref t2) A U H ∧ va_T .int t2 4 (fun j => .int (iI (sr j))) A U H
theorem jT_moved {A : Nat → Prop} {u U : State} {H : Heap} (hvm : u.vm.Alike U.vm) (h : jT A u H) : jT A U H := by
  obtain ⟨t1, t2, a, b, c, d⟩ := h
  exact ⟨t1, t2, a.moved hvm, b.moved hvm, c.moved hvm, d.moved hvm⟩
theorem jT_kept {A : Nat → Prop} {U : State} {H H1 : Heap} (h : jT A U H) (hq : ∀ a : Nat, a < H.size → ¬ A a → H1[a]? = H[a]?) : jT A U H1 := by
  obtain ⟨t1, t2, a, b, c, d⟩ := h
  exact ⟨t1, t2, a.kept hq, b.kept hq, c.kept hq, d.kept hq⟩
section JTP
variable {s : State} {H : Heap} {locs : List Loc} {D : va_G} {cI cS : ClassId} {A : Nat → Prop} {w : va_W}
theorem jpreVT (hE : jE D cI cS s) (hP : va_P D vwCl w H) (hT0 : jT A s s.heap) (hS : va_S A s.heap H locs) (ci q0 : Nat) {q : vw_C} {a : Nat} {fs : List Value} (hc : vwCl[ci]? = some q) (he : w[q0]? = some (a, .inr (ci, fs))) {As : List Value} : PreV s H q.1 a (va_Pc (.ref a :: As) (fun U => jB D cI cS w U ∧ jT A U U.heap)) As :=
  ⟨fun _ U _ _ q => ⟨q.1, ⟨jE_same (u := U) rfl q.2.1.1, q.2.1.2⟩, jT_moved (u := U) (Vm.Alike.refl U.vm) q.2.2⟩, va_recv hE.1 hP hc he, fun U hU hW => ⟨rfl, ⟨jE_warm hW hE, by rw [hU]; exact hP⟩, by rw [hU]; exact jT_moved hW.alike (jT_kept hT0 hS.2.1)⟩⟩
theorem jpreST {t : Nat} {f : Nat → Value} (hE : jE D cI cS s) (hT1 : va_T .int t 4 f A s s.heap) (hS : va_S A s.heap H locs) {As : List Value} : PreS s H (va_Pc As (fun U => jE D cI cS U ∧ va_T .int t 4 f (fun _ => False) U U.heap)) As :=
  ⟨fun _ U _ _ q => ⟨q.1, jE_same (u := U) rfl q.2.1, va_T.moved (u := U) (Vm.Alike.refl U.vm) q.2.2⟩, fun U hU hW => ⟨rfl, jE_warm hW hE, by rw [hU]; exact va_T.moved hW.alike ((hT1.kept hS.2.1).narrow (fun _ h => h.elim))⟩⟩
end JTP
