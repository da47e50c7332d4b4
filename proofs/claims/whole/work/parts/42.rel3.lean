/-! the class's state and the model's: calls that ask -/
def ShR (I R R' : Nat → Nat → Int) : Prop := ∀ k : Nat, k < 4 → ((I 25 k = -1 ∧ R' 27 k = -1) ∨ (0 ≤ I 25 k ∧ I 25 k = R' 28 k ∧ I 26 k = R' 27 k ∧ 0 ≤ R' 27 k)) ∧ ∀ i : Nat, (i : Int) < R' 27 k → R (26 + 2 * k) i = R' 29 (60 * k + i)
def Rel (I R : Nat → Nat → Int) (F : Nat → Int) (R' : Nat → Nat → Int) : Prop := SR I R F R' ∧ WR I R F R' ∧ RR I R F R' ∧ (I 5 9 = 0 ↔ F 1 = 0) ∧ I 5 12 = F 1 * F 2 ∧ VS (F 3) (R' 6) (I 5 16) ∧ (∀ w : Nat, (w : Int) < F 3 → R 9 w = R' 4 w) ∧ I 0 6 = F 0 ∧ I 0 5 = F 31 ∧ ShR I R R'
def St (I R : Nat → Nat → Int) (F : Nat → Int) (R' : Nat → Nat → Int) : Prop := VI I R ∧ MV F R' ∧ Rel I R F R'
theorem St.vi {I R : Nat → Nat → Int} {F : Nat → Int} {R' : Nat → Nat → Int} (h : St I R F R') : VI I R := h.1
theorem St.mv {I R : Nat → Nat → Int} {F : Nat → Int} {R' : Nat → Nat → Int} (h : St I R F R') : MV F R' := h.2.1
theorem St.sr {I R : Nat → Nat → Int} {F : Nat → Int} {R' : Nat → Nat → Int} (h : St I R F R') : SR I R F R' := h.2.2.1
theorem St.wr {I R : Nat → Nat → Int} {F : Nat → Int} {R' : Nat → Nat → Int} (h : St I R F R') : WR I R F R' := h.2.2.2.1
theorem St.rr {I R : Nat → Nat → Int} {F : Nat → Int} {R' : Nat → Nat → Int} (h : St I R F R') : RR I R F R' := h.2.2.2.2.1
theorem St.stands {I R : Nat → Nat → Int} {F : Nat → Int} {R' : Nat → Nat → Int} (h : St I R F R') : I 5 9 = 0 ↔ F 1 = 0 := h.2.2.2.2.2.1
theorem St.cells {I R : Nat → Nat → Int} {F : Nat → Int} {R' : Nat → Nat → Int} (h : St I R F R') : I 5 12 = F 1 * F 2 := h.2.2.2.2.2.2.1
theorem St.vs {I R : Nat → Nat → Int} {F : Nat → Int} {R' : Nat → Nat → Int} (h : St I R F R') : VS (F 3) (R' 6) (I 5 16) := h.2.2.2.2.2.2.2.1
theorem St.wc {I R : Nat → Nat → Int} {F : Nat → Int} {R' : Nat → Nat → Int} (h : St I R F R') : ∀ w : Nat, (w : Int) < F 3 → R 9 w = R' 4 w := h.2.2.2.2.2.2.2.2.1
theorem St.fault {I R : Nat → Nat → Int} {F : Nat → Int} {R' : Nat → Nat → Int} (h : St I R F R') : I 0 6 = F 0 := h.2.2.2.2.2.2.2.2.2.1
theorem St.trace {I R : Nat → Nat → Int} {F : Nat → Int} {R' : Nat → Nat → Int} (h : St I R F R') : I 0 5 = F 31 := h.2.2.2.2.2.2.2.2.2.2.1
theorem St.sh {I R : Nat → Nat → Int} {F : Nat → Int} {R' : Nat → Nat → Int} (h : St I R F R') : ShR I R R' := h.2.2.2.2.2.2.2.2.2.2.2
section JEQ
variable {I R : Nat → Nat → Int} {F : Nat → Int} {R' : Nat → Nat → Int}
theorem eq_ofWard (h : St I R F R') (k what : Int) : k_X3_ofWard I R k what = k_X4_ofWard F R' k what := by
  have hW := h.wr
  unfold k_X3_ofWard k_X4_ofWard
  rw [hW.1]
  by_cases e : 0 ≤ k ∧ k < F 7
  · have hw := hW.2 (Int.toNat k) (by omega)
    rw [if_pos e, if_neg (show ¬ ¬ (0 ≤ k ∧ k ≤ F 7 - 1) by omega), hw.1, hw.2.1, hw.2.2.1]
  · rw [if_neg e, if_pos (by omega)]
theorem eq_ofWork (h : St I R F R') (w what : Int) : k_X3_ofWork I R w what = k_X4_ofWork F R' w what := by
  have hS := h.sr
  have h3 := h.mv.town.works
  unfold k_X3_ofWork k_X4_ofWork
  rw [hS.1]
  by_cases e : 0 ≤ w ∧ w < F 3
  · have hv := h.vs (Int.toNat w) (by omega)
    rw [show ((Int.toNat w : Nat) : Int) = w by omega] at hv
    rw [if_pos e, if_neg (show ¬ ¬ (0 ≤ w ∧ w ≤ F 3 - 1) by omega), h.wc (Int.toNat w) (by omega), hS.2.2.1 (Int.toNat w) (by omega), hv]
  · rw [if_neg e, if_pos (by omega)]
theorem uR6 : uR R' 6 (R' 6) = R' := uR_id
theorem eq_smell (h : St I R F R') (c : Int) : k_X3_smell I R c = k_X4_smell F R' c := by
  unfold k_X3_smell k_X4_smell
  rw [h.cells]
  by_cases e : 0 ≤ c ∧ c < F 1 * F 2
  · have e1 := cs_ms h.sr h.mv.town h.vs e
    rw [uR6] at e1
    rw [if_pos e, if_neg (by omega), e1]
  · rw [if_neg e, if_pos (by omega)]
theorem eq_minds (h : St I R F R') (k : Int) : k_X3_minds I R k = k_X4_minds F R' k := by
  unfold k_X3_minds k_X4_minds
  rw [h.wr.1]
  by_cases e : 0 ≤ k ∧ k < F 7
  · have e1 := mz_mm h.sr h.wr h.mv.town h.vs (k := Int.toNat k) (by omega)
    rw [uR6] at e1
    rw [if_pos e, if_neg (by omega), e1]
  · rw [if_neg e, if_pos (by omega)]
theorem eq_burden (h : St I R F R') : k_X3_burden I R = k_X4_burden F R' := by
  unfold k_X3_burden k_X4_burden
  by_cases e : F 1 = 0
  · rw [if_pos (h.stands.mpr e), if_pos e]
  · have e1 := su_mm h.sr h.wr h.mv.town h.vs
    rw [uR6] at e1
    rw [if_neg (fun q => e (h.stands.mp q)), if_neg e, e1]
theorem set256 (h : St I R F R') : 0 ≤ I 5 16 ∧ I 5 16 < 256 := pow_bd h.vi.town.works h.vi.town.set
theorem eq_vote (h : St I R F R') (k w : Int) : k_X3_vote I R k w = (k_X4_vote F R' k w).1 ∧ (k_X4_vote F R' k w).2 = (F, R') := by
  unfold k_X3_vote k_X4_vote
  rw [h.wr.1, h.sr.1]
  by_cases e : 0 ≤ k ∧ k < F 7
  · by_cases e2 : 0 ≤ w ∧ w < F 3
    · have e1 := vo_vm h.sr h.wr h.mv.town (set256 h) h.vs (k := Int.toNat k) (by omega) (w := Int.toNat w) (by omega)
      rw [uR6, show ((Int.toNat w : Nat) : Int) = w by omega] at e1
      rw [if_pos ⟨e, e2⟩, if_neg (by omega), if_neg (by omega), e1]
      exact ⟨rfl, rfl⟩
    · rw [if_neg (fun q => e2 q.2), if_neg (by omega), if_pos (by omega)]
      exact ⟨rfl, rfl⟩
  · rw [if_neg (fun q => e q.1), if_pos (by omega)]
    exact ⟨rfl, rfl⟩
theorem wi_0 (h : St I R F R') {w : Int} (e2 : 0 ≤ w ∧ w < F 3) {b v : Int} : wi (bv b v (fun k : Nat => vo I R (I 5 16) k w)) (Int.toNat (I 5 14)) = wm F R' w b v := by
  have e1 := wi_wm h.sr h.wr h.mv.town (set256 h) h.vs (w := Int.toNat w) (by omega) (b := b) (v := v)
  rw [uR6, show ((Int.toNat w : Nat) : Int) = w by omega] at e1
  exact e1
theorem eq_ballot (h : St I R F R') (w : Int) : (k_X3_ballot I R w).1 = (k_X4_ballot F R' w).1 ∧ (k_X3_ballot I R w).2 = (I, R) ∧ (k_X4_ballot F R' w).2 = (F, R') := by
  unfold k_X3_ballot k_X4_ballot
  rw [h.sr.1]
  by_cases e2 : 0 ≤ w ∧ w < F 3
  · have e1 := wi_0 h e2 (b := 0) (v := 0)
    rw [bv_0] at e1
    rw [if_pos e2, if_neg (by omega), e1]
    exact ⟨rfl, rfl, rfl⟩
  · rw [if_neg e2, if_pos (by omega)]
    exact ⟨rfl, rfl, rfl⟩
theorem eq_bribe (h : St I R F R') (w v : Int) : (k_X3_bribe I R w v).1 = (k_X4_bribe F R' w v).1 ∧ (k_X3_bribe I R w v).2 = (I, R) ∧ (k_X4_bribe F R' w v).2 = (F, R') := by
  unfold k_X3_bribe k_X4_bribe
  rw [h.sr.1]
  by_cases e2 : 0 ≤ w ∧ w < F 3
  · rw [if_pos e2, if_neg (show ¬ ¬ (0 ≤ w ∧ w ≤ F 3 - 1) by omega)]
    by_cases e3 : 0 ≤ v ∧ v ≤ 3
    · rw [if_pos e3, if_pos e3]
      refine ⟨?_, rfl, rfl⟩
      show (br _ _).1 = (br _ _).1
      rw [br_congr (Q := fun y9 : Nat => decide (wm F R' w (y9 : Int) v = v)) (fun k _ => by rw [wi_0 h e2]), h.wr.1]
    · rw [if_neg e3, if_neg e3]
      exact ⟨rfl, rfl, rfl⟩
  · rw [if_neg e2, if_pos (by omega)]
    exact ⟨rfl, rfl, rfl⟩
/-- the least of all settings -/
theorem am_su (h : St I R F R') : am (fun t : Nat => su (mz I R (t : Int)) (Int.toNat (I 5 14))) (2 ^ (Int.toNat (2 * I 5 13))) = am (fun y9 : Nat => su (mm F (wt F R' (y9 : Int))) (Int.toNat (F 7))) (2 ^ (Int.toNat (2 * F 3))) := by
  rw [h.sr.1]
  exact am_congr (fun t _ => su_mm h.sr h.wr h.mv.town VS_tA)
theorem am_mx (h : St I R F R') : am (fun t : Nat => mx (mz I R (t : Int)) (Int.toNat (I 5 14))) (2 ^ (Int.toNat (2 * I 5 13))) = am (fun y9 : Nat => mx (mm F (wt F R' (y9 : Int))) (Int.toNat (F 7))) (2 ^ (Int.toNat (2 * F 3))) := by
  rw [h.sr.1]
  exact am_congr (fun t _ => mx_mm h.sr h.wr h.mv.town VS_tA)
theorem am_2 {g : Nat → Int} {n : Nat} (hg : ∀ x, x < n → 0 ≤ g x ∧ g x < 1000000) (hn : 0 < n) : g (Int.toNat (am g n).1) = (am g n).2 := by
  have key : ∀ m : Nat, m ≤ n → ((am g m).2 < 1000000 → g (Int.toNat (am g m).1) = (am g m).2) ∧ (0 < m → (am g m).2 < 1000000) := by
    intro m
    induction m with
    | zero => intro _; exact ⟨fun q => absurd q (show ¬ (1000000 : Int) < 1000000 by decide), fun q => absurd q (Nat.lt_irrefl 0)⟩
    | succ m ih =>
      intro hm
      have i1 := ih (by omega)
      have i2 := hg m (by omega)
      by_cases e : g m < (am g m).2
      · rw [am_s1 e]
        exact ⟨fun _ => by simp only [Int.toNat_natCast], fun _ => i2.2⟩
      · rw [am_s2 (Int.not_lt.mp e)]
        exact ⟨i1.1, fun _ => by omega⟩
  exact (key n (Nat.le_refl n)).1 ((key n (Nat.le_refl n)).2 hn)
end JEQ
