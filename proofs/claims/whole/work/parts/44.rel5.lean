/-! calls that change the town, the trace, the fault -/
section JEQ3
variable {I R : Nat → Nat → Int} {F : Nat → Int} {R' : Nat → Nat → Int}
/-- both answer the same, and both states stay the same -/
def Same (p : Int × (Nat → Nat → Int) × (Nat → Nat → Int)) (q : Int × (Nat → Int) × (Nat → Nat → Int)) : Prop := p.1 = q.1 ∧ St p.2.1 p.2.2 q.2.1 q.2.2
theorem St.flt (h : St I R F R') {x : Int} (hx : 0 ≤ x ∧ x ≤ 4) : St (u2 I 0 6 x) R (u1 F 0 x) R' := ⟨⟨h.vi.1, h.vi.2.1, h.vi.2.2.1, h.vi.2.2.2.1, hx, h.vi.2.2.2.2.2⟩, ⟨h.mv.1, hx, h.mv.2.2⟩, h.sr, h.wr, h.rr, h.stands, h.cells, h.vs, h.wc, rfl, h.trace, h.sh⟩
theorem St.trc (h : St I R F R') {x : Int} : St (u2 I 0 5 x) R (u1 F 31 x) R' := ⟨h.vi, h.mv, h.sr, h.wr, h.rr, h.stands, h.cells, h.vs, h.wc, h.fault, rfl, h.sh⟩
theorem eq_law (h : St I R F R') (v : Int) : Same (k_X3_law I R v) (k_X4_law F R' v) := by
  unfold k_X3_law k_X4_law
  by_cases e : 0 ≤ v ∧ v ≤ 2
  · rw [if_pos e, if_pos e]
    by_cases e2 : F 1 = 0
    · rw [if_pos (h.stands.mpr e2), if_pos e2]; exact ⟨rfl, h⟩
    · rw [if_neg (fun q => e2 (h.stands.mp q)), if_neg e2]
      exact ⟨h.sr.2.1, ⟨TI_law h.vi.town e, h.vi.2⟩, ⟨MI_law h.mv.town e, h.mv.2⟩, ⟨h.sr.1, rfl, h.sr.2.2.1, h.sr.2.2.2⟩, h.wr, h.rr, h.stands, h.cells, h.vs, h.wc, h.fault, h.trace, h.sh⟩
  · rw [if_neg e, if_neg e]; exact ⟨rfl, h⟩
theorem TI_set {I R : Nat → Nat → Int} (h : TI I R) {s : Int} (hs : 0 ≤ s ∧ s < 2 ^ (Int.toNat (2 * I 5 13))) : TI (u2 I 5 16 s) R := ⟨h.1, h.2.1, h.2.2.1, h.2.2.2.1, h.2.2.2.2.1, hs, h.2.2.2.2.2.2⟩
theorem eq_turn (h : St I R F R') (w v : Int) : Same (k_X3_turn I R w v) (k_X4_turn F R' w v) := by
  unfold k_X3_turn k_X4_turn
  have h3 := h.mv.town.works
  by_cases e : 0 ≤ w ∧ w < F 3
  · rw [if_pos (show 0 ≤ w ∧ w < I 5 13 by rw [h.sr.1]; exact e), if_neg (show ¬ ¬ (0 ≤ w ∧ w ≤ F 3 - 1) by omega)]
    by_cases e2 : 0 ≤ v ∧ v ≤ 3
    · rw [if_pos e2, if_pos e2]
      have hv := h.vs (Int.toNat w) (by omega)
      rw [show ((Int.toNat w : Nat) : Int) = w by omega] at hv
      have hn := h.vs.turn h3 (set256 h) (w := Int.toNat w) (v := v) (by omega) (by omega)
      rw [show ((Int.toNat w : Nat) : Int) = w by omega] at hn
      refine ⟨by rw [h.sr.1]; exact hv.symm, ⟨TI_set h.vi.town (tz_bd h.vi.town.works h.vi.town.set (by rw [h.sr.1]; exact e) (by omega)), h.vi.2⟩, ⟨h.mv.town.turn (h.mv.town.u1 (by omega)), h.mv.2⟩, h.sr, h.wr, h.rr, h.stands, h.cells, ?_, h.wc, h.fault, h.trace, h.sh⟩
      show VS (F 3) (u1 (R' 6) (Int.toNat w) v) (tz (I 5 13) (I 5 16) w v)
      rw [h.sr.1]
      exact hn
    · rw [if_neg e2, if_neg e2]; exact ⟨rfl, h⟩
  · rw [if_neg (show ¬ (0 ≤ w ∧ w < I 5 13) by rw [h.sr.1]; exact e), if_pos (show ¬ (0 ≤ w ∧ w ≤ F 3 - 1) by omega)]; exact ⟨rfl, h⟩
theorem eq_year (h : St I R F R') : Same (k_X3_year I R) (k_X4_year F R') := by
  unfold k_X3_year k_X4_year
  have h3 := h.mv.town.works
  by_cases e2 : F 1 = 0
  · rw [if_pos (h.stands.mpr e2), if_pos e2]; exact ⟨rfl, h⟩
  · rw [if_neg (fun q => e2 (h.stands.mp q)), if_neg e2]
    have hy := ye_bd h.vi.town h.vi.town.set (Int.toNat (I 5 13)) (by have := h.vi.town.works; omega)
    have e3 := yc_tcn h.sr h.wr h.mv.town h.vi.town h.vi.town.set h.vs (Int.toNat (F 3)) (by omega)
    have e4 := ye_ym h.sr h.wr h.mv.town h.vi.town h.vi.town.set h.vs (Int.toNat (F 3)) (by omega)
    rw [uR6] at e3 e4
    refine ⟨by rw [h.sr.1]; exact e3, ⟨TI_set h.vi.town hy, h.vi.2⟩, ⟨h.mv.town.yr, h.mv.2⟩, h.sr, h.wr, h.rr, h.stands, h.cells, ?_, h.wc, h.fault, h.trace, h.sh⟩
    show VS (F 3) (ym F R' (Int.toNat (F 3))) (ye I R (I 5 16) (Int.toNat (I 5 13)))
    rw [h.sr.1]
    exact e4
theorem eq_back (h : St I R F R') (k : Int) : Same (k_X3_back I R k) (k_X4_back F R' k) := by
  unfold k_X3_back k_X4_back
  have hr := h.mv.town.reads
  have e0 := h.rr.1
  by_cases e : 0 ≤ k ∧ k ≤ F 24
  · rw [if_pos (show 0 ≤ k ∧ k ≤ I 5 17 by rw [e0]; exact e), if_pos e]
    refine ⟨by rw [e0], ⟨⟨h.vi.town.1, h.vi.town.2.1, h.vi.town.2.2.1, ⟨by show 0 ≤ I 5 17 - k; omega, by show I 5 17 - k ≤ 8; omega⟩, h.vi.town.2.2.2.2⟩, h.vi.2⟩, ⟨⟨h.mv.town.1, h.mv.town.2.1, h.mv.town.2.2.1, ⟨by show 0 ≤ F 24 - k; omega, by show F 24 - k ≤ 8; omega⟩, h.mv.town.2.2.2.2⟩, h.mv.2⟩, h.sr, h.wr, ⟨by show I 5 17 - k = F 24 - k; rw [e0], fun x hx => h.rr.2 x (by have : (x : Int) < F 24 - k := hx; omega)⟩, h.stands, h.cells, h.vs, h.wc, h.fault, h.trace, h.sh⟩
  · rw [if_neg (show ¬ (0 ≤ k ∧ k ≤ I 5 17) by rw [e0]; exact e), if_neg e]; exact ⟨rfl, h⟩
theorem u1_rng {f : Nat → Int} {n : Nat} {i : Nat} {x lo hi : Int} (h : ∀ k, k < n → lo ≤ f k ∧ f k ≤ hi) (hx : lo ≤ x ∧ x ≤ hi) : ∀ k, k < n → lo ≤ u1 f i x k ∧ u1 f i x k ≤ hi := by
  intro k hk
  unfold u1
  split
  · exact hx
  · exact h k hk
theorem u1_rnl {f : Nat → Int} {n : Nat} {i : Nat} {x lo hi : Int} (h : ∀ k, k < n → lo ≤ f k ∧ f k < hi) (hx : lo ≤ x ∧ x < hi) : ∀ k, k < n → lo ≤ u1 f i x k ∧ u1 f i x k < hi := by
  intro k hk
  unfold u1
  split
  · exact hx
  · exact h k hk
theorem eq_reading (h : St I R F R') (c v : Int) : Same (k_X3_reading I R c v) (k_X4_reading F R' c v) := by
  unfold k_X3_reading k_X4_reading
  have hr := h.mv.town.reads
  have hsp := h.mv.town.spots
  have e0 := h.rr.1
  have hT := h.vi.town
  have hM := h.mv.town
  rw [h.cells]
  by_cases e : 0 ≤ c ∧ c < F 1 * F 2
  · rw [if_pos e, if_neg (show ¬ ¬ (0 ≤ c ∧ c ≤ F 1 * F 2 - 1) by omega)]
    by_cases e2 : 0 ≤ v ∧ v ≤ 99
    · rw [if_pos e2, if_pos e2]
      by_cases e3 : F 24 = 8
      · rw [if_neg (by omega), if_pos e3]; exact ⟨rfl, h⟩
      · rw [if_pos (by omega), if_neg e3]
        refine ⟨by show I 5 17 = F 24 + 1 - 1; omega, ⟨⟨hT.1, hT.2.1, hT.2.2.1, ⟨by show 0 ≤ I 5 17 + 1; omega, by show I 5 17 + 1 ≤ 8; omega⟩, hT.cells, hT.set, hT.str, hT.dist, hT.nose, hT.wcell, hT.kind, hT.kcell, ?_, ?_⟩, h.vi.2.1, h.vi.2.2.1, ?_, h.vi.2.2.2.2⟩, ⟨⟨hM.1, hM.2.1, hM.2.2.1, ⟨by show 0 ≤ F 24 + 1; omega, by show F 24 + 1 ≤ 8; omega⟩, hM.high, hM.wide, hM.some, hM.win, hM.str, hM.vane, hM.wcell, hM.kind, hM.nose, ?_, ?_⟩, h.mv.2⟩, h.sr, h.wr, ⟨by show I 5 17 + 1 = F 24 + 1; rw [e0], ?_⟩, h.stands, h.cells, h.vs, h.wc, h.fault, h.trace, ?_⟩
        · exact u1_rnl hT.rcell (by omega)
        · exact u1_rng hT.rsm e2
        · intro k hk j hj
          show -2147483648 ≤ uR (uR R 11 (u1 (R 11) (Int.toNat (I 5 17)) c)) 12 (u1 (R 12) (Int.toNat (I 5 17)) v) (26 + 2 * k) j ∧ uR (uR R 11 (u1 (R 11) (Int.toNat (I 5 17)) c)) 12 (u1 (R 12) (Int.toNat (I 5 17)) v) (26 + 2 * k) j < 2147483648
          rw [uR_n (by omega), uR_n (by omega)]
          exact h.vi.row hk hj
        · exact u1_rnl hM.rcell (by omega)
        · exact u1_rng hM.rsm e2
        · intro x hx
          have hx2 : (x : Int) < F 24 + 1 := hx
          show u1 (R 11) (Int.toNat (I 5 17)) c x = u1 (R' 25) (Int.toNat (F 24)) c x ∧ u1 (R 12) (Int.toNat (I 5 17)) v x = u1 (R' 26) (Int.toNat (F 24)) v x ∧ 0 ≤ u1 (R' 25) (Int.toNat (F 24)) c x ∧ u1 (R' 25) (Int.toNat (F 24)) c x < F 1 * F 2
          rw [e0]
          by_cases e4 : x = Int.toNat (F 24)
          · rw [e4, u1_s, u1_s, u1_s, u1_s]; exact ⟨rfl, rfl, e⟩
          · rw [u1_n e4, u1_n e4, u1_n e4, u1_n e4]; exact h.rr.2 x (by omega)
        · intro k hk
          refine ⟨(h.sh k hk).1, fun i hi => ?_⟩
          show uR (uR R 11 (u1 (R 11) (Int.toNat (I 5 17)) c)) 12 (u1 (R 12) (Int.toNat (I 5 17)) v) (26 + 2 * k) i = R' 29 (60 * k + i)
          rw [uR_n (by omega), uR_n (by omega)]
          exact (h.sh k hk).2 i hi
    · rw [if_neg e2, if_neg e2]; exact ⟨rfl, h⟩
  · rw [if_neg e, if_pos (show ¬ (0 ≤ c ∧ c ≤ F 1 * F 2 - 1) by omega)]; exact ⟨rfl, h⟩
theorem St.trc2 (h : St I R F R') {x : Int} {F2 : Nat → Int} (e : F2 = u1 F 31 x) : St (u2 I 0 5 x) R F2 R' := by
  rw [e]; exact h.trc
theorem eq_woo (h : St I R F R') (k : Int) : Same (k_X3_woo I R k) (k_X4_woo F R' k) := by
  unfold k_X3_woo k_X4_woo
  rw [h.wr.1]
  by_cases e : 0 ≤ k ∧ k < F 7
  · rw [if_pos e, if_neg (show ¬ ¬ (0 ≤ k ∧ k ≤ F 7 - 1) by omega), (h.wr.2 (Int.toNat k) (by omega)).1, h.trace]
    by_cases e2 : R' 9 (Int.toNat k) = 2
    · rw [if_pos e2, if_pos e2, if_pos e2]; exact ⟨rfl, h.trc⟩
    · rw [if_neg e2, if_neg e2, if_neg e2]; exact ⟨rfl, h.trc⟩
  · rw [if_neg e, if_pos (show ¬ (0 ≤ k ∧ k ≤ F 7 - 1) by omega)]; exact ⟨rfl, h⟩
theorem eq_tell (h : St I R F R') (k : Int) : Same (k_X3_tell I R k) (k_X4_tell F R' k) := by
  unfold k_X3_tell k_X4_tell
  have hK := h.mv.town.wards
  rw [h.wr.1]
  by_cases e : 0 ≤ k ∧ k < F 7
  · have hw := h.wr.2 (Int.toNat k) (by omega)
    have hk := h.mv.town.kind (Int.toNat k) (by omega)
    rw [if_pos e, if_neg (show ¬ ¬ (0 ≤ k ∧ k ≤ F 7 - 1) by omega), hw.1, hw.2.1, h.trace]
    rcases (show R' 9 (Int.toNat k) = 0 ∨ R' 9 (Int.toNat k) = 1 ∨ R' 9 (Int.toNat k) = 2 by omega) with e2 | e2 | e2 <;> simp only [e2, Int.reduceEq, Int.reduceLT, reduceIte, u1_u]
    · exact ⟨rfl, h.trc⟩
    · exact ⟨rfl, h.trc⟩
    · exact ⟨by show R' 10 (Int.toNat k) + 100 + R' 10 (Int.toNat k) = 2 * R' 10 (Int.toNat k) + 100; omega, h.trc⟩
  · rw [if_neg e, if_pos (show ¬ (0 ≤ k ∧ k ≤ F 7 - 1) by omega)]; exact ⟨rfl, h⟩
theorem eq_as (h : St I R F R') (k kind : Int) : Same (k_X3_as I R k kind) (k_X4_as F R' k kind) := by
  unfold k_X3_as k_X4_as
  rw [h.wr.1]
  by_cases e : 0 ≤ k ∧ k < F 7
  · rw [if_pos e, if_neg (show ¬ ¬ (0 ≤ k ∧ k ≤ F 7 - 1) by omega), (h.wr.2 (Int.toNat k) (by omega)).1]
    by_cases e2 : 0 ≤ kind ∧ kind ≤ 2
    · rw [if_pos e2, if_pos e2]
      by_cases e3 : R' 9 (Int.toNat k) < kind
      · rw [if_pos e3, if_pos e3, u2_u]; exact ⟨rfl, h.flt (by decide)⟩
      · rw [if_neg e3, if_neg e3]; exact ⟨rfl, h.flt (by decide)⟩
    · rw [if_neg e2, if_neg e2]; exact ⟨rfl, h.flt (by decide)⟩
  · rw [if_neg e, if_pos (show ¬ (0 ≤ k ∧ k ≤ F 7 - 1) by omega)]; exact ⟨rfl, h.flt (by decide)⟩
end JEQ3
