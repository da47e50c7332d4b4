/-! the model's reading, spot by spot -/
abbrev jM : Type := Int × (Nat → Int) × (Nat → Nat → Int)
def keM (F F' : Nat → Int) (R R' : Nat → Nat → Int) : Prop := (∀ q, q ≠ 12 → q ≠ 15 → q ≠ 16 → F' q = F q) ∧ (∀ q, (q < 17 ∨ 21 < q) → R' q = R q)
theorem keM.rf {F : Nat → Int} {R : Nat → Nat → Int} : keM F F R R := ⟨fun _ _ _ _ => rfl, fun _ _ => rfl⟩
theorem keM.tr {F F' F'' : Nat → Int} {R R' R'' : Nat → Nat → Int} (h : keM F F' R R') (h2 : keM F' F'' R' R'') : keM F F'' R R'' := ⟨fun q a b c => (h2.1 q a b c).trans (h.1 q a b c), fun q a => (h2.2 q a).trans (h.2 q a)⟩
theorem keM.pl {F : Nat → Int} {R : Nat → Nat → Int} {x : Int} : keM F (u1 F 12 x) R R := ⟨fun q a _ _ => u1_n a, fun _ _ => rfl⟩
theorem BM.pl {F : Nat → Int} {R : Nat → Nat → Int} {n fr : Int} (h : BM F R n fr) (hlt : F 12 < n) : BM (u1 F 12 (F 12 + 1)) R n fr := by
  have h1 := h.1
  exact ⟨⟨by show 0 ≤ F 12 + 1; omega, by show F 12 + 1 ≤ n; omega⟩, h.2⟩
theorem rk_ok {F : Nat → Int} {R : Nat → Nat → Int} {fr n c : Int} (h : BM F R n fr) (hlt : F 12 < n) : BM (k_X4_readsWork F R fr n c).2.1 (k_X4_readsWork F R fr n c).2.2 n fr ∧ keM F (k_X4_readsWork F R fr n c).2.1 R (k_X4_readsWork F R fr n c).2.2 := by
  have h1 := h.1
  have hw := h.2.2.1
  unfold k_X4_readsWork
  split
  · exact ⟨h, keM.rf⟩
  · next e =>
    split
    · next e2 =>
      have hl := cdx_lt (p := F 12 + 1) (n := n) (fr := fr) (T := R 29) (by omega)
      refine ⟨⟨⟨by show 0 ≤ F 12 + 1 + 1; omega, by show F 12 + 1 + 1 ≤ n; omega⟩, h.2.1, ⟨by show 0 ≤ F 15 + 1; omega, by show F 15 + 1 ≤ 4; omega⟩, h.2.2.2⟩, ?_, ?_⟩
      · intro q a b d; simp only [u1, if_neg a, if_neg b]
      · intro q a; simp only [uR, if_neg (show ¬ q = 17 by omega), if_neg (show ¬ q = 18 by omega)]
    · refine ⟨⟨⟨by show 0 ≤ F 12 + 1 + 0; omega, by show F 12 + 1 + 0 ≤ n; omega⟩, h.2⟩, ?_, fun _ _ => rfl⟩
      intro q a b d; simp only [u1, if_neg a]
theorem rd_ok {F : Nat → Int} {R : Nat → Nat → Int} {fr n c kind : Int} (h : BM F R n fr) (hlt : F 12 < n) : BM (k_X4_readsWard F R fr n c kind).2.1 (k_X4_readsWard F R fr n c kind).2.2 n fr ∧ keM F (k_X4_readsWard F R fr n c kind).2.1 R (k_X4_readsWard F R fr n c kind).2.2 := by
  have h1 := h.1
  have hw := h.2.2.2.1
  unfold k_X4_readsWard
  split
  · exact ⟨h, keM.rf⟩
  · next e =>
    split
    · next e2 =>
      have hl := cdx_lt (p := F 12 + 1) (n := n) (fr := fr) (T := R 29) (by omega)
      refine ⟨⟨⟨by show 0 ≤ F 12 + 1 + 1; omega, by show F 12 + 1 + 1 ≤ n; omega⟩, h.2.1, h.2.2.1, ⟨by show 0 ≤ F 16 + 1; omega, by show F 16 + 1 ≤ 6; omega⟩, h.2.2.2.2⟩, ?_, ?_⟩
      · intro q a b d; simp only [u1, if_neg a, if_neg d]
      · intro q a; simp only [uR, if_neg (show ¬ q = 19 by omega), if_neg (show ¬ q = 20 by omega), if_neg (show ¬ q = 21 by omega)]
    · refine ⟨⟨⟨by show 0 ≤ F 12 + 1 + 0; omega, by show F 12 + 1 + 0 ≤ n; omega⟩, h.2⟩, ?_, fun _ _ => rfl⟩
      intro q a b d; simp only [u1, if_neg a]
/-- a cell's letter -/
def sp1 (F : Nat → Int) (R : Nat → Nat → Int) (fr n c : Int) : jM := if cdx (F 12) n fr (R 29) = 46 then (1, u1 F 12 (F 12 + 1), R) else if cdx (F 12) n fr (R 29) = 102 then k_X4_readsWard F R fr n c 2 else if cdx (F 12) n fr (R 29) = 114 then k_X4_readsWard F R fr n c 1 else if cdx (F 12) n fr (R 29) = 119 then k_X4_readsWard F R fr n c 0 else if cdx (F 12) n fr (R 29) = 120 then k_X4_readsWork F R fr n c else (0, F, R)
theorem spot_e {F : Nat → Int} {R : Nat → Nat → Int} {fr n c : Int} : k_X4_readsSpot F R fr n c = if c % F 14 = 0 then (if cdx (F 12) n fr (R 29) = 59 then sp1 (u1 F 12 (F 12 + 1)) R fr n c else (0, F, R)) else sp1 F R fr n c := by
  unfold k_X4_readsSpot sp1
  rfl
theorem sp1_ok {F : Nat → Int} {R : Nat → Nat → Int} {fr n c : Int} (h : BM F R n fr) : ((sp1 F R fr n c).1 = 0 ∨ (sp1 F R fr n c).1 = 1) ∧ BM (sp1 F R fr n c).2.1 (sp1 F R fr n c).2.2 n fr ∧ keM F (sp1 F R fr n c).2.1 R (sp1 F R fr n c).2.2 := by
  have hl : ∀ x : Int, 0 ≤ x → cdx (F 12) n fr (R 29) = x → F 12 < n := fun x hx e => cdx_lt (fr := fr) (T := R 29) (by omega)
  unfold sp1
  split
  · next e => exact ⟨Or.inr rfl, h.pl (hl _ (by decide) e), keM.pl⟩
  · split
    · next e => exact ⟨rd_01, rd_ok h (hl _ (by decide) e)⟩
    · split
      · next e => exact ⟨rd_01, rd_ok h (hl _ (by decide) e)⟩
      · split
        · next e => exact ⟨rd_01, rd_ok h (hl _ (by decide) e)⟩
        · split
          · next e => exact ⟨rk_01, rk_ok h (hl _ (by decide) e)⟩
          · exact ⟨Or.inl rfl, h, keM.rf⟩
theorem spot_ok {F : Nat → Int} {R : Nat → Nat → Int} {fr n c : Int} (h : BM F R n fr) : ((k_X4_readsSpot F R fr n c).1 = 0 ∨ (k_X4_readsSpot F R fr n c).1 = 1) ∧ BM (k_X4_readsSpot F R fr n c).2.1 (k_X4_readsSpot F R fr n c).2.2 n fr ∧ keM F (k_X4_readsSpot F R fr n c).2.1 R (k_X4_readsSpot F R fr n c).2.2 := by
  rw [spot_e]
  split
  · split
    · next e =>
      have hl := cdx_lt (p := F 12) (n := n) (fr := fr) (T := R 29) (by omega)
      have h2 := sp1_ok (c := c) (h.pl hl)
      exact ⟨h2.1, h2.2.1, keM.pl.tr h2.2.2⟩
    · exact ⟨Or.inl rfl, h, keM.rf⟩
  · exact sp1_ok h
def spS (F : Nat → Int) (R : Nat → Nat → Int) (fr n : Int) : Nat → jM
  | 0 => (1, F, R)
  | c + 1 => if (spS F R fr n c).1 = 0 then spS F R fr n c else k_X4_readsSpot (spS F R fr n c).2.1 (spS F R fr n c).2.2 fr n c
theorem spS_ok {F : Nat → Int} {R : Nat → Nat → Int} {fr n : Int} (h : BM F R n fr) : ∀ c : Nat, ((spS F R fr n c).1 = 0 ∨ (spS F R fr n c).1 = 1) ∧ BM (spS F R fr n c).2.1 (spS F R fr n c).2.2 n fr ∧ keM F (spS F R fr n c).2.1 R (spS F R fr n c).2.2 := by
  intro c
  induction c with
  | zero => exact ⟨Or.inr rfl, h, keM.rf⟩
  | succ c ih =>
    simp only [spS]
    split
    · exact ih
    · have h2 := spot_ok (c := (c : Int)) ih.2.1
      exact ⟨h2.1, h2.2.1, ih.2.2.tr h2.2.2⟩
theorem spS_0 {F : Nat → Int} {R : Nat → Nat → Int} {fr n : Int} {c : Nat} (h : (spS F R fr n c).1 = 0) : ∀ m : Nat, c ≤ m → spS F R fr n m = spS F R fr n c := by
  intro m
  induction m with
  | zero => intro hm; rw [show c = 0 by omega]
  | succ m ih =>
    intro hm
    by_cases e : c = m + 1
    · rw [e]
    · have h2 := ih (by omega)
      simp only [spS]
      rw [h2, if_pos h]
theorem spS_s {F F1 : Nat → Int} {R R1 : Nat → Nat → Int} {fr n : Int} {c : Nat} (h : spS F R fr n c = (1, F1, R1)) : spS F R fr n (c + 1) = k_X4_readsSpot F1 R1 fr n c := by
  simp only [spS]
  rw [h]
  exact if_neg (show ¬ (1 : Int) = 0 by decide)
theorem jM_e {p : jM} {a : Nat → Int} {b : Nat → Nat → Int} {x : Int} (h1 : p.1 = x) (h2 : a = p.2.1) (h3 : b = p.2.2) : p = (x, a, b) := by
  subst h2 h3 h1
  rfl
