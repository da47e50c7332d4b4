/-! rows of a text, a text -/
theorem nx_lt2 {p n a b : Int} {cd : Nat → Int} (h : a ≤ nx p n cd ∧ nx p n cd ≤ b) (ha : 0 ≤ a) : p < n := nx_lt (cd := cd) (by omega)
theorem rp_ok {I R : Nat → Nat → Int} (h : BI I R) {r c : Int} : ((k_X1_readPart I R r c).1 = 0 ∨ (k_X1_readPart I R r c).1 = 1) ∧ BI (k_X1_readPart I R r c).2.1 (k_X1_readPart I R r c).2.2 ∧ (∀ q f, (q ≠ 15 ∨ (f ≠ 13 ∧ f ≠ 14)) → (q ≠ 2 ∨ f ≠ 2) → (k_X1_readPart I R r c).2.1 q f = I q f) := by
  have hpl := h.place
  have hw := h.works
  have hk := h.wards
  unfold k_X1_readPart
  have base : ∀ x : Int, 0 ≤ x → x ≤ I 2 1 → BI (u2 I 2 2 x) R := fun x h0 h1 => ⟨⟨h0, h1, hpl.2.2⟩, h.2⟩
  have keep : ∀ x : Int, ∀ q f : Nat, (q ≠ 15 ∨ (f ≠ 13 ∧ f ≠ 14)) → (q ≠ 2 ∨ f ≠ 2) → u2 I 2 2 x q f = I q f := by
    intro x q f _ h2
    simp only [u2]
    split
    · split
      · omega
      · rename_i e _; rw [e]
    · rfl
  have keep2 : ∀ (x y : Int) (g : Nat), (g = 13 ∨ g = 14) → ∀ q f : Nat, (q ≠ 15 ∨ (f ≠ 13 ∧ f ≠ 14)) → (q ≠ 2 ∨ f ≠ 2) → u2 (u2 (u2 I 2 2 x) 2 2 y) 15 g ((I 15 g) + 1) q f = I q f := by
    intro x y g hg q f h1 h2
    simp only [u2]
    split
    · split
      · rcases hg with rfl | rfl <;> omega
      · rename_i e _; rw [e, if_neg (by decide)]; simp
    · split
      · split
        · omega
        · rename_i e _; rw [e]
      · rfl
  split
  · next h1 =>
    have hlt := nx_lt (cd := R 3) (p := I 2 2) (n := I 2 1) (by omega)
    split
    · next h2 =>
      split
      · next h3 =>
        have hlt2 := nx_lt2 h3 (by omega)
        exact ⟨Or.inr rfl, ⟨⟨by show 0 ≤ I 2 2 + 1 + 1; omega, by show I 2 2 + 1 + 1 ≤ I 2 1; omega, hpl.2.2⟩, h.2.1, ⟨by show 0 ≤ I 15 13 + 1; omega, by show I 15 13 + 1 ≤ 4; omega⟩, h.2.2.2⟩, keep2 _ _ 13 (Or.inl rfl)⟩
      · exact ⟨Or.inl rfl, base _ (by omega) (by omega), keep _⟩
    · exact ⟨Or.inl rfl, h, fun _ _ _ _ => rfl⟩
  · split
    · next h1 =>
      have hlt := nx_lt (cd := R 3) (p := I 2 2) (n := I 2 1) (by intro q; rw [q] at h1; exact h1 (by decide))
      split
      · next h2 =>
        split
        · next h3 =>
          have hlt2 := nx_lt2 h3 (by omega)
          exact ⟨Or.inr rfl, ⟨⟨by show 0 ≤ I 2 2 + 1 + 1; omega, by show I 2 2 + 1 + 1 ≤ I 2 1; omega, hpl.2.2⟩, h.2.1, h.2.2.1, ⟨by show 0 ≤ I 15 14 + 1; omega, by show I 15 14 + 1 ≤ 6; omega⟩, h.2.2.2.2⟩, keep2 _ _ 14 (Or.inr rfl)⟩
        · exact ⟨Or.inl rfl, base _ (by omega) (by omega), keep _⟩
      · exact ⟨Or.inl rfl, h, fun _ _ _ _ => rfl⟩
    · exact ⟨Or.inl rfl, h, fun _ _ _ _ => rfl⟩
abbrev jS : Type := Int × (Nat → Nat → Int) × (Nat → Nat → Int)
/-- a cell of a text -/
def ce (I R : Nat → Nat → Int) (r c : Int) : jS := if nx (I 2 2) (I 2 1) (R 3) = 46 then (1, u2 I 2 2 (I 2 2 + 1), R) else k_X1_readPart I R r c
def rowS (I R : Nat → Nat → Int) (r : Int) : Nat → jS
  | 0 => (1, I, R)
  | c + 1 => if (rowS I R r c).1 = 0 then rowS I R r c else ce (rowS I R r c).2.1 (rowS I R r c).2.2 r c
def k_X1_readRow (I R : Nat → Nat → Int) (r : Int) : jS := if nx (I 2 2) (I 2 1) (R 3) = 59 then rowS (u2 I 2 2 (I 2 2 + 1)) R r (Int.toNat (I 15 11)) else (0, I, R)
def tS (I R : Nat → Nat → Int) : Nat → jS
  | 0 => (1, I, R)
  | r + 1 => if (tS I R r).1 = 0 then tS I R r else k_X1_readRow (tS I R r).2.1 (tS I R r).2.2 r
/-- what a step of the reading keeps -/
def keeps (I I' : Nat → Nat → Int) : Prop := ∀ q f, (q ≠ 15 ∨ (f ≠ 13 ∧ f ≠ 14)) → (q ≠ 2 ∨ f ≠ 2) → I' q f = I q f
theorem keeps.rf {I : Nat → Nat → Int} : keeps I I := fun _ _ _ _ => rfl
theorem keeps.tr {I I' I'' : Nat → Nat → Int} (h : keeps I I') (h2 : keeps I' I'') : keeps I I'' := fun q f a b => (h2 q f a b).trans (h q f a b)
theorem keeps.pl {I : Nat → Nat → Int} {x : Int} : keeps I (u2 I 2 2 x) := by
  intro q f _ h2
  simp only [u2]
  split
  · split
    · omega
    · rename_i e _; rw [e]
  · rfl
theorem BI.pl {I R : Nat → Nat → Int} (h : BI I R) (hc : ¬ nx (I 2 2) (I 2 1) (R 3) = -1) : BI (u2 I 2 2 (I 2 2 + 1)) R := by
  have h1 := nx_lt hc
  have hpl := h.place
  exact ⟨⟨by show 0 ≤ I 2 2 + 1; omega, by show I 2 2 + 1 ≤ I 2 1; omega, hpl.2.2⟩, h.2⟩
theorem ce_ok {I R : Nat → Nat → Int} (h : BI I R) {r c : Int} : ((ce I R r c).1 = 0 ∨ (ce I R r c).1 = 1) ∧ BI (ce I R r c).2.1 (ce I R r c).2.2 ∧ keeps I (ce I R r c).2.1 := by
  unfold ce
  split
  · exact ⟨Or.inr rfl, h.pl (by omega), keeps.pl⟩
  · exact rp_ok h
theorem rowS_ok {I R : Nat → Nat → Int} (h : BI I R) {r : Int} : ∀ c : Nat, ((rowS I R r c).1 = 0 ∨ (rowS I R r c).1 = 1) ∧ BI (rowS I R r c).2.1 (rowS I R r c).2.2 ∧ keeps I (rowS I R r c).2.1 := by
  intro c
  induction c with
  | zero => exact ⟨Or.inr rfl, h, keeps.rf⟩
  | succ c ih =>
    simp only [rowS]
    split
    · exact ih
    · have := ce_ok ih.2.1 (r := r) (c := c)
      exact ⟨this.1, this.2.1, ih.2.2.tr this.2.2⟩
theorem rowS_0 {I R : Nat → Nat → Int} {r : Int} {c : Nat} (h : (rowS I R r c).1 = 0) : ∀ n : Nat, c ≤ n → rowS I R r n = rowS I R r c := by
  intro n hn
  induction n with
  | zero => rw [show c = 0 by omega]
  | succ n ih =>
    by_cases e : c = n + 1
    · rw [e]
    · have := ih (by omega)
      simp only [rowS]
      rw [this, if_pos h]
theorem rr_ok {I R : Nat → Nat → Int} (h : BI I R) {r : Int} : ((k_X1_readRow I R r).1 = 0 ∨ (k_X1_readRow I R r).1 = 1) ∧ BI (k_X1_readRow I R r).2.1 (k_X1_readRow I R r).2.2 ∧ keeps I (k_X1_readRow I R r).2.1 := by
  unfold k_X1_readRow
  split
  · next hc =>
    have := rowS_ok (h.pl (by omega)) (r := r) (Int.toNat (I 15 11))
    exact ⟨this.1, this.2.1, keeps.pl.tr this.2.2⟩
  · exact ⟨Or.inl rfl, h, keeps.rf⟩
theorem tS_ok {I R : Nat → Nat → Int} (h : BI I R) : ∀ r : Nat, ((tS I R r).1 = 0 ∨ (tS I R r).1 = 1) ∧ BI (tS I R r).2.1 (tS I R r).2.2 ∧ keeps I (tS I R r).2.1 := by
  intro r
  induction r with
  | zero => exact ⟨Or.inr rfl, h, keeps.rf⟩
  | succ r ih =>
    simp only [tS]
    split
    · exact ih
    · have := rr_ok ih.2.1 (r := r)
      exact ⟨this.1, this.2.1, ih.2.2.tr this.2.2⟩
theorem tS_0 {I R : Nat → Nat → Int} {c : Nat} (h : (tS I R c).1 = 0) : ∀ n : Nat, c ≤ n → tS I R n = tS I R c := by
  intro n hn
  induction n with
  | zero => rw [show c = 0 by omega]
  | succ n ih =>
    by_cases e : c = n + 1
    · rw [e]
    · have := ih (by omega)
      simp only [tS]
      rw [this, if_pos h]
theorem jS_e {p : jS} {a b : Nat → Nat → Int} {x : Int} (h1 : p.1 = x) (h2 : a = p.2.1) (h3 : b = p.2.2) : p = (x, a, b) := by
  subst h1; subst h2; subst h3; rfl
theorem rowS_s {I R I1 R1 : Nat → Nat → Int} {r : Int} {c : Nat} (h : rowS I R r c = (1, I1, R1)) : rowS I R r (c + 1) = ce I1 R1 r c := by
  simp only [rowS]
  rw [h]
  exact if_neg (show ¬ (1 : Int) = 0 by decide)
theorem tS_s {I R I1 R1 : Nat → Nat → Int} {r : Nat} (h : tS I R r = (1, I1, R1)) : tS I R (r + 1) = k_X1_readRow I1 R1 r := by
  simp only [tS]
  rw [h]
  exact if_neg (show ¬ (1 : Int) = 0 by decide)
/-- the reader, behind the taking of the codes -/
def B0 (I R : Nat → Nat → Int) : Prop := (0 ≤ I 2 2 ∧ I 2 2 ≤ I 2 1 ∧ I 2 1 ≤ 60) ∧ (∀ j, j < 60 → -2147483648 ≤ R 3 j ∧ R 3 j < 2147483648)
theorem B0.nxt {I R : Nat → Nat → Int} (h : B0 I R) : -2147483648 ≤ nx (I 2 2) (I 2 1) (R 3) ∧ nx (I 2 2) (I 2 1) (R 3) < 2147483648 := by
  have h1 := h.1
  unfold nx
  split
  · exact h.2 _ (by omega)
  · omega
/-- codes taken from a row -/
def lcd (T row : Nat → Int) (f n : Nat) : Nat → Int := fun j => if j < n then row (f + j) else T j
theorem lcd_0 {T row : Nat → Int} {f : Nat} : lcd T row f 0 = T := by funext j; simp [lcd]
theorem lcd_s {T row : Nat → Int} {f n k : Nat} (hk : k = f + n) : u1 (lcd T row f n) n (row k) = lcd T row f (n + 1) := by
  funext j
  subst hk
  simp only [u1, lcd]
  by_cases h1 : j = n
  · subst h1; rw [if_pos rfl, if_pos (by omega)]
  · rw [if_neg h1]
    by_cases h2 : j < n
    · rw [if_pos h2, if_pos (by omega)]
    · rw [if_neg h2, if_neg (by omega)]
/-- the two towns change places -/
def sw (ad : Nat → Nat) : Nat → Nat := fun q => if 5 ≤ q then (if q ≤ 14 then ad (q + 10) else if q ≤ 24 then ad (q - 10) else ad q) else ad q
def swI (I : Nat → Nat → Int) : Nat → Nat → Int := fun q => if q = 5 then I 15 else if q = 15 then I 5 else I q
def swR (R : Nat → Nat → Int) : Nat → Nat → Int := fun q => if 5 ≤ q then (if q ≤ 14 then R (q + 10) else if q ≤ 24 then R (q - 10) else R q) else R q
section SWP
variable {D : va_G} {cI cS : ClassId} {ad : Nat → Nat} {I R I' R' : Nat → Nat → Int} {A : Nat → Prop}
set_option maxRecDepth 100000 in
theorem jD_sw (h : va_D A (wC cI cS ad I R)) : va_D A (wC cI cS (sw ad) I' R') := va_Dmap (h.sub (ws' := [0, 1, 2, 3, 4, 15, 16, 17, 18, 19, 20, 21, 22, 23, 24, 5, 6, 7, 8, 9, 10, 11, 12, 13, 14, 25, 26, 27, 28, 29, 30, 31, 32].filterMap (fun i => (wC cI cS ad I R)[i]?)) [0, 1, 2, 3, 4, 15, 16, 17, 18, 19, 20, 21, 22, 23, 24, 5, 6, 7, 8, 9, 10, 11, 12, 13, 14, 25, 26, 27, 28, 29, 30, 31, 32] (by decide) rfl) rfl
end SWP
