/-! the law's calls -/
/-- the places of a world -/
def AC (w : va_W) : Nat → Prop := fun q => ∃ (k : Nat) (x : Nat × va_E), w[k]? = some x ∧ x.1 = q
theorem AC.own {A0 : Nat → Prop} {w : va_W} (h : va_D A0 w) : va_D (AC w) w := ⟨h.1, fun k q hk => ⟨k, q, hk, rfl⟩⟩
theorem AC.sub {A0 : Nat → Prop} {w : va_W} (h : va_D A0 w) : ∀ q, AC w q → A0 q := by
  rintro q ⟨k, x, hx, rfl⟩
  exact h.2 k x hx
theorem AC.kept {D : va_G} {cl : List vw_C} {w1 w2 : va_W} {H H1 : Heap} (hQ : va_P D cl w2 H) (hap : Apt w1 w2) (hk : ∀ q : Nat, q < H.size → ¬ AC w1 q → H1[q]? = H[q]?) : va_P D cl w2 H1 :=
  hQ.kept (fun k x hx => hk x.1 ((hQ k x hx).lt) (fun ⟨j, y, hy, e⟩ => hap j k y x hy hx e))
