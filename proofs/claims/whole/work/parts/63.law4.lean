set_option maxRecDepth 100000 in
set_option maxHeartbeats 4000000 in
theorem Apt_sw {cI cS : ClassId} {ad : Nat → Nat} {I R I2 R2 : Nat → Nat → Int} {w2 : va_W} (h : Apt (wC cI cS ad I R) w2) : Apt (wC cI cS (sw ad) I2 R2) w2 := by
  refine h.map (fun i q hq => ?_) (fun i q hq => ⟨i, q, hq, rfl⟩)
  have hi : i < 33 := (List.getElem?_eq_some_iff.mp hq).1
  rcases (show i = 0 ∨ i = 1 ∨ i = 2 ∨ i = 3 ∨ i = 4 ∨ i = 5 ∨ i = 6 ∨ i = 7 ∨ i = 8 ∨ i = 9 ∨ i = 10 ∨ i = 11 ∨ i = 12 ∨ i = 13 ∨ i = 14 ∨ i = 15 ∨ i = 16 ∨ i = 17 ∨ i = 18 ∨ i = 19 ∨ i = 20 ∨ i = 21 ∨ i = 22 ∨ i = 23 ∨ i = 24 ∨ i = 25 ∨ i = 26 ∨ i = 27 ∨ i = 28 ∨ i = 29 ∨ i = 30 ∨ i = 31 ∨ i = 32 by omega) with rfl | rfl | rfl | rfl | rfl | rfl | rfl | rfl | rfl | rfl | rfl | rfl | rfl | rfl | rfl | rfl | rfl | rfl | rfl | rfl | rfl | rfl | rfl | rfl | rfl | rfl | rfl | rfl | rfl | rfl | rfl | rfl | rfl
  · cases hq; exact ⟨0, _, rfl, rfl⟩
  · cases hq; exact ⟨1, _, rfl, rfl⟩
  · cases hq; exact ⟨2, _, rfl, rfl⟩
  · cases hq; exact ⟨3, _, rfl, rfl⟩
  · cases hq; exact ⟨4, _, rfl, rfl⟩
  · cases hq; exact ⟨15, _, rfl, rfl⟩
  · cases hq; exact ⟨16, _, rfl, rfl⟩
  · cases hq; exact ⟨17, _, rfl, rfl⟩
  · cases hq; exact ⟨18, _, rfl, rfl⟩
  · cases hq; exact ⟨19, _, rfl, rfl⟩
  · cases hq; exact ⟨20, _, rfl, rfl⟩
  · cases hq; exact ⟨21, _, rfl, rfl⟩
  · cases hq; exact ⟨22, _, rfl, rfl⟩
  · cases hq; exact ⟨23, _, rfl, rfl⟩
  · cases hq; exact ⟨24, _, rfl, rfl⟩
  · cases hq; exact ⟨5, _, rfl, rfl⟩
  · cases hq; exact ⟨6, _, rfl, rfl⟩
  · cases hq; exact ⟨7, _, rfl, rfl⟩
  · cases hq; exact ⟨8, _, rfl, rfl⟩
  · cases hq; exact ⟨9, _, rfl, rfl⟩
  · cases hq; exact ⟨10, _, rfl, rfl⟩
  · cases hq; exact ⟨11, _, rfl, rfl⟩
  · cases hq; exact ⟨12, _, rfl, rfl⟩
  · cases hq; exact ⟨13, _, rfl, rfl⟩
  · cases hq; exact ⟨14, _, rfl, rfl⟩
  · cases hq; exact ⟨25, _, rfl, rfl⟩
  · cases hq; exact ⟨26, _, rfl, rfl⟩
  · cases hq; exact ⟨27, _, rfl, rfl⟩
  · cases hq; exact ⟨28, _, rfl, rfl⟩
  · cases hq; exact ⟨29, _, rfl, rfl⟩
  · cases hq; exact ⟨30, _, rfl, rfl⟩
  · cases hq; exact ⟨31, _, rfl, rfl⟩
  · cases hq; exact ⟨32, _, rfl, rfl⟩
