/-! things that are made -/
theorem jn_u {D : va_G} {cl : List vw_C} {tys : List (ClassId × FieldType)} {s : State} {cA cI : ClassId} (hK : va_K D cl (tys ++ [(cA, .int)]) s) (h0 : tys[0]? = some (cI, .int)) : cA = cI := by
  have a := (hK.2 tys.length (cA, .int) (by simp)).2
  have b := (hK.2 0 (cI, .int) (by rw [List.getElem?_append_left (List.getElem?_eq_some_iff.mp h0).1]; exact h0)).2
  exact Option.some.inj (Eq.trans (Eq.symm a) b)
/-- the class as it is made, the model as it is made -/
def I0 : Nat → Nat → Int := fun q _ => if q = 25 then -1 else 0
def F0m : Nat → Int := fun _ => 0
def R0m : Nat → Nat → Int := uR (fun _ _ => 0) 27 (u1 (u1 (u1 (u1 (fun _ => 0) 0 (-1)) 1 (-1)) 2 (-1)) 3 (-1))
