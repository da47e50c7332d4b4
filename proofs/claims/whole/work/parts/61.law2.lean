/-! the law's calls -/
/-- the places of a world -/
def AC (w : va_W) : Nat → Prop := fun q => ∃ (k : Nat) (x : Nat × va_E), w[k]? = some x ∧ x.1 = q
theorem AC.own {A0 : Nat → Prop} {w : va_W} (h : va_D A0 w) : va_D (AC w) w := ⟨h.1, fun k q hk => ⟨k, q, hk, rfl⟩⟩
theorem AC.sub {A0 : Nat → Prop} {w : va_W} (h : va_D A0 w) : ∀ q, AC w q → A0 q := by
  rintro q ⟨k, x, hx, rfl⟩
  exact h.2 k x hx
theorem AC.kept {D : va_G} {cl : List vw_C} {w1 w2 : va_W} {H H1 : Heap} (hQ : va_P D cl w2 H) (hap : Apt w1 w2) (hk : ∀ q : Nat, q < H.size → ¬ AC w1 q → H1[q]? = H[q]?) : va_P D cl w2 H1 :=
  hQ.kept (fun k x hx => hk x.1 ((hQ k x hx).lt) (fun ⟨j, y, hy, e⟩ => hap j k y x hy hx e))
section JLC
variable {p : Program} {l : Launch} {e : Env} {R0 : Room} {s : State} {m : MethodId} {args : Array Value} {below : List Frame} {meth : Method} {c : Code} {H H0 : Heap} {locs : List Loc} {cells slots : Nat} {Q : State → Prop} {cc : ByteArray} {pc : Nat} {ls : Array Slot} {rest st0 : List Value} {nL : Nat} {Ts : List Cond} {own : String} {D : va_G} {A0 : Nat → Prop} {w1 w2 : va_W}
/-- a call that changes its own world alone -/
theorem jl_V (C : CallFix p m c cc nL s args Ts own) (hl : ls.size = nL) {y : MethodName} {ws : List Cond} {rm : Room} {Bp : State → Prop} {As : List Value} {bytes : ByteArray} {maxL n index : Nat} {ret : Option FieldType} {Cn : String} {a : Nat} {S : Type} {post : Option Value → S → Prop} {G : S → Heap → Prop} (hQ : va_P D vwCl w2 H) (hD : va_D A0 w1) (hap : Apt w1 w2) (hp : PreV s H Cn a (va_Pc (.ref a :: As) Bp) As) (hM : JV l y ws rm Bp (AC w1) (.ref a :: As) post G) (cw : CallW R0 s args own Cn index y bytes maxL ret ws rm 0 0 n) (hn : As.length = n) (hst : st0 = As.reverse ++ .ref a :: rest) (hW : (rest.map fun v => v.category).sum ≤ 8) (hdg : decode cc pc = .ok (.invokevirtual index, 3)) (hf : cells ≤ R0.cells ∧ slots ≤ R0.slots) (hS : va_S A0 H0 H locs)
    (kk : ∀ (v : Option Value) (u : S) (H1 : Heap) (locs1 : List Loc), post v u → G u H1 → va_P D vwCl w2 H1 → va_S A0 H0 H1 locs1 → W p l e R0 s m args below meth c H1 locs1 cells slots Q (F0 m (pc + 3) ls (v.toList ++ rest))) : W p l e R0 s m args below meth c H locs cells slots Q (F0 m pc ls st0) :=
  JV.gol (a := (Value.ref a :: As).toArray) (va_runV C hM cw hp rfl hn hl hst (lv_room hW) hdg hf) hS (AC.sub hD) (fun v u H1 locs1 h1 h2 h3 h4 => kk v u H1 locs1 h1 h2 (AC.kept hQ hap h3) h4)
end JLC
