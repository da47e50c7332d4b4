/-- an int field of a place is changed; a place of an array is changed -/
def u2 (I : Nat → Nat → Int) (q f : Nat) (z : Int) : Nat → Nat → Int := fun q' f' => if q' = q then (if f' = f then z else I q' f') else I q' f'
def uR (R : Nat → Nat → Int) (q : Nat) (g : Nat → Int) : Nat → Nat → Int := fun q' => if q' = q then g else R q'
def u1 (F : Nat → Int) (f : Nat) (z : Int) : Nat → Int := fun f' => if f' = f then z else F f'
theorem u1_s {F : Nat → Int} {f : Nat} {z : Int} : u1 F f z f = z := if_pos rfl
theorem u1_n {F : Nat → Int} {f k : Nat} {z : Int} (h : k ≠ f) : u1 F f z k = F k := if_neg h
theorem u1_u {F : Nat → Int} {f : Nat} {y z : Int} : u1 (u1 F f y) f z = u1 F f z := by funext k; simp only [u1]; split <;> rfl
theorem u1_id {F : Nat → Int} {f : Nat} : u1 F f (F f) = F := by funext k; simp only [u1]; split <;> simp_all
theorem uR_s {R : Nat → Nat → Int} {q : Nat} {g : Nat → Int} : uR R q g q = g := if_pos rfl
theorem uR_n {R : Nat → Nat → Int} {q k : Nat} {g : Nat → Int} (h : k ≠ q) : uR R q g k = R k := if_neg h
theorem uR_u {R : Nat → Nat → Int} {q : Nat} {g h : Nat → Int} : uR (uR R q g) q h = uR R q h := by funext k; simp only [uR]; split <;> rfl
theorem uR_id {R : Nat → Nat → Int} {q : Nat} : uR R q (R q) = R := by funext k; simp only [uR]; split <;> simp_all
theorem u2_s {I : Nat → Nat → Int} {q f : Nat} {z : Int} : u2 I q f z q f = z := by simp [u2]
theorem u2_n {I : Nat → Nat → Int} {q f k : Nat} {z : Int} (h : k ≠ f) : u2 I q f z q k = I q k := by simp [u2, h]
theorem u2_o {I : Nat → Nat → Int} {q f r : Nat} {z : Int} (h : r ≠ q) : u2 I q f z r = I r := by funext k; simp [u2, h]

def wC (cI cS : ClassId) (ad : Nat → Nat) (I R : Nat → Nat → Int) : va_W := [(ad 0, .inr (3, [.ref (ad 1), .ref (ad 2), .ref (ad 4), .ref (ad 5), .ref (ad 15), .int (iI (I 0 5)), .int (iI (I 0 6))])), (ad 1, .inl (cS, 4, .inr (.inr (.inr (.inr (fun j => some (ad (25 + 2 * j)))))))), (ad 2, .inr (1, [.ref (ad 3), .int (iI (I 2 1)), .int (iI (I 2 2))])), (ad 3, .inl (cI, 60, .inl (fun j => iI (R 3 j)))), (ad 4, .inl (cI, 256, .inl (fun j => iI (R 4 j)))), (ad 5, .inr (2, [.ref (ad 6), .ref (ad 7), .ref (ad 8), .ref (ad 9), .ref (ad 10), .ref (ad 11), .ref (ad 12), .ref (ad 13), .ref (ad 14), .int (iI (I 5 9)), .int (iI (I 5 10)), .int (iI (I 5 11)), .int (iI (I 5 12)), .int (iI (I 5 13)), .int (iI (I 5 14)), .int (iI (I 5 15)), .int (iI (I 5 16)), .int (iI (I 5 17))])), (ad 6, .inl (cI, 6, .inl (fun j => iI (R 6 j)))), (ad 7, .inl (cI, 6, .inl (fun j => iI (R 7 j)))), (ad 8, .inl (cI, 6, .inl (fun j => iI (R 8 j)))), (ad 9, .inl (cI, 4, .inl (fun j => iI (R 9 j)))), (ad 10, .inl (cI, 4, .inl (fun j => iI (R 10 j)))), (ad 11, .inl (cI, 8, .inl (fun j => iI (R 11 j)))), (ad 12, .inl (cI, 8, .inl (fun j => iI (R 12 j)))), (ad 13, .inl (cI, 384, .inl (fun j => iI (R 13 j)))), (ad 14, .inl (cI, 6, .inl (fun j => iI (R 14 j)))), (ad 15, .inr (2, [.ref (ad 16), .ref (ad 17), .ref (ad 18), .ref (ad 19), .ref (ad 20), .ref (ad 21), .ref (ad 22), .ref (ad 23), .ref (ad 24), .int (iI (I 15 9)), .int (iI (I 15 10)), .int (iI (I 15 11)), .int (iI (I 15 12)), .int (iI (I 15 13)), .int (iI (I 15 14)), .int (iI (I 15 15)), .int (iI (I 15 16)), .int (iI (I 15 17))])), (ad 16, .inl (cI, 6, .inl (fun j => iI (R 16 j)))), (ad 17, .inl (cI, 6, .inl (fun j => iI (R 17 j)))), (ad 18, .inl (cI, 6, .inl (fun j => iI (R 18 j)))), (ad 19, .inl (cI, 4, .inl (fun j => iI (R 19 j)))), (ad 20, .inl (cI, 4, .inl (fun j => iI (R 20 j)))), (ad 21, .inl (cI, 8, .inl (fun j => iI (R 21 j)))), (ad 22, .inl (cI, 8, .inl (fun j => iI (R 22 j)))), (ad 23, .inl (cI, 384, .inl (fun j => iI (R 23 j)))), (ad 24, .inl (cI, 6, .inl (fun j => iI (R 24 j)))), (ad 25, .inr (0, [.ref (ad 26), .int (iI (I 25 0)), .int (iI (I 26 0))])), (ad 26, .inl (cI, 60, .inl (fun j => iI (R 26 j)))), (ad 27, .inr (0, [.ref (ad 28), .int (iI (I 25 1)), .int (iI (I 26 1))])), (ad 28, .inl (cI, 60, .inl (fun j => iI (R 28 j)))), (ad 29, .inr (0, [.ref (ad 30), .int (iI (I 25 2)), .int (iI (I 26 2))])), (ad 30, .inl (cI, 60, .inl (fun j => iI (R 30 j)))), (ad 31, .inr (0, [.ref (ad 32), .int (iI (I 25 3)), .int (iI (I 26 3))])), (ad 32, .inl (cI, 60, .inl (fun j => iI (R 32 j))))]
def wM (cI : ClassId) (ad : Nat → Nat) (F : Nat → Int) (R : Nat → Nat → Int) : va_W := [(ad 0, .inr (4, [.int (iI (F 0)), .int (iI (F 1)), .int (iI (F 2)), .int (iI (F 3)), .ref (ad 4), .ref (ad 5), .ref (ad 6), .int (iI (F 7)), .ref (ad 8), .ref (ad 9), .ref (ad 10), .int (iI (F 11)), .int (iI (F 12)), .int (iI (F 13)), .int (iI (F 14)), .int (iI (F 15)), .int (iI (F 16)), .ref (ad 17), .ref (ad 18), .ref (ad 19), .ref (ad 20), .ref (ad 21), .ref (ad 22), .int (iI (F 23)), .int (iI (F 24)), .ref (ad 25), .ref (ad 26), .ref (ad 27), .ref (ad 28), .ref (ad 29), .ref (ad 30), .int (iI (F 31))])), (ad 4, .inl (cI, 4, .inl (fun j => iI (R 4 j)))), (ad 5, .inl (cI, 4, .inl (fun j => iI (R 5 j)))), (ad 6, .inl (cI, 4, .inl (fun j => iI (R 6 j)))), (ad 8, .inl (cI, 6, .inl (fun j => iI (R 8 j)))), (ad 9, .inl (cI, 6, .inl (fun j => iI (R 9 j)))), (ad 10, .inl (cI, 6, .inl (fun j => iI (R 10 j)))), (ad 17, .inl (cI, 4, .inl (fun j => iI (R 17 j)))), (ad 18, .inl (cI, 4, .inl (fun j => iI (R 18 j)))), (ad 19, .inl (cI, 6, .inl (fun j => iI (R 19 j)))), (ad 20, .inl (cI, 6, .inl (fun j => iI (R 20 j)))), (ad 21, .inl (cI, 6, .inl (fun j => iI (R 21 j)))), (ad 22, .inl (cI, 256, .inl (fun j => iI (R 22 j)))), (ad 25, .inl (cI, 8, .inl (fun j => iI (R 25 j)))), (ad 26, .inl (cI, 8, .inl (fun j => iI (R 26 j)))), (ad 27, .inl (cI, 4, .inl (fun j => iI (R 27 j)))), (ad 28, .inl (cI, 4, .inl (fun j => iI (R 28 j)))), (ad 29, .inl (cI, 240, .inl (fun j => iI (R 29 j)))), (ad 30, .inl (cI, 60, .inl (fun j => iI (R 30 j))))]
/-- what every method of ours rests on: the classes' tables, the links to a nest mate's members -/
def jN (U : State) : Prop := va_Nw (.methodLinkNest RX1 27 yX3_read RX3) U ∧ va_Nw (.methodLinkNest RX1 31 yX3_write RX3) U ∧ va_Nw (.methodLinkNest RX2 72 yX3_write RX3) U ∧ va_Nw (.methodLinkNest RX2 88 yX3_read RX3) U ∧ va_Nw (.fieldLinkNest RX2 85 RX3 "STEP_DOWN" "[I" RX3) U ∧ va_Nw (.fieldLinkNest RX2 92 RX3 "STEP_RIGHT" "[I" RX3) U
def jE (D : va_G) (cI cS : ClassId) (U : State) : Prop := va_K D vwCl [(cI, .int), (cS, .object RX0)] U ∧ jN U
theorem jE_same {D : va_G} {cI cS : ClassId} {u U : State} (h : u.vm = U.vm) (hE : jE D cI cS u) : jE D cI cS U :=
  ⟨va_K.moved (h ▸ Vm.Alike.refl u.vm) hE.1, va_Nw.same rfl h hE.2.1, va_Nw.same rfl h hE.2.2.1, va_Nw.same rfl h hE.2.2.2.1, va_Nw.same rfl h hE.2.2.2.2.1, va_Nw.same rfl h hE.2.2.2.2.2.1, va_Nw.same rfl h hE.2.2.2.2.2.2⟩
theorem jE_warm {D : va_G} {cI cS : ClassId} {s U : State} (hW : s.WarmedH U.vm) (hE : jE D cI cS s) : jE D cI cS U :=
  ⟨va_K.moved hW.alike hE.1, va_Nw.warmM hW hE.2.1, va_Nw.warmM hW hE.2.2.1, va_Nw.warmM hW hE.2.2.2.1, va_Nw.warmM hW hE.2.2.2.2.1, va_Nw.warmF hW hE.2.2.2.2.2.1, va_Nw.warmF hW hE.2.2.2.2.2.2⟩
def jB (D : va_G) (cI cS : ClassId) (w : va_W) (U : State) : Prop := jE D cI cS U ∧ va_P D vwCl w U.heap
/-- a method that changes nothing and answers v -/
def JS (l : Launch) (y : MethodName) (ws : List Cond) (rm : Room) (Bp : State → Prop) (As : List Value) (v : Value) : Prop := Met l y ws rm (va_Pc As Bp) (fun _ st o t => o = .returned (some v) ∧ t.heap = st.heap) 0 0 (fun _ => False)
/-- a method that changes cells of A: its answer and what it leaves -/
def JV {S : Type} (l : Launch) (y : MethodName) (ws : List Cond) (rm : Room) (Bp : State → Prop) (A : Nat → Prop) (As : List Value) (post : Option Value → S → Prop) (G : S → Heap → Prop) : Prop := Met l y ws rm (va_Pc As Bp) (fun _ st o t => (∃ (v : Option Value) (u : S), o = .returned v ∧ post v u ∧ G u t.heap) ∧ va_F A st t) 0 0 A

section JZB
variable {p : Program} {l : Launch} {e : Env} {R0 : Room} {s : State} {m : MethodId} {args : Array Value} {below : List Frame} {meth : Method} {c : Code} {H H0 : Heap} {locs : List Loc} {cells slots : Nat} {Q : State → Prop} {cc : ByteArray} {pc : Nat} {ls : Array Slot} {rest st0 : List Value} {nL : Nat} {Ts : List Cond} {own : String} {D : va_G} {cI cS : ClassId} {ad : Nat → Nat} {I R : Nat → Nat → Int} {F : Nat → Int} {A : Nat → Prop} {w : va_W}

theorem jpreS (hE : jE D cI cS s) (hP : va_P D vwCl w H) {As : List Value} : PreS s H (va_Pc As (jB D cI cS w)) As :=
  ⟨fun _ U _ _ q => ⟨q.1, jE_same (u := U) rfl q.2.1, q.2.2⟩, fun U hU hW => ⟨rfl, jE_warm hW hE, by rw [hU]; exact hP⟩⟩
theorem jpreV (hE : jE D cI cS s) (hP : va_P D vwCl w H) (ci q0 : Nat) {q : vw_C} {a : Nat} {fs : List Value} (hc : vwCl[ci]? = some q) (he : w[q0]? = some (a, .inr (ci, fs))) {As : List Value} : PreV s H q.1 a (va_Pc (.ref a :: As) (jB D cI cS w)) As :=
  ⟨fun _ U _ _ q => ⟨q.1, jE_same (u := U) rfl q.2.1, q.2.2⟩, va_recv hE.1 hP hc he, fun U hU hW => ⟨rfl, jE_warm hW hE, by rw [hU]; exact hP⟩⟩

theorem JS.mkI {y : MethodName} {ws ws' : List Cond} {rm : Room} {Bp : State → Prop} {As : List Value} {v : Int32} {maxL : Nat} {own : String} (hown : y.cls = own) (hy : plainName y.cls = true) (hw : ws = Cond.code y cc maxL (some .int) :: ws') (hlen : (lg_sl As).length ≤ maxL) 
    (body : ∀ (p : Program) (e : Env) (s : State) (m : MethodId) (args : Array Value) (below : List Frame) (meth : Method) (c : Code) (Q : State → Prop) (ls : Array Slot), CallFix p m c cc maxL s args ws own → Bp s → lv_has ls maxL (lv_args 0 As) → (∀ (pc : Nat) (ls : Array Slot), decode cc pc = .ok (.ireturn, 1) → W p l e rm s m args below meth c s.heap [] 0 0 Q (F0 m pc ls [.int v])) → W p l e rm s m args below meth c s.heap [] 0 0 Q (F0 m 0 ls [])) : JS l y ws rm Bp As (.int v) := by
  subst hown
  refine Met.ofW hy hw ?_
  intro p e s m args below meth c s₁ B hml hv
  obtain ⟨rfl, hB⟩ := hv
  rw [lg_entry_eq]
  exact body p e s m _ below meth c _ _ ⟨B.exec, B.bytes, hml, findClass_of_methodNamed B.named, atoms_spec (ws := ws) B.pre⟩ hB (lv_entry As hlen) (fun pc ls hd => W.iret B.exec B.bytes B.returns (fun t ht _ => ⟨rfl, ht⟩) (fun q h => by cases h) hd B.notSynchronized)
theorem JS.mkZ {y : MethodName} {ws ws' : List Cond} {rm : Room} {Bp : State → Prop} {As : List Value} {v : Int32} {maxL : Nat} {own : String} (hown : y.cls = own) (hy : plainName y.cls = true) (hw : ws = Cond.code y cc maxL (some .boolean) :: ws') (hlen : (lg_sl As).length ≤ maxL) (hn : narrow .boolean (.int v) = .int v)
    (body : ∀ (p : Program) (e : Env) (s : State) (m : MethodId) (args : Array Value) (below : List Frame) (meth : Method) (c : Code) (Q : State → Prop) (ls : Array Slot), CallFix p m c cc maxL s args ws own → Bp s → lv_has ls maxL (lv_args 0 As) → (∀ (pc : Nat) (ls : Array Slot), decode cc pc = .ok (.ireturn, 1) → W p l e rm s m args below meth c s.heap [] 0 0 Q (F0 m pc ls [.int v])) → W p l e rm s m args below meth c s.heap [] 0 0 Q (F0 m 0 ls [])) : JS l y ws rm Bp As (.int v) := by
  subst hown
  refine Met.ofW hy hw ?_
  intro p e s m args below meth c s₁ B hml hv
  obtain ⟨rfl, hB⟩ := hv
  rw [lg_entry_eq]
  exact body p e s m _ below meth c _ _ ⟨B.exec, B.bytes, hml, findClass_of_methodNamed B.named, atoms_spec (ws := ws) B.pre⟩ hB (lv_entry As hlen) (fun pc ls hd => W.zret B.exec B.bytes B.returns hn (fun t ht _ => ⟨rfl, ht⟩) (fun q h => by cases h) hd B.notSynchronized)
theorem JS.mkL {y : MethodName} {ws ws' : List Cond} {rm : Room} {Bp : State → Prop} {As : List Value} {v : Int64} {maxL : Nat} {own : String} (hown : y.cls = own) (hy : plainName y.cls = true) (hw : ws = Cond.code y cc maxL (some .long) :: ws') (hlen : (lg_sl As).length ≤ maxL) 
    (body : ∀ (p : Program) (e : Env) (s : State) (m : MethodId) (args : Array Value) (below : List Frame) (meth : Method) (c : Code) (Q : State → Prop) (ls : Array Slot), CallFix p m c cc maxL s args ws own → Bp s → lv_has ls maxL (lv_args 0 As) → (∀ (pc : Nat) (ls : Array Slot), decode cc pc = .ok (.lreturn, 1) → W p l e rm s m args below meth c s.heap [] 0 0 Q (F0 m pc ls [.long v])) → W p l e rm s m args below meth c s.heap [] 0 0 Q (F0 m 0 ls [])) : JS l y ws rm Bp As (.long v) := by
  subst hown
  refine Met.ofW hy hw ?_
  intro p e s m args below meth c s₁ B hml hv
  obtain ⟨rfl, hB⟩ := hv
  rw [lg_entry_eq]
  exact body p e s m _ below meth c _ _ ⟨B.exec, B.bytes, hml, findClass_of_methodNamed B.named, atoms_spec (ws := ws) B.pre⟩ hB (lv_entry As hlen) (fun pc ls hd => W.lret B.exec B.bytes B.returns (fun t ht _ => ⟨rfl, ht⟩) (fun q h => by cases h) hd B.notSynchronized)
theorem JS.mkA {y : MethodName} {ws ws' : List Cond} {rm : Room} {Bp : State → Prop} {As : List Value} {v : Value} {rt : FieldType} {maxL : Nat} {own : String} (hown : y.cls = own) (hy : plainName y.cls = true) (hw : ws = Cond.code y cc maxL (some rt) :: ws') (hlen : (lg_sl As).length ≤ maxL) (hrt : (∃ n, rt = .object n) ∨ ∃ t, rt = .array t) (hv : v = .null ∨ ∃ a, v = .ref a)
    (body : ∀ (p : Program) (e : Env) (s : State) (m : MethodId) (args : Array Value) (below : List Frame) (meth : Method) (c : Code) (Q : State → Prop) (ls : Array Slot), CallFix p m c cc maxL s args ws own → Bp s → lv_has ls maxL (lv_args 0 As) → (∀ (pc : Nat) (ls : Array Slot), decode cc pc = .ok (.areturn, 1) → W p l e rm s m args below meth c s.heap [] 0 0 Q (F0 m pc ls [v])) → W p l e rm s m args below meth c s.heap [] 0 0 Q (F0 m 0 ls [])) : JS l y ws rm Bp As (v) := by
  subst hown
  refine Met.ofW hy hw ?_
  intro p e s m args below meth c s₁ B hml hv
  obtain ⟨rfl, hB⟩ := hv
  rw [lg_entry_eq]
  exact body p e s m _ below meth c _ _ ⟨B.exec, B.bytes, hml, findClass_of_methodNamed B.named, atoms_spec (ws := ws) B.pre⟩ hB (lv_entry As hlen) (fun pc ls hd => W.aret B.exec B.bytes B.returns hrt hv (fun t ht _ => ⟨rfl, ht⟩) (fun q h => by cases h) hd B.notSynchronized)
theorem JV.mkI {S : Type} {y : MethodName} {ws ws' : List Cond} {rm : Room} {Bp : State → Prop} {As : List Value} {post : Option Value → S → Prop} {G : S → Heap → Prop} {maxL : Nat} {own : String} (hown : y.cls = own) (hy : plainName y.cls = true) (hw : ws = Cond.code y cc maxL (some .int) :: ws') (hlen : (lg_sl As).length ≤ maxL)
    (body : ∀ (p : Program) (e : Env) (s : State) (m : MethodId) (args : Array Value) (below : List Frame) (meth : Method) (c : Code) (Q : State → Prop) (ls : Array Slot), CallFix p m c cc maxL s args ws own → Bp s → lv_has ls maxL (lv_args 0 As) → (∀ (v : Int32) (u : S) (H : Heap) (locs : List Loc) (pc : Nat) (ls : Array Slot), decode cc pc = .ok (.ireturn, 1) → post (some (.int v)) u → G u H → va_S A s.heap H locs → W p l e rm s m args below meth c H locs 0 0 Q (F0 m pc ls [.int v])) → W p l e rm s m args below meth c s.heap [] 0 0 Q (F0 m 0 ls [])) : JV l y ws rm Bp A As post G := by
  subst hown
  refine Met.ofW hy hw ?_
  intro p e s m args below meth c s₁ B hml hv
  obtain ⟨rfl, hB⟩ := hv
  rw [lg_entry_eq]
  exact body p e s m _ below meth c _ _ ⟨B.exec, B.bytes, hml, findClass_of_methodNamed B.named, atoms_spec (ws := ws) B.pre⟩ hB (lv_entry As hlen) (fun v u H locs pc ls hd hp hG hS => W.iret B.exec B.bytes B.returns (fun t ht _ => ⟨⟨_, u, rfl, hp, by rw [ht]; exact hG⟩, hS.F ht⟩) hS.2.2 hd B.notSynchronized)
theorem JV.mkZ {S : Type} {y : MethodName} {ws ws' : List Cond} {rm : Room} {Bp : State → Prop} {As : List Value} {post : Option Value → S → Prop} {G : S → Heap → Prop} {maxL : Nat} {own : String} (hown : y.cls = own) (hy : plainName y.cls = true) (hw : ws = Cond.code y cc maxL (some .boolean) :: ws') (hlen : (lg_sl As).length ≤ maxL)
    (body : ∀ (p : Program) (e : Env) (s : State) (m : MethodId) (args : Array Value) (below : List Frame) (meth : Method) (c : Code) (Q : State → Prop) (ls : Array Slot), CallFix p m c cc maxL s args ws own → Bp s → lv_has ls maxL (lv_args 0 As) → (∀ (v : Int32) (u : S) (H : Heap) (locs : List Loc) (pc : Nat) (ls : Array Slot), decode cc pc = .ok (.ireturn, 1) → narrow .boolean (.int v) = .int v → post (some (.int v)) u → G u H → va_S A s.heap H locs → W p l e rm s m args below meth c H locs 0 0 Q (F0 m pc ls [.int v])) → W p l e rm s m args below meth c s.heap [] 0 0 Q (F0 m 0 ls [])) : JV l y ws rm Bp A As post G := by
  subst hown
  refine Met.ofW hy hw ?_
  intro p e s m args below meth c s₁ B hml hv
  obtain ⟨rfl, hB⟩ := hv
  rw [lg_entry_eq]
  exact body p e s m _ below meth c _ _ ⟨B.exec, B.bytes, hml, findClass_of_methodNamed B.named, atoms_spec (ws := ws) B.pre⟩ hB (lv_entry As hlen) (fun v u H locs pc ls hd hn hp hG hS => W.zret B.exec B.bytes B.returns hn (fun t ht _ => ⟨⟨_, u, rfl, hp, by rw [ht]; exact hG⟩, hS.F ht⟩) hS.2.2 hd B.notSynchronized)
theorem JV.mkL {S : Type} {y : MethodName} {ws ws' : List Cond} {rm : Room} {Bp : State → Prop} {As : List Value} {post : Option Value → S → Prop} {G : S → Heap → Prop} {maxL : Nat} {own : String} (hown : y.cls = own) (hy : plainName y.cls = true) (hw : ws = Cond.code y cc maxL (some .long) :: ws') (hlen : (lg_sl As).length ≤ maxL)
    (body : ∀ (p : Program) (e : Env) (s : State) (m : MethodId) (args : Array Value) (below : List Frame) (meth : Method) (c : Code) (Q : State → Prop) (ls : Array Slot), CallFix p m c cc maxL s args ws own → Bp s → lv_has ls maxL (lv_args 0 As) → (∀ (v : Int64) (u : S) (H : Heap) (locs : List Loc) (pc : Nat) (ls : Array Slot), decode cc pc = .ok (.lreturn, 1) → post (some (.long v)) u → G u H → va_S A s.heap H locs → W p l e rm s m args below meth c H locs 0 0 Q (F0 m pc ls [.long v])) → W p l e rm s m args below meth c s.heap [] 0 0 Q (F0 m 0 ls [])) : JV l y ws rm Bp A As post G := by
  subst hown
  refine Met.ofW hy hw ?_
  intro p e s m args below meth c s₁ B hml hv
  obtain ⟨rfl, hB⟩ := hv
  rw [lg_entry_eq]
  exact body p e s m _ below meth c _ _ ⟨B.exec, B.bytes, hml, findClass_of_methodNamed B.named, atoms_spec (ws := ws) B.pre⟩ hB (lv_entry As hlen) (fun v u H locs pc ls hd hp hG hS => W.lret B.exec B.bytes B.returns (fun t ht _ => ⟨⟨_, u, rfl, hp, by rw [ht]; exact hG⟩, hS.F ht⟩) hS.2.2 hd B.notSynchronized)
theorem JV.mkN {S : Type} {y : MethodName} {ws ws' : List Cond} {rm : Room} {Bp : State → Prop} {As : List Value} {post : Option Value → S → Prop} {G : S → Heap → Prop} {maxL : Nat} {own : String} (hown : y.cls = own) (hy : plainName y.cls = true) (hw : ws = Cond.code y cc maxL none :: ws') (hlen : (lg_sl As).length ≤ maxL)
    (body : ∀ (p : Program) (e : Env) (s : State) (m : MethodId) (args : Array Value) (below : List Frame) (meth : Method) (c : Code) (Q : State → Prop) (ls : Array Slot), CallFix p m c cc maxL s args ws own → Bp s → lv_has ls maxL (lv_args 0 As) → (∀ (u : S) (H : Heap) (locs : List Loc) (pc : Nat) (ls : Array Slot), decode cc pc = .ok (.return_, 1) → post none u → G u H → va_S A s.heap H locs → W p l e rm s m args below meth c H locs 0 0 Q (F0 m pc ls [])) → W p l e rm s m args below meth c s.heap [] 0 0 Q (F0 m 0 ls [])) : JV l y ws rm Bp A As post G := by
  subst hown
  refine Met.ofW hy hw ?_
  intro p e s m args below meth c s₁ B hml hv
  obtain ⟨rfl, hB⟩ := hv
  rw [lg_entry_eq]
  exact body p e s m _ below meth c _ _ ⟨B.exec, B.bytes, hml, findClass_of_methodNamed B.named, atoms_spec (ws := ws) B.pre⟩ hB (lv_entry As hlen) (fun u H locs pc ls hd hp hG hS => W.vret B.exec B.bytes B.returns (fun t ht _ => ⟨⟨_, u, rfl, hp, by rw [ht]; exact hG⟩, hS.F ht⟩) hS.2.2 hd B.notSynchronized)
theorem JS.go {v : Value} {a : Array Value} (hr : va_Run p l e R0 s m args below meth c H locs cells slots 0 0 (F0 m pc ls st0) rest ((fun (_ : Array Value) (st : State) (o : Outcome) (t : State) => o = .returned (some v) ∧ t.heap = st.heap) a) (fun _ => False)) (kk : W p l e R0 s m args below meth c H locs cells slots Q (F0 m (pc + 3) ls (v :: rest))) : W p l e R0 s m args below meth c H locs cells slots Q (F0 m pc ls st0) := by
  intro T hT X
  obtain ⟨v', st₀, t, T', L, h0, X', hL, e1, e2, ⟨hv, hh⟩, st⟩ := hr T hT X
  cases hv
  obtain ⟨t2, a1, b1⟩ := kk T' (by rw [e1, hh, h0]) (Stand.forget X' (fun q h => (hL q h).elim))
  exact ⟨t2, st t2 a1, b1⟩
theorem JV.go {S : Type} {post : Option Value → S → Prop} {G : S → Heap → Prop} {a : Array Value} (hr : va_Run p l e R0 s m args below meth c H locs cells slots 0 0 (F0 m pc ls st0) rest ((fun (_ : Array Value) (st : State) (o : Outcome) (t : State) => (∃ (v : Option Value) (u : S), o = .returned v ∧ post v u ∧ G u t.heap) ∧ va_F A st t) a) A) (hS : va_S A H0 H locs)
    (kk : ∀ (v : Option Value) (u : S) (H1 : Heap) (locs1 : List Loc), post v u → G u H1 → va_S A H0 H1 locs1 → W p l e R0 s m args below meth c H1 locs1 cells slots Q (F0 m (pc + 3) ls (v.toList ++ rest))) : W p l e R0 s m args below meth c H locs cells slots Q (F0 m pc ls st0) := by
  intro T hT X
  obtain ⟨v', st₀, t, T', L, h0, X', hL, e1, e2, ⟨⟨v, u, hv, hp, hg⟩, hz, hk⟩, st⟩ := hr T hT X
  cases hv
  rw [h0] at hz hk
  obtain ⟨t2, a1, b1⟩ := kk v' u T'.heap (locs ++ L) hp (by rw [e1]; exact hg)
    ⟨Nat.le_trans hS.1 (by rw [e1]; exact hz), fun q h1 h2 => by rw [e1, hk q (Nat.lt_of_lt_of_le h1 hS.1) h2]; exact hS.2.1 q h1 h2, fun q hq => by
      rcases List.mem_append.mp hq with h | h
      · exact hS.2.2 q h
      · exact hL q h⟩ T' rfl X'
  exact ⟨t2, st t2 a1, b1⟩
theorem jc_S (C : CallFix p m c cc nL s args Ts own) (hl : ls.size = nL) {y : MethodName} {ws : List Cond} {rm : Room} {Bp : State → Prop} {As : List Value} {bytes : ByteArray} {maxL n index : Nat} {ret : Option FieldType}  {v : Value} (hp : PreS s H (va_Pc As Bp) As) (hM : JS l y ws rm Bp As v) (cw : CallB R0 s args own index y bytes maxL ret ws rm 0 0 n ∧ (Cond.static y).before args s = true) (hn : As.length = n) (hst : st0 = As.reverse ++ rest) (hW : (rest.map fun v => v.category).sum ≤ 8) (hdg : decode cc pc = .ok (.invokestatic index, 3)) (hf : cells ≤ R0.cells ∧ slots ≤ R0.slots) (kk : W p l e R0 s m args below meth c H locs cells slots Q (F0 m (pc + 3) ls (v :: rest))) : W p l e R0 s m args below meth c H locs cells slots Q (F0 m pc ls st0) :=
  JS.go (a := (As).toArray) (va_runS C hM cw hp rfl hn hl hst (lv_room hW) hdg hf) kk
theorem jw_S (C : CallFix p m c cc nL s args Ts own) (hl : ls.size = nL) {y : MethodName} {ws : List Cond} {rm : Room} {Bp : State → Prop} {As : List Value} {bytes : ByteArray} {maxL n index : Nat} {ret : Option FieldType}  {S : Type} {post : Option Value → S → Prop} {G : S → Heap → Prop} (hp : PreS s H (va_Pc As Bp) As) (hM : JV l y ws rm Bp A As post G) (cw : CallB R0 s args own index y bytes maxL ret ws rm 0 0 n ∧ (Cond.static y).before args s = true) (hn : As.length = n) (hst : st0 = As.reverse ++ rest) (hW : (rest.map fun v => v.category).sum ≤ 8) (hdg : decode cc pc = .ok (.invokestatic index, 3)) (hf : cells ≤ R0.cells ∧ slots ≤ R0.slots) (hS : va_S A H0 H locs) (kk : ∀ (v : Option Value) (u : S) (H1 : Heap) (locs1 : List Loc), post v u → G u H1 → va_S A H0 H1 locs1 → W p l e R0 s m args below meth c H1 locs1 cells slots Q (F0 m (pc + 3) ls (v.toList ++ rest))) : W p l e R0 s m args below meth c H locs cells slots Q (F0 m pc ls st0) :=
  JV.go (a := (As).toArray) (va_runS C hM cw hp rfl hn hl hst (lv_room hW) hdg hf) hS kk
theorem jc_N (C : CallFix p m c cc nL s args Ts own) (hl : ls.size = nL) {y : MethodName} {ws : List Cond} {rm : Room} {Bp : State → Prop} {As : List Value} {bytes : ByteArray} {maxL n index : Nat} {ret : Option FieldType}  {v : Value} (hp : PreS s H (va_Pc As Bp) As) (hM : JS l y ws rm Bp As v) {host : String} (cw : va_CN R0 s args own index y host bytes maxL ret ws rm 0 0 n ∧ (Cond.static y).before args s = true ∧ True) (hn : As.length = n) (hst : st0 = As.reverse ++ rest) (hW : (rest.map fun v => v.category).sum ≤ 8) (hdg : decode cc pc = .ok (.invokestatic index, 3)) (hf : cells ≤ R0.cells ∧ slots ≤ R0.slots) (kk : W p l e R0 s m args below meth c H locs cells slots Q (F0 m (pc + 3) ls (v :: rest))) : W p l e R0 s m args below meth c H locs cells slots Q (F0 m pc ls st0) :=
  JS.go (a := (As).toArray) (va_runSN C hM cw hp rfl hn hl hst (lv_room hW) hdg hf) kk
theorem jw_N (C : CallFix p m c cc nL s args Ts own) (hl : ls.size = nL) {y : MethodName} {ws : List Cond} {rm : Room} {Bp : State → Prop} {As : List Value} {bytes : ByteArray} {maxL n index : Nat} {ret : Option FieldType}  {S : Type} {post : Option Value → S → Prop} {G : S → Heap → Prop} (hp : PreS s H (va_Pc As Bp) As) (hM : JV l y ws rm Bp A As post G) {host : String} (cw : va_CN R0 s args own index y host bytes maxL ret ws rm 0 0 n ∧ (Cond.static y).before args s = true ∧ True) (hn : As.length = n) (hst : st0 = As.reverse ++ rest) (hW : (rest.map fun v => v.category).sum ≤ 8) (hdg : decode cc pc = .ok (.invokestatic index, 3)) (hf : cells ≤ R0.cells ∧ slots ≤ R0.slots) (hS : va_S A H0 H locs) (kk : ∀ (v : Option Value) (u : S) (H1 : Heap) (locs1 : List Loc), post v u → G u H1 → va_S A H0 H1 locs1 → W p l e R0 s m args below meth c H1 locs1 cells slots Q (F0 m (pc + 3) ls (v.toList ++ rest))) : W p l e R0 s m args below meth c H locs cells slots Q (F0 m pc ls st0) :=
  JV.go (a := (As).toArray) (va_runSN C hM cw hp rfl hn hl hst (lv_room hW) hdg hf) hS kk
theorem jc_V (C : CallFix p m c cc nL s args Ts own) (hl : ls.size = nL) {y : MethodName} {ws : List Cond} {rm : Room} {Bp : State → Prop} {As : List Value} {bytes : ByteArray} {maxL n index : Nat} {ret : Option FieldType} {Cn : String} {a : Nat} {v : Value} (hp : PreV s H Cn a (va_Pc (.ref a :: As) Bp) As) (hM : JS l y ws rm Bp (.ref a :: As) v) (cw : CallW R0 s args own Cn index y bytes maxL ret ws rm 0 0 n) (hn : As.length = n) (hst : st0 = As.reverse ++ .ref a :: rest) (hW : (rest.map fun v => v.category).sum ≤ 8) (hdg : decode cc pc = .ok (.invokevirtual index, 3)) (hf : cells ≤ R0.cells ∧ slots ≤ R0.slots) (kk : W p l e R0 s m args below meth c H locs cells slots Q (F0 m (pc + 3) ls (v :: rest))) : W p l e R0 s m args below meth c H locs cells slots Q (F0 m pc ls st0) :=
  JS.go (a := (Value.ref a :: As).toArray) (va_runV C hM cw hp rfl hn hl hst (lv_room hW) hdg hf) kk
theorem jw_V (C : CallFix p m c cc nL s args Ts own) (hl : ls.size = nL) {y : MethodName} {ws : List Cond} {rm : Room} {Bp : State → Prop} {As : List Value} {bytes : ByteArray} {maxL n index : Nat} {ret : Option FieldType} {Cn : String} {a : Nat} {S : Type} {post : Option Value → S → Prop} {G : S → Heap → Prop} (hp : PreV s H Cn a (va_Pc (.ref a :: As) Bp) As) (hM : JV l y ws rm Bp A (.ref a :: As) post G) (cw : CallW R0 s args own Cn index y bytes maxL ret ws rm 0 0 n) (hn : As.length = n) (hst : st0 = As.reverse ++ .ref a :: rest) (hW : (rest.map fun v => v.category).sum ≤ 8) (hdg : decode cc pc = .ok (.invokevirtual index, 3)) (hf : cells ≤ R0.cells ∧ slots ≤ R0.slots) (hS : va_S A H0 H locs) (kk : ∀ (v : Option Value) (u : S) (H1 : Heap) (locs1 : List Loc), post v u → G u H1 → va_S A H0 H1 locs1 → W p l e R0 s m args below meth c H1 locs1 cells slots Q (F0 m (pc + 3) ls (v.toList ++ rest))) : W p l e R0 s m args below meth c H locs cells slots Q (F0 m pc ls st0) :=
  JV.go (a := (Value.ref a :: As).toArray) (va_runV C hM cw hp rfl hn hl hst (lv_room hW) hdg hf) hS kk
end JZB
