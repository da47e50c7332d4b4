/-! the law: its calls, over two worlds -/
theorem land63 (x : Int32) : ∃ z : Int, (0 ≤ z ∧ z < 64) ∧ x &&& iI 63 = iI z := by
  refine ⟨(x &&& iI 63).toInt, ?_, iI_of _⟩
  have h : (x &&& iI 63).toBitVec.toNat ≤ 63 := by
    rw [Int32.toBitVec_and, BitVec.toNat_and]
    exact Nat.le_trans Nat.and_le_right (by decide +kernel)
  show 0 ≤ (x &&& iI 63).toBitVec.toInt ∧ (x &&& iI 63).toBitVec.toInt < 64
  rw [BitVec.toInt_eq_toNat_of_lt (by omega)]
  omega
/-- two worlds apart -/
def Apt (w1 w2 : va_W) : Prop := ∀ (i j : Nat) (p q : Nat × va_E), w1[i]? = some p → w2[j]? = some q → p.1 ≠ q.1
theorem Apt.map {w1 w2 v1 v2 : va_W} (h : Apt w1 w2) (e1 : ∀ (i : Nat) (q : Nat × va_E), v1[i]? = some q → ∃ (j : Nat) (p : Nat × va_E), w1[j]? = some p ∧ p.1 = q.1) (e2 : ∀ (i : Nat) (q : Nat × va_E), v2[i]? = some q → ∃ (j : Nat) (p : Nat × va_E), w2[j]? = some p ∧ p.1 = q.1) : Apt v1 v2 := by
  intro i j p q hp hq
  obtain ⟨a, p', h1, h2⟩ := e1 i p hp
  obtain ⟨b, q', h3, h4⟩ := e2 j q hq
  rw [← h2, ← h4]
  exact h a b p' q' h1 h3
section JLW
variable {p : Program} {l : Launch} {e : Env} {R0 : Room} {s : State} {m : MethodId} {args : Array Value} {below : List Frame} {meth : Method} {c : Code} {H H0 : Heap} {locs : List Loc} {cells slots : Nat} {Q : State → Prop} {cc : ByteArray} {pc : Nat} {ls : Array Slot} {rest st0 : List Value} {A A0 : Nat → Prop}
theorem JV.gol {S : Type} {post : Option Value → S → Prop} {G : S → Heap → Prop} {a : Array Value} (hr : va_Run p l e R0 s m args below meth c H locs cells slots 0 0 (F0 m pc ls st0) rest ((fun (_ : Array Value) (st : State) (o : Outcome) (t : State) => (∃ (v : Option Value) (u : S), o = .returned v ∧ post v u ∧ G u t.heap) ∧ va_F A st t) a) A) (hS : va_S A0 H0 H locs) (hA : ∀ q, A q → A0 q)
    (kk : ∀ (v : Option Value) (u : S) (H1 : Heap) (locs1 : List Loc), post v u → G u H1 → (∀ q : Nat, q < H.size → ¬ A q → H1[q]? = H[q]?) → va_S A0 H0 H1 locs1 → W p l e R0 s m args below meth c H1 locs1 cells slots Q (F0 m (pc + 3) ls (v.toList ++ rest))) : W p l e R0 s m args below meth c H locs cells slots Q (F0 m pc ls st0) := by
  intro T hT X
  obtain ⟨v', st₀, t, T', L, h0, X', hL, e1, e2, ⟨⟨v, u, hv, hp, hg⟩, hz, hk⟩, st⟩ := hr T hT X
  cases hv
  rw [h0] at hz hk
  obtain ⟨t2, a1, b1⟩ := kk v' u T'.heap (locs ++ L) hp (by rw [e1]; exact hg) (fun q h1 h2 => by rw [e1]; exact hk q h1 h2)
    ⟨Nat.le_trans hS.1 (by rw [e1]; exact hz), fun q h1 h2 => by rw [e1, hk q (Nat.lt_of_lt_of_le h1 hS.1) (fun z => h2 (hA q z))]; exact hS.2.1 q h1 h2, fun q hq => by
      rcases List.mem_append.mp hq with h | h
      · exact hS.2.2 q h
      · exact hA _ (hL q h)⟩ T' rfl X'
  exact ⟨t2, st t2 a1, b1⟩
end JLW
