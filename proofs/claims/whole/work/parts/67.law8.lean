/-! the law's loop -/
set_option maxHeartbeats 4000000 in
set_option maxRecDepth 100000 in
theorem law_case {p : Program} {l : Launch} {e : Env} {s : State} {m : MethodId} {below : List Frame} {meth : Method} {c : Code} {cells slots : Nat} {Q : State → Prop} {b L : Nat} {xs : Nat → Int32} {D : va_G} {cI cS : ClassId} {a0 m0 : Nat} (C : CallFix p m c cL_law 4 s #[Value.ref b] wsL_law RL) (hX : va_X b L xs s s.heap) (hbl : b < s.heap.size) (hE : jE D cI cS s) (hT0 : jT (fun q => s.heap.size ≤ q) s s.heap) (hL : L ≤ 3072) (hce : cells ≤ room_1.cells ∧ slots ≤ room_1.slots) {i : Nat} (hi : i + 6 ≤ L) {H : Heap} {locs : List Loc} {ls : Array Slot} (hI : Inv (fun q => s.heap.size ≤ q) D cI cS a0 m0 H) (hS : va_S (fun q => s.heap.size ≤ q) s.heap H locs) (hl : lv_has ls 4 [(3, .int (iI (i : Int))), (2, .ref m0), (1, .ref a0), (0, .ref b)])
    (kk : ∀ (H1 : Heap) (locs1 : List Loc), Inv (fun q => s.heap.size ≤ q) D cI cS a0 m0 H1 → va_S (fun q => s.heap.size ≤ q) s.heap H1 locs1 → W p l e room_1 s m #[Value.ref b] below meth c H1 locs1 cells slots Q (F0 m 1141 ls [])) {z : Int} (hz : 0 ≤ z ∧ z < 64) : W p l e room_1 s m #[Value.ref b] below meth c H locs cells slots Q (F0 m 33 ls [.int (iI z)]) := by
  by_cases hz2 : 32 < z
  · exact jz_tabOut (tgt := 1141) C dL_law_33 ⟨⟨by omega, by omega⟩, Or.inr hz2⟩ (by decide) (kk H locs hI hS)
  · rcases (show z = 0 ∨ z = 1 ∨ z = 2 ∨ z = 3 ∨ z = 4 ∨ z = 5 ∨ z = 6 ∨ z = 7 ∨ z = 8 ∨ z = 9 ∨ z = 10 ∨ z = 11 ∨ z = 12 ∨ z = 13 ∨ z = 14 ∨ z = 15 ∨ z = 16 ∨ z = 17 ∨ z = 18 ∨ z = 19 ∨ z = 20 ∨ z = 21 ∨ z = 22 ∨ z = 23 ∨ z = 24 ∨ z = 25 ∨ z = 26 ∨ z = 27 ∨ z = 28 ∨ z = 29 ∨ z = 30 ∨ z = 31 ∨ z = 32 by omega) with rfl | rfl | rfl | rfl | rfl | rfl | rfl | rfl | rfl | rfl | rfl | rfl | rfl | rfl | rfl | rfl | rfl | rfl | rfl | rfl | rfl | rfl | rfl | rfl | rfl | rfl | rfl | rfl | rfl | rfl | rfl | rfl | rfl
    · exact jz_tabIn (tgt := 180) C 0 dL_law_33 ⟨⟨by decide, by decide⟩, by decide, by decide⟩ rfl (by decide) (law_0 C hX hbl hE hT0 hL hce hi hI hS hl kk)
    · exact jz_tabIn (tgt := 233) C 1 dL_law_33 ⟨⟨by decide, by decide⟩, by decide, by decide⟩ rfl (by decide) (law_1 C hX hbl hE hT0 hL hce hi hI hS hl kk)
    · exact jz_tabIn (tgt := 266) C 2 dL_law_33 ⟨⟨by decide, by decide⟩, by decide, by decide⟩ rfl (by decide) (law_2 C hX hbl hE hT0 hL hce hi hI hS hl kk)
    · exact jz_tabIn (tgt := 299) C 3 dL_law_33 ⟨⟨by decide, by decide⟩, by decide, by decide⟩ rfl (by decide) (law_3 C hX hbl hE hT0 hL hce hi hI hS hl kk)
    · exact jz_tabIn (tgt := 322) C 4 dL_law_33 ⟨⟨by decide, by decide⟩, by decide, by decide⟩ rfl (by decide) (law_4 C hX hbl hE hT0 hL hce hi hI hS hl kk)
    · exact jz_tabIn (tgt := 355) C 5 dL_law_33 ⟨⟨by decide, by decide⟩, by decide, by decide⟩ rfl (by decide) (law_5 C hX hbl hE hT0 hL hce hi hI hS hl kk)
    · exact jz_tabIn (tgt := 378) C 6 dL_law_33 ⟨⟨by decide, by decide⟩, by decide, by decide⟩ rfl (by decide) (law_6 C hX hbl hE hT0 hL hce hi hI hS hl kk)
    · exact jz_tabIn (tgt := 401) C 7 dL_law_33 ⟨⟨by decide, by decide⟩, by decide, by decide⟩ rfl (by decide) (law_7 C hX hbl hE hT0 hL hce hi hI hS hl kk)
    · exact jz_tabIn (tgt := 414) C 8 dL_law_33 ⟨⟨by decide, by decide⟩, by decide, by decide⟩ rfl (by decide) (law_8 C hX hbl hE hT0 hL hce hi hI hS hl kk)
    · exact jz_tabIn (tgt := 467) C 9 dL_law_33 ⟨⟨by decide, by decide⟩, by decide, by decide⟩ rfl (by decide) (law_9 C hX hbl hE hT0 hL hce hi hI hS hl kk)
    · exact jz_tabIn (tgt := 500) C 10 dL_law_33 ⟨⟨by decide, by decide⟩, by decide, by decide⟩ rfl (by decide) (law_10 C hX hbl hE hT0 hL hce hi hI hS hl kk)
    · exact jz_tabIn (tgt := 523) C 11 dL_law_33 ⟨⟨by decide, by decide⟩, by decide, by decide⟩ rfl (by decide) (law_11 C hX hbl hE hT0 hL hce hi hI hS hl kk)
    · exact jz_tabIn (tgt := 536) C 12 dL_law_33 ⟨⟨by decide, by decide⟩, by decide, by decide⟩ rfl (by decide) (law_12 C hX hbl hE hT0 hL hce hi hI hS hl kk)
    · exact jz_tabIn (tgt := 559) C 13 dL_law_33 ⟨⟨by decide, by decide⟩, by decide, by decide⟩ rfl (by decide) (law_13 C hX hbl hE hT0 hL hce hi hI hS hl kk)
    · exact jz_tabIn (tgt := 582) C 14 dL_law_33 ⟨⟨by decide, by decide⟩, by decide, by decide⟩ rfl (by decide) (law_14 C hX hbl hE hT0 hL hce hi hI hS hl kk)
    · exact jz_tabIn (tgt := 605) C 15 dL_law_33 ⟨⟨by decide, by decide⟩, by decide, by decide⟩ rfl (by decide) (law_15 C hX hbl hE hT0 hL hce hi hI hS hl kk)
    · exact jz_tabIn (tgt := 638) C 16 dL_law_33 ⟨⟨by decide, by decide⟩, by decide, by decide⟩ rfl (by decide) (law_16 C hX hbl hE hT0 hL hce hi hI hS hl kk)
    · exact jz_tabIn (tgt := 671) C 17 dL_law_33 ⟨⟨by decide, by decide⟩, by decide, by decide⟩ rfl (by decide) (law_17 C hX hbl hE hT0 hL hce hi hI hS hl kk)
    · exact jz_tabIn (tgt := 694) C 18 dL_law_33 ⟨⟨by decide, by decide⟩, by decide, by decide⟩ rfl (by decide) (law_18 C hX hbl hE hT0 hL hce hi hI hS hl kk)
    · exact jz_tabIn (tgt := 717) C 19 dL_law_33 ⟨⟨by decide, by decide⟩, by decide, by decide⟩ rfl (by decide) (law_19 C hX hbl hE hT0 hL hce hi hI hS hl kk)
    · exact jz_tabIn (tgt := 730) C 20 dL_law_33 ⟨⟨by decide, by decide⟩, by decide, by decide⟩ rfl (by decide) (law_20 C hX hbl hE hT0 hL hce hi hI hS hl kk)
    · exact jz_tabIn (tgt := 753) C 21 dL_law_33 ⟨⟨by decide, by decide⟩, by decide, by decide⟩ rfl (by decide) (law_21 C hX hbl hE hT0 hL hce hi hI hS hl kk)
    · exact jz_tabIn (tgt := 797) C 22 dL_law_33 ⟨⟨by decide, by decide⟩, by decide, by decide⟩ rfl (by decide) (law_22 C hX hbl hE hT0 hL hce hi hI hS hl kk)
    · exact jz_tabIn (tgt := 840) C 23 dL_law_33 ⟨⟨by decide, by decide⟩, by decide, by decide⟩ rfl (by decide) (law_23 C hX hbl hE hT0 hL hce hi hI hS hl kk)
    · exact jz_tabIn (tgt := 863) C 24 dL_law_33 ⟨⟨by decide, by decide⟩, by decide, by decide⟩ rfl (by decide) (law_24 C hX hbl hE hT0 hL hce hi hI hS hl kk)
    · exact jz_tabIn (tgt := 906) C 25 dL_law_33 ⟨⟨by decide, by decide⟩, by decide, by decide⟩ rfl (by decide) (law_25 C hX hbl hE hT0 hL hce hi hI hS hl kk)
    · exact jz_tabIn (tgt := 950) C 26 dL_law_33 ⟨⟨by decide, by decide⟩, by decide, by decide⟩ rfl (by decide) (law_26 C hX hbl hE hT0 hL hce hi hI hS hl kk)
    · exact jz_tabIn (tgt := 1013) C 27 dL_law_33 ⟨⟨by decide, by decide⟩, by decide, by decide⟩ rfl (by decide) (law_27 C hX hbl hE hT0 hL hce hi hI hS hl kk)
    · exact jz_tabIn (tgt := 1036) C 28 dL_law_33 ⟨⟨by decide, by decide⟩, by decide, by decide⟩ rfl (by decide) (law_28 C hX hbl hE hT0 hL hce hi hI hS hl kk)
    · exact jz_tabIn (tgt := 1059) C 29 dL_law_33 ⟨⟨by decide, by decide⟩, by decide, by decide⟩ rfl (by decide) (law_29 C hX hbl hE hT0 hL hce hi hI hS hl kk)
    · exact jz_tabIn (tgt := 1092) C 30 dL_law_33 ⟨⟨by decide, by decide⟩, by decide, by decide⟩ rfl (by decide) (law_30 C hX hbl hE hT0 hL hce hi hI hS hl kk)
    · exact jz_tabIn (tgt := 1105) C 31 dL_law_33 ⟨⟨by decide, by decide⟩, by decide, by decide⟩ rfl (by decide) (law_31 C hX hbl hE hT0 hL hce hi hI hS hl kk)
    · exact jz_tabIn (tgt := 1118) C 32 dL_law_33 ⟨⟨by decide, by decide⟩, by decide, by decide⟩ rfl (by decide) (law_32 C hX hbl hE hT0 hL hce hi hI hS hl kk)
set_option maxHeartbeats 4000000 in
set_option maxRecDepth 100000 in
theorem law_loop {p : Program} {l : Launch} {e : Env} {s : State} {m : MethodId} {below : List Frame} {meth : Method} {c : Code} {cells slots : Nat} {Q : State → Prop} {b L : Nat} {xs : Nat → Int32} {D : va_G} {cI cS : ClassId} {a0 m0 : Nat} (C : CallFix p m c cL_law 4 s #[Value.ref b] wsL_law RL) (hX : va_X b L xs s s.heap) (hbl : b < s.heap.size) (hE : jE D cI cS s) (hT0 : jT (fun q => s.heap.size ≤ q) s s.heap) (hL : L ≤ 3072) (hce : cells ≤ room_1.cells ∧ slots ≤ room_1.slots)
    (hend : ∀ (H1 : Heap) (locs1 : List Loc) (ls1 : Array Slot), va_S (fun q => s.heap.size ≤ q) s.heap H1 locs1 → W p l e room_1 s m #[Value.ref b] below meth c H1 locs1 cells slots Q (F0 m 1147 ls1 [])) :
    ∀ (n i : Nat), L + 1 ≤ i + n → i ≤ L → ∀ (H : Heap) (locs : List Loc) (ls : Array Slot), Inv (fun q => s.heap.size ≤ q) D cI cS a0 m0 H → va_S (fun q => s.heap.size ≤ q) s.heap H locs → lv_has ls 4 [(3, .int (iI (i : Int))), (2, .ref m0), (1, .ref a0), (0, .ref b)] → W p l e room_1 s m #[Value.ref b] below meth c H locs cells slots Q (F0 m 18 ls []) := by
  intro n
  induction n with
  | zero => intro i h1 h2; exact absurd h1 (by omega)
  | succ n ih =>
    intro i h1 h2 H locs ls hI hS hl
    have hx := C.1
    have hb := C.2.1
    have hbA : ¬ (fun q => s.heap.size ≤ q) b := fun q => absurd hbl (Nat.not_lt.mpr q)
    refine lv_iload_n hx hb dL_law_18 rfl (lv_at hl 0 rfl) ?_
    refine lv_aload_n hx hb dL_law_19 rfl (lv_at hl 3 rfl) ?_
    refine va_slen hx hb hX hbl hbA hS dL_law_20 ?_
    rw [iI_ofNat]
    refine jz_bipush C dL_law_21 (by decide +kernel) ?_
    refine jz_isub C dL_law_23 ?_
    refine jz_icmp_gt (tgt := 1147) C dL_law_24 (by decide) ⟨⟨by omega, by omega⟩, ⟨by omega, by omega⟩⟩ (fun h => ?_) (fun h => ?_)
    · exact hend H locs ls hS
    · have hi : i + 6 ≤ L := by omega
      refine lv_aload_n hx hb dL_law_27 rfl (lv_at hl 3 rfl) ?_
      refine lv_iload_n hx hb dL_law_28 rfl (lv_at hl 0 rfl) ?_
      refine jl_sld C hX hbl hbA hS i rfl (by omega) hL dL_law_29 ?_
      refine jz_bipush C dL_law_30 (by decide +kernel) ?_
      refine lv_iand hx hb dL_law_32 ?_
      obtain ⟨z, hz, ez⟩ := land63 (xs i)
      rw [← iI_of, ez]
      refine law_case C hX hbl hE hT0 hL hce hi hI hS hl (fun H1 locs1 hI1 hS1 => ?_) hz
      refine jz_iinc (k := 0) (z := ((i + 6 : Nat) : Int)) (lv' := [(3, .int (iI ((i + 6 : Nat) : Int))), (2, .ref m0), (1, .ref a0), (0, .ref b)]) C dL_law_1141 hl rfl (by omega) (by decide) rfl (fun ls1 hl1 => ?_)
      refine lv_goto (tgt := 18) hx hb dL_law_1144 (by decide) ?_
      exact ih (i + 6) (by omega) hi H1 locs1 ls1 hI1 hS1 hl1
