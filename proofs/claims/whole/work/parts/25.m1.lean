theorem lI_le {a b : Int} (h : (-9223372036854775808 ≤ a ∧ a < 9223372036854775808) ∧ (-9223372036854775808 ≤ b ∧ b < 9223372036854775808)) : lI a ≤ lI b ↔ a ≤ b := by
  rw [Int64.le_iff_toInt_le, lI_toInt h.1, lI_toInt h.2]
section JL
variable {p : Program} {l : Launch} {e : Env} {R : Room} {s : State} {m : MethodId} {args : Array Value} {below : List Frame} {meth : Method} {c : Code} {H : Heap} {locs : List Loc} {cells slots : Nat} {Q : State → Prop} {cc : ByteArray} {pc : Nat} {ls : Array Slot} {rest : List Value} {nL : Nat} {Ts : List Cond} {own : String}

theorem jz_lc_lt (C : CallFix p m c cc nL s args Ts own) {a b : Int} {off : Int} {tgt : Nat} (hdl : decode cc pc = .ok (.lcmp, 1)) (hdg : decode cc (pc + 1) = .ok (.ifCond .lt off, 3)) (ht : ((pc + 1 : Nat) : Int) + off = (tgt : Int)) (hr : (-9223372036854775808 ≤ a ∧ a < 9223372036854775808) ∧ (-9223372036854775808 ≤ b ∧ b < 9223372036854775808)) (kt : a < b → W p l e R s m args below meth c H locs cells slots Q (F0 m tgt ls rest)) (kf : b ≤ a → W p l e R s m args below meth c H locs cells slots Q (F0 m (pc + 4) ls rest)) : W p l e R s m args below meth c H locs cells slots Q (F0 m pc ls (.long (lI b) :: .long (lI a) :: rest)) := W.lcmp C.1 C.2.1 hdl (lv_if_lt C.1 C.2.1 hdg ht (fun h => kt (((lg_cmp_lt _ _).trans (lI_lt hr)).mp h)) (fun h => kf (Int.not_lt.mp (fun z => h (((lg_cmp_lt _ _).trans (lI_lt hr)).mpr z)))))
theorem jz_lc_ge (C : CallFix p m c cc nL s args Ts own) {a b : Int} {off : Int} {tgt : Nat} (hdl : decode cc pc = .ok (.lcmp, 1)) (hdg : decode cc (pc + 1) = .ok (.ifCond .ge off, 3)) (ht : ((pc + 1 : Nat) : Int) + off = (tgt : Int)) (hr : (-9223372036854775808 ≤ a ∧ a < 9223372036854775808) ∧ (-9223372036854775808 ≤ b ∧ b < 9223372036854775808)) (kt : b ≤ a → W p l e R s m args below meth c H locs cells slots Q (F0 m tgt ls rest)) (kf : a < b → W p l e R s m args below meth c H locs cells slots Q (F0 m (pc + 4) ls rest)) : W p l e R s m args below meth c H locs cells slots Q (F0 m pc ls (.long (lI b) :: .long (lI a) :: rest)) := W.lcmp C.1 C.2.1 hdl (lv_if_ge C.1 C.2.1 hdg ht (fun h => kt (((lg_cmp_ge _ _).trans (lI_le (And.intro hr.2 hr.1))).mp h)) (fun h => kf (Int.not_le.mp (fun z => h (((lg_cmp_ge _ _).trans (lI_le (And.intro hr.2 hr.1))).mpr z)))))
theorem jz_lc_gt (C : CallFix p m c cc nL s args Ts own) {a b : Int} {off : Int} {tgt : Nat} (hdl : decode cc pc = .ok (.lcmp, 1)) (hdg : decode cc (pc + 1) = .ok (.ifCond .gt off, 3)) (ht : ((pc + 1 : Nat) : Int) + off = (tgt : Int)) (hr : (-9223372036854775808 ≤ a ∧ a < 9223372036854775808) ∧ (-9223372036854775808 ≤ b ∧ b < 9223372036854775808)) (kt : b < a → W p l e R s m args below meth c H locs cells slots Q (F0 m tgt ls rest)) (kf : a ≤ b → W p l e R s m args below meth c H locs cells slots Q (F0 m (pc + 4) ls rest)) : W p l e R s m args below meth c H locs cells slots Q (F0 m pc ls (.long (lI b) :: .long (lI a) :: rest)) := W.lcmp C.1 C.2.1 hdl (lv_if_gt C.1 C.2.1 hdg ht (fun h => kt (((lg_cmp_gt _ _).trans (lI_lt (And.intro hr.2 hr.1))).mp h)) (fun h => kf (Int.not_lt.mp (fun z => h (((lg_cmp_gt _ _).trans (lI_lt (And.intro hr.2 hr.1))).mpr z)))))
theorem jz_lc_le (C : CallFix p m c cc nL s args Ts own) {a b : Int} {off : Int} {tgt : Nat} (hdl : decode cc pc = .ok (.lcmp, 1)) (hdg : decode cc (pc + 1) = .ok (.ifCond .le off, 3)) (ht : ((pc + 1 : Nat) : Int) + off = (tgt : Int)) (hr : (-9223372036854775808 ≤ a ∧ a < 9223372036854775808) ∧ (-9223372036854775808 ≤ b ∧ b < 9223372036854775808)) (kt : a ≤ b → W p l e R s m args below meth c H locs cells slots Q (F0 m tgt ls rest)) (kf : b < a → W p l e R s m args below meth c H locs cells slots Q (F0 m (pc + 4) ls rest)) : W p l e R s m args below meth c H locs cells slots Q (F0 m pc ls (.long (lI b) :: .long (lI a) :: rest)) := W.lcmp C.1 C.2.1 hdl (lv_if_le C.1 C.2.1 hdg ht (fun h => kt (((lg_cmp_le _ _).trans (lI_le hr)).mp h)) (fun h => kf (Int.not_le.mp (fun z => h (((lg_cmp_le _ _).trans (lI_le hr)).mpr z)))))
theorem jz_lc_eq (C : CallFix p m c cc nL s args Ts own) {a b : Int} {off : Int} {tgt : Nat} (hdl : decode cc pc = .ok (.lcmp, 1)) (hdg : decode cc (pc + 1) = .ok (.ifCond .eq off, 3)) (ht : ((pc + 1 : Nat) : Int) + off = (tgt : Int)) (hr : (-9223372036854775808 ≤ a ∧ a < 9223372036854775808) ∧ (-9223372036854775808 ≤ b ∧ b < 9223372036854775808)) (kt : a = b → W p l e R s m args below meth c H locs cells slots Q (F0 m tgt ls rest)) (kf : ¬ a = b → W p l e R s m args below meth c H locs cells slots Q (F0 m (pc + 4) ls rest)) : W p l e R s m args below meth c H locs cells slots Q (F0 m pc ls (.long (lI b) :: .long (lI a) :: rest)) := W.lcmp C.1 C.2.1 hdl (lv_if_eq C.1 C.2.1 hdg ht (fun h => kt (((lg_cmp_eq _ _).trans (lI_eq hr)).mp h)) (fun h => kf (fun q => h (((lg_cmp_eq _ _).trans (lI_eq hr)).mpr q))))
theorem jz_lc_ne (C : CallFix p m c cc nL s args Ts own) {a b : Int} {off : Int} {tgt : Nat} (hdl : decode cc pc = .ok (.lcmp, 1)) (hdg : decode cc (pc + 1) = .ok (.ifCond .ne off, 3)) (ht : ((pc + 1 : Nat) : Int) + off = (tgt : Int)) (hr : (-9223372036854775808 ≤ a ∧ a < 9223372036854775808) ∧ (-9223372036854775808 ≤ b ∧ b < 9223372036854775808)) (kt : ¬ a = b → W p l e R s m args below meth c H locs cells slots Q (F0 m tgt ls rest)) (kf : a = b → W p l e R s m args below meth c H locs cells slots Q (F0 m (pc + 4) ls rest)) : W p l e R s m args below meth c H locs cells slots Q (F0 m pc ls (.long (lI b) :: .long (lI a) :: rest)) := W.lcmp C.1 C.2.1 hdl (lv_if_ne C.1 C.2.1 hdg ht (fun h => kt (fun q => h (((lg_cmp_eq _ _).trans (lI_eq hr)).mpr q))) (fun h => kf (by first | exact ((lg_cmp_eq _ _).trans (lI_eq hr)).mp h | exact ((lg_cmp_eq _ _).trans (lI_eq hr)).mp (Classical.not_not.mp h))))
end JL
theorem MI.spots {F : Nat → Int} {R : Nat → Nat → Int} (h : MI F R) : 0 ≤ F 1 * F 2 ∧ F 1 * F 2 ≤ 24 := by
  have h1 := h.high
  have h2 := h.wide
  rcases (show F 1 = 0 ∨ F 1 = 1 ∨ F 1 = 2 ∨ F 1 = 3 ∨ F 1 = 4 by omega) with e | e | e | e | e <;> rw [e] <;> omega
def nc (sz i : Int) : Int := if sz < 0 then 1 else if 0 ≤ i ∧ i ≤ sz - 1 then 0 else 3
theorem nc_bd (sz i : Int) : 0 ≤ nc sz i ∧ nc sz i ≤ 3 := by
  unfold nc
  split
  · omega
  · split <;> omega
theorem nc_0 {sz i : Int} (h : nc sz i ≤ 0) : 0 ≤ i ∧ i ≤ sz - 1 := by
  unfold nc at h
  split at h
  · omega
  · split at h <;> omega
theorem pcz_s {x : Nat} (h : x < 64) : pcz x = (x : Int) % 2 ^ 1 + pcz (x / 2) := by
  unfold pcz
  omega
theorem gd_s (x y : Nat) : Nat.gcd y (x % y) = Nat.gcd x y := by
  rw [Nat.gcd_comm x y, Nat.gcd_rec y x, Nat.gcd_comm]
theorem gd_p {x y u d : Nat} (hg : Nat.gcd x y = Nat.gcd u d) (hy : y = 0) (hd : 0 < d) : 0 < x := by
  have h := Nat.gcd_pos_of_pos_right (n := d) u hd
  rw [← hg, hy, Nat.gcd_zero_right] at h
  exact h
abbrev rm_X4_in : Room := { frames := 0, cells := 0, slots := 0, locals := 0 }
set_option maxHeartbeats 4000000 in
set_option maxRecDepth 100000 in
theorem c_X4_in {l : Launch} {D : va_G} {cI cS : ClassId} {w : va_W}  (v : Int) (lo : Int) (hi : Int)  (hv : -9223372036854775808 ≤ v ∧ v < 9223372036854775808) (hlo : -9223372036854775808 ≤ lo ∧ lo < 9223372036854775808) (hhi : -9223372036854775808 ≤ hi ∧ hi < 9223372036854775808): JS l yX4_in wsX4_in rm_X4_in (jB D cI cS w) [.long (lI (v)), .long (lI (lo)), .long (lI (hi))] (.int (iI (if lo ≤ v ∧ v ≤ hi then 1 else 0))) := by
  refine JS.mkZ rfl (by decide +kernel) rfl (Nat.le_of_ble_eq_true rfl) (jz_nz _) ?_
  intro p e st mi ar bl mth cd Q ls C hB hl hret
  obtain ⟨hE, hP⟩ := hB
  have hx := C.1
  have hb := C.2.1
  have hl : lv_has ls 6 [(0, .long (lI (v))), (2, .long (lI (lo))), (4, .long (lI (hi)))] := hl
  refine lv_lload_n hx hb dX4_in_0 rfl (lv_at hl 0 rfl) ?_
  refine lv_lload_n hx hb dX4_in_1 rfl (lv_at hl 1 rfl) ?_
  refine jz_lc_lt (tgt := 17) C dX4_in_2 dX4_in_3 (by decide) (by omega) (fun h2 => ?_) (fun h2 => ?_)
  · skip
    refine jz_const C dX4_in_17 ?_
    exact jz_ret (show ((if lo ≤ v ∧ v ≤ hi then 1 else 0) : Int) = 0 from by first | rfl | omega | (rw [if_pos (by omega)]) | (rw [if_neg (by omega)]) | (simp [*]; done)) (hret _ _ dX4_in_18)
  · skip
    refine lv_lload_n hx hb dX4_in_6 rfl (lv_at hl 0 rfl) ?_
    refine lv_lload hx hb dX4_in_7 (lv_at hl 2 rfl) ?_
    refine jz_lc_gt (tgt := 17) C dX4_in_9 dX4_in_10 (by decide) (by omega) (fun h9 => ?_) (fun h9 => ?_)
    · skip
      refine jz_const C dX4_in_17 ?_
      exact jz_ret (show ((if lo ≤ v ∧ v ≤ hi then 1 else 0) : Int) = 0 from by first | rfl | omega | (rw [if_pos (by omega)]) | (rw [if_neg (by omega)]) | (simp [*]; done)) (hret _ _ dX4_in_18)
    · skip
      refine jz_const C dX4_in_13 ?_
      refine lv_goto (tgt := 18) hx hb dX4_in_14 (by decide) ?_
      exact jz_ret (show ((if lo ≤ v ∧ v ≤ hi then 1 else 0) : Int) = 1 from by first | rfl | omega | (rw [if_pos (by omega)]) | (rw [if_neg (by omega)]) | (simp [*]; done)) (hret _ _ dX4_in_18)
abbrev rm_X4_lost : Room := { frames := 0, cells := 0, slots := 0, locals := 0 }
set_option maxHeartbeats 4000000 in
set_option maxRecDepth 100000 in
theorem c_X4_lost {l : Launch} {D : va_G} {cI cS : ClassId} {w : va_W}    : JS l yX4_lost wsX4_lost rm_X4_lost (jB D cI cS w) [] (.long (lI (-9223372036854775808))) := by
  refine JS.mkL rfl (by decide +kernel) rfl (Nat.le_of_ble_eq_true rfl) ?_
  intro p e st mi ar bl mth cd Q ls C hB hl hret
  obtain ⟨hE, hP⟩ := hB
  have hx := C.1
  have hb := C.2.1
  have hl : lv_has ls 0 [] := hl
  refine jz_ldc2 (z := -9223372036854775808) C (List.mem_of_getElem? (i := 1) rfl) (by decide +kernel) dX4_lost_0 ?_
  exact hret _ _ dX4_lost_3
abbrev rm_X4_isIn : Room := { frames := 0, cells := 0, slots := 0, locals := 0 }
set_option maxHeartbeats 4000000 in
set_option maxRecDepth 100000 in
theorem c_X4_isIn {l : Launch} {D : va_G} {cI cS : ClassId} {w : va_W}  (set : Int) (k : Int)  (hs : 0 ≤ set ∧ set < 64) (hk : 0 ≤ k ∧ k < 6): JS l yX4_isIn wsX4_isIn rm_X4_isIn (jB D cI cS w) [.int (iI (set)), .int (iI (k))] (.int (iI (if set / 2 ^ (Int.toNat k) % 2 ^ 1 = 1 then 1 else 0))) := by
  refine JS.mkZ rfl (by decide +kernel) rfl (Nat.le_of_ble_eq_true rfl) (jz_nz _) ?_
  intro p e st mi ar bl mth cd Q ls C hB hl hret
  obtain ⟨hE, hP⟩ := hB
  have hx := C.1
  have hb := C.2.1
  have hl : lv_has ls 2 [(0, .int (iI (set))), (1, .int (iI (k)))] := hl
  refine lv_iload_n hx hb dX4_isIn_0 rfl (lv_at hl 0 rfl) ?_
  refine lv_iload_n hx hb dX4_isIn_1 rfl (lv_at hl 1 rfl) ?_
  refine jz_ishr (k := (Int.toNat k)) C dX4_isIn_2 (by omega) ?_
  have hsh : 0 ≤ set / 2 ^ (Int.toNat k) ∧ set / 2 ^ (Int.toNat k) < 64 := ⟨Int.ediv_nonneg hs.1 (Int.le_of_lt (Int.pow_pos (by decide))), by have := Int.ediv_le_self (a := set) (2 ^ (Int.toNat k)) hs.1; omega⟩
  refine jz_const C dX4_isIn_3 ?_
  refine jz_iand (k := 1) C dX4_isIn_4 (by decide +kernel) (by omega) ?_
  refine jz_const C dX4_isIn_5 ?_
  refine jz_icmp_ne (tgt := 13) C dX4_isIn_6 (by decide) (by omega) (fun h6 => ?_) (fun h6 => ?_)
  · skip
    refine jz_const C dX4_isIn_13 ?_
    exact jz_ret (show ((if set / 2 ^ (Int.toNat k) % 2 ^ 1 = 1 then 1 else 0) : Int) = 0 from by first | rfl | omega | (rw [if_pos (by omega)]) | (rw [if_neg (by omega)]) | (simp [*]; done)) (hret _ _ dX4_isIn_14)
  · skip
    refine jz_const C dX4_isIn_9 ?_
    refine lv_goto (tgt := 14) hx hb dX4_isIn_10 (by decide) ?_
    exact jz_ret (show ((if set / 2 ^ (Int.toNat k) % 2 ^ 1 = 1 then 1 else 0) : Int) = 1 from by first | rfl | omega | (rw [if_pos (by omega)]) | (rw [if_neg (by omega)]) | (simp [*]; done)) (hret _ _ dX4_isIn_14)
abbrev rm_X4_bits : Room := { frames := 0, cells := 0, slots := 0, locals := 0 }
set_option maxHeartbeats 4000000 in
set_option maxRecDepth 100000 in
theorem c_X4_bits {l : Launch} {D : va_G} {cI cS : ClassId} {w : va_W}  (set : Int)  (hs : 0 ≤ set ∧ set < 64): JS l yX4_bits wsX4_bits rm_X4_bits (jB D cI cS w) [.int (iI (set))] (.int (iI (pcz (Int.toNat set)))) := by
  refine JS.mkI rfl (by decide +kernel) rfl (Nat.le_of_ble_eq_true rfl) ?_
  intro p e st mi ar bl mth cd Q ls C hB hl hret
  obtain ⟨hE, hP⟩ := hB
  have hx := C.1
  have hb := C.2.1
  have hl : lv_has ls 3 [(0, .int (iI (set)))] := hl
  refine jz_const C dX4_bits_0 ?_
  refine lv_istore_n (lv' := [(1, .int (iI (0))), (0, .int (iI (set)))]) hx hb dX4_bits_1 rfl hl (by decide) rfl (fun ls hl => ?_)
  refine lv_iload_n hx hb dX4_bits_2 rfl (lv_at hl 1 rfl) ?_
  refine lv_istore_n (lv' := [(2, .int (iI (set))), (1, .int (iI (0))), (0, .int (iI (set)))]) hx hb dX4_bits_3 rfl hl (by decide) rfl (fun ls hl => ?_)
  have key4 : ∀ (n4 : Nat) (a : Int) (x : Nat) (hx6 : x < 64) (ha : a + pcz x = pcz (Int.toNat set)), (((x : Nat) : Int) : Int) < n4 → ∀ (ls : Array Slot), lv_has ls 3 [(2, .int (iI (((x : Nat) : Int)))), (1, .int (iI (a))), (0, .int (iI (set)))] → W p l e rm_X4_bits st mi ar bl mth cd st.heap [] 0 0 Q (F0 mi 4 ls []) := by
    intro n4
    induction n4 with
    | zero => intro a x hx6 ha hn9; exfalso; omega
    | succ n4 ih4 =>
      intro a x hx6 ha hn9 ls hl
      refine lv_iload_n hx hb dX4_bits_4 rfl (lv_at hl 0 rfl) ?_
      refine jz_if_le (tgt := 21) C dX4_bits_5 (by decide) (by omega) (fun h5 => ?_) (fun h5 => ?_)
      · skip
        refine lv_iload_n hx hb dX4_bits_21 rfl (lv_at hl 1 rfl) ?_
        exact jz_ret (show (pcz (Int.toNat set) : Int) = a from by rw [← ha, show x = 0 by omega]; exact Int.add_zero _) (hret _ _ dX4_bits_22)
      · skip
        refine lv_iload_n hx hb dX4_bits_8 rfl (lv_at hl 1 rfl) ?_
        refine lv_iload_n hx hb dX4_bits_9 rfl (lv_at hl 0 rfl) ?_
        refine jz_const C dX4_bits_10 ?_
        refine jz_iand (k := 1) C dX4_bits_11 (by decide +kernel) (by omega) ?_
        refine jz_iadd C dX4_bits_12 ?_
        refine lv_istore_n (lv' := [(1, .int (iI (a + (((x : Nat) : Int) % 2 ^ 1)))), (2, .int (iI (((x : Nat) : Int)))), (0, .int (iI (set)))]) hx hb dX4_bits_13 rfl hl (by decide) rfl (fun ls hl => ?_)
        refine lv_iload_n hx hb dX4_bits_14 rfl (lv_at hl 1 rfl) ?_
        refine jz_const C dX4_bits_15 ?_
        refine jz_ishr (k := 1) C dX4_bits_16 (by omega) ?_
        refine lv_istore_n (lv' := [(2, .int (iI (((x : Nat) : Int) / 2 ^ 1))), (1, .int (iI (a + (((x : Nat) : Int) % 2 ^ 1)))), (0, .int (iI (set)))]) hx hb dX4_bits_17 rfl hl (by decide) rfl (fun ls hl => ?_)
        refine lv_goto (tgt := 4) hx hb dX4_bits_18 (by decide) ?_
        have hl9 : lv_has ls 3 [(2, .int (iI (((x / 2 : Nat) : Int)))), (1, .int (iI (a + (x : Int) % 2 ^ 1))), (0, .int (iI (set)))] := by
          rw [show (((x / 2 : Nat) : Int) : Int) = ((x : Nat) : Int) / 2 ^ 1 from by omega]
          exact lv_sub hl [0, 1, 2] rfl
        exact ih4 (a + (x : Int) % 2 ^ 1) (x / 2) (by omega) (by rw [Int.add_assoc, ← pcz_s hx6]; exact ha) (by omega) ls hl9
  have hl9 : lv_has ls 3 [(2, .int (iI (((Int.toNat set : Nat) : Int)))), (1, .int (iI (0))), (0, .int (iI (set)))] := by
    rw [show (((Int.toNat set : Nat) : Int) : Int) = set from by omega]
    exact lv_sub hl [0, 1, 2] rfl
  exact key4 (Int.toNat (((Int.toNat set : Nat) : Int)) + 1) 0 (Int.toNat set) (by omega) (Int.zero_add _) (by omega) ls hl9
abbrev rm_X4_share : Room := { frames := 0, cells := 0, slots := 0, locals := 0 }
set_option maxHeartbeats 4000000 in
set_option maxRecDepth 100000 in
theorem c_X4_share {l : Launch} {D : va_G} {cI cS : ClassId} {w : va_W}  (up : Int) (down : Int) (which : Int)  (hu : 0 ≤ up ∧ up ≤ 256) (hd : 1 ≤ down ∧ down ≤ 256) (hw : -2147483648 ≤ which ∧ which < 2147483648): JS l yX4_share wsX4_share rm_X4_share (jB D cI cS w) [.long (lI (up)), .long (lI (down)), .int (iI (which))] (.long (lI ((if which = 0 then up else down) / ((Nat.gcd (Int.toNat up) (Int.toNat down) : Nat) : Int)))) := by
  refine JS.mkL rfl (by decide +kernel) rfl (Nat.le_of_ble_eq_true rfl) ?_
  intro p e st mi ar bl mth cd Q ls C hB hl hret
  obtain ⟨hE, hP⟩ := hB
  have hx := C.1
  have hb := C.2.1
  have hl : lv_has ls 11 [(0, .long (lI (up))), (2, .long (lI (down))), (4, .int (iI (which)))] := hl
  refine lv_lload_n hx hb dX4_share_0 rfl (lv_at hl 0 rfl) ?_
  refine lv_lstore (lv' := [(5, .long (lI (up))), (0, .long (lI (up))), (2, .long (lI (down))), (4, .int (iI (which)))]) hx hb dX4_share_1 hl (by decide) rfl (fun ls hl => ?_)
  refine lv_lload_n hx hb dX4_share_3 rfl (lv_at hl 2 rfl) ?_
  refine lv_lstore (lv' := [(7, .long (lI (down))), (5, .long (lI (up))), (0, .long (lI (up))), (2, .long (lI (down))), (4, .int (iI (which)))]) hx hb dX4_share_4 hl (by decide) rfl (fun ls hl => ?_)
  have key6 : ∀ (n6 : Nat) (x : Nat) (y : Nat) (hxy : x ≤ 256 ∧ y ≤ 256) (hg : Nat.gcd x y = Nat.gcd (Int.toNat up) (Int.toNat down)), (((y : Nat) : Int) : Int) < n6 → ∀ (ls : Array Slot), lv_has ls 11 [(7, .long (lI (((y : Nat) : Int)))), (5, .long (lI (((x : Nat) : Int)))), (0, .long (lI (up))), (2, .long (lI (down))), (4, .int (iI (which)))] → W p l e rm_X4_share st mi ar bl mth cd st.heap [] 0 0 Q (F0 mi 6 ls []) := by
    intro n6
    induction n6 with
    | zero => intro x y hxy hg hn9; exfalso; omega
    | succ n6 ih6 =>
      intro x y hxy hg hn9 ls hl
      refine lv_lload hx hb dX4_share_6 (lv_at hl 0 rfl) ?_
      refine jz_lconst (z := 0) C rfl dX4_share_8 ?_
      refine jz_lc_eq (tgt := 31) C dX4_share_9 dX4_share_10 (by decide) (by omega) (fun h9 => ?_) (fun h9 => ?_)
      · skip
        have hx1 := gd_p hg (by omega) (by omega)
        refine lv_iload hx hb dX4_share_31 (lv_at hl 4 rfl) ?_
        refine jz_if_ne (tgt := 40) C dX4_share_33 (by decide) (by omega) (fun h33 => ?_) (fun h33 => ?_)
        · skip
          refine lv_lload_n hx hb dX4_share_40 rfl (lv_at hl 3 rfl) ?_
          refine lv_lload hx hb dX4_share_41 (lv_at hl 1 rfl) ?_
          refine jz_ldiv C dX4_share_43 (by omega) ?_
          exact jz_retl (show ((if which = 0 then up else down) / ((Nat.gcd (Int.toNat up) (Int.toNat down) : Nat) : Int) : Int) = down / ((x : Nat) : Int) from by first | rw [if_pos h33, ← hg, show y = 0 by omega, Nat.gcd_zero_right] | rw [if_neg h33, ← hg, show y = 0 by omega, Nat.gcd_zero_right]) (hret _ _ dX4_share_44)
        · skip
          refine lv_lload_n hx hb dX4_share_36 rfl (lv_at hl 2 rfl) ?_
          refine lv_goto (tgt := 41) hx hb dX4_share_37 (by decide) ?_
          refine lv_lload hx hb dX4_share_41 (lv_at hl 1 rfl) ?_
          refine jz_ldiv C dX4_share_43 (by omega) ?_
          exact jz_retl (show ((if which = 0 then up else down) / ((Nat.gcd (Int.toNat up) (Int.toNat down) : Nat) : Int) : Int) = up / ((x : Nat) : Int) from by first | rw [if_pos h33, ← hg, show y = 0 by omega, Nat.gcd_zero_right] | rw [if_neg h33, ← hg, show y = 0 by omega, Nat.gcd_zero_right]) (hret _ _ dX4_share_44)
      · skip
        refine lv_lload hx hb dX4_share_13 (lv_at hl 1 rfl) ?_
        refine lv_lload hx hb dX4_share_15 (lv_at hl 0 rfl) ?_
        refine jz_lrem C dX4_share_17 (by omega) ?_
        refine lv_lstore (lv' := [(9, .long (lI (((x : Nat) : Int) % ((y : Nat) : Int)))), (7, .long (lI (((y : Nat) : Int)))), (5, .long (lI (((x : Nat) : Int)))), (0, .long (lI (up))), (2, .long (lI (down))), (4, .int (iI (which)))]) hx hb dX4_share_18 hl (by decide) rfl (fun ls hl => ?_)
        refine lv_lload hx hb dX4_share_20 (lv_at hl 1 rfl) ?_
        refine lv_lstore (lv' := [(5, .long (lI (((y : Nat) : Int)))), (9, .long (lI (((x : Nat) : Int) % ((y : Nat) : Int)))), (7, .long (lI (((y : Nat) : Int)))), (0, .long (lI (up))), (2, .long (lI (down))), (4, .int (iI (which)))]) hx hb dX4_share_22 hl (by decide) rfl (fun ls hl => ?_)
        refine lv_lload hx hb dX4_share_24 (lv_at hl 1 rfl) ?_
        refine lv_lstore (lv' := [(7, .long (lI (((x : Nat) : Int) % ((y : Nat) : Int)))), (5, .long (lI (((y : Nat) : Int)))), (9, .long (lI (((x : Nat) : Int) % ((y : Nat) : Int)))), (0, .long (lI (up))), (2, .long (lI (down))), (4, .int (iI (which)))]) hx hb dX4_share_26 hl (by decide) rfl (fun ls hl => ?_)
        have hml := Nat.mod_lt x (y := y) (by omega)
        refine lv_goto (tgt := 6) hx hb dX4_share_28 (by decide) ?_
        have hl9 : lv_has ls 11 [(7, .long (lI (((x % y : Nat) : Int)))), (5, .long (lI (((y : Nat) : Int)))), (0, .long (lI (up))), (2, .long (lI (down))), (4, .int (iI (which)))] := by
          rw [show (((x % y : Nat) : Int) : Int) = ((x : Nat) : Int) % ((y : Nat) : Int) from by omega]
          exact lv_sub hl [0, 1, 3, 4, 5] rfl
        exact ih6 y (x % y) (by have := Nat.mod_lt x (y := y) (by omega); omega) ((gd_s x y).trans hg) (by omega) ls hl9
  have hl9 : lv_has ls 11 [(7, .long (lI (((Int.toNat down : Nat) : Int)))), (5, .long (lI (((Int.toNat up : Nat) : Int)))), (0, .long (lI (up))), (2, .long (lI (down))), (4, .int (iI (which)))] := by
    rw [show (((Int.toNat down : Nat) : Int) : Int) = down from by omega]
    rw [show (((Int.toNat up : Nat) : Int) : Int) = up from by omega]
    exact lv_sub hl [0, 1, 2, 3, 4] rfl
  exact key6 (Int.toNat (((Int.toNat down : Nat) : Int)) + 1) (Int.toNat up) (Int.toNat down) (by omega) rfl (by omega) ls hl9
abbrev rm_X4_refused : Room := { frames := 0, cells := 0, slots := 0, locals := 0 }
set_option maxHeartbeats 4000000 in
set_option maxRecDepth 100000 in
theorem c_X4_refused {l : Launch} {D : va_G} {cI cS : ClassId} {ad : Nat → Nat} {F : Nat → Int} {R : Nat → Nat → Int} {A : Nat → Prop} (hD : va_D A (wM cI ad F R))  (code : Int)  : JV l yX4_refused wsX4_refused rm_X4_refused (jB D cI cS (wM cI ad F R)) A [.ref (ad 0), .int (iI (code))] (fun v9 (_ : Unit) => v9 = some (.int (iI (code)))) (fun _ H => va_P D vwCl (wM cI ad (u1 F 0 0) R) H) := by
  refine JV.mkI rfl (by decide +kernel) rfl (Nat.le_of_ble_eq_true rfl) ?_
  intro p e st mi ar bl mth cd Q ls C hB hl hret
  obtain ⟨hE, hP⟩ := hB
  have hx := C.1
  have hb := C.2.1
  have hl : lv_has ls 2 [(0, .ref (ad 0)), (1, .int (iI (code)))] := hl
  have hin4 : ∀ w ∈ wsX40, w ∈ wsX4_refused := fun _ h => List.mem_cons_of_mem _ (List.mem_append_right _ h)
  suffices hgo : ∀ (H : Heap) (lc : List Loc), va_P D vwCl (wM cI ad F R) H → va_S A st.heap H lc → W p l e rm_X4_refused st mi ar bl mth cd H lc 0 0 Q (F0 mi 0 ls []) from hgo _ _ hP va_S.rf
  clear hP
  intro H lc hP hS
  refine lv_aload_n hx hb dX4_refused_0 rfl (lv_at hl 0 rfl) ?_
  refine jz_const C dX4_refused_1 ?_
  refine fp_M_fault C hin4 hE hP (jDM hD) hS (List.mem_of_getElem? (i := 1) rfl) dX4_refused_2 (fun H lc hP hS => ?_)
  refine lv_iload_n hx hb dX4_refused_5 rfl (lv_at hl 1 rfl) ?_
  exact hret _ () _ _ _ _ dX4_refused_6 rfl hP hS
abbrev rm_X4_failed : Room := { frames := 0, cells := 0, slots := 0, locals := 0 }
set_option maxHeartbeats 4000000 in
set_option maxRecDepth 100000 in
theorem c_X4_failed {l : Launch} {D : va_G} {cI cS : ClassId} {ad : Nat → Nat} {F : Nat → Int} {R : Nat → Nat → Int} {A : Nat → Prop} (hD : va_D A (wM cI ad F R))  (f : Int)  : JV l yX4_failed wsX4_failed rm_X4_failed (jB D cI cS (wM cI ad F R)) A [.ref (ad 0), .int (iI (f))] (fun v9 (_ : Unit) => v9 = some (.int (iI ((-10) - f)))) (fun _ H => va_P D vwCl (wM cI ad (u1 F 0 f) R) H) := by
  refine JV.mkI rfl (by decide +kernel) rfl (Nat.le_of_ble_eq_true rfl) ?_
  intro p e st mi ar bl mth cd Q ls C hB hl hret
  obtain ⟨hE, hP⟩ := hB
  have hx := C.1
  have hb := C.2.1
  have hl : lv_has ls 2 [(0, .ref (ad 0)), (1, .int (iI (f)))] := hl
  have hin4 : ∀ w ∈ wsX40, w ∈ wsX4_failed := fun _ h => List.mem_cons_of_mem _ (List.mem_append_right _ h)
  suffices hgo : ∀ (H : Heap) (lc : List Loc), va_P D vwCl (wM cI ad F R) H → va_S A st.heap H lc → W p l e rm_X4_failed st mi ar bl mth cd H lc 0 0 Q (F0 mi 0 ls []) from hgo _ _ hP va_S.rf
  clear hP
  intro H lc hP hS
  refine lv_aload_n hx hb dX4_failed_0 rfl (lv_at hl 0 rfl) ?_
  refine lv_iload_n hx hb dX4_failed_1 rfl (lv_at hl 1 rfl) ?_
  refine fp_M_fault C hin4 hE hP (jDM hD) hS (List.mem_of_getElem? (i := 1) rfl) dX4_failed_2 (fun H lc hP hS => ?_)
  refine jz_bipush C dX4_failed_5 (by decide +kernel) ?_
  refine lv_iload_n hx hb dX4_failed_7 rfl (lv_at hl 1 rfl) ?_
  refine jz_isub C dX4_failed_8 ?_
  exact hret _ () _ _ _ _ dX4_failed_9 rfl hP hS
abbrev rm_X4_failedLong : Room := { frames := 1, cells := 0, slots := 0, locals := 19 }
set_option maxHeartbeats 4000000 in
set_option maxRecDepth 100000 in
theorem c_X4_failedLong {l : Launch} {D : va_G} {cI cS : ClassId} {ad : Nat → Nat} {F : Nat → Int} {R : Nat → Nat → Int} {A : Nat → Prop} (hD : va_D A (wM cI ad F R))  (f : Int)  : JV l yX4_failedLong wsX4_failedLong rm_X4_failedLong (jB D cI cS (wM cI ad F R)) A [.ref (ad 0), .int (iI (f))] (fun v9 (_ : Unit) => v9 = some (.long (lI (-9223372036854775808)))) (fun _ H => va_P D vwCl (wM cI ad (u1 F 0 f) R) H) := by
  refine JV.mkL rfl (by decide +kernel) rfl (Nat.le_of_ble_eq_true rfl) ?_
  intro p e st mi ar bl mth cd Q ls C hB hl hret
  obtain ⟨hE, hP⟩ := hB
  have hx := C.1
  have hb := C.2.1
  have hl : lv_has ls 2 [(0, .ref (ad 0)), (1, .int (iI (f)))] := hl
  have hin4 : ∀ w ∈ wsX40, w ∈ wsX4_failedLong := fun _ h => List.mem_cons_of_mem _ (List.mem_append_right _ h)
  suffices hgo : ∀ (H : Heap) (lc : List Loc), va_P D vwCl (wM cI ad F R) H → va_S A st.heap H lc → W p l e rm_X4_failedLong st mi ar bl mth cd H lc 0 0 Q (F0 mi 0 ls []) from hgo _ _ hP va_S.rf
  clear hP
  intro H lc hP hS
  refine lv_aload_n hx hb dX4_failedLong_0 rfl (lv_at hl 0 rfl) ?_
  refine lv_iload_n hx hb dX4_failedLong_1 rfl (lv_at hl 1 rfl) ?_
  refine fp_M_fault C hin4 hE hP (jDM hD) hS (List.mem_of_getElem? (i := 1) rfl) dX4_failedLong_2 (fun H lc hP hS => ?_)
  refine jc_S C hl.1 (jpreS hE hP) (c_X4_lost  ) (va_cwS 0 C.2.2.2.2 gX4_failedLong_X4_lost rfl rfl rfl (by decide +kernel) ⟨Nat.le_of_ble_eq_true rfl, Nat.le_of_ble_eq_true rfl⟩) (As := []) (v := .long (lI (-9223372036854775808))) (hn := rfl) (hst := rfl) (rest := []) (hW := Nat.le_of_ble_eq_true rfl) (hdg := dX4_failedLong_5) (hf := ⟨Nat.le_of_ble_eq_true rfl, Nat.le_of_ble_eq_true rfl⟩) ?_
  exact hret _ () _ _ _ _ dX4_failedLong_8 rfl hP hS
abbrev rm_X4_traced : Room := { frames := 0, cells := 0, slots := 0, locals := 0 }
set_option maxHeartbeats 4000000 in
set_option maxRecDepth 100000 in
theorem c_X4_traced {l : Launch} {D : va_G} {cI cS : ClassId} {ad : Nat → Nat} {F : Nat → Int} {R : Nat → Nat → Int} {A : Nat → Prop} (hD : va_D A (wM cI ad F R))  (n : Int)  : JV l yX4_traced wsX4_traced rm_X4_traced (jB D cI cS (wM cI ad F R)) A [.ref (ad 0), .int (iI (n))] (fun v9 (_ : Unit) => v9 = none) (fun _ H => va_P D vwCl (wM cI ad (u1 F 31 ((31 * (F 31)) + n)) R) H) := by
  refine JV.mkN rfl (by decide +kernel) rfl (Nat.le_of_ble_eq_true rfl) ?_
  intro p e st mi ar bl mth cd Q ls C hB hl hret
  obtain ⟨hE, hP⟩ := hB
  have hx := C.1
  have hb := C.2.1
  have hl : lv_has ls 2 [(0, .ref (ad 0)), (1, .int (iI (n)))] := hl
  have hin4 : ∀ w ∈ wsX40, w ∈ wsX4_traced := fun _ h => List.mem_cons_of_mem _ (List.mem_append_right _ h)
  suffices hgo : ∀ (H : Heap) (lc : List Loc), va_P D vwCl (wM cI ad F R) H → va_S A st.heap H lc → W p l e rm_X4_traced st mi ar bl mth cd H lc 0 0 Q (F0 mi 0 ls []) from hgo _ _ hP va_S.rf
  clear hP
  intro H lc hP hS
  refine lv_aload_n hx hb dX4_traced_0 rfl (lv_at hl 0 rfl) ?_
  refine jz_bipush C dX4_traced_1 (by decide +kernel) ?_
  refine lv_aload_n hx hb dX4_traced_3 rfl (lv_at hl 0 rfl) ?_
  refine fg_M_traceNow C hin4 hE hP (v := F 31) (List.mem_of_getElem? (i := 1) rfl) dX4_traced_4 rfl ?_
  refine jz_imul C dX4_traced_7 ?_
  refine lv_iload_n hx hb dX4_traced_8 rfl (lv_at hl 1 rfl) ?_
  refine jz_iadd C dX4_traced_9 ?_
  refine fp_M_traceNow C hin4 hE hP (jDM hD) hS (List.mem_of_getElem? (i := 1) rfl) dX4_traced_10 (fun H lc hP hS => ?_)
  exact hret () _ _ _ _ dX4_traced_13 rfl hP hS
abbrev rm_X4_noWork : Room := { frames := 1, cells := 0, slots := 0, locals := 25 }
set_option maxHeartbeats 4000000 in
set_option maxRecDepth 100000 in
theorem c_X4_noWork {l : Launch} {D : va_G} {cI cS : ClassId} {ad : Nat → Nat} {F : Nat → Int} {R : Nat → Nat → Int}  (w : Int)  (hf : 0 ≤ F 3 ∧ F 3 ≤ 4) (hr : -2147483648 ≤ w ∧ w < 2147483648): JS l yX4_noWork wsX4_noWork rm_X4_noWork (jB D cI cS (wM cI ad F R)) [.ref (ad 0), .int (iI (w))] (.int (iI (if ¬ (0 ≤ w ∧ w ≤ (F 3) - 1) then 1 else 0))) := by
  refine JS.mkZ rfl (by decide +kernel) rfl (Nat.le_of_ble_eq_true rfl) (jz_nz _) ?_
  intro p e st mi ar bl mth cd Q ls C hB hl hret
  obtain ⟨hE, hP⟩ := hB
  have hx := C.1
  have hb := C.2.1
  have hl : lv_has ls 2 [(0, .ref (ad 0)), (1, .int (iI (w)))] := hl
  have hin4 : ∀ w ∈ wsX40, w ∈ wsX4_noWork := fun _ h => List.mem_cons_of_mem _ (List.mem_append_right _ h)
  refine lv_iload_n hx hb dX4_noWork_0 rfl (lv_at hl 1 rfl) ?_
  refine jz_i2l C dX4_noWork_1 (by omega) ?_
  refine jz_lconst (z := 0) C rfl dX4_noWork_2 ?_
  refine lv_aload_n hx hb dX4_noWork_3 rfl (lv_at hl 0 rfl) ?_
  refine fg_M_works C hin4 hE hP (v := F 3) (List.mem_of_getElem? (i := 1) rfl) dX4_noWork_4 rfl ?_
  refine jz_i2l C dX4_noWork_7 (by omega) ?_
  refine jz_lconst (z := 1) C rfl dX4_noWork_8 ?_
  refine jz_lsub C dX4_noWork_9 ?_
  refine jc_S C hl.1 (jpreS hE hP) (c_X4_in w 0 ((F 3) - 1) (show -9223372036854775808 ≤ w ∧ w < 9223372036854775808 from (by omega)) (show -9223372036854775808 ≤ 0 ∧ 0 < 9223372036854775808 from (by omega)) (show -9223372036854775808 ≤ ((F 3) - 1) ∧ ((F 3) - 1) < 9223372036854775808 from (by omega))) (va_cwS 3 C.2.2.2.2 gX4_noWork_X4_in rfl rfl rfl (by decide +kernel) ⟨Nat.le_of_ble_eq_true rfl, Nat.le_of_ble_eq_true rfl⟩) (As := [.long (lI (w)), .long (lI (0)), .long (lI ((F 3) - 1))]) (v := .int (iI (if 0 ≤ w ∧ w ≤ ((F 3) - 1) then 1 else 0))) (hn := rfl) (hst := rfl) (rest := []) (hW := Nat.le_of_ble_eq_true rfl) (hdg := dX4_noWork_10) (hf := ⟨Nat.le_of_ble_eq_true rfl, Nat.le_of_ble_eq_true rfl⟩) ?_
  refine jz_bool_ne (tgt := 20) C dX4_noWork_13 (by decide) (fun h13 => ?_) (fun h13 => ?_)
  · skip
    refine jz_const C dX4_noWork_20 ?_
    exact jz_ret (show ((if ¬ (0 ≤ w ∧ w ≤ (F 3) - 1) then 1 else 0) : Int) = 0 from by first | rfl | omega | (rw [if_pos (by omega)]) | (rw [if_neg (by omega)]) | (simp [*]; done)) (hret _ _ dX4_noWork_21)
  · skip
    refine jz_const C dX4_noWork_16 ?_
    refine lv_goto (tgt := 21) hx hb dX4_noWork_17 (by decide) ?_
    exact jz_ret (show ((if ¬ (0 ≤ w ∧ w ≤ (F 3) - 1) then 1 else 0) : Int) = 1 from by first | rfl | omega | (rw [if_pos (by omega)]) | (rw [if_neg (by omega)]) | (simp [*]; done)) (hret _ _ dX4_noWork_21)
abbrev rm_X4_noWard : Room := { frames := 1, cells := 0, slots := 0, locals := 25 }
set_option maxHeartbeats 4000000 in
set_option maxRecDepth 100000 in
theorem c_X4_noWard {l : Launch} {D : va_G} {cI cS : ClassId} {ad : Nat → Nat} {F : Nat → Int} {R : Nat → Nat → Int}  (k : Int)  (hf : 0 ≤ F 7 ∧ F 7 ≤ 6) (hr : -2147483648 ≤ k ∧ k < 2147483648): JS l yX4_noWard wsX4_noWard rm_X4_noWard (jB D cI cS (wM cI ad F R)) [.ref (ad 0), .int (iI (k))] (.int (iI (if ¬ (0 ≤ k ∧ k ≤ (F 7) - 1) then 1 else 0))) := by
  refine JS.mkZ rfl (by decide +kernel) rfl (Nat.le_of_ble_eq_true rfl) (jz_nz _) ?_
  intro p e st mi ar bl mth cd Q ls C hB hl hret
  obtain ⟨hE, hP⟩ := hB
  have hx := C.1
  have hb := C.2.1
  have hl : lv_has ls 2 [(0, .ref (ad 0)), (1, .int (iI (k)))] := hl
  have hin4 : ∀ w ∈ wsX40, w ∈ wsX4_noWard := fun _ h => List.mem_cons_of_mem _ (List.mem_append_right _ h)
  refine lv_iload_n hx hb dX4_noWard_0 rfl (lv_at hl 1 rfl) ?_
  refine jz_i2l C dX4_noWard_1 (by omega) ?_
  refine jz_lconst (z := 0) C rfl dX4_noWard_2 ?_
  refine lv_aload_n hx hb dX4_noWard_3 rfl (lv_at hl 0 rfl) ?_
  refine fg_M_wards C hin4 hE hP (v := F 7) (List.mem_of_getElem? (i := 1) rfl) dX4_noWard_4 rfl ?_
  refine jz_i2l C dX4_noWard_7 (by omega) ?_
  refine jz_lconst (z := 1) C rfl dX4_noWard_8 ?_
  refine jz_lsub C dX4_noWard_9 ?_
  refine jc_S C hl.1 (jpreS hE hP) (c_X4_in k 0 ((F 7) - 1) (show -9223372036854775808 ≤ k ∧ k < 9223372036854775808 from (by omega)) (show -9223372036854775808 ≤ 0 ∧ 0 < 9223372036854775808 from (by omega)) (show -9223372036854775808 ≤ ((F 7) - 1) ∧ ((F 7) - 1) < 9223372036854775808 from (by omega))) (va_cwS 3 C.2.2.2.2 gX4_noWard_X4_in rfl rfl rfl (by decide +kernel) ⟨Nat.le_of_ble_eq_true rfl, Nat.le_of_ble_eq_true rfl⟩) (As := [.long (lI (k)), .long (lI (0)), .long (lI ((F 7) - 1))]) (v := .int (iI (if 0 ≤ k ∧ k ≤ ((F 7) - 1) then 1 else 0))) (hn := rfl) (hst := rfl) (rest := []) (hW := Nat.le_of_ble_eq_true rfl) (hdg := dX4_noWard_10) (hf := ⟨Nat.le_of_ble_eq_true rfl, Nat.le_of_ble_eq_true rfl⟩) ?_
  refine jz_bool_ne (tgt := 20) C dX4_noWard_13 (by decide) (fun h13 => ?_) (fun h13 => ?_)
  · skip
    refine jz_const C dX4_noWard_20 ?_
    exact jz_ret (show ((if ¬ (0 ≤ k ∧ k ≤ (F 7) - 1) then 1 else 0) : Int) = 0 from by first | rfl | omega | (rw [if_pos (by omega)]) | (rw [if_neg (by omega)]) | (simp [*]; done)) (hret _ _ dX4_noWard_21)
  · skip
    refine jz_const C dX4_noWard_16 ?_
    refine lv_goto (tgt := 21) hx hb dX4_noWard_17 (by decide) ?_
    exact jz_ret (show ((if ¬ (0 ≤ k ∧ k ≤ (F 7) - 1) then 1 else 0) : Int) = 1 from by first | rfl | omega | (rw [if_pos (by omega)]) | (rw [if_neg (by omega)]) | (simp [*]; done)) (hret _ _ dX4_noWard_21)
abbrev rm_X4_noSpot : Room := { frames := 1, cells := 0, slots := 0, locals := 25 }
set_option maxHeartbeats 4000000 in
set_option maxRecDepth 100000 in
theorem c_X4_noSpot {l : Launch} {D : va_G} {cI cS : ClassId} {ad : Nat → Nat} {F : Nat → Int} {R : Nat → Nat → Int}  (c : Int)  (hf : 0 ≤ (F 1) * (F 2) ∧ (F 1) * (F 2) ≤ 24) (hr : -2147483648 ≤ c ∧ c < 2147483648): JS l yX4_noSpot wsX4_noSpot rm_X4_noSpot (jB D cI cS (wM cI ad F R)) [.ref (ad 0), .int (iI (c))] (.int (iI (if ¬ (0 ≤ c ∧ c ≤ (F 1) * (F 2) - 1) then 1 else 0))) := by
  refine JS.mkZ rfl (by decide +kernel) rfl (Nat.le_of_ble_eq_true rfl) (jz_nz _) ?_
  intro p e st mi ar bl mth cd Q ls C hB hl hret
  obtain ⟨hE, hP⟩ := hB
  have hx := C.1
  have hb := C.2.1
  have hl : lv_has ls 2 [(0, .ref (ad 0)), (1, .int (iI (c)))] := hl
  have hin4 : ∀ w ∈ wsX40, w ∈ wsX4_noSpot := fun _ h => List.mem_cons_of_mem _ (List.mem_append_right _ h)
  refine lv_iload_n hx hb dX4_noSpot_0 rfl (lv_at hl 1 rfl) ?_
  refine jz_i2l C dX4_noSpot_1 (by omega) ?_
  refine jz_lconst (z := 0) C rfl dX4_noSpot_2 ?_
  refine lv_aload_n hx hb dX4_noSpot_3 rfl (lv_at hl 0 rfl) ?_
  refine fg_M_high C hin4 hE hP (v := F 1) (List.mem_of_getElem? (i := 1) rfl) dX4_noSpot_4 rfl ?_
  refine lv_aload_n hx hb dX4_noSpot_7 rfl (lv_at hl 0 rfl) ?_
  refine fg_M_wide C hin4 hE hP (v := F 2) (List.mem_of_getElem? (i := 2) rfl) dX4_noSpot_8 rfl ?_
  refine jz_imul C dX4_noSpot_11 ?_
  refine jz_i2l C dX4_noSpot_12 (by omega) ?_
  refine jz_lconst (z := 1) C rfl dX4_noSpot_13 ?_
  refine jz_lsub C dX4_noSpot_14 ?_
  refine jc_S C hl.1 (jpreS hE hP) (c_X4_in c 0 (((F 1) * (F 2)) - 1) (show -9223372036854775808 ≤ c ∧ c < 9223372036854775808 from (by omega)) (show -9223372036854775808 ≤ 0 ∧ 0 < 9223372036854775808 from (by omega)) (show -9223372036854775808 ≤ (((F 1) * (F 2)) - 1) ∧ (((F 1) * (F 2)) - 1) < 9223372036854775808 from (by omega))) (va_cwS 3 C.2.2.2.2 gX4_noSpot_X4_in rfl rfl rfl (by decide +kernel) ⟨Nat.le_of_ble_eq_true rfl, Nat.le_of_ble_eq_true rfl⟩) (As := [.long (lI (c)), .long (lI (0)), .long (lI (((F 1) * (F 2)) - 1))]) (v := .int (iI (if 0 ≤ c ∧ c ≤ (((F 1) * (F 2)) - 1) then 1 else 0))) (hn := rfl) (hst := rfl) (rest := []) (hW := Nat.le_of_ble_eq_true rfl) (hdg := dX4_noSpot_15) (hf := ⟨Nat.le_of_ble_eq_true rfl, Nat.le_of_ble_eq_true rfl⟩) ?_
  refine jz_bool_ne (tgt := 25) C dX4_noSpot_18 (by decide) (fun h18 => ?_) (fun h18 => ?_)
  · skip
    refine jz_const C dX4_noSpot_25 ?_
    exact jz_ret (show ((if ¬ (0 ≤ c ∧ c ≤ (F 1) * (F 2) - 1) then 1 else 0) : Int) = 0 from by first | rfl | omega | (rw [if_pos (by omega)]) | (rw [if_neg (by omega)]) | (simp [*]; done)) (hret _ _ dX4_noSpot_26)
  · skip
    refine jz_const C dX4_noSpot_21 ?_
    refine lv_goto (tgt := 26) hx hb dX4_noSpot_22 (by decide) ?_
    exact jz_ret (show ((if ¬ (0 ≤ c ∧ c ≤ (F 1) * (F 2) - 1) then 1 else 0) : Int) = 1 from by first | rfl | omega | (rw [if_pos (by omega)]) | (rw [if_neg (by omega)]) | (simp [*]; done)) (hret _ _ dX4_noSpot_26)
abbrev rm_X4_noSheet : Room := { frames := 1, cells := 0, slots := 0, locals := 25 }
set_option maxHeartbeats 4000000 in
set_option maxRecDepth 100000 in
theorem c_X4_noSheet {l : Launch} {D : va_G} {cI cS : ClassId} {w : va_W}  (k : Int)  (hr : -2147483648 ≤ k ∧ k < 2147483648): JS l yX4_noSheet wsX4_noSheet rm_X4_noSheet (jB D cI cS w) [.int (iI (k))] (.int (iI (if ¬ (0 ≤ k ∧ k ≤ 3) then 1 else 0))) := by
  refine JS.mkZ rfl (by decide +kernel) rfl (Nat.le_of_ble_eq_true rfl) (jz_nz _) ?_
  intro p e st mi ar bl mth cd Q ls C hB hl hret
  obtain ⟨hE, hP⟩ := hB
  have hx := C.1
  have hb := C.2.1
  have hl : lv_has ls 1 [(0, .int (iI (k)))] := hl
  refine lv_iload_n hx hb dX4_noSheet_0 rfl (lv_at hl 0 rfl) ?_
  refine jz_i2l C dX4_noSheet_1 (by omega) ?_
  refine jz_lconst (z := 0) C rfl dX4_noSheet_2 ?_
  refine jz_ldc2 (z := 3) C (List.mem_of_getElem? (i := 1) rfl) (by decide +kernel) dX4_noSheet_3 ?_
  refine jc_S C hl.1 (jpreS hE hP) (c_X4_in k 0 3 (show -9223372036854775808 ≤ k ∧ k < 9223372036854775808 from (by omega)) (show -9223372036854775808 ≤ 0 ∧ 0 < 9223372036854775808 from (by omega)) (show -9223372036854775808 ≤ 3 ∧ 3 < 9223372036854775808 from (by omega))) (va_cwS 3 C.2.2.2.2 gX4_noSheet_X4_in rfl rfl rfl (by decide +kernel) ⟨Nat.le_of_ble_eq_true rfl, Nat.le_of_ble_eq_true rfl⟩) (As := [.long (lI (k)), .long (lI (0)), .long (lI (3))]) (v := .int (iI (if 0 ≤ k ∧ k ≤ 3 then 1 else 0))) (hn := rfl) (hst := rfl) (rest := []) (hW := Nat.le_of_ble_eq_true rfl) (hdg := dX4_noSheet_6) (hf := ⟨Nat.le_of_ble_eq_true rfl, Nat.le_of_ble_eq_true rfl⟩) ?_
  refine jz_bool_ne (tgt := 16) C dX4_noSheet_9 (by decide) (fun h9 => ?_) (fun h9 => ?_)
  · skip
    refine jz_const C dX4_noSheet_16 ?_
    exact jz_ret (show ((if ¬ (0 ≤ k ∧ k ≤ 3) then 1 else 0) : Int) = 0 from by first | rfl | omega | (rw [if_pos (by omega)]) | (rw [if_neg (by omega)]) | (simp [*]; done)) (hret _ _ dX4_noSheet_17)
  · skip
    refine jz_const C dX4_noSheet_12 ?_
    refine lv_goto (tgt := 17) hx hb dX4_noSheet_13 (by decide) ?_
    exact jz_ret (show ((if ¬ (0 ≤ k ∧ k ≤ 3) then 1 else 0) : Int) = 1 from by first | rfl | omega | (rw [if_pos (by omega)]) | (rw [if_neg (by omega)]) | (simp [*]; done)) (hret _ _ dX4_noSheet_17)
abbrev rm_X4_isBeyond : Room := { frames := 0, cells := 0, slots := 0, locals := 0 }
set_option maxHeartbeats 4000000 in
set_option maxRecDepth 100000 in
theorem c_X4_isBeyond {l : Launch} {D : va_G} {cI cS : ClassId} {w : va_W}  (i : Int) (n : Int) (all : Int)  (hi : -2147483648 ≤ i ∧ i < 2147483648) (hn : -2147483648 ≤ n ∧ n < 2147483648) (ha : -2147483648 ≤ all ∧ all < 2147483648): JS l yX4_isBeyond wsX4_isBeyond rm_X4_isBeyond (jB D cI cS w) [.int (iI (i)), .long (lI (n)), .int (iI (all))] (.int (iI (if ¬ (0 ≤ i ∧ 0 ≤ n ∧ i + n ≤ all) then 1 else 0))) := by
  refine JS.mkZ rfl (by decide +kernel) rfl (Nat.le_of_ble_eq_true rfl) (jz_nz _) ?_
  intro p e st mi ar bl mth cd Q ls C hB hl hret
  obtain ⟨hE, hP⟩ := hB
  have hx := C.1
  have hb := C.2.1
  have hl : lv_has ls 4 [(0, .int (iI (i))), (1, .long (lI (n))), (3, .int (iI (all)))] := hl
  refine lv_iload_n hx hb dX4_isBeyond_0 rfl (lv_at hl 0 rfl) ?_
  refine jz_if_lt (tgt := 20) C dX4_isBeyond_1 (by decide) (by omega) (fun h1 => ?_) (fun h1 => ?_)
  · skip
    refine jz_const C dX4_isBeyond_20 ?_
    refine lv_goto (tgt := 25) hx hb dX4_isBeyond_21 (by decide) ?_
    exact jz_ret (show ((if ¬ (0 ≤ i ∧ 0 ≤ n ∧ i + n ≤ all) then 1 else 0) : Int) = 1 from by first | rfl | omega | (rw [if_pos (by omega)]) | (rw [if_neg (by omega)]) | (simp [*]; done)) (hret _ _ dX4_isBeyond_25)
  · skip
    refine lv_lload_n hx hb dX4_isBeyond_4 rfl (lv_at hl 1 rfl) ?_
    refine jz_lconst (z := 0) C rfl dX4_isBeyond_5 ?_
    refine jz_lc_lt (tgt := 20) C dX4_isBeyond_6 dX4_isBeyond_7 (by decide) (by omega) (fun h6 => ?_) (fun h6 => ?_)
    · skip
      refine jz_const C dX4_isBeyond_20 ?_
      refine lv_goto (tgt := 25) hx hb dX4_isBeyond_21 (by decide) ?_
      exact jz_ret (show ((if ¬ (0 ≤ i ∧ 0 ≤ n ∧ i + n ≤ all) then 1 else 0) : Int) = 1 from by first | rfl | omega | (rw [if_pos (by omega)]) | (rw [if_neg (by omega)]) | (simp [*]; done)) (hret _ _ dX4_isBeyond_25)
    · skip
      refine lv_iload_n hx hb dX4_isBeyond_10 rfl (lv_at hl 0 rfl) ?_
      refine jz_i2l C dX4_isBeyond_11 (by omega) ?_
      refine lv_lload_n hx hb dX4_isBeyond_12 rfl (lv_at hl 1 rfl) ?_
      refine jz_ladd C dX4_isBeyond_13 ?_
      refine lv_iload_n hx hb dX4_isBeyond_14 rfl (lv_at hl 2 rfl) ?_
      refine jz_i2l C dX4_isBeyond_15 (by omega) ?_
      refine jz_lc_le (tgt := 24) C dX4_isBeyond_16 dX4_isBeyond_17 (by decide) (by omega) (fun h16 => ?_) (fun h16 => ?_)
      · skip
        refine jz_const C dX4_isBeyond_24 ?_
        exact jz_ret (show ((if ¬ (0 ≤ i ∧ 0 ≤ n ∧ i + n ≤ all) then 1 else 0) : Int) = 0 from by first | rfl | omega | (rw [if_pos (by omega)]) | (rw [if_neg (by omega)]) | (simp [*]; done)) (hret _ _ dX4_isBeyond_25)
      · skip
        refine jz_const C dX4_isBeyond_20 ?_
        refine lv_goto (tgt := 25) hx hb dX4_isBeyond_21 (by decide) ?_
        exact jz_ret (show ((if ¬ (0 ≤ i ∧ 0 ≤ n ∧ i + n ≤ all) then 1 else 0) : Int) = 1 from by first | rfl | omega | (rw [if_pos (by omega)]) | (rw [if_neg (by omega)]) | (simp [*]; done)) (hret _ _ dX4_isBeyond_25)
abbrev rm_X4_noCell : Room := { frames := 1, cells := 0, slots := 0, locals := 25 }
set_option maxHeartbeats 4000000 in
set_option maxRecDepth 100000 in
theorem c_X4_noCell {l : Launch} {D : va_G} {cI cS : ClassId} {ad : Nat → Nat} {F : Nat → Int} {R : Nat → Nat → Int}  (k : Int) (i : Int)  (hk : 0 ≤ k ∧ k ≤ 3) (hi : -2147483648 ≤ i ∧ i < 2147483648) (hz : -1 ≤ R 27 (Int.toNat k) ∧ R 27 (Int.toNat k) ≤ 60): JS l yX4_noCell wsX4_noCell rm_X4_noCell (jB D cI cS (wM cI ad F R)) [.ref (ad 0), .int (iI (k)), .int (iI (i))] (.int (iI (nc (R 27 (Int.toNat k)) i))) := by
  refine JS.mkI rfl (by decide +kernel) rfl (Nat.le_of_ble_eq_true rfl) ?_
  intro p e st mi ar bl mth cd Q ls C hB hl hret
  obtain ⟨hE, hP⟩ := hB
  have hx := C.1
  have hb := C.2.1
  have hl : lv_has ls 3 [(0, .ref (ad 0)), (1, .int (iI (k))), (2, .int (iI (i)))] := hl
  have hin4 : ∀ w ∈ wsX40, w ∈ wsX4_noCell := fun _ h => List.mem_cons_of_mem _ (List.mem_append_right _ h)
  refine lv_aload_n hx hb dX4_noCell_0 rfl (lv_at hl 0 rfl) ?_
  refine fg_M_sheetSize C hin4 hE hP (List.mem_of_getElem? (i := 1) rfl) dX4_noCell_1 ?_
  refine lv_iload_n hx hb dX4_noCell_4 rfl (lv_at hl 1 rfl) ?_
  refine fl_M_sheetSize C hE hP (v := R 27 (Int.toNat k)) dX4_noCell_5 (by omega) rfl ?_
  refine jz_if_ge (tgt := 13) C dX4_noCell_6 (by decide) (by omega) (fun h6 => ?_) (fun h6 => ?_)
  · skip
    refine lv_iload_n hx hb dX4_noCell_13 rfl (lv_at hl 2 rfl) ?_
    refine jz_i2l C dX4_noCell_14 (by omega) ?_
    refine jz_lconst (z := 0) C rfl dX4_noCell_15 ?_
    refine lv_aload_n hx hb dX4_noCell_16 rfl (lv_at hl 0 rfl) ?_
    refine fg_M_sheetSize C hin4 hE hP (List.mem_of_getElem? (i := 1) rfl) dX4_noCell_17 ?_
    refine lv_iload_n hx hb dX4_noCell_20 rfl (lv_at hl 1 rfl) ?_
    refine fl_M_sheetSize C hE hP (v := R 27 (Int.toNat k)) dX4_noCell_21 (by omega) rfl ?_
    refine jz_i2l C dX4_noCell_22 (by omega) ?_
    refine jz_lconst (z := 1) C rfl dX4_noCell_23 ?_
    refine jz_lsub C dX4_noCell_24 ?_
    refine jc_S C hl.1 (jpreS hE hP) (c_X4_in i 0 ((R 27 (Int.toNat k)) - 1) (show -9223372036854775808 ≤ i ∧ i < 9223372036854775808 from (by omega)) (show -9223372036854775808 ≤ 0 ∧ 0 < 9223372036854775808 from (by omega)) (show -9223372036854775808 ≤ ((R 27 (Int.toNat k)) - 1) ∧ ((R 27 (Int.toNat k)) - 1) < 9223372036854775808 from (by omega))) (va_cwS 3 C.2.2.2.2 gX4_noCell_X4_in rfl rfl rfl (by decide +kernel) ⟨Nat.le_of_ble_eq_true rfl, Nat.le_of_ble_eq_true rfl⟩) (As := [.long (lI (i)), .long (lI (0)), .long (lI ((R 27 (Int.toNat k)) - 1))]) (v := .int (iI (if 0 ≤ i ∧ i ≤ ((R 27 (Int.toNat k)) - 1) then 1 else 0))) (hn := rfl) (hst := rfl) (rest := []) (hW := Nat.le_of_ble_eq_true rfl) (hdg := dX4_noCell_25) (hf := ⟨Nat.le_of_ble_eq_true rfl, Nat.le_of_ble_eq_true rfl⟩) ?_
    refine jz_bool_eq (tgt := 35) C dX4_noCell_28 (by decide) (fun h28 => ?_) (fun h28 => ?_)
    · skip
      refine jz_const C dX4_noCell_35 ?_
      exact jz_ret (show (nc (R 27 (Int.toNat k)) i : Int) = 3 from by unfold nc; first | rw [if_pos h6] | rw [if_neg (Int.not_lt.mpr h6), if_pos h28] | rw [if_neg (Int.not_lt.mpr h6), if_neg h28]) (hret _ _ dX4_noCell_36)
    · skip
      refine jz_const C dX4_noCell_31 ?_
      refine lv_goto (tgt := 36) hx hb dX4_noCell_32 (by decide) ?_
      exact jz_ret (show (nc (R 27 (Int.toNat k)) i : Int) = 0 from by unfold nc; first | rw [if_pos h6] | rw [if_neg (Int.not_lt.mpr h6), if_pos h28] | rw [if_neg (Int.not_lt.mpr h6), if_neg h28]) (hret _ _ dX4_noCell_36)
  · skip
    refine jz_const C dX4_noCell_9 ?_
    refine lv_goto (tgt := 36) hx hb dX4_noCell_10 (by decide) ?_
    exact jz_ret (show (nc (R 27 (Int.toNat k)) i : Int) = 1 from by unfold nc; first | rw [if_pos h6] | rw [if_neg (Int.not_lt.mpr h6), if_pos h28] | rw [if_neg (Int.not_lt.mpr h6), if_neg h28]) (hret _ _ dX4_noCell_36)
abbrev rm_X4_mindsOfOne : Room := { frames := 0, cells := 0, slots := 0, locals := 0 }
set_option maxHeartbeats 4000000 in
set_option maxRecDepth 100000 in
theorem c_X4_mindsOfOne {l : Launch} {D : va_G} {cI cS : ClassId} {ad : Nat → Nat} {F : Nat → Int} {R : Nat → Nat → Int}  (k : Int)  (hM : MI F R) (hk : 0 ≤ k ∧ k < 6): JS l yX4_mindsOfOne wsX4_mindsOfOne rm_X4_mindsOfOne (jB D cI cS (wM cI ad F R)) [.ref (ad 0), .int (iI (k))] (.int (iI (fz (R 9 (Int.toNat k)) (R 10 (Int.toNat k))))) := by
  refine JS.mkI rfl (by decide +kernel) rfl (Nat.le_of_ble_eq_true rfl) ?_
  intro p e st mi ar bl mth cd Q ls C hB hl hret
  obtain ⟨hE, hP⟩ := hB
  have hx := C.1
  have hb := C.2.1
  have hl : lv_has ls 3 [(0, .ref (ad 0)), (1, .int (iI (k)))] := hl
  have hin4 : ∀ w ∈ wsX40, w ∈ wsX4_mindsOfOne := fun _ h => List.mem_cons_of_mem _ (List.mem_append_right _ h)
  have h6 := hM.kind (Int.toNat k) (by omega)
  have h7 := hM.nose (Int.toNat k) (by omega)
  refine lv_aload_n hx hb dX4_mindsOfOne_0 rfl (lv_at hl 0 rfl) ?_
  refine fg_M_noseOf C hin4 hE hP (List.mem_of_getElem? (i := 1) rfl) dX4_mindsOfOne_1 ?_
  refine lv_iload_n hx hb dX4_mindsOfOne_4 rfl (lv_at hl 1 rfl) ?_
  refine fl_M_noseOf C hE hP (v := R 10 (Int.toNat k)) dX4_mindsOfOne_5 (by omega) rfl ?_
  refine lv_istore_n (lv' := [(2, .int (iI (R 10 (Int.toNat k)))), (0, .ref (ad 0)), (1, .int (iI (k)))]) hx hb dX4_mindsOfOne_6 rfl hl (by decide) rfl (fun ls hl => ?_)
  refine lv_aload_n hx hb dX4_mindsOfOne_7 rfl (lv_at hl 1 rfl) ?_
  refine fg_M_kindOf C hin4 hE hP (List.mem_of_getElem? (i := 2) rfl) dX4_mindsOfOne_8 ?_
  refine lv_iload_n hx hb dX4_mindsOfOne_11 rfl (lv_at hl 2 rfl) ?_
  refine fl_M_kindOf C hE hP (v := R 9 (Int.toNat k)) dX4_mindsOfOne_12 (by omega) rfl ?_
  refine jz_if_ne (tgt := 20) C dX4_mindsOfOne_13 (by decide) (by omega) (fun h13 => ?_) (fun h13 => ?_)
  · skip
    refine lv_aload_n hx hb dX4_mindsOfOne_20 rfl (lv_at hl 1 rfl) ?_
    refine fg_M_kindOf C hin4 hE hP (List.mem_of_getElem? (i := 2) rfl) dX4_mindsOfOne_21 ?_
    refine lv_iload_n hx hb dX4_mindsOfOne_24 rfl (lv_at hl 2 rfl) ?_
    refine fl_M_kindOf C hE hP (v := R 9 (Int.toNat k)) dX4_mindsOfOne_25 (by omega) rfl ?_
    refine jz_const C dX4_mindsOfOne_26 ?_
    refine jz_icmp_ne (tgt := 36) C dX4_mindsOfOne_27 (by decide) (by omega) (fun h27 => ?_) (fun h27 => ?_)
    · skip
      refine jz_const C dX4_mindsOfOne_36 ?_
      refine lv_iload_n hx hb dX4_mindsOfOne_37 rfl (lv_at hl 0 rfl) ?_
      refine jz_const C dX4_mindsOfOne_38 ?_
      refine jz_iadd C dX4_mindsOfOne_39 ?_
      refine jz_imul C dX4_mindsOfOne_40 ?_
      exact jz_ret (show (fz (R 9 (Int.toNat k)) (R 10 (Int.toNat k)) : Int) = 2 * ((R 10 (Int.toNat k)) + 1) from by unfold fz; first | rw [if_neg (by omega), if_neg (by omega)] | rw [if_neg (by omega), if_pos (by omega)] | rw [if_pos (by omega)]) (hret _ _ dX4_mindsOfOne_41)
    · skip
      refine lv_iload_n hx hb dX4_mindsOfOne_30 rfl (lv_at hl 0 rfl) ?_
      refine jz_const C dX4_mindsOfOne_31 ?_
      refine jz_iadd C dX4_mindsOfOne_32 ?_
      refine lv_goto (tgt := 41) hx hb dX4_mindsOfOne_33 (by decide) ?_
      exact jz_ret (show (fz (R 9 (Int.toNat k)) (R 10 (Int.toNat k)) : Int) = (R 10 (Int.toNat k)) + 1 from by unfold fz; first | rw [if_neg (by omega), if_neg (by omega)] | rw [if_neg (by omega), if_pos (by omega)] | rw [if_pos (by omega)]) (hret _ _ dX4_mindsOfOne_41)
  · skip
    refine lv_iload_n hx hb dX4_mindsOfOne_16 rfl (lv_at hl 0 rfl) ?_
    refine lv_goto (tgt := 41) hx hb dX4_mindsOfOne_17 (by decide) ?_
    exact jz_ret (show (fz (R 9 (Int.toNat k)) (R 10 (Int.toNat k)) : Int) = R 10 (Int.toNat k) from by unfold fz; first | rw [if_neg (by omega), if_neg (by omega)] | rw [if_neg (by omega), if_pos (by omega)] | rw [if_pos (by omega)]) (hret _ _ dX4_mindsOfOne_41)
def k_X4_comesTo (F : Nat → Int) (R : Nat → Nat → Int) (w : Int) (c : Int) : Int := if ((R 6 (Int.toNat w)) % 2) = 0 then (if ((c % (F 2)) - ((R 4 (Int.toNat w)) % (F 2))) = 0 then (if (R 6 (Int.toNat w)) = 0 then (if (-((c / (F 2)) - ((R 4 (Int.toNat w)) / (F 2)))) < 0 then (0) else (if (-((c / (F 2)) - ((R 4 (Int.toNat w)) / (F 2)))) < (R 5 (Int.toNat w)) then ((R 5 (Int.toNat w)) - (-((c / (F 2)) - ((R 4 (Int.toNat w)) / (F 2))))) else (0))) else (if (R 6 (Int.toNat w)) = 1 then (if ((c % (F 2)) - ((R 4 (Int.toNat w)) % (F 2))) < 0 then (0) else (if ((c % (F 2)) - ((R 4 (Int.toNat w)) % (F 2))) < (R 5 (Int.toNat w)) then ((R 5 (Int.toNat w)) - ((c % (F 2)) - ((R 4 (Int.toNat w)) % (F 2)))) else (0))) else (if (R 6 (Int.toNat w)) = 2 then (if ((c / (F 2)) - ((R 4 (Int.toNat w)) / (F 2))) < 0 then (0) else (if ((c / (F 2)) - ((R 4 (Int.toNat w)) / (F 2))) < (R 5 (Int.toNat w)) then ((R 5 (Int.toNat w)) - ((c / (F 2)) - ((R 4 (Int.toNat w)) / (F 2)))) else (0))) else (if (-((c % (F 2)) - ((R 4 (Int.toNat w)) % (F 2)))) < 0 then (0) else (if (-((c % (F 2)) - ((R 4 (Int.toNat w)) % (F 2)))) < (R 5 (Int.toNat w)) then ((R 5 (Int.toNat w)) - (-((c % (F 2)) - ((R 4 (Int.toNat w)) % (F 2))))) else (0)))))) else (if (R 6 (Int.toNat w)) = 0 then (0) else (if (R 6 (Int.toNat w)) = 1 then (0) else (if (R 6 (Int.toNat w)) = 2 then (0) else (0))))) else (if ((c / (F 2)) - ((R 4 (Int.toNat w)) / (F 2))) = 0 then (if (R 6 (Int.toNat w)) = 0 then (if (-((c / (F 2)) - ((R 4 (Int.toNat w)) / (F 2)))) < 0 then (0) else (if (-((c / (F 2)) - ((R 4 (Int.toNat w)) / (F 2)))) < (R 5 (Int.toNat w)) then ((R 5 (Int.toNat w)) - (-((c / (F 2)) - ((R 4 (Int.toNat w)) / (F 2))))) else (0))) else (if (R 6 (Int.toNat w)) = 1 then (if ((c % (F 2)) - ((R 4 (Int.toNat w)) % (F 2))) < 0 then (0) else (if ((c % (F 2)) - ((R 4 (Int.toNat w)) % (F 2))) < (R 5 (Int.toNat w)) then ((R 5 (Int.toNat w)) - ((c % (F 2)) - ((R 4 (Int.toNat w)) % (F 2)))) else (0))) else (if (R 6 (Int.toNat w)) = 2 then (if ((c / (F 2)) - ((R 4 (Int.toNat w)) / (F 2))) < 0 then (0) else (if ((c / (F 2)) - ((R 4 (Int.toNat w)) / (F 2))) < (R 5 (Int.toNat w)) then ((R 5 (Int.toNat w)) - ((c / (F 2)) - ((R 4 (Int.toNat w)) / (F 2)))) else (0))) else (if (-((c % (F 2)) - ((R 4 (Int.toNat w)) % (F 2)))) < 0 then (0) else (if (-((c % (F 2)) - ((R 4 (Int.toNat w)) % (F 2)))) < (R 5 (Int.toNat w)) then ((R 5 (Int.toNat w)) - (-((c % (F 2)) - ((R 4 (Int.toNat w)) % (F 2))))) else (0)))))) else (if (R 6 (Int.toNat w)) = 0 then (0) else (if (R 6 (Int.toNat w)) = 1 then (0) else (if (R 6 (Int.toNat w)) = 2 then (0) else (0)))))
abbrev rm_X4_comesTo : Room := { frames := 0, cells := 0, slots := 0, locals := 0 }
set_option maxHeartbeats 4000000 in
set_option maxRecDepth 100000 in
theorem c_X4_comesTo {l : Launch} {D : va_G} {cI cS : ClassId} {ad : Nat → Nat} {F : Nat → Int} {R : Nat → Nat → Int}  (w : Int) (c : Int)  (hM : MI F R) (hw : 0 ≤ w ∧ w < 4) (hc : 0 ≤ c ∧ c < 24) (h2 : 2 ≤ F 2): JS l yX4_comesTo wsX4_comesTo rm_X4_comesTo (jB D cI cS (wM cI ad F R)) [.ref (ad 0), .int (iI (w)), .int (iI (c))] (.int (iI (k_X4_comesTo F R w c))) := by
  refine JS.mkI rfl (by decide +kernel) rfl (Nat.le_of_ble_eq_true rfl) ?_
  intro p e st mi ar bl mth cd Q ls C hB hl hret
  obtain ⟨hE, hP⟩ := hB
  have hx := C.1
  have hb := C.2.1
  have hl : lv_has ls 7 [(0, .ref (ad 0)), (1, .int (iI (w))), (2, .int (iI (c)))] := hl
  have hin4 : ∀ w ∈ wsX40, w ∈ wsX4_comesTo := fun _ h => List.mem_cons_of_mem _ (List.mem_append_right _ h)
  have hwd := hM.wide
  have hwi := hM.win (Int.toNat w) (by omega)
  have hva := hM.vane (Int.toNat w) (by omega)
  have hst := hM.str (Int.toNat w) (by omega)
  have hd1 := Int.ediv_nonneg (a := c) (b := F 2) hc.1 (by omega)
  have hd2 := Int.ediv_le_self (a := c) (F 2) hc.1
  have hd3 := Int.ediv_nonneg (a := R 4 (Int.toNat w)) (b := F 2) hwi.1 (by omega)
  have hd4 := Int.ediv_le_self (a := R 4 (Int.toNat w)) (F 2) hwi.1
  have hm1 := Int.emod_nonneg c (b := F 2) (by omega)
  have hm2 := Int.emod_lt_of_pos c (b := F 2) (by omega)
  have hm3 := Int.emod_nonneg (R 4 (Int.toNat w)) (b := F 2) (by omega)
  have hm4 := Int.emod_lt_of_pos (R 4 (Int.toNat w)) (b := F 2) (by omega)
  refine lv_iload_n hx hb dX4_comesTo_0 rfl (lv_at hl 2 rfl) ?_
  refine lv_aload_n hx hb dX4_comesTo_1 rfl (lv_at hl 0 rfl) ?_
  refine fg_M_wide C hin4 hE hP (v := F 2) (List.mem_of_getElem? (i := 1) rfl) dX4_comesTo_2 rfl ?_
  refine jz_idiv C dX4_comesTo_5 (by omega) ?_
  refine lv_aload_n hx hb dX4_comesTo_6 rfl (lv_at hl 0 rfl) ?_
  refine fg_M_workIn C hin4 hE hP (List.mem_of_getElem? (i := 2) rfl) dX4_comesTo_7 ?_
  refine lv_iload_n hx hb dX4_comesTo_10 rfl (lv_at hl 1 rfl) ?_
  refine fl_M_workIn C hE hP (v := R 4 (Int.toNat w)) dX4_comesTo_11 (by omega) rfl ?_
  refine lv_aload_n hx hb dX4_comesTo_12 rfl (lv_at hl 0 rfl) ?_
  refine fg_M_wide C hin4 hE hP (v := F 2) (List.mem_of_getElem? (i := 1) rfl) dX4_comesTo_13 rfl ?_
  refine jz_idiv C dX4_comesTo_16 (by omega) ?_
  refine jz_isub C dX4_comesTo_17 ?_
  refine lv_istore_n (lv' := [(3, .int (iI ((c / (F 2)) - ((R 4 (Int.toNat w)) / (F 2))))), (0, .ref (ad 0)), (1, .int (iI (w))), (2, .int (iI (c)))]) hx hb dX4_comesTo_18 rfl hl (by decide) rfl (fun ls hl => ?_)
  refine lv_iload_n hx hb dX4_comesTo_19 rfl (lv_at hl 3 rfl) ?_
  refine lv_aload_n hx hb dX4_comesTo_20 rfl (lv_at hl 1 rfl) ?_
  refine fg_M_wide C hin4 hE hP (v := F 2) (List.mem_of_getElem? (i := 1) rfl) dX4_comesTo_21 rfl ?_
  refine jz_irem C dX4_comesTo_24 (by omega) ?_
  refine lv_aload_n hx hb dX4_comesTo_25 rfl (lv_at hl 1 rfl) ?_
  refine fg_M_workIn C hin4 hE hP (List.mem_of_getElem? (i := 2) rfl) dX4_comesTo_26 ?_
  refine lv_iload_n hx hb dX4_comesTo_29 rfl (lv_at hl 2 rfl) ?_
  refine fl_M_workIn C hE hP (v := R 4 (Int.toNat w)) dX4_comesTo_30 (by omega) rfl ?_
  refine lv_aload_n hx hb dX4_comesTo_31 rfl (lv_at hl 1 rfl) ?_
  refine fg_M_wide C hin4 hE hP (v := F 2) (List.mem_of_getElem? (i := 1) rfl) dX4_comesTo_32 rfl ?_
  refine jz_irem C dX4_comesTo_35 (by omega) ?_
  refine jz_isub C dX4_comesTo_36 ?_
  refine lv_istore (lv' := [(4, .int (iI ((c % (F 2)) - ((R 4 (Int.toNat w)) % (F 2))))), (3, .int (iI ((c / (F 2)) - ((R 4 (Int.toNat w)) / (F 2))))), (0, .ref (ad 0)), (1, .int (iI (w))), (2, .int (iI (c)))]) hx hb dX4_comesTo_37 hl (by decide) rfl (fun ls hl => ?_)
  refine lv_aload_n hx hb dX4_comesTo_39 rfl (lv_at hl 2 rfl) ?_
  refine fg_M_vaneOf C hin4 hE hP (List.mem_of_getElem? (i := 3) rfl) dX4_comesTo_40 ?_
  refine lv_iload_n hx hb dX4_comesTo_43 rfl (lv_at hl 3 rfl) ?_
  refine fl_M_vaneOf C hE hP (v := R 6 (Int.toNat w)) dX4_comesTo_44 (by omega) rfl ?_
  refine jz_const C dX4_comesTo_45 ?_
  refine jz_irem C dX4_comesTo_46 (by omega) ?_
  refine jz_if_ne (tgt := 63) C dX4_comesTo_47 (by decide) (by omega) (fun h47 => ?_) (fun h47 => ?_)
  · skip
    refine lv_iload_n hx hb dX4_comesTo_63 rfl (lv_at hl 1 rfl) ?_
    refine jz_if_ne (tgt := 71) C dX4_comesTo_64 (by decide) (by omega) (fun h64 => ?_) (fun h64 => ?_)
    · skip
      refine jz_const C dX4_comesTo_71 ?_
      refine lv_istore (lv' := [(5, .int (iI (0))), (4, .int (iI ((c % (F 2)) - ((R 4 (Int.toNat w)) % (F 2))))), (3, .int (iI ((c / (F 2)) - ((R 4 (Int.toNat w)) / (F 2))))), (0, .ref (ad 0)), (1, .int (iI (w))), (2, .int (iI (c)))]) hx hb dX4_comesTo_72 hl (by decide) rfl (fun ls hl => ?_)
      refine lv_aload_n hx hb dX4_comesTo_74 rfl (lv_at hl 3 rfl) ?_
      refine fg_M_vaneOf C hin4 hE hP (List.mem_of_getElem? (i := 3) rfl) dX4_comesTo_75 ?_
      refine lv_iload_n hx hb dX4_comesTo_78 rfl (lv_at hl 4 rfl) ?_
      refine fl_M_vaneOf C hE hP (v := R 6 (Int.toNat w)) dX4_comesTo_79 (by omega) rfl ?_
      refine jz_if_ne (tgt := 88) C dX4_comesTo_80 (by decide) (by omega) (fun h80 => ?_) (fun h80 => ?_)
      · skip
        refine lv_aload_n hx hb dX4_comesTo_88 rfl (lv_at hl 3 rfl) ?_
        refine fg_M_vaneOf C hin4 hE hP (List.mem_of_getElem? (i := 3) rfl) dX4_comesTo_89 ?_
        refine lv_iload_n hx hb dX4_comesTo_92 rfl (lv_at hl 4 rfl) ?_
        refine fl_M_vaneOf C hE hP (v := R 6 (Int.toNat w)) dX4_comesTo_93 (by omega) rfl ?_
        refine jz_const C dX4_comesTo_94 ?_
        refine jz_icmp_ne (tgt := 103) C dX4_comesTo_95 (by decide) (by omega) (fun h95 => ?_) (fun h95 => ?_)
        · skip
          refine lv_aload_n hx hb dX4_comesTo_103 rfl (lv_at hl 3 rfl) ?_
          refine fg_M_vaneOf C hin4 hE hP (List.mem_of_getElem? (i := 3) rfl) dX4_comesTo_104 ?_
          refine lv_iload_n hx hb dX4_comesTo_107 rfl (lv_at hl 4 rfl) ?_
          refine fl_M_vaneOf C hE hP (v := R 6 (Int.toNat w)) dX4_comesTo_108 (by omega) rfl ?_
          refine jz_const C dX4_comesTo_109 ?_
          refine jz_icmp_ne (tgt := 117) C dX4_comesTo_110 (by decide) (by omega) (fun h110 => ?_) (fun h110 => ?_)
          · skip
            refine lv_iload hx hb dX4_comesTo_117 (lv_at hl 1 rfl) ?_
            refine jz_ineg C dX4_comesTo_119 ?_
            refine lv_istore (lv' := [(6, .int (iI (-((c % (F 2)) - ((R 4 (Int.toNat w)) % (F 2)))))), (5, .int (iI (0))), (4, .int (iI ((c % (F 2)) - ((R 4 (Int.toNat w)) % (F 2))))), (3, .int (iI ((c / (F 2)) - ((R 4 (Int.toNat w)) / (F 2))))), (0, .ref (ad 0)), (1, .int (iI (w))), (2, .int (iI (c)))]) hx hb dX4_comesTo_120 hl (by decide) rfl (fun ls hl => ?_)
            refine lv_iload hx hb dX4_comesTo_122 (lv_at hl 1 rfl) ?_
            refine jz_if_eq (tgt := 155) C dX4_comesTo_124 (by decide) (by omega) (fun h124 => ?_) (fun h124 => ?_)
            · skip
              refine jz_const C dX4_comesTo_155 ?_
              exact jz_ret (show (k_X4_comesTo F R w c : Int) = 0 from by rw [k_X4_comesTo, (if_neg (h47)), (if_neg (h64)), (if_neg (h80)), (if_neg (h95)), (if_neg (h110))]) (hret _ _ dX4_comesTo_156)
            · exact absurd h124 (by decide)
          · skip
            refine lv_iload_n hx hb dX4_comesTo_113 rfl (lv_at hl 2 rfl) ?_
            refine lv_goto (tgt := 120) hx hb dX4_comesTo_114 (by decide) ?_
            refine lv_istore (lv' := [(6, .int (iI ((c / (F 2)) - ((R 4 (Int.toNat w)) / (F 2))))), (5, .int (iI (0))), (4, .int (iI ((c % (F 2)) - ((R 4 (Int.toNat w)) % (F 2))))), (3, .int (iI ((c / (F 2)) - ((R 4 (Int.toNat w)) / (F 2))))), (0, .ref (ad 0)), (1, .int (iI (w))), (2, .int (iI (c)))]) hx hb dX4_comesTo_120 hl (by decide) rfl (fun ls hl => ?_)
            refine lv_iload hx hb dX4_comesTo_122 (lv_at hl 1 rfl) ?_
            refine jz_if_eq (tgt := 155) C dX4_comesTo_124 (by decide) (by omega) (fun h124 => ?_) (fun h124 => ?_)
            · skip
              refine jz_const C dX4_comesTo_155 ?_
              exact jz_ret (show (k_X4_comesTo F R w c : Int) = 0 from by rw [k_X4_comesTo, (if_neg (h47)), (if_neg (h64)), (if_neg (h80)), (if_neg (h95)), (if_pos h110)]) (hret _ _ dX4_comesTo_156)
            · exact absurd h124 (by decide)
        · skip
          refine lv_iload hx hb dX4_comesTo_98 (lv_at hl 1 rfl) ?_
          refine lv_goto (tgt := 120) hx hb dX4_comesTo_100 (by decide) ?_
          refine lv_istore (lv' := [(6, .int (iI ((c % (F 2)) - ((R 4 (Int.toNat w)) % (F 2))))), (5, .int (iI (0))), (4, .int (iI ((c % (F 2)) - ((R 4 (Int.toNat w)) % (F 2))))), (3, .int (iI ((c / (F 2)) - ((R 4 (Int.toNat w)) / (F 2))))), (0, .ref (ad 0)), (1, .int (iI (w))), (2, .int (iI (c)))]) hx hb dX4_comesTo_120 hl (by decide) rfl (fun ls hl => ?_)
          refine lv_iload hx hb dX4_comesTo_122 (lv_at hl 1 rfl) ?_
          refine jz_if_eq (tgt := 155) C dX4_comesTo_124 (by decide) (by omega) (fun h124 => ?_) (fun h124 => ?_)
          · skip
            refine jz_const C dX4_comesTo_155 ?_
            exact jz_ret (show (k_X4_comesTo F R w c : Int) = 0 from by rw [k_X4_comesTo, (if_neg (h47)), (if_neg (h64)), (if_neg (h80)), (if_pos h95)]) (hret _ _ dX4_comesTo_156)
          · exact absurd h124 (by decide)
      · skip
        refine lv_iload_n hx hb dX4_comesTo_83 rfl (lv_at hl 2 rfl) ?_
        refine jz_ineg C dX4_comesTo_84 ?_
        refine lv_goto (tgt := 120) hx hb dX4_comesTo_85 (by decide) ?_
        refine lv_istore (lv' := [(6, .int (iI (-((c / (F 2)) - ((R 4 (Int.toNat w)) / (F 2)))))), (5, .int (iI (0))), (4, .int (iI ((c % (F 2)) - ((R 4 (Int.toNat w)) % (F 2))))), (3, .int (iI ((c / (F 2)) - ((R 4 (Int.toNat w)) / (F 2))))), (0, .ref (ad 0)), (1, .int (iI (w))), (2, .int (iI (c)))]) hx hb dX4_comesTo_120 hl (by decide) rfl (fun ls hl => ?_)
        refine lv_iload hx hb dX4_comesTo_122 (lv_at hl 1 rfl) ?_
        refine jz_if_eq (tgt := 155) C dX4_comesTo_124 (by decide) (by omega) (fun h124 => ?_) (fun h124 => ?_)
        · skip
          refine jz_const C dX4_comesTo_155 ?_
          exact jz_ret (show (k_X4_comesTo F R w c : Int) = 0 from by rw [k_X4_comesTo, (if_neg (h47)), (if_neg (h64)), (if_pos h80)]) (hret _ _ dX4_comesTo_156)
        · exact absurd h124 (by decide)
    · skip
      refine jz_const C dX4_comesTo_67 ?_
      refine lv_goto (tgt := 72) hx hb dX4_comesTo_68 (by decide) ?_
      refine lv_istore (lv' := [(5, .int (iI (1))), (4, .int (iI ((c % (F 2)) - ((R 4 (Int.toNat w)) % (F 2))))), (3, .int (iI ((c / (F 2)) - ((R 4 (Int.toNat w)) / (F 2))))), (0, .ref (ad 0)), (1, .int (iI (w))), (2, .int (iI (c)))]) hx hb dX4_comesTo_72 hl (by decide) rfl (fun ls hl => ?_)
      refine lv_aload_n hx hb dX4_comesTo_74 rfl (lv_at hl 3 rfl) ?_
      refine fg_M_vaneOf C hin4 hE hP (List.mem_of_getElem? (i := 3) rfl) dX4_comesTo_75 ?_
      refine lv_iload_n hx hb dX4_comesTo_78 rfl (lv_at hl 4 rfl) ?_
      refine fl_M_vaneOf C hE hP (v := R 6 (Int.toNat w)) dX4_comesTo_79 (by omega) rfl ?_
      refine jz_if_ne (tgt := 88) C dX4_comesTo_80 (by decide) (by omega) (fun h80 => ?_) (fun h80 => ?_)
      · skip
        refine lv_aload_n hx hb dX4_comesTo_88 rfl (lv_at hl 3 rfl) ?_
        refine fg_M_vaneOf C hin4 hE hP (List.mem_of_getElem? (i := 3) rfl) dX4_comesTo_89 ?_
        refine lv_iload_n hx hb dX4_comesTo_92 rfl (lv_at hl 4 rfl) ?_
        refine fl_M_vaneOf C hE hP (v := R 6 (Int.toNat w)) dX4_comesTo_93 (by omega) rfl ?_
        refine jz_const C dX4_comesTo_94 ?_
        refine jz_icmp_ne (tgt := 103) C dX4_comesTo_95 (by decide) (by omega) (fun h95 => ?_) (fun h95 => ?_)
        · skip
          refine lv_aload_n hx hb dX4_comesTo_103 rfl (lv_at hl 3 rfl) ?_
          refine fg_M_vaneOf C hin4 hE hP (List.mem_of_getElem? (i := 3) rfl) dX4_comesTo_104 ?_
          refine lv_iload_n hx hb dX4_comesTo_107 rfl (lv_at hl 4 rfl) ?_
          refine fl_M_vaneOf C hE hP (v := R 6 (Int.toNat w)) dX4_comesTo_108 (by omega) rfl ?_
          refine jz_const C dX4_comesTo_109 ?_
          refine jz_icmp_ne (tgt := 117) C dX4_comesTo_110 (by decide) (by omega) (fun h110 => ?_) (fun h110 => ?_)
          · skip
            refine lv_iload hx hb dX4_comesTo_117 (lv_at hl 1 rfl) ?_
            refine jz_ineg C dX4_comesTo_119 ?_
            refine lv_istore (lv' := [(6, .int (iI (-((c % (F 2)) - ((R 4 (Int.toNat w)) % (F 2)))))), (5, .int (iI (1))), (4, .int (iI ((c % (F 2)) - ((R 4 (Int.toNat w)) % (F 2))))), (3, .int (iI ((c / (F 2)) - ((R 4 (Int.toNat w)) / (F 2))))), (0, .ref (ad 0)), (1, .int (iI (w))), (2, .int (iI (c)))]) hx hb dX4_comesTo_120 hl (by decide) rfl (fun ls hl => ?_)
            refine lv_iload hx hb dX4_comesTo_122 (lv_at hl 1 rfl) ?_
            refine jz_if_eq (tgt := 155) C dX4_comesTo_124 (by decide) (by omega) (fun h124 => ?_) (fun h124 => ?_)
            · exact absurd h124 (by decide)
            · skip
              refine lv_iload hx hb dX4_comesTo_127 (lv_at hl 0 rfl) ?_
              refine jz_if_lt (tgt := 155) C dX4_comesTo_129 (by decide) (by omega) (fun h129 => ?_) (fun h129 => ?_)
              · skip
                refine jz_const C dX4_comesTo_155 ?_
                exact jz_ret (show (k_X4_comesTo F R w c : Int) = 0 from by rw [k_X4_comesTo, (if_neg (h47)), (if_pos h64), (if_neg (h80)), (if_neg (h95)), (if_neg (h110)), (if_pos h129)]) (hret _ _ dX4_comesTo_156)
              · skip
                refine lv_iload hx hb dX4_comesTo_132 (lv_at hl 0 rfl) ?_
                refine lv_aload_n hx hb dX4_comesTo_134 rfl (lv_at hl 4 rfl) ?_
                refine fg_M_strongOf C hin4 hE hP (List.mem_of_getElem? (i := 4) rfl) dX4_comesTo_135 ?_
                refine lv_iload_n hx hb dX4_comesTo_138 rfl (lv_at hl 5 rfl) ?_
                refine fl_M_strongOf C hE hP (v := R 5 (Int.toNat w)) dX4_comesTo_139 (by omega) rfl ?_
                refine jz_icmp_ge (tgt := 155) C dX4_comesTo_140 (by decide) (by omega) (fun h140 => ?_) (fun h140 => ?_)
                · skip
                  refine jz_const C dX4_comesTo_155 ?_
                  exact jz_ret (show (k_X4_comesTo F R w c : Int) = 0 from by rw [k_X4_comesTo, (if_neg (h47)), (if_pos h64), (if_neg (h80)), (if_neg (h95)), (if_neg (h110)), (if_neg (Int.not_lt.mpr h129)), (if_neg (Int.not_lt.mpr h140))]) (hret _ _ dX4_comesTo_156)
                · skip
                  refine lv_aload_n hx hb dX4_comesTo_143 rfl (lv_at hl 4 rfl) ?_
                  refine fg_M_strongOf C hin4 hE hP (List.mem_of_getElem? (i := 4) rfl) dX4_comesTo_144 ?_
                  refine lv_iload_n hx hb dX4_comesTo_147 rfl (lv_at hl 5 rfl) ?_
                  refine fl_M_strongOf C hE hP (v := R 5 (Int.toNat w)) dX4_comesTo_148 (by omega) rfl ?_
                  refine lv_iload hx hb dX4_comesTo_149 (lv_at hl 0 rfl) ?_
                  refine jz_isub C dX4_comesTo_151 ?_
                  refine lv_goto (tgt := 156) hx hb dX4_comesTo_152 (by decide) ?_
                  exact jz_ret (show (k_X4_comesTo F R w c : Int) = (R 5 (Int.toNat w)) - (-((c % (F 2)) - ((R 4 (Int.toNat w)) % (F 2)))) from by rw [k_X4_comesTo, (if_neg (h47)), (if_pos h64), (if_neg (h80)), (if_neg (h95)), (if_neg (h110)), (if_neg (Int.not_lt.mpr h129)), (if_pos h140)]) (hret _ _ dX4_comesTo_156)
          · skip
            refine lv_iload_n hx hb dX4_comesTo_113 rfl (lv_at hl 2 rfl) ?_
            refine lv_goto (tgt := 120) hx hb dX4_comesTo_114 (by decide) ?_
            refine lv_istore (lv' := [(6, .int (iI ((c / (F 2)) - ((R 4 (Int.toNat w)) / (F 2))))), (5, .int (iI (1))), (4, .int (iI ((c % (F 2)) - ((R 4 (Int.toNat w)) % (F 2))))), (3, .int (iI ((c / (F 2)) - ((R 4 (Int.toNat w)) / (F 2))))), (0, .ref (ad 0)), (1, .int (iI (w))), (2, .int (iI (c)))]) hx hb dX4_comesTo_120 hl (by decide) rfl (fun ls hl => ?_)
            refine lv_iload hx hb dX4_comesTo_122 (lv_at hl 1 rfl) ?_
            refine jz_if_eq (tgt := 155) C dX4_comesTo_124 (by decide) (by omega) (fun h124 => ?_) (fun h124 => ?_)
            · exact absurd h124 (by decide)
            · skip
              refine lv_iload hx hb dX4_comesTo_127 (lv_at hl 0 rfl) ?_
              refine jz_if_lt (tgt := 155) C dX4_comesTo_129 (by decide) (by omega) (fun h129 => ?_) (fun h129 => ?_)
              · skip
                refine jz_const C dX4_comesTo_155 ?_
                exact jz_ret (show (k_X4_comesTo F R w c : Int) = 0 from by rw [k_X4_comesTo, (if_neg (h47)), (if_pos h64), (if_neg (h80)), (if_neg (h95)), (if_pos h110), (if_pos h129)]) (hret _ _ dX4_comesTo_156)
              · skip
                refine lv_iload hx hb dX4_comesTo_132 (lv_at hl 0 rfl) ?_
                refine lv_aload_n hx hb dX4_comesTo_134 rfl (lv_at hl 4 rfl) ?_
                refine fg_M_strongOf C hin4 hE hP (List.mem_of_getElem? (i := 4) rfl) dX4_comesTo_135 ?_
                refine lv_iload_n hx hb dX4_comesTo_138 rfl (lv_at hl 5 rfl) ?_
                refine fl_M_strongOf C hE hP (v := R 5 (Int.toNat w)) dX4_comesTo_139 (by omega) rfl ?_
                refine jz_icmp_ge (tgt := 155) C dX4_comesTo_140 (by decide) (by omega) (fun h140 => ?_) (fun h140 => ?_)
                · skip
                  refine jz_const C dX4_comesTo_155 ?_
                  exact jz_ret (show (k_X4_comesTo F R w c : Int) = 0 from by rw [k_X4_comesTo, (if_neg (h47)), (if_pos h64), (if_neg (h80)), (if_neg (h95)), (if_pos h110), (if_neg (Int.not_lt.mpr h129)), (if_neg (Int.not_lt.mpr h140))]) (hret _ _ dX4_comesTo_156)
                · skip
                  refine lv_aload_n hx hb dX4_comesTo_143 rfl (lv_at hl 4 rfl) ?_
                  refine fg_M_strongOf C hin4 hE hP (List.mem_of_getElem? (i := 4) rfl) dX4_comesTo_144 ?_
                  refine lv_iload_n hx hb dX4_comesTo_147 rfl (lv_at hl 5 rfl) ?_
                  refine fl_M_strongOf C hE hP (v := R 5 (Int.toNat w)) dX4_comesTo_148 (by omega) rfl ?_
                  refine lv_iload hx hb dX4_comesTo_149 (lv_at hl 0 rfl) ?_
                  refine jz_isub C dX4_comesTo_151 ?_
                  refine lv_goto (tgt := 156) hx hb dX4_comesTo_152 (by decide) ?_
                  exact jz_ret (show (k_X4_comesTo F R w c : Int) = (R 5 (Int.toNat w)) - ((c / (F 2)) - ((R 4 (Int.toNat w)) / (F 2))) from by rw [k_X4_comesTo, (if_neg (h47)), (if_pos h64), (if_neg (h80)), (if_neg (h95)), (if_pos h110), (if_neg (Int.not_lt.mpr h129)), (if_pos h140)]) (hret _ _ dX4_comesTo_156)
        · skip
          refine lv_iload hx hb dX4_comesTo_98 (lv_at hl 1 rfl) ?_
          refine lv_goto (tgt := 120) hx hb dX4_comesTo_100 (by decide) ?_
          refine lv_istore (lv' := [(6, .int (iI ((c % (F 2)) - ((R 4 (Int.toNat w)) % (F 2))))), (5, .int (iI (1))), (4, .int (iI ((c % (F 2)) - ((R 4 (Int.toNat w)) % (F 2))))), (3, .int (iI ((c / (F 2)) - ((R 4 (Int.toNat w)) / (F 2))))), (0, .ref (ad 0)), (1, .int (iI (w))), (2, .int (iI (c)))]) hx hb dX4_comesTo_120 hl (by decide) rfl (fun ls hl => ?_)
          refine lv_iload hx hb dX4_comesTo_122 (lv_at hl 1 rfl) ?_
          refine jz_if_eq (tgt := 155) C dX4_comesTo_124 (by decide) (by omega) (fun h124 => ?_) (fun h124 => ?_)
          · exact absurd h124 (by decide)
          · skip
            refine lv_iload hx hb dX4_comesTo_127 (lv_at hl 0 rfl) ?_
            refine jz_if_lt (tgt := 155) C dX4_comesTo_129 (by decide) (by omega) (fun h129 => ?_) (fun h129 => ?_)
            · skip
              refine jz_const C dX4_comesTo_155 ?_
              exact jz_ret (show (k_X4_comesTo F R w c : Int) = 0 from by rw [k_X4_comesTo, (if_neg (h47)), (if_pos h64), (if_neg (h80)), (if_pos h95), (if_pos h129)]) (hret _ _ dX4_comesTo_156)
            · skip
              refine lv_iload hx hb dX4_comesTo_132 (lv_at hl 0 rfl) ?_
              refine lv_aload_n hx hb dX4_comesTo_134 rfl (lv_at hl 4 rfl) ?_
              refine fg_M_strongOf C hin4 hE hP (List.mem_of_getElem? (i := 4) rfl) dX4_comesTo_135 ?_
              refine lv_iload_n hx hb dX4_comesTo_138 rfl (lv_at hl 5 rfl) ?_
              refine fl_M_strongOf C hE hP (v := R 5 (Int.toNat w)) dX4_comesTo_139 (by omega) rfl ?_
              refine jz_icmp_ge (tgt := 155) C dX4_comesTo_140 (by decide) (by omega) (fun h140 => ?_) (fun h140 => ?_)
              · skip
                refine jz_const C dX4_comesTo_155 ?_
                exact jz_ret (show (k_X4_comesTo F R w c : Int) = 0 from by rw [k_X4_comesTo, (if_neg (h47)), (if_pos h64), (if_neg (h80)), (if_pos h95), (if_neg (Int.not_lt.mpr h129)), (if_neg (Int.not_lt.mpr h140))]) (hret _ _ dX4_comesTo_156)
              · skip
                refine lv_aload_n hx hb dX4_comesTo_143 rfl (lv_at hl 4 rfl) ?_
                refine fg_M_strongOf C hin4 hE hP (List.mem_of_getElem? (i := 4) rfl) dX4_comesTo_144 ?_
                refine lv_iload_n hx hb dX4_comesTo_147 rfl (lv_at hl 5 rfl) ?_
                refine fl_M_strongOf C hE hP (v := R 5 (Int.toNat w)) dX4_comesTo_148 (by omega) rfl ?_
                refine lv_iload hx hb dX4_comesTo_149 (lv_at hl 0 rfl) ?_
                refine jz_isub C dX4_comesTo_151 ?_
                refine lv_goto (tgt := 156) hx hb dX4_comesTo_152 (by decide) ?_
                exact jz_ret (show (k_X4_comesTo F R w c : Int) = (R 5 (Int.toNat w)) - ((c % (F 2)) - ((R 4 (Int.toNat w)) % (F 2))) from by rw [k_X4_comesTo, (if_neg (h47)), (if_pos h64), (if_neg (h80)), (if_pos h95), (if_neg (Int.not_lt.mpr h129)), (if_pos h140)]) (hret _ _ dX4_comesTo_156)
      · skip
        refine lv_iload_n hx hb dX4_comesTo_83 rfl (lv_at hl 2 rfl) ?_
        refine jz_ineg C dX4_comesTo_84 ?_
        refine lv_goto (tgt := 120) hx hb dX4_comesTo_85 (by decide) ?_
        refine lv_istore (lv' := [(6, .int (iI (-((c / (F 2)) - ((R 4 (Int.toNat w)) / (F 2)))))), (5, .int (iI (1))), (4, .int (iI ((c % (F 2)) - ((R 4 (Int.toNat w)) % (F 2))))), (3, .int (iI ((c / (F 2)) - ((R 4 (Int.toNat w)) / (F 2))))), (0, .ref (ad 0)), (1, .int (iI (w))), (2, .int (iI (c)))]) hx hb dX4_comesTo_120 hl (by decide) rfl (fun ls hl => ?_)
        refine lv_iload hx hb dX4_comesTo_122 (lv_at hl 1 rfl) ?_
        refine jz_if_eq (tgt := 155) C dX4_comesTo_124 (by decide) (by omega) (fun h124 => ?_) (fun h124 => ?_)
        · exact absurd h124 (by decide)
        · skip
          refine lv_iload hx hb dX4_comesTo_127 (lv_at hl 0 rfl) ?_
          refine jz_if_lt (tgt := 155) C dX4_comesTo_129 (by decide) (by omega) (fun h129 => ?_) (fun h129 => ?_)
          · skip
            refine jz_const C dX4_comesTo_155 ?_
            exact jz_ret (show (k_X4_comesTo F R w c : Int) = 0 from by rw [k_X4_comesTo, (if_neg (h47)), (if_pos h64), (if_pos h80), (if_pos h129)]) (hret _ _ dX4_comesTo_156)
          · skip
            refine lv_iload hx hb dX4_comesTo_132 (lv_at hl 0 rfl) ?_
            refine lv_aload_n hx hb dX4_comesTo_134 rfl (lv_at hl 4 rfl) ?_
            refine fg_M_strongOf C hin4 hE hP (List.mem_of_getElem? (i := 4) rfl) dX4_comesTo_135 ?_
            refine lv_iload_n hx hb dX4_comesTo_138 rfl (lv_at hl 5 rfl) ?_
            refine fl_M_strongOf C hE hP (v := R 5 (Int.toNat w)) dX4_comesTo_139 (by omega) rfl ?_
            refine jz_icmp_ge (tgt := 155) C dX4_comesTo_140 (by decide) (by omega) (fun h140 => ?_) (fun h140 => ?_)
            · skip
              refine jz_const C dX4_comesTo_155 ?_
              exact jz_ret (show (k_X4_comesTo F R w c : Int) = 0 from by rw [k_X4_comesTo, (if_neg (h47)), (if_pos h64), (if_pos h80), (if_neg (Int.not_lt.mpr h129)), (if_neg (Int.not_lt.mpr h140))]) (hret _ _ dX4_comesTo_156)
            · skip
              refine lv_aload_n hx hb dX4_comesTo_143 rfl (lv_at hl 4 rfl) ?_
              refine fg_M_strongOf C hin4 hE hP (List.mem_of_getElem? (i := 4) rfl) dX4_comesTo_144 ?_
              refine lv_iload_n hx hb dX4_comesTo_147 rfl (lv_at hl 5 rfl) ?_
              refine fl_M_strongOf C hE hP (v := R 5 (Int.toNat w)) dX4_comesTo_148 (by omega) rfl ?_
              refine lv_iload hx hb dX4_comesTo_149 (lv_at hl 0 rfl) ?_
              refine jz_isub C dX4_comesTo_151 ?_
              refine lv_goto (tgt := 156) hx hb dX4_comesTo_152 (by decide) ?_
              exact jz_ret (show (k_X4_comesTo F R w c : Int) = (R 5 (Int.toNat w)) - (-((c / (F 2)) - ((R 4 (Int.toNat w)) / (F 2)))) from by rw [k_X4_comesTo, (if_neg (h47)), (if_pos h64), (if_pos h80), (if_neg (Int.not_lt.mpr h129)), (if_pos h140)]) (hret _ _ dX4_comesTo_156)
  · skip
    refine lv_iload hx hb dX4_comesTo_50 (lv_at hl 0 rfl) ?_
    refine jz_if_ne (tgt := 59) C dX4_comesTo_52 (by decide) (by omega) (fun h52 => ?_) (fun h52 => ?_)
    · skip
      refine jz_const C dX4_comesTo_59 ?_
      refine lv_goto (tgt := 72) hx hb dX4_comesTo_60 (by decide) ?_
      refine lv_istore (lv' := [(5, .int (iI (0))), (4, .int (iI ((c % (F 2)) - ((R 4 (Int.toNat w)) % (F 2))))), (3, .int (iI ((c / (F 2)) - ((R 4 (Int.toNat w)) / (F 2))))), (0, .ref (ad 0)), (1, .int (iI (w))), (2, .int (iI (c)))]) hx hb dX4_comesTo_72 hl (by decide) rfl (fun ls hl => ?_)
      refine lv_aload_n hx hb dX4_comesTo_74 rfl (lv_at hl 3 rfl) ?_
      refine fg_M_vaneOf C hin4 hE hP (List.mem_of_getElem? (i := 3) rfl) dX4_comesTo_75 ?_
      refine lv_iload_n hx hb dX4_comesTo_78 rfl (lv_at hl 4 rfl) ?_
      refine fl_M_vaneOf C hE hP (v := R 6 (Int.toNat w)) dX4_comesTo_79 (by omega) rfl ?_
      refine jz_if_ne (tgt := 88) C dX4_comesTo_80 (by decide) (by omega) (fun h80 => ?_) (fun h80 => ?_)
      · skip
        refine lv_aload_n hx hb dX4_comesTo_88 rfl (lv_at hl 3 rfl) ?_
        refine fg_M_vaneOf C hin4 hE hP (List.mem_of_getElem? (i := 3) rfl) dX4_comesTo_89 ?_
        refine lv_iload_n hx hb dX4_comesTo_92 rfl (lv_at hl 4 rfl) ?_
        refine fl_M_vaneOf C hE hP (v := R 6 (Int.toNat w)) dX4_comesTo_93 (by omega) rfl ?_
        refine jz_const C dX4_comesTo_94 ?_
        refine jz_icmp_ne (tgt := 103) C dX4_comesTo_95 (by decide) (by omega) (fun h95 => ?_) (fun h95 => ?_)
        · skip
          refine lv_aload_n hx hb dX4_comesTo_103 rfl (lv_at hl 3 rfl) ?_
          refine fg_M_vaneOf C hin4 hE hP (List.mem_of_getElem? (i := 3) rfl) dX4_comesTo_104 ?_
          refine lv_iload_n hx hb dX4_comesTo_107 rfl (lv_at hl 4 rfl) ?_
          refine fl_M_vaneOf C hE hP (v := R 6 (Int.toNat w)) dX4_comesTo_108 (by omega) rfl ?_
          refine jz_const C dX4_comesTo_109 ?_
          refine jz_icmp_ne (tgt := 117) C dX4_comesTo_110 (by decide) (by omega) (fun h110 => ?_) (fun h110 => ?_)
          · skip
            refine lv_iload hx hb dX4_comesTo_117 (lv_at hl 1 rfl) ?_
            refine jz_ineg C dX4_comesTo_119 ?_
            refine lv_istore (lv' := [(6, .int (iI (-((c % (F 2)) - ((R 4 (Int.toNat w)) % (F 2)))))), (5, .int (iI (0))), (4, .int (iI ((c % (F 2)) - ((R 4 (Int.toNat w)) % (F 2))))), (3, .int (iI ((c / (F 2)) - ((R 4 (Int.toNat w)) / (F 2))))), (0, .ref (ad 0)), (1, .int (iI (w))), (2, .int (iI (c)))]) hx hb dX4_comesTo_120 hl (by decide) rfl (fun ls hl => ?_)
            refine lv_iload hx hb dX4_comesTo_122 (lv_at hl 1 rfl) ?_
            refine jz_if_eq (tgt := 155) C dX4_comesTo_124 (by decide) (by omega) (fun h124 => ?_) (fun h124 => ?_)
            · skip
              refine jz_const C dX4_comesTo_155 ?_
              exact jz_ret (show (k_X4_comesTo F R w c : Int) = 0 from by rw [k_X4_comesTo, (if_pos h47), (if_neg (h52)), (if_neg (h80)), (if_neg (h95)), (if_neg (h110))]) (hret _ _ dX4_comesTo_156)
            · exact absurd h124 (by decide)
          · skip
            refine lv_iload_n hx hb dX4_comesTo_113 rfl (lv_at hl 2 rfl) ?_
            refine lv_goto (tgt := 120) hx hb dX4_comesTo_114 (by decide) ?_
            refine lv_istore (lv' := [(6, .int (iI ((c / (F 2)) - ((R 4 (Int.toNat w)) / (F 2))))), (5, .int (iI (0))), (4, .int (iI ((c % (F 2)) - ((R 4 (Int.toNat w)) % (F 2))))), (3, .int (iI ((c / (F 2)) - ((R 4 (Int.toNat w)) / (F 2))))), (0, .ref (ad 0)), (1, .int (iI (w))), (2, .int (iI (c)))]) hx hb dX4_comesTo_120 hl (by decide) rfl (fun ls hl => ?_)
            refine lv_iload hx hb dX4_comesTo_122 (lv_at hl 1 rfl) ?_
            refine jz_if_eq (tgt := 155) C dX4_comesTo_124 (by decide) (by omega) (fun h124 => ?_) (fun h124 => ?_)
            · skip
              refine jz_const C dX4_comesTo_155 ?_
              exact jz_ret (show (k_X4_comesTo F R w c : Int) = 0 from by rw [k_X4_comesTo, (if_pos h47), (if_neg (h52)), (if_neg (h80)), (if_neg (h95)), (if_pos h110)]) (hret _ _ dX4_comesTo_156)
            · exact absurd h124 (by decide)
        · skip
          refine lv_iload hx hb dX4_comesTo_98 (lv_at hl 1 rfl) ?_
          refine lv_goto (tgt := 120) hx hb dX4_comesTo_100 (by decide) ?_
          refine lv_istore (lv' := [(6, .int (iI ((c % (F 2)) - ((R 4 (Int.toNat w)) % (F 2))))), (5, .int (iI (0))), (4, .int (iI ((c % (F 2)) - ((R 4 (Int.toNat w)) % (F 2))))), (3, .int (iI ((c / (F 2)) - ((R 4 (Int.toNat w)) / (F 2))))), (0, .ref (ad 0)), (1, .int (iI (w))), (2, .int (iI (c)))]) hx hb dX4_comesTo_120 hl (by decide) rfl (fun ls hl => ?_)
          refine lv_iload hx hb dX4_comesTo_122 (lv_at hl 1 rfl) ?_
          refine jz_if_eq (tgt := 155) C dX4_comesTo_124 (by decide) (by omega) (fun h124 => ?_) (fun h124 => ?_)
          · skip
            refine jz_const C dX4_comesTo_155 ?_
            exact jz_ret (show (k_X4_comesTo F R w c : Int) = 0 from by rw [k_X4_comesTo, (if_pos h47), (if_neg (h52)), (if_neg (h80)), (if_pos h95)]) (hret _ _ dX4_comesTo_156)
          · exact absurd h124 (by decide)
      · skip
        refine lv_iload_n hx hb dX4_comesTo_83 rfl (lv_at hl 2 rfl) ?_
        refine jz_ineg C dX4_comesTo_84 ?_
        refine lv_goto (tgt := 120) hx hb dX4_comesTo_85 (by decide) ?_
        refine lv_istore (lv' := [(6, .int (iI (-((c / (F 2)) - ((R 4 (Int.toNat w)) / (F 2)))))), (5, .int (iI (0))), (4, .int (iI ((c % (F 2)) - ((R 4 (Int.toNat w)) % (F 2))))), (3, .int (iI ((c / (F 2)) - ((R 4 (Int.toNat w)) / (F 2))))), (0, .ref (ad 0)), (1, .int (iI (w))), (2, .int (iI (c)))]) hx hb dX4_comesTo_120 hl (by decide) rfl (fun ls hl => ?_)
        refine lv_iload hx hb dX4_comesTo_122 (lv_at hl 1 rfl) ?_
        refine jz_if_eq (tgt := 155) C dX4_comesTo_124 (by decide) (by omega) (fun h124 => ?_) (fun h124 => ?_)
        · skip
          refine jz_const C dX4_comesTo_155 ?_
          exact jz_ret (show (k_X4_comesTo F R w c : Int) = 0 from by rw [k_X4_comesTo, (if_pos h47), (if_neg (h52)), (if_pos h80)]) (hret _ _ dX4_comesTo_156)
        · exact absurd h124 (by decide)
    · skip
      refine jz_const C dX4_comesTo_55 ?_
      refine lv_goto (tgt := 72) hx hb dX4_comesTo_56 (by decide) ?_
      refine lv_istore (lv' := [(5, .int (iI (1))), (4, .int (iI ((c % (F 2)) - ((R 4 (Int.toNat w)) % (F 2))))), (3, .int (iI ((c / (F 2)) - ((R 4 (Int.toNat w)) / (F 2))))), (0, .ref (ad 0)), (1, .int (iI (w))), (2, .int (iI (c)))]) hx hb dX4_comesTo_72 hl (by decide) rfl (fun ls hl => ?_)
      refine lv_aload_n hx hb dX4_comesTo_74 rfl (lv_at hl 3 rfl) ?_
      refine fg_M_vaneOf C hin4 hE hP (List.mem_of_getElem? (i := 3) rfl) dX4_comesTo_75 ?_
      refine lv_iload_n hx hb dX4_comesTo_78 rfl (lv_at hl 4 rfl) ?_
      refine fl_M_vaneOf C hE hP (v := R 6 (Int.toNat w)) dX4_comesTo_79 (by omega) rfl ?_
      refine jz_if_ne (tgt := 88) C dX4_comesTo_80 (by decide) (by omega) (fun h80 => ?_) (fun h80 => ?_)
      · skip
        refine lv_aload_n hx hb dX4_comesTo_88 rfl (lv_at hl 3 rfl) ?_
        refine fg_M_vaneOf C hin4 hE hP (List.mem_of_getElem? (i := 3) rfl) dX4_comesTo_89 ?_
        refine lv_iload_n hx hb dX4_comesTo_92 rfl (lv_at hl 4 rfl) ?_
        refine fl_M_vaneOf C hE hP (v := R 6 (Int.toNat w)) dX4_comesTo_93 (by omega) rfl ?_
        refine jz_const C dX4_comesTo_94 ?_
        refine jz_icmp_ne (tgt := 103) C dX4_comesTo_95 (by decide) (by omega) (fun h95 => ?_) (fun h95 => ?_)
        · skip
          refine lv_aload_n hx hb dX4_comesTo_103 rfl (lv_at hl 3 rfl) ?_
          refine fg_M_vaneOf C hin4 hE hP (List.mem_of_getElem? (i := 3) rfl) dX4_comesTo_104 ?_
          refine lv_iload_n hx hb dX4_comesTo_107 rfl (lv_at hl 4 rfl) ?_
          refine fl_M_vaneOf C hE hP (v := R 6 (Int.toNat w)) dX4_comesTo_108 (by omega) rfl ?_
          refine jz_const C dX4_comesTo_109 ?_
          refine jz_icmp_ne (tgt := 117) C dX4_comesTo_110 (by decide) (by omega) (fun h110 => ?_) (fun h110 => ?_)
          · skip
            refine lv_iload hx hb dX4_comesTo_117 (lv_at hl 1 rfl) ?_
            refine jz_ineg C dX4_comesTo_119 ?_
            refine lv_istore (lv' := [(6, .int (iI (-((c % (F 2)) - ((R 4 (Int.toNat w)) % (F 2)))))), (5, .int (iI (1))), (4, .int (iI ((c % (F 2)) - ((R 4 (Int.toNat w)) % (F 2))))), (3, .int (iI ((c / (F 2)) - ((R 4 (Int.toNat w)) / (F 2))))), (0, .ref (ad 0)), (1, .int (iI (w))), (2, .int (iI (c)))]) hx hb dX4_comesTo_120 hl (by decide) rfl (fun ls hl => ?_)
            refine lv_iload hx hb dX4_comesTo_122 (lv_at hl 1 rfl) ?_
            refine jz_if_eq (tgt := 155) C dX4_comesTo_124 (by decide) (by omega) (fun h124 => ?_) (fun h124 => ?_)
            · exact absurd h124 (by decide)
            · skip
              refine lv_iload hx hb dX4_comesTo_127 (lv_at hl 0 rfl) ?_
              refine jz_if_lt (tgt := 155) C dX4_comesTo_129 (by decide) (by omega) (fun h129 => ?_) (fun h129 => ?_)
              · skip
                refine jz_const C dX4_comesTo_155 ?_
                exact jz_ret (show (k_X4_comesTo F R w c : Int) = 0 from by rw [k_X4_comesTo, (if_pos h47), (if_pos h52), (if_neg (h80)), (if_neg (h95)), (if_neg (h110)), (if_pos h129)]) (hret _ _ dX4_comesTo_156)
              · skip
                refine lv_iload hx hb dX4_comesTo_132 (lv_at hl 0 rfl) ?_
                refine lv_aload_n hx hb dX4_comesTo_134 rfl (lv_at hl 4 rfl) ?_
                refine fg_M_strongOf C hin4 hE hP (List.mem_of_getElem? (i := 4) rfl) dX4_comesTo_135 ?_
                refine lv_iload_n hx hb dX4_comesTo_138 rfl (lv_at hl 5 rfl) ?_
                refine fl_M_strongOf C hE hP (v := R 5 (Int.toNat w)) dX4_comesTo_139 (by omega) rfl ?_
                refine jz_icmp_ge (tgt := 155) C dX4_comesTo_140 (by decide) (by omega) (fun h140 => ?_) (fun h140 => ?_)
                · skip
                  refine jz_const C dX4_comesTo_155 ?_
                  exact jz_ret (show (k_X4_comesTo F R w c : Int) = 0 from by rw [k_X4_comesTo, (if_pos h47), (if_pos h52), (if_neg (h80)), (if_neg (h95)), (if_neg (h110)), (if_neg (Int.not_lt.mpr h129)), (if_neg (Int.not_lt.mpr h140))]) (hret _ _ dX4_comesTo_156)
                · skip
                  refine lv_aload_n hx hb dX4_comesTo_143 rfl (lv_at hl 4 rfl) ?_
                  refine fg_M_strongOf C hin4 hE hP (List.mem_of_getElem? (i := 4) rfl) dX4_comesTo_144 ?_
                  refine lv_iload_n hx hb dX4_comesTo_147 rfl (lv_at hl 5 rfl) ?_
                  refine fl_M_strongOf C hE hP (v := R 5 (Int.toNat w)) dX4_comesTo_148 (by omega) rfl ?_
                  refine lv_iload hx hb dX4_comesTo_149 (lv_at hl 0 rfl) ?_
                  refine jz_isub C dX4_comesTo_151 ?_
                  refine lv_goto (tgt := 156) hx hb dX4_comesTo_152 (by decide) ?_
                  exact jz_ret (show (k_X4_comesTo F R w c : Int) = (R 5 (Int.toNat w)) - (-((c % (F 2)) - ((R 4 (Int.toNat w)) % (F 2)))) from by rw [k_X4_comesTo, (if_pos h47), (if_pos h52), (if_neg (h80)), (if_neg (h95)), (if_neg (h110)), (if_neg (Int.not_lt.mpr h129)), (if_pos h140)]) (hret _ _ dX4_comesTo_156)
          · skip
            refine lv_iload_n hx hb dX4_comesTo_113 rfl (lv_at hl 2 rfl) ?_
            refine lv_goto (tgt := 120) hx hb dX4_comesTo_114 (by decide) ?_
            refine lv_istore (lv' := [(6, .int (iI ((c / (F 2)) - ((R 4 (Int.toNat w)) / (F 2))))), (5, .int (iI (1))), (4, .int (iI ((c % (F 2)) - ((R 4 (Int.toNat w)) % (F 2))))), (3, .int (iI ((c / (F 2)) - ((R 4 (Int.toNat w)) / (F 2))))), (0, .ref (ad 0)), (1, .int (iI (w))), (2, .int (iI (c)))]) hx hb dX4_comesTo_120 hl (by decide) rfl (fun ls hl => ?_)
            refine lv_iload hx hb dX4_comesTo_122 (lv_at hl 1 rfl) ?_
            refine jz_if_eq (tgt := 155) C dX4_comesTo_124 (by decide) (by omega) (fun h124 => ?_) (fun h124 => ?_)
            · exact absurd h124 (by decide)
            · skip
              refine lv_iload hx hb dX4_comesTo_127 (lv_at hl 0 rfl) ?_
              refine jz_if_lt (tgt := 155) C dX4_comesTo_129 (by decide) (by omega) (fun h129 => ?_) (fun h129 => ?_)
              · skip
                refine jz_const C dX4_comesTo_155 ?_
                exact jz_ret (show (k_X4_comesTo F R w c : Int) = 0 from by rw [k_X4_comesTo, (if_pos h47), (if_pos h52), (if_neg (h80)), (if_neg (h95)), (if_pos h110), (if_pos h129)]) (hret _ _ dX4_comesTo_156)
              · skip
                refine lv_iload hx hb dX4_comesTo_132 (lv_at hl 0 rfl) ?_
                refine lv_aload_n hx hb dX4_comesTo_134 rfl (lv_at hl 4 rfl) ?_
                refine fg_M_strongOf C hin4 hE hP (List.mem_of_getElem? (i := 4) rfl) dX4_comesTo_135 ?_
                refine lv_iload_n hx hb dX4_comesTo_138 rfl (lv_at hl 5 rfl) ?_
                refine fl_M_strongOf C hE hP (v := R 5 (Int.toNat w)) dX4_comesTo_139 (by omega) rfl ?_
                refine jz_icmp_ge (tgt := 155) C dX4_comesTo_140 (by decide) (by omega) (fun h140 => ?_) (fun h140 => ?_)
                · skip
                  refine jz_const C dX4_comesTo_155 ?_
                  exact jz_ret (show (k_X4_comesTo F R w c : Int) = 0 from by rw [k_X4_comesTo, (if_pos h47), (if_pos h52), (if_neg (h80)), (if_neg (h95)), (if_pos h110), (if_neg (Int.not_lt.mpr h129)), (if_neg (Int.not_lt.mpr h140))]) (hret _ _ dX4_comesTo_156)
                · skip
                  refine lv_aload_n hx hb dX4_comesTo_143 rfl (lv_at hl 4 rfl) ?_
                  refine fg_M_strongOf C hin4 hE hP (List.mem_of_getElem? (i := 4) rfl) dX4_comesTo_144 ?_
                  refine lv_iload_n hx hb dX4_comesTo_147 rfl (lv_at hl 5 rfl) ?_
                  refine fl_M_strongOf C hE hP (v := R 5 (Int.toNat w)) dX4_comesTo_148 (by omega) rfl ?_
                  refine lv_iload hx hb dX4_comesTo_149 (lv_at hl 0 rfl) ?_
                  refine jz_isub C dX4_comesTo_151 ?_
                  refine lv_goto (tgt := 156) hx hb dX4_comesTo_152 (by decide) ?_
                  exact jz_ret (show (k_X4_comesTo F R w c : Int) = (R 5 (Int.toNat w)) - ((c / (F 2)) - ((R 4 (Int.toNat w)) / (F 2))) from by rw [k_X4_comesTo, (if_pos h47), (if_pos h52), (if_neg (h80)), (if_neg (h95)), (if_pos h110), (if_neg (Int.not_lt.mpr h129)), (if_pos h140)]) (hret _ _ dX4_comesTo_156)
        · skip
          refine lv_iload hx hb dX4_comesTo_98 (lv_at hl 1 rfl) ?_
          refine lv_goto (tgt := 120) hx hb dX4_comesTo_100 (by decide) ?_
          refine lv_istore (lv' := [(6, .int (iI ((c % (F 2)) - ((R 4 (Int.toNat w)) % (F 2))))), (5, .int (iI (1))), (4, .int (iI ((c % (F 2)) - ((R 4 (Int.toNat w)) % (F 2))))), (3, .int (iI ((c / (F 2)) - ((R 4 (Int.toNat w)) / (F 2))))), (0, .ref (ad 0)), (1, .int (iI (w))), (2, .int (iI (c)))]) hx hb dX4_comesTo_120 hl (by decide) rfl (fun ls hl => ?_)
          refine lv_iload hx hb dX4_comesTo_122 (lv_at hl 1 rfl) ?_
          refine jz_if_eq (tgt := 155) C dX4_comesTo_124 (by decide) (by omega) (fun h124 => ?_) (fun h124 => ?_)
          · exact absurd h124 (by decide)
          · skip
            refine lv_iload hx hb dX4_comesTo_127 (lv_at hl 0 rfl) ?_
            refine jz_if_lt (tgt := 155) C dX4_comesTo_129 (by decide) (by omega) (fun h129 => ?_) (fun h129 => ?_)
            · skip
              refine jz_const C dX4_comesTo_155 ?_
              exact jz_ret (show (k_X4_comesTo F R w c : Int) = 0 from by rw [k_X4_comesTo, (if_pos h47), (if_pos h52), (if_neg (h80)), (if_pos h95), (if_pos h129)]) (hret _ _ dX4_comesTo_156)
            · skip
              refine lv_iload hx hb dX4_comesTo_132 (lv_at hl 0 rfl) ?_
              refine lv_aload_n hx hb dX4_comesTo_134 rfl (lv_at hl 4 rfl) ?_
              refine fg_M_strongOf C hin4 hE hP (List.mem_of_getElem? (i := 4) rfl) dX4_comesTo_135 ?_
              refine lv_iload_n hx hb dX4_comesTo_138 rfl (lv_at hl 5 rfl) ?_
              refine fl_M_strongOf C hE hP (v := R 5 (Int.toNat w)) dX4_comesTo_139 (by omega) rfl ?_
              refine jz_icmp_ge (tgt := 155) C dX4_comesTo_140 (by decide) (by omega) (fun h140 => ?_) (fun h140 => ?_)
              · skip
                refine jz_const C dX4_comesTo_155 ?_
                exact jz_ret (show (k_X4_comesTo F R w c : Int) = 0 from by rw [k_X4_comesTo, (if_pos h47), (if_pos h52), (if_neg (h80)), (if_pos h95), (if_neg (Int.not_lt.mpr h129)), (if_neg (Int.not_lt.mpr h140))]) (hret _ _ dX4_comesTo_156)
              · skip
                refine lv_aload_n hx hb dX4_comesTo_143 rfl (lv_at hl 4 rfl) ?_
                refine fg_M_strongOf C hin4 hE hP (List.mem_of_getElem? (i := 4) rfl) dX4_comesTo_144 ?_
                refine lv_iload_n hx hb dX4_comesTo_147 rfl (lv_at hl 5 rfl) ?_
                refine fl_M_strongOf C hE hP (v := R 5 (Int.toNat w)) dX4_comesTo_148 (by omega) rfl ?_
                refine lv_iload hx hb dX4_comesTo_149 (lv_at hl 0 rfl) ?_
                refine jz_isub C dX4_comesTo_151 ?_
                refine lv_goto (tgt := 156) hx hb dX4_comesTo_152 (by decide) ?_
                exact jz_ret (show (k_X4_comesTo F R w c : Int) = (R 5 (Int.toNat w)) - ((c % (F 2)) - ((R 4 (Int.toNat w)) % (F 2))) from by rw [k_X4_comesTo, (if_pos h47), (if_pos h52), (if_neg (h80)), (if_pos h95), (if_neg (Int.not_lt.mpr h129)), (if_pos h140)]) (hret _ _ dX4_comesTo_156)
      · skip
        refine lv_iload_n hx hb dX4_comesTo_83 rfl (lv_at hl 2 rfl) ?_
        refine jz_ineg C dX4_comesTo_84 ?_
        refine lv_goto (tgt := 120) hx hb dX4_comesTo_85 (by decide) ?_
        refine lv_istore (lv' := [(6, .int (iI (-((c / (F 2)) - ((R 4 (Int.toNat w)) / (F 2)))))), (5, .int (iI (1))), (4, .int (iI ((c % (F 2)) - ((R 4 (Int.toNat w)) % (F 2))))), (3, .int (iI ((c / (F 2)) - ((R 4 (Int.toNat w)) / (F 2))))), (0, .ref (ad 0)), (1, .int (iI (w))), (2, .int (iI (c)))]) hx hb dX4_comesTo_120 hl (by decide) rfl (fun ls hl => ?_)
        refine lv_iload hx hb dX4_comesTo_122 (lv_at hl 1 rfl) ?_
        refine jz_if_eq (tgt := 155) C dX4_comesTo_124 (by decide) (by omega) (fun h124 => ?_) (fun h124 => ?_)
        · exact absurd h124 (by decide)
        · skip
          refine lv_iload hx hb dX4_comesTo_127 (lv_at hl 0 rfl) ?_
          refine jz_if_lt (tgt := 155) C dX4_comesTo_129 (by decide) (by omega) (fun h129 => ?_) (fun h129 => ?_)
          · skip
            refine jz_const C dX4_comesTo_155 ?_
            exact jz_ret (show (k_X4_comesTo F R w c : Int) = 0 from by rw [k_X4_comesTo, (if_pos h47), (if_pos h52), (if_pos h80), (if_pos h129)]) (hret _ _ dX4_comesTo_156)
          · skip
            refine lv_iload hx hb dX4_comesTo_132 (lv_at hl 0 rfl) ?_
            refine lv_aload_n hx hb dX4_comesTo_134 rfl (lv_at hl 4 rfl) ?_
            refine fg_M_strongOf C hin4 hE hP (List.mem_of_getElem? (i := 4) rfl) dX4_comesTo_135 ?_
            refine lv_iload_n hx hb dX4_comesTo_138 rfl (lv_at hl 5 rfl) ?_
            refine fl_M_strongOf C hE hP (v := R 5 (Int.toNat w)) dX4_comesTo_139 (by omega) rfl ?_
            refine jz_icmp_ge (tgt := 155) C dX4_comesTo_140 (by decide) (by omega) (fun h140 => ?_) (fun h140 => ?_)
            · skip
              refine jz_const C dX4_comesTo_155 ?_
              exact jz_ret (show (k_X4_comesTo F R w c : Int) = 0 from by rw [k_X4_comesTo, (if_pos h47), (if_pos h52), (if_pos h80), (if_neg (Int.not_lt.mpr h129)), (if_neg (Int.not_lt.mpr h140))]) (hret _ _ dX4_comesTo_156)
            · skip
              refine lv_aload_n hx hb dX4_comesTo_143 rfl (lv_at hl 4 rfl) ?_
              refine fg_M_strongOf C hin4 hE hP (List.mem_of_getElem? (i := 4) rfl) dX4_comesTo_144 ?_
              refine lv_iload_n hx hb dX4_comesTo_147 rfl (lv_at hl 5 rfl) ?_
              refine fl_M_strongOf C hE hP (v := R 5 (Int.toNat w)) dX4_comesTo_148 (by omega) rfl ?_
              refine lv_iload hx hb dX4_comesTo_149 (lv_at hl 0 rfl) ?_
              refine jz_isub C dX4_comesTo_151 ?_
              refine lv_goto (tgt := 156) hx hb dX4_comesTo_152 (by decide) ?_
              exact jz_ret (show (k_X4_comesTo F R w c : Int) = (R 5 (Int.toNat w)) - (-((c / (F 2)) - ((R 4 (Int.toNat w)) / (F 2)))) from by rw [k_X4_comesTo, (if_pos h47), (if_pos h52), (if_pos h80), (if_neg (Int.not_lt.mpr h129)), (if_pos h140)]) (hret _ _ dX4_comesTo_156)
