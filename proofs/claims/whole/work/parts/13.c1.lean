abbrev rm_X3_isUpTo : Room := { frames := 0, cells := 0, slots := 0, locals := 0 }
set_option maxHeartbeats 4000000 in
set_option maxRecDepth 100000 in
theorem c_X3_isUpTo {l : Launch} {D : va_G} {cI cS : ClassId} {w : va_W}  (number : Int) (most : Int)  (hn : -2147483648 ≤ number ∧ number < 2147483648) (hm : -2147483648 ≤ most ∧ most < 2147483648): JS l yX3_isUpTo wsX3_isUpTo rm_X3_isUpTo (jB D cI cS w) [.int (iI (number)), .int (iI (most))] (.int (iI (if 0 ≤ number ∧ number ≤ most then 1 else 0))) := by
  refine JS.mkZ rfl (by decide +kernel) rfl (Nat.le_of_ble_eq_true rfl) (jz_nz _) ?_
  intro p e st mi ar bl mth cd Q ls C hB hl hret
  obtain ⟨hE, hP⟩ := hB
  have hx := C.1
  have hb := C.2.1
  have hl : lv_has ls 2 [(0, .int (iI (number))), (1, .int (iI (most)))] := hl
  refine lv_iload_n hx hb dX3_isUpTo_0 rfl (lv_at hl 0 rfl) ?_
  refine jz_if_lt (tgt := 13) C dX3_isUpTo_1 (by decide) (by omega) (fun h1 => ?_) (fun h1 => ?_)
  · skip
    refine jz_const C dX3_isUpTo_13 ?_
    exact jz_ret (show ((if 0 ≤ number ∧ number ≤ most then 1 else 0) : Int) = 0 from by first | rfl | omega | (rw [if_pos (by omega)]) | (rw [if_neg (by omega)]) | (simp [*]; done)) (hret _ _ dX3_isUpTo_14)
  · skip
    refine lv_iload_n hx hb dX3_isUpTo_4 rfl (lv_at hl 0 rfl) ?_
    refine lv_iload_n hx hb dX3_isUpTo_5 rfl (lv_at hl 1 rfl) ?_
    refine jz_icmp_gt (tgt := 13) C dX3_isUpTo_6 (by decide) (by omega) (fun h6 => ?_) (fun h6 => ?_)
    · skip
      refine jz_const C dX3_isUpTo_13 ?_
      exact jz_ret (show ((if 0 ≤ number ∧ number ≤ most then 1 else 0) : Int) = 0 from by first | rfl | omega | (rw [if_pos (by omega)]) | (rw [if_neg (by omega)]) | (simp [*]; done)) (hret _ _ dX3_isUpTo_14)
    · skip
      refine jz_const C dX3_isUpTo_9 ?_
      refine lv_goto (tgt := 14) hx hb dX3_isUpTo_10 (by decide) ?_
      exact jz_ret (show ((if 0 ≤ number ∧ number ≤ most then 1 else 0) : Int) = 1 from by first | rfl | omega | (rw [if_pos (by omega)]) | (rw [if_neg (by omega)]) | (simp [*]; done)) (hret _ _ dX3_isUpTo_14)
abbrev rm_X2_wayIndex : Room := { frames := 0, cells := 0, slots := 0, locals := 0 }
set_option maxHeartbeats 4000000 in
set_option maxRecDepth 100000 in
theorem c_X2_wayIndex {l : Launch} {D : va_G} {cI cS : ClassId} {w : va_W}  (w0 : Int) (v : Int)  : JS l yX2_wayIndex wsX2_wayIndex rm_X2_wayIndex (jB D cI cS w) [.int (iI (w0)), .int (iI (v))] (.int (iI ((w0 * 4 + v) * 24))) := by
  refine JS.mkI rfl (by decide +kernel) rfl (Nat.le_of_ble_eq_true rfl) ?_
  intro p e st mi ar bl mth cd Q ls C hB hl hret
  obtain ⟨hE, hP⟩ := hB
  have hx := C.1
  have hb := C.2.1
  have hl : lv_has ls 2 [(0, .int (iI (w0))), (1, .int (iI (v)))] := hl
  refine lv_iload_n hx hb dX2_wayIndex_0 rfl (lv_at hl 0 rfl) ?_
  refine jz_const C dX2_wayIndex_1 ?_
  refine jz_imul C dX2_wayIndex_2 ?_
  refine lv_iload_n hx hb dX2_wayIndex_3 rfl (lv_at hl 1 rfl) ?_
  refine jz_iadd C dX2_wayIndex_4 ?_
  refine jz_bipush C dX2_wayIndex_5 (by decide +kernel) ?_
  refine jz_imul C dX2_wayIndex_7 ?_
  exact jz_ret (show ((w0 * 4 + v) * 24 : Int) = ((w0 * 4) + v) * 24 from by first | rfl | omega | (rw [if_pos (by omega)]) | (rw [if_neg (by omega)]) | (simp [*]; done)) (hret _ _ dX2_wayIndex_8)
abbrev rm_X3_read : Room := { frames := 0, cells := 0, slots := 0, locals := 0 }
set_option maxHeartbeats 4000000 in
set_option maxRecDepth 100000 in
theorem c_X3_read {l : Launch} {D : va_G} {cI cS : ClassId} {w : va_W}  (i : Int) (q : Nat) (n : Nat) (f : Nat → Int) (b : Nat) (hq : w[q]? = some (b, .inl (cI, n, .inl (fun j => iI (f j))))) (hn : n < 2147483648) (hi : 0 ≤ i ∧ i < n): JS l yX3_read wsX3_read rm_X3_read (jB D cI cS w) [.ref (b), .int (iI (i))] (.int (iI (f (Int.toNat i)))) := by
  refine JS.mkI rfl (by decide +kernel) rfl (Nat.le_of_ble_eq_true rfl) ?_
  intro p e st mi ar bl mth cd Q ls C hB hl hret
  obtain ⟨hE, hP⟩ := hB
  have hx := C.1
  have hb := C.2.1
  have hl : lv_has ls 2 [(0, .ref (b)), (1, .int (iI (i)))] := hl
  refine lv_iload_n hx hb dX3_read_0 rfl (lv_at hl 1 rfl) ?_
  refine jz_if_lt (tgt := 16) C dX3_read_1 (by decide) (by omega) (fun h1 => ?_) (fun h1 => ?_)
  · exfalso; omega
  · skip
    refine lv_iload_n hx hb dX3_read_4 rfl (lv_at hl 1 rfl) ?_
    refine lv_aload_n hx hb dX3_read_5 rfl (lv_at hl 0 rfl) ?_
    refine va_alen hx hb hE.1 hP q 0 hq rfl (v := iI n) (iI_ofNat n) dX3_read_6 ?_
    refine jz_icmp_ge (tgt := 16) C dX3_read_7 (by decide) (by omega) (fun h7 => ?_) (fun h7 => ?_)
    · exfalso; omega
    · skip
      refine lv_aload_n hx hb dX3_read_10 rfl (lv_at hl 0 rfl) ?_
      refine lv_iload_n hx hb dX3_read_11 rfl (lv_at hl 1 rfl) ?_
      refine va_iald hx hb hE.1 hP q 0 hq rfl (iI_in (by omega) hn) dX3_read_12 ?_
      rw [iI_clamp (by omega)]
      refine lv_goto (tgt := 17) hx hb dX3_read_13 (by decide) ?_
      exact hret _ _ dX3_read_17
abbrev rm_X3_write : Room := { frames := 0, cells := 0, slots := 0, locals := 0 }
set_option maxHeartbeats 4000000 in
set_option maxRecDepth 100000 in
theorem c_X3_write {l : Launch} {D : va_G} {cI cS : ClassId} {w : va_W} {A : Nat → Prop} (hD : va_D A w)  (i : Int) (v : Int) (q : Nat) (n : Nat) (f : Nat → Int) (b : Nat) (hq : w[q]? = some (b, .inl (cI, n, .inl (fun j => iI (f j))))) (hn : n < 2147483648) (hi : 0 ≤ i ∧ i < n): JV l yX3_write wsX3_write rm_X3_write (jB D cI cS w) A [.ref (b), .int (iI (i)), .int (iI (v))] (fun v9 (_ : Unit) => v9 = none) (fun _ H => va_P D vwCl (w.set q (b, .inl (cI, n, .inl (fun j => iI (u1 f (Int.toNat i) v j))))) H) := by
  refine JV.mkN rfl (by decide +kernel) rfl (Nat.le_of_ble_eq_true rfl) ?_
  intro p e st mi ar bl mth cd Q ls C hB hl hret
  obtain ⟨hE, hP⟩ := hB
  have hx := C.1
  have hb := C.2.1
  have hl : lv_has ls 3 [(0, .ref (b)), (1, .int (iI (i))), (2, .int (iI (v)))] := hl
  suffices hgo : ∀ (H : Heap) (lc : List Loc), va_P D vwCl w H → va_S A st.heap H lc → W p l e rm_X3_write st mi ar bl mth cd H lc 0 0 Q (F0 mi 0 ls []) from hgo _ _ hP va_S.rf
  clear hP
  intro H lc hP hS
  refine lv_iload_n hx hb dX3_write_0 rfl (lv_at hl 1 rfl) ?_
  refine jz_if_lt (tgt := 14) C dX3_write_1 (by decide) (by omega) (fun h1 => ?_) (fun h1 => ?_)
  · exfalso; omega
  · skip
    refine lv_iload_n hx hb dX3_write_4 rfl (lv_at hl 1 rfl) ?_
    refine lv_aload_n hx hb dX3_write_5 rfl (lv_at hl 0 rfl) ?_
    refine va_alen hx hb hE.1 hP q 0 hq rfl (v := iI n) (iI_ofNat n) dX3_write_6 ?_
    refine jz_icmp_ge (tgt := 14) C dX3_write_7 (by decide) (by omega) (fun h7 => ?_) (fun h7 => ?_)
    · exfalso; omega
    · skip
      refine lv_aload_n hx hb dX3_write_10 rfl (lv_at hl 0 rfl) ?_
      refine lv_iload_n hx hb dX3_write_11 rfl (lv_at hl 1 rfl) ?_
      refine lv_iload_n hx hb dX3_write_12 rfl (lv_at hl 2 rfl) ?_
      refine va_iast hx hb hE.1 hP hD hS q 0 hq rfl (iI_in (by omega) hn) dX3_write_13 (fun H lc hP _ hS => ?_)
      rw [iI_clamp (by omega), u1_upd] at hP
      exact hret () _ _ _ _ dX3_write_14 rfl hP hS
