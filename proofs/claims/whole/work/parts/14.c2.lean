abbrev rm_X2_hasCell : Room := { frames := 0, cells := 0, slots := 0, locals := 0 }
set_option maxHeartbeats 4000000 in
set_option maxRecDepth 100000 in
theorem c_X2_hasCell {l : Launch} {D : va_G} {cI cS : ClassId} {ad : Nat → Nat} {I R : Nat → Nat → Int}  (c : Int)  (hc : -2147483648 ≤ c ∧ c < 2147483648) (h1 : 0 ≤ I 5 12 ∧ I 5 12 ≤ 24): JS l yX2_hasCell wsX2_hasCell rm_X2_hasCell (jB D cI cS (wC cI cS ad I R)) [.ref (ad 5), .int (iI (c))] (.int (iI (if 0 ≤ c ∧ c < I 5 12 then 1 else 0))) := by
  refine JS.mkZ rfl (by decide +kernel) rfl (Nat.le_of_ble_eq_true rfl) (jz_nz _) ?_
  intro p e st mi ar bl mth cd Q ls C hB hl hret
  obtain ⟨hE, hP⟩ := hB
  have hx := C.1
  have hb := C.2.1
  have hl : lv_has ls 2 [(0, .ref (ad 5)), (1, .int (iI (c)))] := hl
  have hin2 : ∀ w ∈ wsX20, w ∈ wsX2_hasCell := fun _ h => List.mem_cons_of_mem _ (List.mem_append_right _ h)
  refine lv_iload_n hx hb dX2_hasCell_0 rfl (lv_at hl 1 rfl) ?_
  refine jz_if_lt (tgt := 16) C dX2_hasCell_1 (by decide) (by omega) (fun h1 => ?_) (fun h1 => ?_)
  · skip
    refine jz_const C dX2_hasCell_16 ?_
    exact jz_ret (show ((if 0 ≤ c ∧ c < I 5 12 then 1 else 0) : Int) = 0 from by first | rfl | omega | (rw [if_pos (by omega)]) | (rw [if_neg (by omega)]) | (simp [*]; done)) (hret _ _ dX2_hasCell_17)
  · skip
    refine lv_iload_n hx hb dX2_hasCell_4 rfl (lv_at hl 1 rfl) ?_
    refine lv_aload_n hx hb dX2_hasCell_5 rfl (lv_at hl 0 rfl) ?_
    refine fg_T_cells C hin2 hE hP (v := I 5 12) (List.mem_of_getElem? (i := 1) rfl) dX2_hasCell_6 rfl ?_
    refine jz_icmp_ge (tgt := 16) C dX2_hasCell_9 (by decide) (by omega) (fun h9 => ?_) (fun h9 => ?_)
    · skip
      refine jz_const C dX2_hasCell_16 ?_
      exact jz_ret (show ((if 0 ≤ c ∧ c < I 5 12 then 1 else 0) : Int) = 0 from by first | rfl | omega | (rw [if_pos (by omega)]) | (rw [if_neg (by omega)]) | (simp [*]; done)) (hret _ _ dX2_hasCell_17)
    · skip
      refine jz_const C dX2_hasCell_12 ?_
      refine lv_goto (tgt := 17) hx hb dX2_hasCell_13 (by decide) ?_
      exact jz_ret (show ((if 0 ≤ c ∧ c < I 5 12 then 1 else 0) : Int) = 1 from by first | rfl | omega | (rw [if_pos (by omega)]) | (rw [if_neg (by omega)]) | (simp [*]; done)) (hret _ _ dX2_hasCell_17)
abbrev rm_X2_hasWork : Room := { frames := 0, cells := 0, slots := 0, locals := 0 }
set_option maxHeartbeats 4000000 in
set_option maxRecDepth 100000 in
theorem c_X2_hasWork {l : Launch} {D : va_G} {cI cS : ClassId} {ad : Nat → Nat} {I R : Nat → Nat → Int}  (w : Int)  (hc : -2147483648 ≤ w ∧ w < 2147483648) (h1 : 0 ≤ I 5 13 ∧ I 5 13 ≤ 4): JS l yX2_hasWork wsX2_hasWork rm_X2_hasWork (jB D cI cS (wC cI cS ad I R)) [.ref (ad 5), .int (iI (w))] (.int (iI (if 0 ≤ w ∧ w < I 5 13 then 1 else 0))) := by
  refine JS.mkZ rfl (by decide +kernel) rfl (Nat.le_of_ble_eq_true rfl) (jz_nz _) ?_
  intro p e st mi ar bl mth cd Q ls C hB hl hret
  obtain ⟨hE, hP⟩ := hB
  have hx := C.1
  have hb := C.2.1
  have hl : lv_has ls 2 [(0, .ref (ad 5)), (1, .int (iI (w)))] := hl
  have hin2 : ∀ w ∈ wsX20, w ∈ wsX2_hasWork := fun _ h => List.mem_cons_of_mem _ (List.mem_append_right _ h)
  refine lv_iload_n hx hb dX2_hasWork_0 rfl (lv_at hl 1 rfl) ?_
  refine jz_if_lt (tgt := 16) C dX2_hasWork_1 (by decide) (by omega) (fun h1 => ?_) (fun h1 => ?_)
  · skip
    refine jz_const C dX2_hasWork_16 ?_
    exact jz_ret (show ((if 0 ≤ w ∧ w < I 5 13 then 1 else 0) : Int) = 0 from by first | rfl | omega | (rw [if_pos (by omega)]) | (rw [if_neg (by omega)]) | (simp [*]; done)) (hret _ _ dX2_hasWork_17)
  · skip
    refine lv_iload_n hx hb dX2_hasWork_4 rfl (lv_at hl 1 rfl) ?_
    refine lv_aload_n hx hb dX2_hasWork_5 rfl (lv_at hl 0 rfl) ?_
    refine fg_T_works C hin2 hE hP (v := I 5 13) (List.mem_of_getElem? (i := 1) rfl) dX2_hasWork_6 rfl ?_
    refine jz_icmp_ge (tgt := 16) C dX2_hasWork_9 (by decide) (by omega) (fun h9 => ?_) (fun h9 => ?_)
    · skip
      refine jz_const C dX2_hasWork_16 ?_
      exact jz_ret (show ((if 0 ≤ w ∧ w < I 5 13 then 1 else 0) : Int) = 0 from by first | rfl | omega | (rw [if_pos (by omega)]) | (rw [if_neg (by omega)]) | (simp [*]; done)) (hret _ _ dX2_hasWork_17)
    · skip
      refine jz_const C dX2_hasWork_12 ?_
      refine lv_goto (tgt := 17) hx hb dX2_hasWork_13 (by decide) ?_
      exact jz_ret (show ((if 0 ≤ w ∧ w < I 5 13 then 1 else 0) : Int) = 1 from by first | rfl | omega | (rw [if_pos (by omega)]) | (rw [if_neg (by omega)]) | (simp [*]; done)) (hret _ _ dX2_hasWork_17)
abbrev rm_X2_hasWard : Room := { frames := 0, cells := 0, slots := 0, locals := 0 }
set_option maxHeartbeats 4000000 in
set_option maxRecDepth 100000 in
theorem c_X2_hasWard {l : Launch} {D : va_G} {cI cS : ClassId} {ad : Nat → Nat} {I R : Nat → Nat → Int}  (k : Int)  (hc : -2147483648 ≤ k ∧ k < 2147483648) (h1 : 0 ≤ I 5 14 ∧ I 5 14 ≤ 6): JS l yX2_hasWard wsX2_hasWard rm_X2_hasWard (jB D cI cS (wC cI cS ad I R)) [.ref (ad 5), .int (iI (k))] (.int (iI (if 0 ≤ k ∧ k < I 5 14 then 1 else 0))) := by
  refine JS.mkZ rfl (by decide +kernel) rfl (Nat.le_of_ble_eq_true rfl) (jz_nz _) ?_
  intro p e st mi ar bl mth cd Q ls C hB hl hret
  obtain ⟨hE, hP⟩ := hB
  have hx := C.1
  have hb := C.2.1
  have hl : lv_has ls 2 [(0, .ref (ad 5)), (1, .int (iI (k)))] := hl
  have hin2 : ∀ w ∈ wsX20, w ∈ wsX2_hasWard := fun _ h => List.mem_cons_of_mem _ (List.mem_append_right _ h)
  refine lv_iload_n hx hb dX2_hasWard_0 rfl (lv_at hl 1 rfl) ?_
  refine jz_if_lt (tgt := 16) C dX2_hasWard_1 (by decide) (by omega) (fun h1 => ?_) (fun h1 => ?_)
  · skip
    refine jz_const C dX2_hasWard_16 ?_
    exact jz_ret (show ((if 0 ≤ k ∧ k < I 5 14 then 1 else 0) : Int) = 0 from by first | rfl | omega | (rw [if_pos (by omega)]) | (rw [if_neg (by omega)]) | (simp [*]; done)) (hret _ _ dX2_hasWard_17)
  · skip
    refine lv_iload_n hx hb dX2_hasWard_4 rfl (lv_at hl 1 rfl) ?_
    refine lv_aload_n hx hb dX2_hasWard_5 rfl (lv_at hl 0 rfl) ?_
    refine fg_T_wards C hin2 hE hP (v := I 5 14) (List.mem_of_getElem? (i := 1) rfl) dX2_hasWard_6 rfl ?_
    refine jz_icmp_ge (tgt := 16) C dX2_hasWard_9 (by decide) (by omega) (fun h9 => ?_) (fun h9 => ?_)
    · skip
      refine jz_const C dX2_hasWard_16 ?_
      exact jz_ret (show ((if 0 ≤ k ∧ k < I 5 14 then 1 else 0) : Int) = 0 from by first | rfl | omega | (rw [if_pos (by omega)]) | (rw [if_neg (by omega)]) | (simp [*]; done)) (hret _ _ dX2_hasWard_17)
    · skip
      refine jz_const C dX2_hasWard_12 ?_
      refine lv_goto (tgt := 17) hx hb dX2_hasWard_13 (by decide) ?_
      exact jz_ret (show ((if 0 ≤ k ∧ k < I 5 14 then 1 else 0) : Int) = 1 from by first | rfl | omega | (rw [if_pos (by omega)]) | (rw [if_neg (by omega)]) | (simp [*]; done)) (hret _ _ dX2_hasWard_17)
abbrev rm_X2_settingsInAll : Room := { frames := 0, cells := 0, slots := 0, locals := 0 }
set_option maxHeartbeats 4000000 in
set_option maxRecDepth 100000 in
theorem c_X2_settingsInAll {l : Launch} {D : va_G} {cI cS : ClassId} {ad : Nat → Nat} {I R : Nat → Nat → Int}    (h1 : 0 ≤ I 5 13 ∧ I 5 13 ≤ 4): JS l yX2_settingsInAll wsX2_settingsInAll rm_X2_settingsInAll (jB D cI cS (wC cI cS ad I R)) [.ref (ad 5)] (.int (iI (2 ^ (Int.toNat (2 * I 5 13))))) := by
  refine JS.mkI rfl (by decide +kernel) rfl (Nat.le_of_ble_eq_true rfl) ?_
  intro p e st mi ar bl mth cd Q ls C hB hl hret
  obtain ⟨hE, hP⟩ := hB
  have hx := C.1
  have hb := C.2.1
  have hl : lv_has ls 1 [(0, .ref (ad 5))] := hl
  have hin2 : ∀ w ∈ wsX20, w ∈ wsX2_settingsInAll := fun _ h => List.mem_cons_of_mem _ (List.mem_append_right _ h)
  refine jz_const C dX2_settingsInAll_0 ?_
  refine jz_const C dX2_settingsInAll_1 ?_
  refine lv_aload_n hx hb dX2_settingsInAll_2 rfl (lv_at hl 0 rfl) ?_
  refine fg_T_works C hin2 hE hP (v := I 5 13) (List.mem_of_getElem? (i := 1) rfl) dX2_settingsInAll_3 rfl ?_
  refine jz_imul C dX2_settingsInAll_6 ?_
  refine jz_ishl (k := (Int.toNat (2 * I 5 13))) C dX2_settingsInAll_7 ⟨by omega, by omega, by omega, by rcases (show I 5 13 = 0 ∨ I 5 13 = 1 ∨ I 5 13 = 2 ∨ I 5 13 = 3 ∨ I 5 13 = 4 by omega) with h | h | h | h | h <;> rw [h] <;> decide⟩ ?_
  exact jz_ret (show (2 ^ (Int.toNat (2 * I 5 13)) : Int) = 1 * 2 ^ (Int.toNat (2 * I 5 13)) from by rw [Int.one_mul]) (hret _ _ dX2_settingsInAll_8)
abbrev rm_X2_vaneIn : Room := { frames := 0, cells := 0, slots := 0, locals := 0 }
set_option maxHeartbeats 4000000 in
set_option maxRecDepth 100000 in
theorem c_X2_vaneIn {l : Launch} {D : va_G} {cI cS : ClassId} {ad : Nat → Nat} {I R : Nat → Nat → Int}  (s : Int) (w : Int)  (h1 : 0 ≤ I 5 13 ∧ I 5 13 ≤ 4) (hs : 0 ≤ s ∧ s < 256) (hw : 0 ≤ w ∧ w < I 5 13): JS l yX2_vaneIn wsX2_vaneIn rm_X2_vaneIn (jB D cI cS (wC cI cS ad I R)) [.ref (ad 5), .int (iI (s)), .int (iI (w))] (.int (iI (vz (I 5 13) s w))) := by
  refine JS.mkI rfl (by decide +kernel) rfl (Nat.le_of_ble_eq_true rfl) ?_
  intro p e st mi ar bl mth cd Q ls C hB hl hret
  obtain ⟨hE, hP⟩ := hB
  have hx := C.1
  have hb := C.2.1
  have hl : lv_has ls 3 [(0, .ref (ad 5)), (1, .int (iI (s))), (2, .int (iI (w)))] := hl
  have hin2 : ∀ w ∈ wsX20, w ∈ wsX2_vaneIn := fun _ h => List.mem_cons_of_mem _ (List.mem_append_right _ h)
  refine lv_iload_n hx hb dX2_vaneIn_0 rfl (lv_at hl 1 rfl) ?_
  refine jz_const C dX2_vaneIn_1 ?_
  refine lv_aload_n hx hb dX2_vaneIn_2 rfl (lv_at hl 0 rfl) ?_
  refine fg_T_works C hin2 hE hP (v := I 5 13) (List.mem_of_getElem? (i := 1) rfl) dX2_vaneIn_3 rfl ?_
  refine jz_const C dX2_vaneIn_6 ?_
  refine jz_isub C dX2_vaneIn_7 ?_
  refine lv_iload_n hx hb dX2_vaneIn_8 rfl (lv_at hl 2 rfl) ?_
  refine jz_isub C dX2_vaneIn_9 ?_
  refine jz_imul C dX2_vaneIn_10 ?_
  refine jz_ishr (k := (Int.toNat (2 * (I 5 13 - 1 - w)))) C dX2_vaneIn_11 (by omega) ?_
  refine jz_const C dX2_vaneIn_12 ?_
  refine jz_iand (k := 2) C dX2_vaneIn_13 (by decide +kernel) (by have h9 := Int.ediv_le_self (a := s) (2 ^ (Int.toNat (2 * (I 5 13 - 1 - w)))) hs.1; have h8 := Int.ediv_nonneg (a := s) (b := 2 ^ (Int.toNat (2 * (I 5 13 - 1 - w)))) hs.1 (Int.le_of_lt (Int.pow_pos (by decide))); omega) ?_
  exact jz_ret (show (vz (I 5 13) s w : Int) = (s / 2 ^ (Int.toNat (2 * (I 5 13 - 1 - w)))) % 2 ^ 2 from by rfl) (hret _ _ dX2_vaneIn_14)
abbrev rm_X2_turned : Room := { frames := 0, cells := 0, slots := 0, locals := 0 }
set_option maxHeartbeats 4000000 in
set_option maxRecDepth 100000 in
theorem c_X2_turned {l : Launch} {D : va_G} {cI cS : ClassId} {ad : Nat → Nat} {I R : Nat → Nat → Int}  (s : Int) (w : Int) (v : Int)  (h1 : 0 ≤ I 5 13 ∧ I 5 13 ≤ 4) (hs : 0 ≤ s ∧ s < 256) (hw : 0 ≤ w ∧ w < I 5 13) (hv : 0 ≤ v ∧ v < 4): JS l yX2_turned wsX2_turned rm_X2_turned (jB D cI cS (wC cI cS ad I R)) [.ref (ad 5), .int (iI (s)), .int (iI (w)), .int (iI (v))] (.int (iI (tz (I 5 13) s w v))) := by
  refine JS.mkI rfl (by decide +kernel) rfl (Nat.le_of_ble_eq_true rfl) ?_
  intro p e st mi ar bl mth cd Q ls C hB hl hret
  obtain ⟨hE, hP⟩ := hB
  have hx := C.1
  have hb := C.2.1
  have hl : lv_has ls 5 [(0, .ref (ad 5)), (1, .int (iI (s))), (2, .int (iI (w))), (3, .int (iI (v)))] := hl
  have hin2 : ∀ w ∈ wsX20, w ∈ wsX2_turned := fun _ h => List.mem_cons_of_mem _ (List.mem_append_right _ h)
  refine jz_const C dX2_turned_0 ?_
  refine lv_aload_n hx hb dX2_turned_1 rfl (lv_at hl 0 rfl) ?_
  refine fg_T_works C hin2 hE hP (v := I 5 13) (List.mem_of_getElem? (i := 1) rfl) dX2_turned_2 rfl ?_
  refine jz_const C dX2_turned_5 ?_
  refine jz_isub C dX2_turned_6 ?_
  refine lv_iload_n hx hb dX2_turned_7 rfl (lv_at hl 2 rfl) ?_
  refine jz_isub C dX2_turned_8 ?_
  refine jz_imul C dX2_turned_9 ?_
  refine lv_istore (lv' := [(4, .int (iI (2 * (((I 5 13) - 1) - w)))), (0, .ref (ad 5)), (1, .int (iI (s))), (2, .int (iI (w))), (3, .int (iI (v)))]) hx hb dX2_turned_10 hl (by decide) rfl (fun ls hl => ?_)
  refine lv_iload_n hx hb dX2_turned_12 rfl (lv_at hl 2 rfl) ?_
  refine jz_const C dX2_turned_13 ?_
  refine lv_iload hx hb dX2_turned_14 (lv_at hl 0 rfl) ?_
  refine lv_ishl hx hb dX2_turned_16 ?_
  refine jz_const C dX2_turned_17 ?_
  refine lv_ixor hx hb dX2_turned_18 ?_
  refine lv_iand hx hb dX2_turned_19 ?_
  refine lv_iload_n hx hb dX2_turned_20 rfl (lv_at hl 4 rfl) ?_
  refine lv_iload hx hb dX2_turned_21 (lv_at hl 0 rfl) ?_
  refine lv_ishl hx hb dX2_turned_23 ?_
  refine lv_ior hx hb dX2_turned_24 ?_
  exact jz_retx (show iI (tz (I 5 13) s w v) = ((iI (s)) &&& (((iI (3)) <<< ((iI (2 * (((I 5 13) - 1) - w))) &&& 31)) ^^^ (iI (-1)))) ||| ((iI (v)) <<< ((iI (2 * (((I 5 13) - 1) - w))) &&& 31)) from by 
      have h9 := jz_turned (Int.toNat (I 5 13 - 1 - w)) (by omega) (Int.toNat s) (by omega) (Int.toNat v) (by omega)
      rw [show ((Int.toNat s : Nat) : Int) = s by omega, show ((Int.toNat v : Nat) : Int) = v by omega, show (2 * ((Int.toNat (I 5 13 - 1 - w) : Nat) : Int)) = 2 * ((I 5 13 - 1) - w) by omega] at h9
      rw [h9]
      unfold tz vz
      rw [show Int.toNat (2 * (I 5 13 - 1 - w)) = 2 * Int.toNat (I 5 13 - 1 - w) by omega]) (hret _ _ dX2_turned_25)
abbrev rm_X2_factorOf : Room := { frames := 1, cells := 0, slots := 0, locals := 21 }
set_option maxHeartbeats 4000000 in
set_option maxRecDepth 100000 in
theorem c_X2_factorOf {l : Launch} {D : va_G} {cI cS : ClassId} {ad : Nat → Nat} {I R : Nat → Nat → Int}  (k : Int)  (hT : TI I R) (hk : 0 ≤ k ∧ k < 6): JS l yX2_factorOf wsX2_factorOf rm_X2_factorOf (jB D cI cS (wC cI cS ad I R)) [.ref (ad 5), .int (iI (k))] (.int (iI (fz (R 6 (Int.toNat k)) (R 7 (Int.toNat k))))) := by
  refine JS.mkI rfl (by decide +kernel) rfl (Nat.le_of_ble_eq_true rfl) ?_
  intro p e st mi ar bl mth cd Q ls C hB hl hret
  obtain ⟨hE, hP⟩ := hB
  have hx := C.1
  have hb := C.2.1
  have hl : lv_has ls 3 [(0, .ref (ad 5)), (1, .int (iI (k)))] := hl
  have hin2 : ∀ w ∈ wsX20, w ∈ wsX2_factorOf := fun _ h => List.mem_cons_of_mem _ (List.mem_append_right _ h)
  have h6 := hT.kind (Int.toNat k) (by omega)
  have h7 := hT.nose (Int.toNat k) (by omega)
  refine lv_aload_n hx hb dX2_factorOf_0 rfl (lv_at hl 0 rfl) ?_
  refine fg_T_noses C hin2 hE hP (List.mem_of_getElem? (i := 1) rfl) dX2_factorOf_1 ?_
  refine lv_iload_n hx hb dX2_factorOf_4 rfl (lv_at hl 1 rfl) ?_
  refine jc_N C hl.1 (jpreS hE hP) (c_X3_read k 7 6 (R 7) (ad 7) rfl (by decide) (show 0 ≤ k ∧ k < 6 from (by omega))) ⟨va_cnB 2 C.2.2.2.2 gX2_factorOf_X3_read_n88 rfl rfl rfl hE.2.2.2.2.1 (C.2.2.2.2 _ (List.mem_of_getElem? (i := 4) rfl)) (by decide +kernel) ⟨Nat.le_of_ble_eq_true rfl, Nat.le_of_ble_eq_true rfl⟩, C.2.2.2.2 _ (List.mem_of_getElem? (i := 3) rfl), trivial⟩ (As := [.ref (ad 7), .int (iI (k))]) (v := .int (iI (R 7 (Int.toNat k)))) (hn := rfl) (hst := rfl) (rest := []) (hW := Nat.le_of_ble_eq_true rfl) (hdg := dX2_factorOf_5) (hf := ⟨Nat.le_of_ble_eq_true rfl, Nat.le_of_ble_eq_true rfl⟩) ?_
  refine lv_istore_n (lv' := [(2, .int (iI (R 7 (Int.toNat k)))), (0, .ref (ad 5)), (1, .int (iI (k)))]) hx hb dX2_factorOf_8 rfl hl (by decide) rfl (fun ls hl => ?_)
  refine lv_aload_n hx hb dX2_factorOf_9 rfl (lv_at hl 1 rfl) ?_
  refine fg_T_kinds C hin2 hE hP (List.mem_of_getElem? (i := 2) rfl) dX2_factorOf_10 ?_
  refine lv_iload_n hx hb dX2_factorOf_13 rfl (lv_at hl 2 rfl) ?_
  refine jc_N C hl.1 (jpreS hE hP) (c_X3_read k 6 6 (R 6) (ad 6) rfl (by decide) (show 0 ≤ k ∧ k < 6 from (by omega))) ⟨va_cnB 2 C.2.2.2.2 gX2_factorOf_X3_read_n88 rfl rfl rfl hE.2.2.2.2.1 (C.2.2.2.2 _ (List.mem_of_getElem? (i := 4) rfl)) (by decide +kernel) ⟨Nat.le_of_ble_eq_true rfl, Nat.le_of_ble_eq_true rfl⟩, C.2.2.2.2 _ (List.mem_of_getElem? (i := 3) rfl), trivial⟩ (As := [.ref (ad 6), .int (iI (k))]) (v := .int (iI (R 6 (Int.toNat k)))) (hn := rfl) (hst := rfl) (rest := []) (hW := Nat.le_of_ble_eq_true rfl) (hdg := dX2_factorOf_14) (hf := ⟨Nat.le_of_ble_eq_true rfl, Nat.le_of_ble_eq_true rfl⟩) ?_
  refine jz_sub (P := R 6 (Int.toNat k) = 1) (fun h17_0 => ?_) (fun h17_0 => ?_)
  · refine jz_look (tgt := 50) C dX2_factorOf_17 (by decide) (by omega) (by first | (rw [h17_0]; done) | (rw [h17_0]; rfl)) (by decide) ?_
    refine lv_iload_n hx hb dX2_factorOf_50 rfl (lv_at hl 0 rfl) ?_
    refine jz_const C dX2_factorOf_51 ?_
    refine jz_iadd C dX2_factorOf_52 ?_
    exact jz_ret (show (fz (R 6 (Int.toNat k)) (R 7 (Int.toNat k)) : Int) = (R 7 (Int.toNat k)) + 1 from by unfold fz; rw [if_neg (by omega), if_pos h17_0]) (hret _ _ dX2_factorOf_53)
  refine jz_sub (P := R 6 (Int.toNat k) = 2) (fun h17_1 => ?_) (fun h17_1 => ?_)
  · refine jz_look (tgt := 44) C dX2_factorOf_17 (by decide) (by omega) (by first | (rw [h17_1]; done) | (rw [h17_1]; rfl)) (by decide) ?_
    refine jz_const C dX2_factorOf_44 ?_
    refine lv_iload_n hx hb dX2_factorOf_45 rfl (lv_at hl 0 rfl) ?_
    refine jz_const C dX2_factorOf_46 ?_
    refine jz_iadd C dX2_factorOf_47 ?_
    refine jz_imul C dX2_factorOf_48 ?_
    exact jz_ret (show (fz (R 6 (Int.toNat k)) (R 7 (Int.toNat k)) : Int) = 2 * ((R 7 (Int.toNat k)) + 1) from by unfold fz; rw [if_pos h17_1]) (hret _ _ dX2_factorOf_49)
  refine jz_look (tgt := 54) C dX2_factorOf_17 (by decide) (by omega) (by show Op.lookupswitch.offset [(1, 33), (2, 27)] (37) _ = 37; rw [Op.lookupswitch.offset_cons, if_neg (Ne.symm h17_0), Op.lookupswitch.offset_cons, if_neg (Ne.symm h17_1)]; rfl) (by decide) ?_
  refine lv_iload_n hx hb dX2_factorOf_54 rfl (lv_at hl 0 rfl) ?_
  exact jz_ret (show (fz (R 6 (Int.toNat k)) (R 7 (Int.toNat k)) : Int) = R 7 (Int.toNat k) from by unfold fz; rw [if_neg h17_1, if_neg h17_0]) (hret _ _ dX2_factorOf_55)
abbrev rm_X2_smellBy : Room := { frames := 1, cells := 0, slots := 0, locals := 24 }
set_option maxHeartbeats 4000000 in
set_option maxRecDepth 100000 in
theorem c_X2_smellBy {l : Launch} {D : va_G} {cI cS : ClassId} {ad : Nat → Nat} {I R : Nat → Nat → Int}  (s : Int) (c : Int)  (hT : TI I R) (hs : 0 ≤ s ∧ s < 256) (hc : 0 ≤ c ∧ c < 24): JS l yX2_smellBy wsX2_smellBy rm_X2_smellBy (jB D cI cS (wC cI cS ad I R)) [.ref (ad 5), .int (iI (s)), .int (iI (c))] (.int (iI (cs I R s c))) := by
  refine JS.mkI rfl (by decide +kernel) rfl (Nat.le_of_ble_eq_true rfl) ?_
  intro p e st mi ar bl mth cd Q ls C hB hl hret
  obtain ⟨hE, hP⟩ := hB
  have hx := C.1
  have hb := C.2.1
  have hl : lv_has ls 7 [(0, .ref (ad 5)), (1, .int (iI (s))), (2, .int (iI (c)))] := hl
  have hin2 : ∀ w ∈ wsX20, w ∈ wsX2_smellBy := fun _ h => List.mem_cons_of_mem _ (List.mem_append_right _ h)
  have hW := hT.works
  have hL := hT.law
  refine jz_const C dX2_smellBy_0 ?_
  refine lv_istore_n (lv' := [(3, .int (iI (0))), (0, .ref (ad 5)), (1, .int (iI (s))), (2, .int (iI (c)))]) hx hb dX2_smellBy_1 rfl hl (by decide) rfl (fun ls hl => ?_)
  refine jz_const C dX2_smellBy_2 ?_
  refine lv_istore (lv' := [(4, .int (iI (0))), (3, .int (iI (0))), (0, .ref (ad 5)), (1, .int (iI (s))), (2, .int (iI (c)))]) hx hb dX2_smellBy_3 hl (by decide) rfl (fun ls hl => ?_)
  have key5 : ∀ (n5 : Nat) (w : Nat) (hw : (w : Int) ≤ I 5 13), (I 5 13 - w : Int) < n5 → ∀ (ls : Array Slot), lv_has ls 7 [(4, .int (iI ((w : Int)))), (3, .int (iI (sm (I 5 15) (cz R (I 5 13) s c) w))), (0, .ref (ad 5)), (1, .int (iI (s))), (2, .int (iI (c)))] → W p l e rm_X2_smellBy st mi ar bl mth cd st.heap [] 0 0 Q (F0 mi 5 ls []) := by
    intro n5
    induction n5 with
    | zero => intro w hw hn9; exfalso; omega
    | succ n5 ih5 =>
      intro w hw hn9 ls hl
      refine lv_iload hx hb dX2_smellBy_5 (lv_at hl 0 rfl) ?_
      refine lv_aload_n hx hb dX2_smellBy_7 rfl (lv_at hl 2 rfl) ?_
      refine fg_T_works C hin2 hE hP (v := I 5 13) (List.mem_of_getElem? (i := 1) rfl) dX2_smellBy_8 rfl ?_
      refine jz_icmp_ge (tgt := 102) C dX2_smellBy_11 (by decide) (by omega) (fun h11 => ?_) (fun h11 => ?_)
      · skip
        refine lv_iload_n hx hb dX2_smellBy_102 rfl (lv_at hl 1 rfl) ?_
        exact jz_ret (show (cs I R s c : Int) = sm (I 5 15) (cz R (I 5 13) s c) w from by rw [show w = Int.toNat (I 5 13) by omega]; rfl) (hret _ _ dX2_smellBy_103)
      · skip
        have hw4 : w < 4 := by omega
        have hv := vz_bd (I 5 13) s w
        have h10 := hT.str w hw4
        have h13 := hT.dist (Int.toNat (((w : Int) * 4 + vz (I 5 13) s w) * 24 + c)) (by omega)
        have hsm := sm_bd (law := I 5 15) (f := cz R (I 5 13) s c) (n := w) (fun x hx => cz_bd hT hc (by omega))
        refine lv_iload hx hb dX2_smellBy_14 (lv_at hl 0 rfl) ?_
        refine lv_aload_n hx hb dX2_smellBy_16 rfl (lv_at hl 2 rfl) ?_
        refine lv_iload_n hx hb dX2_smellBy_17 rfl (lv_at hl 3 rfl) ?_
        refine lv_iload hx hb dX2_smellBy_18 (lv_at hl 0 rfl) ?_
        refine jc_V C hl.1 (jpreV hE hP 2 5 rfl rfl) (c_X2_vaneIn s (w : Int) hT.works (show 0 ≤ s ∧ s < 256 from (by omega)) (show 0 ≤ (w : Int) ∧ (w : Int) < I 5 13 from (by omega))) (cwV 2 C.2.2.2.2 gX2_smellBy_X2_vaneIn rfl rfl rfl (by decide +kernel) ⟨Nat.le_of_ble_eq_true rfl, Nat.le_of_ble_eq_true rfl⟩) (As := [.int (iI (s)), .int (iI ((w : Int)))]) (v := .int (iI (vz (I 5 13) s (w : Int)))) (hn := rfl) (hst := rfl) (rest := [.int (iI ((w : Int)))]) (hW := Nat.le_of_ble_eq_true rfl) (hdg := dX2_smellBy_20) (hf := ⟨Nat.le_of_ble_eq_true rfl, Nat.le_of_ble_eq_true rfl⟩) ?_
        refine jc_S C hl.1 (jpreS hE hP) (c_X2_wayIndex (w : Int) (vz (I 5 13) s (w : Int)) ) (va_cwS 2 C.2.2.2.2 gX2_smellBy_X2_wayIndex rfl rfl rfl (by decide +kernel) ⟨Nat.le_of_ble_eq_true rfl, Nat.le_of_ble_eq_true rfl⟩) (As := [.int (iI ((w : Int))), .int (iI (vz (I 5 13) s (w : Int)))]) (v := .int (iI (((w : Int) * 4 + (vz (I 5 13) s (w : Int))) * 24))) (hn := rfl) (hst := rfl) (rest := []) (hW := Nat.le_of_ble_eq_true rfl) (hdg := dX2_smellBy_23) (hf := ⟨Nat.le_of_ble_eq_true rfl, Nat.le_of_ble_eq_true rfl⟩) ?_
        refine lv_istore (lv' := [(5, .int (iI (((w : Int) * 4 + (vz (I 5 13) s (w : Int))) * 24))), (4, .int (iI ((w : Int)))), (3, .int (iI (sm (I 5 15) (cz R (I 5 13) s c) w))), (0, .ref (ad 5)), (1, .int (iI (s))), (2, .int (iI (c)))]) hx hb dX2_smellBy_26 hl (by decide) rfl (fun ls hl => ?_)
        refine jz_const C dX2_smellBy_28 ?_
        refine lv_aload_n hx hb dX2_smellBy_29 rfl (lv_at hl 3 rfl) ?_
        refine fg_T_strengths C hin2 hE hP (List.mem_of_getElem? (i := 2) rfl) dX2_smellBy_30 ?_
        refine lv_iload hx hb dX2_smellBy_33 (lv_at hl 1 rfl) ?_
        refine jc_N C hl.1 (jpreS hE hP) (c_X3_read (w : Int) 10 4 (R 10) (ad 10) rfl (by decide) (show 0 ≤ (w : Int) ∧ (w : Int) < 4 from (by omega))) ⟨va_cnB 2 C.2.2.2.2 gX2_smellBy_X3_read_n88 rfl rfl rfl hE.2.2.2.2.1 (C.2.2.2.2 _ (List.mem_of_getElem? (i := 21) rfl)) (by decide +kernel) ⟨Nat.le_of_ble_eq_true rfl, Nat.le_of_ble_eq_true rfl⟩, C.2.2.2.2 _ (List.mem_of_getElem? (i := 20) rfl), trivial⟩ (As := [.ref (ad 10), .int (iI ((w : Int)))]) (v := .int (iI (R 10 w))) (hn := rfl) (hst := rfl) (rest := [.int (iI (0))]) (hW := Nat.le_of_ble_eq_true rfl) (hdg := dX2_smellBy_35) (hf := ⟨Nat.le_of_ble_eq_true rfl, Nat.le_of_ble_eq_true rfl⟩) ?_
        refine lv_aload_n hx hb dX2_smellBy_38 rfl (lv_at hl 3 rfl) ?_
        refine fg_T_distances C hin2 hE hP (List.mem_of_getElem? (i := 3) rfl) dX2_smellBy_39 ?_
        refine lv_iload hx hb dX2_smellBy_42 (lv_at hl 0 rfl) ?_
        refine lv_iload_n hx hb dX2_smellBy_44 rfl (lv_at hl 5 rfl) ?_
        refine jz_iadd C dX2_smellBy_45 ?_
        refine jc_N C hl.1 (jpreS hE hP) (c_X3_read ((((w : Int) * 4 + (vz (I 5 13) s (w : Int))) * 24) + c) 13 384 (R 13) (ad 13) rfl (by decide) (show 0 ≤ ((((w : Int) * 4 + (vz (I 5 13) s (w : Int))) * 24) + c) ∧ ((((w : Int) * 4 + (vz (I 5 13) s (w : Int))) * 24) + c) < 384 from (by omega))) ⟨va_cnB 2 C.2.2.2.2 gX2_smellBy_X3_read_n88 rfl rfl rfl hE.2.2.2.2.1 (C.2.2.2.2 _ (List.mem_of_getElem? (i := 21) rfl)) (by decide +kernel) ⟨Nat.le_of_ble_eq_true rfl, Nat.le_of_ble_eq_true rfl⟩, C.2.2.2.2 _ (List.mem_of_getElem? (i := 20) rfl), trivial⟩ (As := [.ref (ad 13), .int (iI ((((w : Int) * 4 + (vz (I 5 13) s (w : Int))) * 24) + c))]) (v := .int (iI (R 13 (Int.toNat ((((w : Int) * 4 + (vz (I 5 13) s (w : Int))) * 24) + c))))) (hn := rfl) (hst := rfl) (rest := [.int (iI (R 10 w)), .int (iI (0))]) (hW := Nat.le_of_ble_eq_true rfl) (hdg := dX2_smellBy_46) (hf := ⟨Nat.le_of_ble_eq_true rfl, Nat.le_of_ble_eq_true rfl⟩) ?_
        refine jz_isub C dX2_smellBy_49 ?_
        refine jm_max C hl.1 (C.2.2.2.2 _ (List.mem_of_getElem? (i := 4) rfl)) (C.2.2.2.2 _ (List.mem_of_getElem? (i := 5) rfl)) (C.2.2.2.2 _ (List.mem_of_getElem? (i := 6) rfl)) (C.2.2.2.2 _ (List.mem_of_getElem? (i := 7) rfl)) (Nat.le_of_ble_eq_true rfl) (Nat.le_of_ble_eq_true rfl) ⟨Nat.le_of_ble_eq_true rfl, Nat.le_of_ble_eq_true rfl⟩ dX2_smellBy_50 (by omega) ?_
        refine lv_istore (lv' := [(6, .int (iI ((if 0 < (R 10 w) - (R 13 (Int.toNat ((((w : Int) * 4 + (vz (I 5 13) s (w : Int))) * 24) + c))) then (R 10 w) - (R 13 (Int.toNat ((((w : Int) * 4 + (vz (I 5 13) s (w : Int))) * 24) + c))) else 0)))), (5, .int (iI (((w : Int) * 4 + (vz (I 5 13) s (w : Int))) * 24))), (4, .int (iI ((w : Int)))), (3, .int (iI (sm (I 5 15) (cz R (I 5 13) s c) w))), (0, .ref (ad 5)), (1, .int (iI (s))), (2, .int (iI (c)))]) hx hb dX2_smellBy_53 hl (by decide) rfl (fun ls hl => ?_)
        refine lv_aload_n hx hb dX2_smellBy_55 rfl (lv_at hl 4 rfl) ?_
        refine fg_T_lawNow C hin2 hE hP (v := I 5 15) (List.mem_of_getElem? (i := 8) rfl) dX2_smellBy_56 rfl ?_
        refine jz_if_ne (tgt := 70) C dX2_smellBy_59 (by decide) (by omega) (fun h59 => ?_) (fun h59 => ?_)
        · skip
          refine lv_aload_n hx hb dX2_smellBy_70 rfl (lv_at hl 4 rfl) ?_
          refine fg_T_lawNow C hin2 hE hP (v := I 5 15) (List.mem_of_getElem? (i := 8) rfl) dX2_smellBy_71 rfl ?_
          refine jz_const C dX2_smellBy_74 ?_
          refine jz_icmp_ne (tgt := 88) C dX2_smellBy_75 (by decide) (by omega) (fun h75 => ?_) (fun h75 => ?_)
          · skip
            refine lv_iload_n hx hb dX2_smellBy_88 rfl (lv_at hl 3 rfl) ?_
            refine lv_iload hx hb dX2_smellBy_89 (lv_at hl 0 rfl) ?_
            refine jz_isub C dX2_smellBy_91 ?_
            refine jm_abs C hl.1 (C.2.2.2.2 _ (List.mem_of_getElem? (i := 9) rfl)) (C.2.2.2.2 _ (List.mem_of_getElem? (i := 10) rfl)) (C.2.2.2.2 _ (List.mem_of_getElem? (i := 6) rfl)) (C.2.2.2.2 _ (List.mem_of_getElem? (i := 11) rfl)) (Nat.le_of_ble_eq_true rfl) (Nat.le_of_ble_eq_true rfl) ⟨Nat.le_of_ble_eq_true rfl, Nat.le_of_ble_eq_true rfl⟩ dX2_smellBy_92 (by omega) ?_
            refine lv_istore_n (lv' := [(3, .int (iI ((if 0 ≤ (sm (I 5 15) (cz R (I 5 13) s c) w) - (if 0 < (R 10 w) - (R 13 (Int.toNat ((((w : Int) * 4 + (vz (I 5 13) s (w : Int))) * 24) + c))) then (R 10 w) - (R 13 (Int.toNat ((((w : Int) * 4 + (vz (I 5 13) s (w : Int))) * 24) + c))) else 0) then (sm (I 5 15) (cz R (I 5 13) s c) w) - (if 0 < (R 10 w) - (R 13 (Int.toNat ((((w : Int) * 4 + (vz (I 5 13) s (w : Int))) * 24) + c))) then (R 10 w) - (R 13 (Int.toNat ((((w : Int) * 4 + (vz (I 5 13) s (w : Int))) * 24) + c))) else 0) else 0 - ((sm (I 5 15) (cz R (I 5 13) s c) w) - (if 0 < (R 10 w) - (R 13 (Int.toNat ((((w : Int) * 4 + (vz (I 5 13) s (w : Int))) * 24) + c))) then (R 10 w) - (R 13 (Int.toNat ((((w : Int) * 4 + (vz (I 5 13) s (w : Int))) * 24) + c))) else 0)))))), (6, .int (iI ((if 0 < (R 10 w) - (R 13 (Int.toNat ((((w : Int) * 4 + (vz (I 5 13) s (w : Int))) * 24) + c))) then (R 10 w) - (R 13 (Int.toNat ((((w : Int) * 4 + (vz (I 5 13) s (w : Int))) * 24) + c))) else 0)))), (5, .int (iI (((w : Int) * 4 + (vz (I 5 13) s (w : Int))) * 24))), (4, .int (iI ((w : Int)))), (0, .ref (ad 5)), (1, .int (iI (s))), (2, .int (iI (c)))]) hx hb dX2_smellBy_95 rfl hl (by decide) rfl (fun ls hl => ?_)
            refine jz_iinc (k := 3) (z := (w : Int) + 1) (lv' := [(4, .int (iI ((w : Int) + 1))), (3, .int (iI ((if 0 ≤ (sm (I 5 15) (cz R (I 5 13) s c) w) - (if 0 < (R 10 w) - (R 13 (Int.toNat ((((w : Int) * 4 + (vz (I 5 13) s (w : Int))) * 24) + c))) then (R 10 w) - (R 13 (Int.toNat ((((w : Int) * 4 + (vz (I 5 13) s (w : Int))) * 24) + c))) else 0) then (sm (I 5 15) (cz R (I 5 13) s c) w) - (if 0 < (R 10 w) - (R 13 (Int.toNat ((((w : Int) * 4 + (vz (I 5 13) s (w : Int))) * 24) + c))) then (R 10 w) - (R 13 (Int.toNat ((((w : Int) * 4 + (vz (I 5 13) s (w : Int))) * 24) + c))) else 0) else 0 - ((sm (I 5 15) (cz R (I 5 13) s c) w) - (if 0 < (R 10 w) - (R 13 (Int.toNat ((((w : Int) * 4 + (vz (I 5 13) s (w : Int))) * 24) + c))) then (R 10 w) - (R 13 (Int.toNat ((((w : Int) * 4 + (vz (I 5 13) s (w : Int))) * 24) + c))) else 0)))))), (6, .int (iI ((if 0 < (R 10 w) - (R 13 (Int.toNat ((((w : Int) * 4 + (vz (I 5 13) s (w : Int))) * 24) + c))) then (R 10 w) - (R 13 (Int.toNat ((((w : Int) * 4 + (vz (I 5 13) s (w : Int))) * 24) + c))) else 0)))), (5, .int (iI (((w : Int) * 4 + (vz (I 5 13) s (w : Int))) * 24))), (0, .ref (ad 5)), (1, .int (iI (s))), (2, .int (iI (c)))]) C dX2_smellBy_96 hl rfl rfl (by decide) rfl (fun ls hl => ?_)
            refine lv_goto (tgt := 5) hx hb dX2_smellBy_99 (by decide) ?_
            have hl9 : lv_has ls 7 [(4, .int (iI ((w + 1 : Int)))), (3, .int (iI (sm (I 5 15) (cz R (I 5 13) s c) (w + 1)))), (0, .ref (ad 5)), (1, .int (iI (s))), (2, .int (iI (c)))] := by
              rw [show (sm (I 5 15) (cz R (I 5 13) s c) (w + 1) : Int) = (if 0 ≤ (sm (I 5 15) (cz R (I 5 13) s c) w) - (if 0 < (R 10 w) - (R 13 (Int.toNat ((((w : Int) * 4 + (vz (I 5 13) s (w : Int))) * 24) + c))) then (R 10 w) - (R 13 (Int.toNat ((((w : Int) * 4 + (vz (I 5 13) s (w : Int))) * 24) + c))) else 0) then (sm (I 5 15) (cz R (I 5 13) s c) w) - (if 0 < (R 10 w) - (R 13 (Int.toNat ((((w : Int) * 4 + (vz (I 5 13) s (w : Int))) * 24) + c))) then (R 10 w) - (R 13 (Int.toNat ((((w : Int) * 4 + (vz (I 5 13) s (w : Int))) * 24) + c))) else 0) else 0 - ((sm (I 5 15) (cz R (I 5 13) s c) w) - (if 0 < (R 10 w) - (R 13 (Int.toNat ((((w : Int) * 4 + (vz (I 5 13) s (w : Int))) * 24) + c))) then (R 10 w) - (R 13 (Int.toNat ((((w : Int) * 4 + (vz (I 5 13) s (w : Int))) * 24) + c))) else 0))) from by first | exact opz_0 h59 | exact opz_1 h75 | exact opz_2 h59 h75]
              exact lv_sub hl [0, 1, 4, 5, 6] rfl
            exact ih5 (w + 1) (by omega) (by omega) ls hl9
          · skip
            refine lv_iload_n hx hb dX2_smellBy_78 rfl (lv_at hl 3 rfl) ?_
            refine lv_iload hx hb dX2_smellBy_79 (lv_at hl 0 rfl) ?_
            refine jm_max C hl.1 (C.2.2.2.2 _ (List.mem_of_getElem? (i := 4) rfl)) (C.2.2.2.2 _ (List.mem_of_getElem? (i := 5) rfl)) (C.2.2.2.2 _ (List.mem_of_getElem? (i := 6) rfl)) (C.2.2.2.2 _ (List.mem_of_getElem? (i := 7) rfl)) (Nat.le_of_ble_eq_true rfl) (Nat.le_of_ble_eq_true rfl) ⟨Nat.le_of_ble_eq_true rfl, Nat.le_of_ble_eq_true rfl⟩ dX2_smellBy_81 (by omega) ?_
            refine lv_istore_n (lv' := [(3, .int (iI ((if sm (I 5 15) (cz R (I 5 13) s c) w < (if 0 < (R 10 w) - (R 13 (Int.toNat ((((w : Int) * 4 + (vz (I 5 13) s (w : Int))) * 24) + c))) then (R 10 w) - (R 13 (Int.toNat ((((w : Int) * 4 + (vz (I 5 13) s (w : Int))) * 24) + c))) else 0) then (if 0 < (R 10 w) - (R 13 (Int.toNat ((((w : Int) * 4 + (vz (I 5 13) s (w : Int))) * 24) + c))) then (R 10 w) - (R 13 (Int.toNat ((((w : Int) * 4 + (vz (I 5 13) s (w : Int))) * 24) + c))) else 0) else sm (I 5 15) (cz R (I 5 13) s c) w)))), (6, .int (iI ((if 0 < (R 10 w) - (R 13 (Int.toNat ((((w : Int) * 4 + (vz (I 5 13) s (w : Int))) * 24) + c))) then (R 10 w) - (R 13 (Int.toNat ((((w : Int) * 4 + (vz (I 5 13) s (w : Int))) * 24) + c))) else 0)))), (5, .int (iI (((w : Int) * 4 + (vz (I 5 13) s (w : Int))) * 24))), (4, .int (iI ((w : Int)))), (0, .ref (ad 5)), (1, .int (iI (s))), (2, .int (iI (c)))]) hx hb dX2_smellBy_84 rfl hl (by decide) rfl (fun ls hl => ?_)
            refine lv_goto (tgt := 96) hx hb dX2_smellBy_85 (by decide) ?_
            refine jz_iinc (k := 3) (z := (w : Int) + 1) (lv' := [(4, .int (iI ((w : Int) + 1))), (3, .int (iI ((if sm (I 5 15) (cz R (I 5 13) s c) w < (if 0 < (R 10 w) - (R 13 (Int.toNat ((((w : Int) * 4 + (vz (I 5 13) s (w : Int))) * 24) + c))) then (R 10 w) - (R 13 (Int.toNat ((((w : Int) * 4 + (vz (I 5 13) s (w : Int))) * 24) + c))) else 0) then (if 0 < (R 10 w) - (R 13 (Int.toNat ((((w : Int) * 4 + (vz (I 5 13) s (w : Int))) * 24) + c))) then (R 10 w) - (R 13 (Int.toNat ((((w : Int) * 4 + (vz (I 5 13) s (w : Int))) * 24) + c))) else 0) else sm (I 5 15) (cz R (I 5 13) s c) w)))), (6, .int (iI ((if 0 < (R 10 w) - (R 13 (Int.toNat ((((w : Int) * 4 + (vz (I 5 13) s (w : Int))) * 24) + c))) then (R 10 w) - (R 13 (Int.toNat ((((w : Int) * 4 + (vz (I 5 13) s (w : Int))) * 24) + c))) else 0)))), (5, .int (iI (((w : Int) * 4 + (vz (I 5 13) s (w : Int))) * 24))), (0, .ref (ad 5)), (1, .int (iI (s))), (2, .int (iI (c)))]) C dX2_smellBy_96 hl rfl rfl (by decide) rfl (fun ls hl => ?_)
            refine lv_goto (tgt := 5) hx hb dX2_smellBy_99 (by decide) ?_
            have hl9 : lv_has ls 7 [(4, .int (iI ((w + 1 : Int)))), (3, .int (iI (sm (I 5 15) (cz R (I 5 13) s c) (w + 1)))), (0, .ref (ad 5)), (1, .int (iI (s))), (2, .int (iI (c)))] := by
              rw [show (sm (I 5 15) (cz R (I 5 13) s c) (w + 1) : Int) = (if sm (I 5 15) (cz R (I 5 13) s c) w < (if 0 < (R 10 w) - (R 13 (Int.toNat ((((w : Int) * 4 + (vz (I 5 13) s (w : Int))) * 24) + c))) then (R 10 w) - (R 13 (Int.toNat ((((w : Int) * 4 + (vz (I 5 13) s (w : Int))) * 24) + c))) else 0) then (if 0 < (R 10 w) - (R 13 (Int.toNat ((((w : Int) * 4 + (vz (I 5 13) s (w : Int))) * 24) + c))) then (R 10 w) - (R 13 (Int.toNat ((((w : Int) * 4 + (vz (I 5 13) s (w : Int))) * 24) + c))) else 0) else sm (I 5 15) (cz R (I 5 13) s c) w) from by first | exact opz_0 h59 | exact opz_1 h75 | exact opz_2 h59 h75]
              exact lv_sub hl [0, 1, 4, 5, 6] rfl
            exact ih5 (w + 1) (by omega) (by omega) ls hl9
        · skip
          refine lv_iload_n hx hb dX2_smellBy_62 rfl (lv_at hl 3 rfl) ?_
          refine lv_iload hx hb dX2_smellBy_63 (lv_at hl 0 rfl) ?_
          refine jz_iadd C dX2_smellBy_65 ?_
          refine lv_istore_n (lv' := [(3, .int (iI ((sm (I 5 15) (cz R (I 5 13) s c) w) + (if 0 < (R 10 w) - (R 13 (Int.toNat ((((w : Int) * 4 + (vz (I 5 13) s (w : Int))) * 24) + c))) then (R 10 w) - (R 13 (Int.toNat ((((w : Int) * 4 + (vz (I 5 13) s (w : Int))) * 24) + c))) else 0)))), (6, .int (iI ((if 0 < (R 10 w) - (R 13 (Int.toNat ((((w : Int) * 4 + (vz (I 5 13) s (w : Int))) * 24) + c))) then (R 10 w) - (R 13 (Int.toNat ((((w : Int) * 4 + (vz (I 5 13) s (w : Int))) * 24) + c))) else 0)))), (5, .int (iI (((w : Int) * 4 + (vz (I 5 13) s (w : Int))) * 24))), (4, .int (iI ((w : Int)))), (0, .ref (ad 5)), (1, .int (iI (s))), (2, .int (iI (c)))]) hx hb dX2_smellBy_66 rfl hl (by decide) rfl (fun ls hl => ?_)
          refine lv_goto (tgt := 96) hx hb dX2_smellBy_67 (by decide) ?_
          refine jz_iinc (k := 3) (z := (w : Int) + 1) (lv' := [(4, .int (iI ((w : Int) + 1))), (3, .int (iI ((sm (I 5 15) (cz R (I 5 13) s c) w) + (if 0 < (R 10 w) - (R 13 (Int.toNat ((((w : Int) * 4 + (vz (I 5 13) s (w : Int))) * 24) + c))) then (R 10 w) - (R 13 (Int.toNat ((((w : Int) * 4 + (vz (I 5 13) s (w : Int))) * 24) + c))) else 0)))), (6, .int (iI ((if 0 < (R 10 w) - (R 13 (Int.toNat ((((w : Int) * 4 + (vz (I 5 13) s (w : Int))) * 24) + c))) then (R 10 w) - (R 13 (Int.toNat ((((w : Int) * 4 + (vz (I 5 13) s (w : Int))) * 24) + c))) else 0)))), (5, .int (iI (((w : Int) * 4 + (vz (I 5 13) s (w : Int))) * 24))), (0, .ref (ad 5)), (1, .int (iI (s))), (2, .int (iI (c)))]) C dX2_smellBy_96 hl rfl rfl (by decide) rfl (fun ls hl => ?_)
          refine lv_goto (tgt := 5) hx hb dX2_smellBy_99 (by decide) ?_
          have hl9 : lv_has ls 7 [(4, .int (iI ((w + 1 : Int)))), (3, .int (iI (sm (I 5 15) (cz R (I 5 13) s c) (w + 1)))), (0, .ref (ad 5)), (1, .int (iI (s))), (2, .int (iI (c)))] := by
            rw [show (sm (I 5 15) (cz R (I 5 13) s c) (w + 1) : Int) = (sm (I 5 15) (cz R (I 5 13) s c) w) + (if 0 < (R 10 w) - (R 13 (Int.toNat ((((w : Int) * 4 + (vz (I 5 13) s (w : Int))) * 24) + c))) then (R 10 w) - (R 13 (Int.toNat ((((w : Int) * 4 + (vz (I 5 13) s (w : Int))) * 24) + c))) else 0) from by first | exact opz_0 h59 | exact opz_1 h75 | exact opz_2 h59 h75]
            exact lv_sub hl [0, 1, 4, 5, 6] rfl
          exact ih5 (w + 1) (by omega) (by omega) ls hl9
  exact key5 (Int.toNat (I 5 13 - 0) + 1) 0 (by omega) (by omega) ls (lv_sub hl [0, 1, 2, 3, 4] rfl)
abbrev rm_X2_mindedBy : Room := { frames := 2, cells := 0, slots := 0, locals := 50 }
set_option maxHeartbeats 4000000 in
set_option maxRecDepth 100000 in
theorem c_X2_mindedBy {l : Launch} {D : va_G} {cI cS : ClassId} {ad : Nat → Nat} {I R : Nat → Nat → Int}  (s : Int) (k : Int)  (hT : TI I R) (hs : 0 ≤ s ∧ s < 256) (hk : 0 ≤ k ∧ k < 6): JS l yX2_mindedBy wsX2_mindedBy rm_X2_mindedBy (jB D cI cS (wC cI cS ad I R)) [.ref (ad 5), .int (iI (s)), .int (iI (k))] (.int (iI (mz I R s (Int.toNat k)))) := by
  refine JS.mkI rfl (by decide +kernel) rfl (Nat.le_of_ble_eq_true rfl) ?_
  intro p e st mi ar bl mth cd Q ls C hB hl hret
  obtain ⟨hE, hP⟩ := hB
  have hx := C.1
  have hb := C.2.1
  have hl : lv_has ls 3 [(0, .ref (ad 5)), (1, .int (iI (s))), (2, .int (iI (k)))] := hl
  have hin2 : ∀ w ∈ wsX20, w ∈ wsX2_mindedBy := fun _ h => List.mem_cons_of_mem _ (List.mem_append_right _ h)
  have h8 := hT.wcell (Int.toNat k) (by omega)
  refine lv_aload_n hx hb dX2_mindedBy_0 rfl (lv_at hl 0 rfl) ?_
  refine lv_iload_n hx hb dX2_mindedBy_1 rfl (lv_at hl 2 rfl) ?_
  refine jc_V C hl.1 (jpreV hE hP 2 5 rfl rfl) (c_X2_factorOf k hT (show 0 ≤ k ∧ k < 6 from (by omega))) (cwV 1 C.2.2.2.2 gX2_mindedBy_X2_factorOf rfl rfl rfl (by decide +kernel) ⟨Nat.le_of_ble_eq_true rfl, Nat.le_of_ble_eq_true rfl⟩) (As := [.int (iI (k))]) (v := .int (iI (fz (R 6 (Int.toNat k)) (R 7 (Int.toNat k))))) (hn := rfl) (hst := rfl) (rest := []) (hW := Nat.le_of_ble_eq_true rfl) (hdg := dX2_mindedBy_2) (hf := ⟨Nat.le_of_ble_eq_true rfl, Nat.le_of_ble_eq_true rfl⟩) ?_
  refine lv_aload_n hx hb dX2_mindedBy_5 rfl (lv_at hl 0 rfl) ?_
  refine lv_iload_n hx hb dX2_mindedBy_6 rfl (lv_at hl 1 rfl) ?_
  refine lv_aload_n hx hb dX2_mindedBy_7 rfl (lv_at hl 0 rfl) ?_
  refine fg_T_wardCells C hin2 hE hP (List.mem_of_getElem? (i := 1) rfl) dX2_mindedBy_8 ?_
  refine lv_iload_n hx hb dX2_mindedBy_11 rfl (lv_at hl 2 rfl) ?_
  refine jc_N C hl.1 (jpreS hE hP) (c_X3_read k 8 6 (R 8) (ad 8) rfl (by decide) (show 0 ≤ k ∧ k < 6 from (by omega))) ⟨va_cnB 2 C.2.2.2.2 gX2_mindedBy_X3_read_n88 rfl rfl rfl hE.2.2.2.2.1 (C.2.2.2.2 _ (List.mem_of_getElem? (i := 10) rfl)) (by decide +kernel) ⟨Nat.le_of_ble_eq_true rfl, Nat.le_of_ble_eq_true rfl⟩, C.2.2.2.2 _ (List.mem_of_getElem? (i := 9) rfl), trivial⟩ (As := [.ref (ad 8), .int (iI (k))]) (v := .int (iI (R 8 (Int.toNat k)))) (hn := rfl) (hst := rfl) (rest := [.int (iI (s)), .ref (ad 5), .int (iI (fz (R 6 (Int.toNat k)) (R 7 (Int.toNat k))))]) (hW := Nat.le_of_ble_eq_true rfl) (hdg := dX2_mindedBy_12) (hf := ⟨Nat.le_of_ble_eq_true rfl, Nat.le_of_ble_eq_true rfl⟩) ?_
  refine jc_V C hl.1 (jpreV hE hP 2 5 rfl rfl) (c_X2_smellBy s (R 8 (Int.toNat k)) hT (show 0 ≤ s ∧ s < 256 from (by omega)) (show 0 ≤ (R 8 (Int.toNat k)) ∧ (R 8 (Int.toNat k)) < 24 from (by omega))) (cwV 2 C.2.2.2.2 gX2_mindedBy_X2_smellBy rfl rfl rfl (by decide +kernel) ⟨Nat.le_of_ble_eq_true rfl, Nat.le_of_ble_eq_true rfl⟩) (As := [.int (iI (s)), .int (iI (R 8 (Int.toNat k)))]) (v := .int (iI (cs I R s (R 8 (Int.toNat k))))) (hn := rfl) (hst := rfl) (rest := [.int (iI (fz (R 6 (Int.toNat k)) (R 7 (Int.toNat k))))]) (hW := Nat.le_of_ble_eq_true rfl) (hdg := dX2_mindedBy_15) (hf := ⟨Nat.le_of_ble_eq_true rfl, Nat.le_of_ble_eq_true rfl⟩) ?_
  refine jz_imul C dX2_mindedBy_18 ?_
  exact jz_ret (show (mz I R s (Int.toNat k) : Int) = (fz (R 6 (Int.toNat k)) (R 7 (Int.toNat k))) * (cs I R s (R 8 (Int.toNat k))) from by rfl) (hret _ _ dX2_mindedBy_19)
abbrev rm_X2_burdenBy : Room := { frames := 3, cells := 0, slots := 0, locals := 72 }
set_option maxHeartbeats 4000000 in
set_option maxRecDepth 100000 in
theorem c_X2_burdenBy {l : Launch} {D : va_G} {cI cS : ClassId} {ad : Nat → Nat} {I R : Nat → Nat → Int}  (s : Int)  (hT : TI I R) (hs : 0 ≤ s ∧ s < 256): JS l yX2_burdenBy wsX2_burdenBy rm_X2_burdenBy (jB D cI cS (wC cI cS ad I R)) [.ref (ad 5), .int (iI (s))] (.int (iI (su (mz I R s) (Int.toNat (I 5 14))))) := by
  refine JS.mkI rfl (by decide +kernel) rfl (Nat.le_of_ble_eq_true rfl) ?_
  intro p e st mi ar bl mth cd Q ls C hB hl hret
  obtain ⟨hE, hP⟩ := hB
  have hx := C.1
  have hb := C.2.1
  have hl : lv_has ls 4 [(0, .ref (ad 5)), (1, .int (iI (s)))] := hl
  have hin2 : ∀ w ∈ wsX20, w ∈ wsX2_burdenBy := fun _ h => List.mem_cons_of_mem _ (List.mem_append_right _ h)
  have hW := hT.wards
  refine jz_const C dX2_burdenBy_0 ?_
  refine lv_istore_n (lv' := [(2, .int (iI (0))), (0, .ref (ad 5)), (1, .int (iI (s)))]) hx hb dX2_burdenBy_1 rfl hl (by decide) rfl (fun ls hl => ?_)
  refine jz_const C dX2_burdenBy_2 ?_
  refine lv_istore_n (lv' := [(3, .int (iI (0))), (2, .int (iI (0))), (0, .ref (ad 5)), (1, .int (iI (s)))]) hx hb dX2_burdenBy_3 rfl hl (by decide) rfl (fun ls hl => ?_)
  have key4 : ∀ (n4 : Nat) (k : Nat) (hk : (k : Int) ≤ I 5 14), (I 5 14 - k : Int) < n4 → ∀ (ls : Array Slot), lv_has ls 4 [(3, .int (iI ((k : Int)))), (2, .int (iI (su (mz I R s) k))), (0, .ref (ad 5)), (1, .int (iI (s)))] → W p l e rm_X2_burdenBy st mi ar bl mth cd st.heap [] 0 0 Q (F0 mi 4 ls []) := by
    intro n4
    induction n4 with
    | zero => intro k hk hn9; exfalso; omega
    | succ n4 ih4 =>
      intro k hk hn9 ls hl
      refine lv_iload_n hx hb dX2_burdenBy_4 rfl (lv_at hl 0 rfl) ?_
      refine lv_aload_n hx hb dX2_burdenBy_5 rfl (lv_at hl 2 rfl) ?_
      refine fg_T_wards C hin2 hE hP (v := I 5 14) (List.mem_of_getElem? (i := 1) rfl) dX2_burdenBy_6 rfl ?_
      refine jz_icmp_ge (tgt := 27) C dX2_burdenBy_9 (by decide) (by omega) (fun h9 => ?_) (fun h9 => ?_)
      · skip
        refine lv_iload_n hx hb dX2_burdenBy_27 rfl (lv_at hl 1 rfl) ?_
        exact jz_ret (show (su (mz I R s) (Int.toNat (I 5 14)) : Int) = su (mz I R s) k from by rw [show k = Int.toNat (I 5 14) by omega]) (hret _ _ dX2_burdenBy_28)
      · skip
        have hsu := su_bd (f := mz I R s) (n := k) (b := 720) (fun x hx => mz_bd hT (by omega))
        refine lv_iload_n hx hb dX2_burdenBy_12 rfl (lv_at hl 1 rfl) ?_
        refine lv_aload_n hx hb dX2_burdenBy_13 rfl (lv_at hl 2 rfl) ?_
        refine lv_iload_n hx hb dX2_burdenBy_14 rfl (lv_at hl 3 rfl) ?_
        refine lv_iload_n hx hb dX2_burdenBy_15 rfl (lv_at hl 0 rfl) ?_
        refine jc_V C hl.1 (jpreV hE hP 2 5 rfl rfl) (c_X2_mindedBy s (k : Int) hT (show 0 ≤ s ∧ s < 256 from (by omega)) (show 0 ≤ (k : Int) ∧ (k : Int) < 6 from (by omega))) (cwV 2 C.2.2.2.2 gX2_burdenBy_X2_mindedBy rfl rfl rfl (by decide +kernel) ⟨Nat.le_of_ble_eq_true rfl, Nat.le_of_ble_eq_true rfl⟩) (As := [.int (iI (s)), .int (iI ((k : Int)))]) (v := .int (iI (mz I R s k))) (hn := rfl) (hst := rfl) (rest := [.int (iI (su (mz I R s) k))]) (hW := Nat.le_of_ble_eq_true rfl) (hdg := dX2_burdenBy_16) (hf := ⟨Nat.le_of_ble_eq_true rfl, Nat.le_of_ble_eq_true rfl⟩) ?_
        refine jz_iadd C dX2_burdenBy_19 ?_
        refine lv_istore_n (lv' := [(2, .int (iI ((su (mz I R s) k) + (mz I R s k)))), (3, .int (iI ((k : Int)))), (0, .ref (ad 5)), (1, .int (iI (s)))]) hx hb dX2_burdenBy_20 rfl hl (by decide) rfl (fun ls hl => ?_)
        refine jz_iinc (k := 1) (z := (k : Int) + 1) (lv' := [(3, .int (iI ((k : Int) + 1))), (2, .int (iI ((su (mz I R s) k) + (mz I R s k)))), (0, .ref (ad 5)), (1, .int (iI (s)))]) C dX2_burdenBy_21 hl rfl rfl (by decide) rfl (fun ls hl => ?_)
        refine lv_goto (tgt := 4) hx hb dX2_burdenBy_24 (by decide) ?_
        exact ih4 (k + 1) (by omega) (by omega) ls (lv_sub hl [0, 1, 2, 3] rfl)
  exact key4 (Int.toNat (I 5 14 - 0) + 1) 0 (by omega) (by omega) ls (lv_sub hl [0, 1, 2, 3] rfl)
abbrev rm_X2_mostMindedBy : Room := { frames := 3, cells := 0, slots := 0, locals := 72 }
set_option maxHeartbeats 4000000 in
set_option maxRecDepth 100000 in
theorem c_X2_mostMindedBy {l : Launch} {D : va_G} {cI cS : ClassId} {ad : Nat → Nat} {I R : Nat → Nat → Int}  (s : Int)  (hT : TI I R) (hs : 0 ≤ s ∧ s < 256): JS l yX2_mostMindedBy wsX2_mostMindedBy rm_X2_mostMindedBy (jB D cI cS (wC cI cS ad I R)) [.ref (ad 5), .int (iI (s))] (.int (iI (mx (mz I R s) (Int.toNat (I 5 14))))) := by
  refine JS.mkI rfl (by decide +kernel) rfl (Nat.le_of_ble_eq_true rfl) ?_
  intro p e st mi ar bl mth cd Q ls C hB hl hret
  obtain ⟨hE, hP⟩ := hB
  have hx := C.1
  have hb := C.2.1
  have hl : lv_has ls 4 [(0, .ref (ad 5)), (1, .int (iI (s)))] := hl
  have hin2 : ∀ w ∈ wsX20, w ∈ wsX2_mostMindedBy := fun _ h => List.mem_cons_of_mem _ (List.mem_append_right _ h)
  have hW := hT.wards
  refine jz_const C dX2_mostMindedBy_0 ?_
  refine lv_istore_n (lv' := [(2, .int (iI (0))), (0, .ref (ad 5)), (1, .int (iI (s)))]) hx hb dX2_mostMindedBy_1 rfl hl (by decide) rfl (fun ls hl => ?_)
  refine jz_const C dX2_mostMindedBy_2 ?_
  refine lv_istore_n (lv' := [(3, .int (iI (0))), (2, .int (iI (0))), (0, .ref (ad 5)), (1, .int (iI (s)))]) hx hb dX2_mostMindedBy_3 rfl hl (by decide) rfl (fun ls hl => ?_)
  have key4 : ∀ (n4 : Nat) (k : Nat) (hk : (k : Int) ≤ I 5 14), (I 5 14 - k : Int) < n4 → ∀ (ls : Array Slot), lv_has ls 4 [(3, .int (iI ((k : Int)))), (2, .int (iI (mx (mz I R s) k))), (0, .ref (ad 5)), (1, .int (iI (s)))] → W p l e rm_X2_mostMindedBy st mi ar bl mth cd st.heap [] 0 0 Q (F0 mi 4 ls []) := by
    intro n4
    induction n4 with
    | zero => intro k hk hn9; exfalso; omega
    | succ n4 ih4 =>
      intro k hk hn9 ls hl
      refine lv_iload_n hx hb dX2_mostMindedBy_4 rfl (lv_at hl 0 rfl) ?_
      refine lv_aload_n hx hb dX2_mostMindedBy_5 rfl (lv_at hl 2 rfl) ?_
      refine fg_T_wards C hin2 hE hP (v := I 5 14) (List.mem_of_getElem? (i := 1) rfl) dX2_mostMindedBy_6 rfl ?_
      refine jz_icmp_ge (tgt := 29) C dX2_mostMindedBy_9 (by decide) (by omega) (fun h9 => ?_) (fun h9 => ?_)
      · skip
        refine lv_iload_n hx hb dX2_mostMindedBy_29 rfl (lv_at hl 1 rfl) ?_
        exact jz_ret (show (mx (mz I R s) (Int.toNat (I 5 14)) : Int) = mx (mz I R s) k from by rw [show k = Int.toNat (I 5 14) by omega]) (hret _ _ dX2_mostMindedBy_30)
      · skip
        have hsu := mx_bd (f := mz I R s) (n := k) (b := 720) (by omega) (fun x hx => mz_bd hT (by omega))
        have hmk := mz_bd hT (s := s) (k := k) (by omega)
        refine lv_iload_n hx hb dX2_mostMindedBy_12 rfl (lv_at hl 1 rfl) ?_
        refine lv_aload_n hx hb dX2_mostMindedBy_13 rfl (lv_at hl 2 rfl) ?_
        refine lv_iload_n hx hb dX2_mostMindedBy_14 rfl (lv_at hl 3 rfl) ?_
        refine lv_iload_n hx hb dX2_mostMindedBy_15 rfl (lv_at hl 0 rfl) ?_
        refine jc_V C hl.1 (jpreV hE hP 2 5 rfl rfl) (c_X2_mindedBy s (k : Int) hT (show 0 ≤ s ∧ s < 256 from (by omega)) (show 0 ≤ (k : Int) ∧ (k : Int) < 6 from (by omega))) (cwV 2 C.2.2.2.2 gX2_mostMindedBy_X2_mindedBy rfl rfl rfl (by decide +kernel) ⟨Nat.le_of_ble_eq_true rfl, Nat.le_of_ble_eq_true rfl⟩) (As := [.int (iI (s)), .int (iI ((k : Int)))]) (v := .int (iI (mz I R s k))) (hn := rfl) (hst := rfl) (rest := [.int (iI (mx (mz I R s) k))]) (hW := Nat.le_of_ble_eq_true rfl) (hdg := dX2_mostMindedBy_16) (hf := ⟨Nat.le_of_ble_eq_true rfl, Nat.le_of_ble_eq_true rfl⟩) ?_
        refine jm_max C hl.1 (C.2.2.2.2 _ (List.mem_of_getElem? (i := 2) rfl)) (C.2.2.2.2 _ (List.mem_of_getElem? (i := 3) rfl)) (C.2.2.2.2 _ (List.mem_of_getElem? (i := 4) rfl)) (C.2.2.2.2 _ (List.mem_of_getElem? (i := 5) rfl)) (Nat.le_of_ble_eq_true rfl) (Nat.le_of_ble_eq_true rfl) ⟨Nat.le_of_ble_eq_true rfl, Nat.le_of_ble_eq_true rfl⟩ dX2_mostMindedBy_19 (by omega) ?_
        refine lv_istore_n (lv' := [(2, .int (iI ((if mx (mz I R s) k < mz I R s k then mz I R s k else mx (mz I R s) k)))), (3, .int (iI ((k : Int)))), (0, .ref (ad 5)), (1, .int (iI (s)))]) hx hb dX2_mostMindedBy_22 rfl hl (by decide) rfl (fun ls hl => ?_)
        refine jz_iinc (k := 1) (z := (k : Int) + 1) (lv' := [(3, .int (iI ((k : Int) + 1))), (2, .int (iI ((if mx (mz I R s) k < mz I R s k then mz I R s k else mx (mz I R s) k)))), (0, .ref (ad 5)), (1, .int (iI (s)))]) C dX2_mostMindedBy_23 hl rfl rfl (by decide) rfl (fun ls hl => ?_)
        refine lv_goto (tgt := 4) hx hb dX2_mostMindedBy_26 (by decide) ?_
        exact ih4 (k + 1) (by omega) (by omega) ls (lv_sub hl [0, 1, 2, 3] rfl)
  exact key4 (Int.toNat (I 5 14 - 0) + 1) 0 (by omega) (by omega) ls (lv_sub hl [0, 1, 2, 3] rfl)
abbrev rm_X2_voteBy : Room := { frames := 3, cells := 0, slots := 0, locals := 72 }
set_option maxHeartbeats 4000000 in
set_option maxRecDepth 100000 in
theorem c_X2_voteBy {l : Launch} {D : va_G} {cI cS : ClassId} {ad : Nat → Nat} {I R : Nat → Nat → Int}  (s : Int) (k : Int) (w : Int)  (hT : TI I R) (hs : 0 ≤ s ∧ s < 2 ^ (Int.toNat (2 * I 5 13))) (hk : 0 ≤ k ∧ k < 6) (hw : 0 ≤ w ∧ w < I 5 13): JS l yX2_voteBy wsX2_voteBy rm_X2_voteBy (jB D cI cS (wC cI cS ad I R)) [.ref (ad 5), .int (iI (s)), .int (iI (k)), .int (iI (w))] (.int (iI (vo I R s (Int.toNat k) w))) := by
  refine JS.mkI rfl (by decide +kernel) rfl (Nat.le_of_ble_eq_true rfl) ?_
  intro p e st mi ar bl mth cd Q ls C hB hl hret
  obtain ⟨hE, hP⟩ := hB
  have hx := C.1
  have hb := C.2.1
  have hl : lv_has ls 8 [(0, .ref (ad 5)), (1, .int (iI (s))), (2, .int (iI (k))), (3, .int (iI (w)))] := hl
  have hW := hT.works
  have hs2 := pow_bd hW hs
  refine jz_const C dX2_voteBy_0 ?_
  refine lv_istore (lv' := [(4, .int (iI (0))), (0, .ref (ad 5)), (1, .int (iI (s))), (2, .int (iI (k))), (3, .int (iI (w)))]) hx hb dX2_voteBy_1 hl (by decide) rfl (fun ls hl => ?_)
  refine jz_ldc (z := 1000000) C (List.mem_of_getElem? (i := 1) rfl) (by decide +kernel) dX2_voteBy_3 ?_
  refine lv_istore (lv' := [(5, .int (iI (1000000))), (4, .int (iI (0))), (0, .ref (ad 5)), (1, .int (iI (s))), (2, .int (iI (k))), (3, .int (iI (w)))]) hx hb dX2_voteBy_5 hl (by decide) rfl (fun ls hl => ?_)
  refine jz_const C dX2_voteBy_7 ?_
  refine lv_istore (lv' := [(6, .int (iI (0))), (5, .int (iI (1000000))), (4, .int (iI (0))), (0, .ref (ad 5)), (1, .int (iI (s))), (2, .int (iI (k))), (3, .int (iI (w)))]) hx hb dX2_voteBy_8 hl (by decide) rfl (fun ls hl => ?_)
  have key10 : ∀ (n10 : Nat) (v : Nat) (hv : v ≤ 4), (4 - (v : Int) : Int) < n10 → ∀ (ls : Array Slot), lv_has ls 8 [(6, .int (iI ((v : Int)))), (5, .int (iI ((am (fun v : Nat => mz I R (tz (I 5 13) s w v) (Int.toNat k)) v).2))), (4, .int (iI ((am (fun v : Nat => mz I R (tz (I 5 13) s w v) (Int.toNat k)) v).1))), (0, .ref (ad 5)), (1, .int (iI (s))), (2, .int (iI (k))), (3, .int (iI (w)))] → W p l e rm_X2_voteBy st mi ar bl mth cd st.heap [] 0 0 Q (F0 mi 10 ls []) := by
    intro n10
    induction n10 with
    | zero => intro v hv hn9; exfalso; omega
    | succ n10 ih10 =>
      intro v hv hn9 ls hl
      refine lv_iload hx hb dX2_voteBy_10 (lv_at hl 0 rfl) ?_
      refine jz_const C dX2_voteBy_12 ?_
      refine jz_icmp_ge (tgt := 52) C dX2_voteBy_13 (by decide) (by omega) (fun h13 => ?_) (fun h13 => ?_)
      · skip
        refine lv_iload hx hb dX2_voteBy_52 (lv_at hl 2 rfl) ?_
        exact jz_ret (show (vo I R s (Int.toNat k) w : Int) = (am (fun v : Nat => mz I R (tz (I 5 13) s w v) (Int.toNat k)) v).1 from by rw [show v = 4 by omega]; rfl) (hret _ _ dX2_voteBy_54)
      · skip
        have htz := pow_bd hW (tz_bd hW hs hw (v := (v : Int)) (by omega))
        have hmk := mz_bd hT (s := tz (I 5 13) s w v) (k := Int.toNat k) (by omega)
        have ham := am_bd (g := (fun v : Nat => mz I R (tz (I 5 13) s w v) (Int.toNat k))) (n := v) (fun x hx => by have h8 := mz_bd hT (s := tz (I 5 13) s w x) (k := Int.toNat k) (by omega); exact ⟨h8.1, by omega⟩)
        refine lv_aload_n hx hb dX2_voteBy_16 rfl (lv_at hl 3 rfl) ?_
        refine lv_aload_n hx hb dX2_voteBy_17 rfl (lv_at hl 3 rfl) ?_
        refine lv_iload_n hx hb dX2_voteBy_18 rfl (lv_at hl 4 rfl) ?_
        refine lv_iload_n hx hb dX2_voteBy_19 rfl (lv_at hl 6 rfl) ?_
        refine lv_iload hx hb dX2_voteBy_20 (lv_at hl 0 rfl) ?_
        refine jc_V C hl.1 (jpreV hE hP 2 5 rfl rfl) (c_X2_turned s w (v : Int) hT.works (show 0 ≤ s ∧ s < 256 from (by omega)) (show 0 ≤ w ∧ w < I 5 13 from (by omega)) (show 0 ≤ (v : Int) ∧ (v : Int) < 4 from (by omega))) (cwV 3 C.2.2.2.2 gX2_voteBy_X2_turned rfl rfl rfl (by decide +kernel) ⟨Nat.le_of_ble_eq_true rfl, Nat.le_of_ble_eq_true rfl⟩) (As := [.int (iI (s)), .int (iI (w)), .int (iI ((v : Int)))]) (v := .int (iI (tz (I 5 13) s w (v : Int)))) (hn := rfl) (hst := rfl) (rest := [.ref (ad 5)]) (hW := Nat.le_of_ble_eq_true rfl) (hdg := dX2_voteBy_22) (hf := ⟨Nat.le_of_ble_eq_true rfl, Nat.le_of_ble_eq_true rfl⟩) ?_
        refine lv_iload_n hx hb dX2_voteBy_25 rfl (lv_at hl 5 rfl) ?_
        refine jc_V C hl.1 (jpreV hE hP 2 5 rfl rfl) (c_X2_mindedBy (tz (I 5 13) s w (v : Int)) k hT (show 0 ≤ (tz (I 5 13) s w (v : Int)) ∧ (tz (I 5 13) s w (v : Int)) < 256 from (by omega)) (show 0 ≤ k ∧ k < 6 from (by omega))) (cwV 2 C.2.2.2.2 gX2_voteBy_X2_mindedBy rfl rfl rfl (by decide +kernel) ⟨Nat.le_of_ble_eq_true rfl, Nat.le_of_ble_eq_true rfl⟩) (As := [.int (iI (tz (I 5 13) s w (v : Int))), .int (iI (k))]) (v := .int (iI (mz I R (tz (I 5 13) s w (v : Int)) (Int.toNat k)))) (hn := rfl) (hst := rfl) (rest := []) (hW := Nat.le_of_ble_eq_true rfl) (hdg := dX2_voteBy_26) (hf := ⟨Nat.le_of_ble_eq_true rfl, Nat.le_of_ble_eq_true rfl⟩) ?_
        refine lv_istore (lv' := [(7, .int (iI (mz I R (tz (I 5 13) s w (v : Int)) (Int.toNat k)))), (6, .int (iI ((v : Int)))), (5, .int (iI ((am (fun v : Nat => mz I R (tz (I 5 13) s w v) (Int.toNat k)) v).2))), (4, .int (iI ((am (fun v : Nat => mz I R (tz (I 5 13) s w v) (Int.toNat k)) v).1))), (0, .ref (ad 5)), (1, .int (iI (s))), (2, .int (iI (k))), (3, .int (iI (w)))]) hx hb dX2_voteBy_29 hl (by decide) rfl (fun ls hl => ?_)
        refine lv_iload hx hb dX2_voteBy_31 (lv_at hl 0 rfl) ?_
        refine lv_iload hx hb dX2_voteBy_33 (lv_at hl 2 rfl) ?_
        refine jz_icmp_ge (tgt := 46) C dX2_voteBy_35 (by decide) (by omega) (fun h35 => ?_) (fun h35 => ?_)
        · skip
          refine jz_iinc (k := 1) (z := (v : Int) + 1) (lv' := [(6, .int (iI ((v : Int) + 1))), (7, .int (iI (mz I R (tz (I 5 13) s w (v : Int)) (Int.toNat k)))), (5, .int (iI ((am (fun v : Nat => mz I R (tz (I 5 13) s w v) (Int.toNat k)) v).2))), (4, .int (iI ((am (fun v : Nat => mz I R (tz (I 5 13) s w v) (Int.toNat k)) v).1))), (0, .ref (ad 5)), (1, .int (iI (s))), (2, .int (iI (k))), (3, .int (iI (w)))]) C dX2_voteBy_46 hl rfl rfl (by decide) rfl (fun ls hl => ?_)
          refine lv_goto (tgt := 10) hx hb dX2_voteBy_49 (by decide) ?_
          have hl9 : lv_has ls 8 [(6, .int (iI ((v + 1 : Int)))), (5, .int (iI ((am (fun v : Nat => mz I R (tz (I 5 13) s w v) (Int.toNat k)) (v + 1)).2))), (4, .int (iI ((am (fun v : Nat => mz I R (tz (I 5 13) s w v) (Int.toNat k)) (v + 1)).1))), (0, .ref (ad 5)), (1, .int (iI (s))), (2, .int (iI (k))), (3, .int (iI (w)))] := by
            rw [show ((am (fun v : Nat => mz I R (tz (I 5 13) s w v) (Int.toNat k)) (v + 1)).2 : Int) = (am (fun v : Nat => mz I R (tz (I 5 13) s w v) (Int.toNat k)) v).2 from by first | rw [am_s1 h35] | rw [am_s2 h35]]
            rw [show ((am (fun v : Nat => mz I R (tz (I 5 13) s w v) (Int.toNat k)) (v + 1)).1 : Int) = (am (fun v : Nat => mz I R (tz (I 5 13) s w v) (Int.toNat k)) v).1 from by first | rw [am_s1 h35] | rw [am_s2 h35]]
            exact lv_sub hl [0, 2, 3, 4, 5, 6, 7] rfl
          exact ih10 (v + 1) (by omega) (by omega) ls hl9
        · skip
          refine lv_iload hx hb dX2_voteBy_38 (lv_at hl 0 rfl) ?_
          refine lv_istore (lv' := [(5, .int (iI (mz I R (tz (I 5 13) s w (v : Int)) (Int.toNat k)))), (7, .int (iI (mz I R (tz (I 5 13) s w (v : Int)) (Int.toNat k)))), (6, .int (iI ((v : Int)))), (4, .int (iI ((am (fun v : Nat => mz I R (tz (I 5 13) s w v) (Int.toNat k)) v).1))), (0, .ref (ad 5)), (1, .int (iI (s))), (2, .int (iI (k))), (3, .int (iI (w)))]) hx hb dX2_voteBy_40 hl (by decide) rfl (fun ls hl => ?_)
          refine lv_iload hx hb dX2_voteBy_42 (lv_at hl 2 rfl) ?_
          refine lv_istore (lv' := [(4, .int (iI ((v : Int)))), (5, .int (iI (mz I R (tz (I 5 13) s w (v : Int)) (Int.toNat k)))), (7, .int (iI (mz I R (tz (I 5 13) s w (v : Int)) (Int.toNat k)))), (6, .int (iI ((v : Int)))), (0, .ref (ad 5)), (1, .int (iI (s))), (2, .int (iI (k))), (3, .int (iI (w)))]) hx hb dX2_voteBy_44 hl (by decide) rfl (fun ls hl => ?_)
          refine jz_iinc (k := 3) (z := (v : Int) + 1) (lv' := [(6, .int (iI ((v : Int) + 1))), (4, .int (iI ((v : Int)))), (5, .int (iI (mz I R (tz (I 5 13) s w (v : Int)) (Int.toNat k)))), (7, .int (iI (mz I R (tz (I 5 13) s w (v : Int)) (Int.toNat k)))), (0, .ref (ad 5)), (1, .int (iI (s))), (2, .int (iI (k))), (3, .int (iI (w)))]) C dX2_voteBy_46 hl rfl rfl (by decide) rfl (fun ls hl => ?_)
          refine lv_goto (tgt := 10) hx hb dX2_voteBy_49 (by decide) ?_
          have hl9 : lv_has ls 8 [(6, .int (iI ((v + 1 : Int)))), (5, .int (iI ((am (fun v : Nat => mz I R (tz (I 5 13) s w v) (Int.toNat k)) (v + 1)).2))), (4, .int (iI ((am (fun v : Nat => mz I R (tz (I 5 13) s w v) (Int.toNat k)) (v + 1)).1))), (0, .ref (ad 5)), (1, .int (iI (s))), (2, .int (iI (k))), (3, .int (iI (w)))] := by
            rw [show ((am (fun v : Nat => mz I R (tz (I 5 13) s w v) (Int.toNat k)) (v + 1)).2 : Int) = mz I R (tz (I 5 13) s w (v : Int)) (Int.toNat k) from by first | rw [am_s1 h35] | rw [am_s2 h35]]
            rw [show ((am (fun v : Nat => mz I R (tz (I 5 13) s w v) (Int.toNat k)) (v + 1)).1 : Int) = (v : Int) from by first | rw [am_s1 h35] | rw [am_s2 h35]]
            exact lv_sub hl [0, 2, 1, 4, 5, 6, 7] rfl
          exact ih10 (v + 1) (by omega) (by omega) ls hl9
  exact key10 (Int.toNat (4 - (0 : Int)) + 1) 0 (by omega) (by omega) ls (lv_sub hl [0, 1, 2, 3, 4, 5, 6] rfl)
abbrev rm_X2_castVotes : Room := { frames := 4, cells := 0, slots := 0, locals := 99 }
set_option maxHeartbeats 4000000 in
set_option maxRecDepth 100000 in
theorem c_X2_castVotes {l : Launch} {D : va_G} {cI cS : ClassId} {ad : Nat → Nat} {I R : Nat → Nat → Int} {A : Nat → Prop} (hD : va_D A (wC cI cS ad I R))  (s : Int) (w : Int)  (hT : TI I R) (hs : 0 ≤ s ∧ s < 2 ^ (Int.toNat (2 * I 5 13))) (hw : 0 ≤ w ∧ w < I 5 13): JV l yX2_castVotes wsX2_castVotes rm_X2_castVotes (jB D cI cS (wC cI cS ad I R)) A [.ref (ad 5), .int (iI (s)), .int (iI (w))] (fun v9 (_ : Unit) => v9 = none) (fun _ H => va_P D vwCl (wC cI cS ad I (uR R 14 (cv I R s w (Int.toNat (I 5 14)) (R 14)))) H) := by
  refine JV.mkN rfl (by decide +kernel) rfl (Nat.le_of_ble_eq_true rfl) ?_
  intro p e st mi ar bl mth cd Q ls C hB hl hret
  obtain ⟨hE, hP⟩ := hB
  have hx := C.1
  have hb := C.2.1
  have hl : lv_has ls 4 [(0, .ref (ad 5)), (1, .int (iI (s))), (2, .int (iI (w)))] := hl
  have hin2 : ∀ w ∈ wsX20, w ∈ wsX2_castVotes := fun _ h => List.mem_cons_of_mem _ (List.mem_append_right _ h)
  suffices hgo : ∀ (H : Heap) (lc : List Loc), va_P D vwCl (wC cI cS ad I R) H → va_S A st.heap H lc → W p l e rm_X2_castVotes st mi ar bl mth cd H lc 0 0 Q (F0 mi 0 ls []) from hgo _ _ hP va_S.rf
  clear hP
  intro H lc hP hS
  have hW := hT.works
  have hK := hT.wards
  refine jz_const C dX2_castVotes_0 ?_
  refine lv_istore_n (lv' := [(3, .int (iI (0))), (0, .ref (ad 5)), (1, .int (iI (s))), (2, .int (iI (w)))]) hx hb dX2_castVotes_1 rfl hl (by decide) rfl (fun ls hl => ?_)
  have key2 : ∀ (n2 : Nat) (k : Nat) (hk : (k : Int) ≤ I 5 14), (I 5 14 - k : Int) < n2 → ∀ (H : Heap) (lc : List Loc), va_P D vwCl (wC cI cS ad I (uR R 14 (cv I R s w k (R 14)))) H → va_S A st.heap H lc → ∀ (ls : Array Slot), lv_has ls 4 [(3, .int (iI ((k : Int)))), (0, .ref (ad 5)), (1, .int (iI (s))), (2, .int (iI (w)))] → W p l e rm_X2_castVotes st mi ar bl mth cd H lc 0 0 Q (F0 mi 2 ls []) := by
    intro n2
    induction n2 with
    | zero => intro k hk hn9; exfalso; omega
    | succ n2 ih2 =>
      intro k hk hn9 H lc hP hS ls hl
      refine lv_iload_n hx hb dX2_castVotes_2 rfl (lv_at hl 0 rfl) ?_
      refine lv_aload_n hx hb dX2_castVotes_3 rfl (lv_at hl 1 rfl) ?_
      refine fg_T_wards C hin2 hE hP (v := I 5 14) (List.mem_of_getElem? (i := 1) rfl) dX2_castVotes_4 rfl ?_
      refine jz_icmp_ge (tgt := 31) C dX2_castVotes_7 (by decide) (by omega) (fun h7 => ?_) (fun h7 => ?_)
      · skip
        exact hret () _ _ _ _ dX2_castVotes_31 rfl (by rw [show Int.toNat (I 5 14) = k by omega]; exact hP) hS
      · skip
        refine lv_aload_n hx hb dX2_castVotes_10 rfl (lv_at hl 1 rfl) ?_
        refine fg_T_votes C hin2 hE hP (List.mem_of_getElem? (i := 2) rfl) dX2_castVotes_11 ?_
        refine lv_iload_n hx hb dX2_castVotes_14 rfl (lv_at hl 0 rfl) ?_
        refine lv_aload_n hx hb dX2_castVotes_15 rfl (lv_at hl 1 rfl) ?_
        refine lv_iload_n hx hb dX2_castVotes_16 rfl (lv_at hl 2 rfl) ?_
        refine lv_iload_n hx hb dX2_castVotes_17 rfl (lv_at hl 0 rfl) ?_
        refine lv_iload_n hx hb dX2_castVotes_18 rfl (lv_at hl 3 rfl) ?_
        refine jc_V C hl.1 (jpreV hE hP 2 5 rfl rfl) (c_X2_voteBy s (k : Int) w hT (by first | assumption | exact hT.set | omega) (show 0 ≤ (k : Int) ∧ (k : Int) < 6 from (by omega)) (show 0 ≤ w ∧ w < I 5 13 from (by omega))) (cwV 3 C.2.2.2.2 gX2_castVotes_X2_voteBy rfl rfl rfl (by decide +kernel) ⟨Nat.le_of_ble_eq_true rfl, Nat.le_of_ble_eq_true rfl⟩) (As := [.int (iI (s)), .int (iI ((k : Int))), .int (iI (w))]) (v := .int (iI (vo I R s k w))) (hn := rfl) (hst := rfl) (rest := [.int (iI ((k : Int))), .ref (ad 14)]) (hW := Nat.le_of_ble_eq_true rfl) (hdg := dX2_castVotes_19) (hf := ⟨Nat.le_of_ble_eq_true rfl, Nat.le_of_ble_eq_true rfl⟩) ?_
        refine jw_N C hl.1 (jpreS hE hP) (c_X3_write (A := A) (jDC hD) (k : Int) (vo I R s k w) 14 6 (cv I R s w k (R 14)) (ad 14) rfl (by decide) (show 0 ≤ (k : Int) ∧ (k : Int) < 6 from (by omega))) ⟨va_cnB 3 C.2.2.2.2 gX2_castVotes_X3_write_n72 rfl rfl rfl hE.2.2.2.1 (C.2.2.2.2 _ (List.mem_of_getElem? (i := 26) rfl)) (by decide +kernel) ⟨Nat.le_of_ble_eq_true rfl, Nat.le_of_ble_eq_true rfl⟩, C.2.2.2.2 _ (List.mem_of_getElem? (i := 49) rfl), trivial⟩ (As := [.ref (ad 14), .int (iI ((k : Int))), .int (iI (vo I R s k w))]) (hn := rfl) (hst := rfl) (rest := []) (hW := Nat.le_of_ble_eq_true rfl) (hdg := dX2_castVotes_22) (hf := ⟨Nat.le_of_ble_eq_true rfl, Nat.le_of_ble_eq_true rfl⟩) hS (fun v9 uq22 H lc hq9 hP hS => ?_)
        subst hq9
        have hP : va_P D vwCl (wC cI cS ad I (uR (uR R 14 (cv I R s w k (R 14))) 14 (u1 (cv I R s w k (R 14)) k (vo I R s k w)))) H := hP
        refine jz_iinc (k := 0) (z := (k : Int) + 1) (lv' := [(3, .int (iI ((k : Int) + 1))), (0, .ref (ad 5)), (1, .int (iI (s))), (2, .int (iI (w)))]) C dX2_castVotes_25 hl rfl rfl (by decide) rfl (fun ls hl => ?_)
        refine lv_goto (tgt := 2) hx hb dX2_castVotes_28 (by decide) ?_
        exact ih2 (k + 1) (by omega) (by omega) _ _ (by rw [uR_u, cv_s] at hP; exact hP) hS ls (lv_sub hl [0, 1, 2, 3] rfl)
  exact key2 (Int.toNat (I 5 14 - 0) + 1) 0 (by omega) (by omega) _ _ (by rw [cv_0, uR_id]; exact hP) hS ls (lv_sub hl [0, 1, 2, 3] rfl)
abbrev rm_X2_winner : Room := { frames := 1, cells := 0, slots := 0, locals := 21 }
set_option maxHeartbeats 4000000 in
set_option maxRecDepth 100000 in
theorem c_X2_winner {l : Launch} {D : va_G} {cI cS : ClassId} {ad : Nat → Nat} {I R : Nat → Nat → Int}  (bribed : Int) (v : Int)  (h1 : 0 ≤ I 5 14 ∧ I 5 14 ≤ 6) (hb9 : 0 ≤ bribed ∧ bribed < 64) (hv : 0 ≤ v ∧ v < 4) (hvo : ∀ k : Nat, k < Int.toNat (I 5 14) → 0 ≤ (R 14) k ∧ (R 14) k < 4): JS l yX2_winner wsX2_winner rm_X2_winner (jB D cI cS (wC cI cS ad I R)) [.ref (ad 5), .int (iI (bribed)), .int (iI (v))] (.int (iI (wi (bv bribed v (R 14)) (Int.toNat (I 5 14))))) := by
  refine JS.mkI rfl (by decide +kernel) rfl (Nat.le_of_ble_eq_true rfl) ?_
  intro p e st mi ar bl mth cd Q ls C hB hl hret
  obtain ⟨hE, hP⟩ := hB
  have hx := C.1
  have hb := C.2.1
  have hl : lv_has ls 9 [(0, .ref (ad 5)), (1, .int (iI (bribed))), (2, .int (iI (v)))] := hl
  have hin2 : ∀ w ∈ wsX20, w ∈ wsX2_winner := fun _ h => List.mem_cons_of_mem _ (List.mem_append_right _ h)
  refine jz_const C dX2_winner_0 ?_
  refine lv_istore_n (lv' := [(3, .int (iI (0))), (0, .ref (ad 5)), (1, .int (iI (bribed))), (2, .int (iI (v)))]) hx hb dX2_winner_1 rfl hl (by decide) rfl (fun ls hl => ?_)
  refine jz_const C dX2_winner_2 ?_
  refine lv_istore (lv' := [(4, .int (iI (0))), (3, .int (iI (0))), (0, .ref (ad 5)), (1, .int (iI (bribed))), (2, .int (iI (v)))]) hx hb dX2_winner_3 hl (by decide) rfl (fun ls hl => ?_)
  refine jz_const C dX2_winner_5 ?_
  refine lv_istore (lv' := [(5, .int (iI (0))), (4, .int (iI (0))), (3, .int (iI (0))), (0, .ref (ad 5)), (1, .int (iI (bribed))), (2, .int (iI (v)))]) hx hb dX2_winner_6 hl (by decide) rfl (fun ls hl => ?_)
  have key8 : ∀ (n8 : Nat) (x : Nat) (hx4 : x ≤ 4), (4 - (x : Int) : Int) < n8 → ∀ (ls : Array Slot), lv_has ls 9 [(5, .int (iI ((x : Int)))), (4, .int (iI ((wn (fun x : Nat => ct (bv bribed v (R 14)) x (Int.toNat (I 5 14))) x).2))), (3, .int (iI ((wn (fun x : Nat => ct (bv bribed v (R 14)) x (Int.toNat (I 5 14))) x).1))), (0, .ref (ad 5)), (1, .int (iI (bribed))), (2, .int (iI (v)))] → W p l e rm_X2_winner st mi ar bl mth cd st.heap [] 0 0 Q (F0 mi 8 ls []) := by
    intro n8
    induction n8 with
    | zero => intro x hx4 hn9; exfalso; omega
    | succ n8 ih8 =>
      intro x hx4 hn9 ls hl
      refine lv_iload hx hb dX2_winner_8 (lv_at hl 0 rfl) ?_
      refine jz_const C dX2_winner_10 ?_
      refine jz_icmp_ge (tgt := 105) C dX2_winner_11 (by decide) (by omega) (fun h11 => ?_) (fun h11 => ?_)
      · skip
        refine lv_iload_n hx hb dX2_winner_105 rfl (lv_at hl 2 rfl) ?_
        exact jz_ret (show (wi (bv bribed v (R 14)) (Int.toNat (I 5 14)) : Int) = (wn (fun x : Nat => ct (bv bribed v (R 14)) x (Int.toNat (I 5 14))) x).1 from by rw [show x = 4 by omega]; rfl) (hret _ _ dX2_winner_106)
      · skip
        refine jz_const C dX2_winner_14 ?_
        refine lv_istore (lv' := [(6, .int (iI (0))), (5, .int (iI ((x : Int)))), (4, .int (iI ((wn (fun x : Nat => ct (bv bribed v (R 14)) x (Int.toNat (I 5 14))) x).2))), (3, .int (iI ((wn (fun x : Nat => ct (bv bribed v (R 14)) x (Int.toNat (I 5 14))) x).1))), (0, .ref (ad 5)), (1, .int (iI (bribed))), (2, .int (iI (v)))]) hx hb dX2_winner_15 hl (by decide) rfl (fun ls hl => ?_)
        refine jz_const C dX2_winner_17 ?_
        refine lv_istore (lv' := [(7, .int (iI (0))), (6, .int (iI (0))), (5, .int (iI ((x : Int)))), (4, .int (iI ((wn (fun x : Nat => ct (bv bribed v (R 14)) x (Int.toNat (I 5 14))) x).2))), (3, .int (iI ((wn (fun x : Nat => ct (bv bribed v (R 14)) x (Int.toNat (I 5 14))) x).1))), (0, .ref (ad 5)), (1, .int (iI (bribed))), (2, .int (iI (v)))]) hx hb dX2_winner_18 hl (by decide) rfl (fun ls hl => ?_)
        have key20 : ∀ (n20 : Nat) (k : Nat) (hk : (k : Int) ≤ I 5 14), (I 5 14 - k : Int) < n20 → ∀ (ls : Array Slot), lv_has ls 9 [(7, .int (iI ((k : Int)))), (6, .int (iI (ct (bv bribed v (R 14)) (x : Int) k))), (5, .int (iI ((x : Int)))), (4, .int (iI ((wn (fun x : Nat => ct (bv bribed v (R 14)) x (Int.toNat (I 5 14))) x).2))), (3, .int (iI ((wn (fun x : Nat => ct (bv bribed v (R 14)) x (Int.toNat (I 5 14))) x).1))), (0, .ref (ad 5)), (1, .int (iI (bribed))), (2, .int (iI (v)))] → W p l e rm_X2_winner st mi ar bl mth cd st.heap [] 0 0 Q (F0 mi 20 ls []) := by
          intro n20
          induction n20 with
          | zero => intro k hk hn9; exfalso; omega
          | succ n20 ih20 =>
            intro k hk hn9 ls hl
            refine lv_iload hx hb dX2_winner_20 (lv_at hl 0 rfl) ?_
            refine lv_aload_n hx hb dX2_winner_22 rfl (lv_at hl 5 rfl) ?_
            refine fg_T_wards C hin2 hE hP (v := I 5 14) (List.mem_of_getElem? (i := 1) rfl) dX2_winner_23 rfl ?_
            refine jz_icmp_ge (tgt := 85) C dX2_winner_26 (by decide) (by omega) (fun h26 => ?_) (fun h26 => ?_)
            · skip
              have hkn : k = Int.toNat (I 5 14) := by omega
              have hct := ct_bd (its := bv bribed v (R 14)) (x := (x : Int)) (n := k)
              have hwn := wn_bd (cnt := fun x : Nat => ct (bv bribed v (R 14)) x (Int.toNat (I 5 14))) (n := x) (b := 6) (by omega) (fun y hy => by have := ct_bd (its := bv bribed v (R 14)) (x := (y : Int)) (n := Int.toNat (I 5 14)); exact ⟨this.1, by omega⟩)
              refine lv_iload hx hb dX2_winner_85 (lv_at hl 1 rfl) ?_
              refine lv_iload hx hb dX2_winner_87 (lv_at hl 3 rfl) ?_
              refine jz_icmp_le (tgt := 99) C dX2_winner_89 (by decide) (by omega) (fun h89 => ?_) (fun h89 => ?_)
              · skip
                refine jz_iinc (k := 2) (z := (x : Int) + 1) (lv' := [(5, .int (iI ((x : Int) + 1))), (7, .int (iI ((k : Int)))), (6, .int (iI (ct (bv bribed v (R 14)) (x : Int) k))), (4, .int (iI ((wn (fun x : Nat => ct (bv bribed v (R 14)) x (Int.toNat (I 5 14))) x).2))), (3, .int (iI ((wn (fun x : Nat => ct (bv bribed v (R 14)) x (Int.toNat (I 5 14))) x).1))), (0, .ref (ad 5)), (1, .int (iI (bribed))), (2, .int (iI (v)))]) C dX2_winner_99 hl rfl rfl (by decide) rfl (fun ls hl => ?_)
                refine lv_goto (tgt := 8) hx hb dX2_winner_102 (by decide) ?_
                have hl9 : lv_has ls 9 [(5, .int (iI ((x + 1 : Int)))), (4, .int (iI ((wn (fun x : Nat => ct (bv bribed v (R 14)) x (Int.toNat (I 5 14))) (x + 1)).2))), (3, .int (iI ((wn (fun x : Nat => ct (bv bribed v (R 14)) x (Int.toNat (I 5 14))) (x + 1)).1))), (0, .ref (ad 5)), (1, .int (iI (bribed))), (2, .int (iI (v)))] := by
                  rw [show ((wn (fun x : Nat => ct (bv bribed v (R 14)) x (Int.toNat (I 5 14))) (x + 1)).2 : Int) = (wn (fun x : Nat => ct (bv bribed v (R 14)) x (Int.toNat (I 5 14))) x).2 from by subst hkn; first | rw [wn_s1 h89] | rw [wn_s2 h89]]
                  rw [show ((wn (fun x : Nat => ct (bv bribed v (R 14)) x (Int.toNat (I 5 14))) (x + 1)).1 : Int) = (wn (fun x : Nat => ct (bv bribed v (R 14)) x (Int.toNat (I 5 14))) x).1 from by subst hkn; first | rw [wn_s1 h89] | rw [wn_s2 h89]]
                  exact lv_sub hl [0, 3, 4, 5, 6, 7] rfl
                exact ih8 (x + 1) (by omega) (by omega) ls hl9
              · skip
                refine lv_iload hx hb dX2_winner_92 (lv_at hl 1 rfl) ?_
                refine lv_istore (lv' := [(4, .int (iI (ct (bv bribed v (R 14)) (x : Int) k))), (7, .int (iI ((k : Int)))), (6, .int (iI (ct (bv bribed v (R 14)) (x : Int) k))), (5, .int (iI ((x : Int)))), (3, .int (iI ((wn (fun x : Nat => ct (bv bribed v (R 14)) x (Int.toNat (I 5 14))) x).1))), (0, .ref (ad 5)), (1, .int (iI (bribed))), (2, .int (iI (v)))]) hx hb dX2_winner_94 hl (by decide) rfl (fun ls hl => ?_)
                refine lv_iload hx hb dX2_winner_96 (lv_at hl 3 rfl) ?_
                refine lv_istore_n (lv' := [(3, .int (iI ((x : Int)))), (4, .int (iI (ct (bv bribed v (R 14)) (x : Int) k))), (7, .int (iI ((k : Int)))), (6, .int (iI (ct (bv bribed v (R 14)) (x : Int) k))), (5, .int (iI ((x : Int)))), (0, .ref (ad 5)), (1, .int (iI (bribed))), (2, .int (iI (v)))]) hx hb dX2_winner_98 rfl hl (by decide) rfl (fun ls hl => ?_)
                refine jz_iinc (k := 4) (z := (x : Int) + 1) (lv' := [(5, .int (iI ((x : Int) + 1))), (3, .int (iI ((x : Int)))), (4, .int (iI (ct (bv bribed v (R 14)) (x : Int) k))), (7, .int (iI ((k : Int)))), (6, .int (iI (ct (bv bribed v (R 14)) (x : Int) k))), (0, .ref (ad 5)), (1, .int (iI (bribed))), (2, .int (iI (v)))]) C dX2_winner_99 hl rfl rfl (by decide) rfl (fun ls hl => ?_)
                refine lv_goto (tgt := 8) hx hb dX2_winner_102 (by decide) ?_
                have hl9 : lv_has ls 9 [(5, .int (iI ((x + 1 : Int)))), (4, .int (iI ((wn (fun x : Nat => ct (bv bribed v (R 14)) x (Int.toNat (I 5 14))) (x + 1)).2))), (3, .int (iI ((wn (fun x : Nat => ct (bv bribed v (R 14)) x (Int.toNat (I 5 14))) (x + 1)).1))), (0, .ref (ad 5)), (1, .int (iI (bribed))), (2, .int (iI (v)))] := by
                  rw [show ((wn (fun x : Nat => ct (bv bribed v (R 14)) x (Int.toNat (I 5 14))) (x + 1)).2 : Int) = ct (bv bribed v (R 14)) (x : Int) k from by subst hkn; first | rw [wn_s1 h89] | rw [wn_s2 h89]]
                  rw [show ((wn (fun x : Nat => ct (bv bribed v (R 14)) x (Int.toNat (I 5 14))) (x + 1)).1 : Int) = (x : Int) from by subst hkn; first | rw [wn_s1 h89] | rw [wn_s2 h89]]
                  exact lv_sub hl [0, 2, 1, 5, 6, 7] rfl
                exact ih8 (x + 1) (by omega) (by omega) ls hl9
            · skip
              have hvk := hvo k (by omega)
              have hct := ct_bd (its := bv bribed v (R 14)) (x := (x : Int)) (n := k)
              have hits : 0 ≤ (if bribed / 2 ^ k % 2 ^ 1 = 1 then v else R 14 k) ∧ (if bribed / 2 ^ k % 2 ^ 1 = 1 then v else R 14 k) < 4 := by split <;> omega
              have hsh : 0 ≤ bribed / 2 ^ k ∧ bribed / 2 ^ k < 64 := ⟨Int.ediv_nonneg hb9.1 (Int.le_of_lt (Int.pow_pos (by decide))), by have := Int.ediv_le_self (a := bribed) (2 ^ k) hb9.1; omega⟩
              have hmod : 0 ≤ bribed / 2 ^ k % 2 ^ 1 ∧ bribed / 2 ^ k % 2 ^ 1 < 2 := by omega
              refine lv_iload_n hx hb dX2_winner_29 rfl (lv_at hl 6 rfl) ?_
              refine lv_iload hx hb dX2_winner_30 (lv_at hl 0 rfl) ?_
              refine jz_ishr (k := k) C dX2_winner_32 ⟨rfl, by omega, by omega⟩ ?_
              refine jz_const C dX2_winner_33 ?_
              refine jz_iand (k := 1) C dX2_winner_34 (by decide +kernel) (by omega) ?_
              refine jz_const C dX2_winner_35 ?_
              refine jz_cut (X := ∀ ls : Array Slot, lv_has ls 9 [(7, .int (iI ((k : Int)))), (6, .int (iI (ct (bv bribed v (R 14)) (x : Int) k))), (5, .int (iI ((x : Int)))), (4, .int (iI ((wn (fun x : Nat => ct (bv bribed v (R 14)) x (Int.toNat (I 5 14))) x).2))), (3, .int (iI ((wn (fun x : Nat => ct (bv bribed v (R 14)) x (Int.toNat (I 5 14))) x).1))), (0, .ref (ad 5)), (1, .int (iI (bribed))), (2, .int (iI (v)))] → W p l e rm_X2_winner st mi ar bl mth cd st.heap [] 0 0 Q (F0 mi 44 ls [.int (iI (if bribed / 2 ^ k % 2 ^ 1 = 1 then 1 else 0))])) (fun ls hl => ?_) (fun hj36 => ?_)
              · skip
                refine lv_istore (lv' := [(8, .int (iI (if bribed / 2 ^ k % 2 ^ 1 = 1 then 1 else 0))), (7, .int (iI ((k : Int)))), (6, .int (iI (ct (bv bribed v (R 14)) (x : Int) k))), (5, .int (iI ((x : Int)))), (4, .int (iI ((wn (fun x : Nat => ct (bv bribed v (R 14)) x (Int.toNat (I 5 14))) x).2))), (3, .int (iI ((wn (fun x : Nat => ct (bv bribed v (R 14)) x (Int.toNat (I 5 14))) x).1))), (0, .ref (ad 5)), (1, .int (iI (bribed))), (2, .int (iI (v)))]) hx hb dX2_winner_44 hl (by decide) rfl (fun ls hl => ?_)
                refine lv_iload hx hb dX2_winner_46 (lv_at hl 2 rfl) ?_
                refine lv_iload hx hb dX2_winner_48 (lv_at hl 0 rfl) ?_
                refine jz_cut (X := ∀ ls : Array Slot, lv_has ls 9 [(8, .int (iI (if bribed / 2 ^ k % 2 ^ 1 = 1 then 1 else 0))), (7, .int (iI ((k : Int)))), (6, .int (iI (ct (bv bribed v (R 14)) (x : Int) k))), (5, .int (iI ((x : Int)))), (4, .int (iI ((wn (fun x : Nat => ct (bv bribed v (R 14)) x (Int.toNat (I 5 14))) x).2))), (3, .int (iI ((wn (fun x : Nat => ct (bv bribed v (R 14)) x (Int.toNat (I 5 14))) x).1))), (0, .ref (ad 5)), (1, .int (iI (bribed))), (2, .int (iI (v)))] → W p l e rm_X2_winner st mi ar bl mth cd st.heap [] 0 0 Q (F0 mi 66 ls [.int (iI ((if bribed / 2 ^ k % 2 ^ 1 = 1 then v else R 14 k))), .int (iI (ct (bv bribed v (R 14)) (x : Int) k))])) (fun ls hl => ?_) (fun hj50 => ?_)
                · skip
                  refine lv_iload hx hb dX2_winner_66 (lv_at hl 3 rfl) ?_
                  refine jz_cut (X := ∀ ls : Array Slot, lv_has ls 9 [(8, .int (iI (if bribed / 2 ^ k % 2 ^ 1 = 1 then 1 else 0))), (7, .int (iI ((k : Int)))), (6, .int (iI (ct (bv bribed v (R 14)) (x : Int) k))), (5, .int (iI ((x : Int)))), (4, .int (iI ((wn (fun x : Nat => ct (bv bribed v (R 14)) x (Int.toNat (I 5 14))) x).2))), (3, .int (iI ((wn (fun x : Nat => ct (bv bribed v (R 14)) x (Int.toNat (I 5 14))) x).1))), (0, .ref (ad 5)), (1, .int (iI (bribed))), (2, .int (iI (v)))] → W p l e rm_X2_winner st mi ar bl mth cd st.heap [] 0 0 Q (F0 mi 76 ls [.int (iI (if (if bribed / 2 ^ k % 2 ^ 1 = 1 then v else R 14 k) = (x : Int) then 1 else 0)), .int (iI (ct (bv bribed v (R 14)) (x : Int) k))])) (fun ls hl => ?_) (fun hj68 => ?_)
                  · skip
                    refine jz_iadd C dX2_winner_76 ?_
                    refine lv_istore (lv' := [(6, .int (iI ((ct (bv bribed v (R 14)) (x : Int) k) + (if (if bribed / 2 ^ k % 2 ^ 1 = 1 then v else R 14 k) = (x : Int) then 1 else 0)))), (8, .int (iI (if bribed / 2 ^ k % 2 ^ 1 = 1 then 1 else 0))), (7, .int (iI ((k : Int)))), (5, .int (iI ((x : Int)))), (4, .int (iI ((wn (fun x : Nat => ct (bv bribed v (R 14)) x (Int.toNat (I 5 14))) x).2))), (3, .int (iI ((wn (fun x : Nat => ct (bv bribed v (R 14)) x (Int.toNat (I 5 14))) x).1))), (0, .ref (ad 5)), (1, .int (iI (bribed))), (2, .int (iI (v)))]) hx hb dX2_winner_77 hl (by decide) rfl (fun ls hl => ?_)
                    refine jz_iinc (k := 2) (z := (k : Int) + 1) (lv' := [(7, .int (iI ((k : Int) + 1))), (6, .int (iI ((ct (bv bribed v (R 14)) (x : Int) k) + (if (if bribed / 2 ^ k % 2 ^ 1 = 1 then v else R 14 k) = (x : Int) then 1 else 0)))), (8, .int (iI (if bribed / 2 ^ k % 2 ^ 1 = 1 then 1 else 0))), (5, .int (iI ((x : Int)))), (4, .int (iI ((wn (fun x : Nat => ct (bv bribed v (R 14)) x (Int.toNat (I 5 14))) x).2))), (3, .int (iI ((wn (fun x : Nat => ct (bv bribed v (R 14)) x (Int.toNat (I 5 14))) x).1))), (0, .ref (ad 5)), (1, .int (iI (bribed))), (2, .int (iI (v)))]) C dX2_winner_79 hl rfl rfl (by decide) rfl (fun ls hl => ?_)
                    refine lv_goto (tgt := 20) hx hb dX2_winner_82 (by decide) ?_
                    exact ih20 (k + 1) (by omega) (by omega) ls (lv_sub hl [0, 1, 3, 4, 5, 6, 7, 8] rfl)
                  · skip
                    refine jz_icmp_ne (tgt := 75) C dX2_winner_68 (by decide) (by omega) (fun h68 => ?_) (fun h68 => ?_)
                    · skip
                      refine jz_const C dX2_winner_75 ?_
                      have hl9 : lv_has ls 9 [(8, .int (iI (if bribed / 2 ^ k % 2 ^ 1 = 1 then 1 else 0))), (7, .int (iI ((k : Int)))), (6, .int (iI (ct (bv bribed v (R 14)) (x : Int) k))), (5, .int (iI ((x : Int)))), (4, .int (iI ((wn (fun x : Nat => ct (bv bribed v (R 14)) x (Int.toNat (I 5 14))) x).2))), (3, .int (iI ((wn (fun x : Nat => ct (bv bribed v (R 14)) x (Int.toNat (I 5 14))) x).1))), (0, .ref (ad 5)), (1, .int (iI (bribed))), (2, .int (iI (v)))] := lv_sub hl [0, 1, 2, 3, 4, 5, 6, 7, 8] rfl
                      have hj9 := hj68 ls hl9
                      rw [show ((if (if bribed / 2 ^ k % 2 ^ 1 = 1 then v else R 14 k) = (x : Int) then 1 else 0) : Int) = 0 from by first | rfl | exact if_pos (by assumption) | exact if_neg (by assumption) | exact (if_pos (by assumption)).symm | exact (if_neg (by assumption)).symm | omega | (simp only [*, if_true, if_false, not_true, not_false_iff]; done) | (simp [*]; done) | (split <;> omega)] at hj9
                      exact hj9
                    · skip
                      refine jz_const C dX2_winner_71 ?_
                      refine lv_goto (tgt := 76) hx hb dX2_winner_72 (by decide) ?_
                      have hl9 : lv_has ls 9 [(8, .int (iI (if bribed / 2 ^ k % 2 ^ 1 = 1 then 1 else 0))), (7, .int (iI ((k : Int)))), (6, .int (iI (ct (bv bribed v (R 14)) (x : Int) k))), (5, .int (iI ((x : Int)))), (4, .int (iI ((wn (fun x : Nat => ct (bv bribed v (R 14)) x (Int.toNat (I 5 14))) x).2))), (3, .int (iI ((wn (fun x : Nat => ct (bv bribed v (R 14)) x (Int.toNat (I 5 14))) x).1))), (0, .ref (ad 5)), (1, .int (iI (bribed))), (2, .int (iI (v)))] := lv_sub hl [0, 1, 2, 3, 4, 5, 6, 7, 8] rfl
                      have hj9 := hj68 ls hl9
                      rw [show ((if (if bribed / 2 ^ k % 2 ^ 1 = 1 then v else R 14 k) = (x : Int) then 1 else 0) : Int) = 1 from by first | rfl | exact if_pos (by assumption) | exact if_neg (by assumption) | exact (if_pos (by assumption)).symm | exact (if_neg (by assumption)).symm | omega | (simp only [*, if_true, if_false, not_true, not_false_iff]; done) | (simp [*]; done) | (split <;> omega)] at hj9
                      exact hj9
                · skip
                  refine jz_bool_eq (tgt := 57) C dX2_winner_50 (by decide) (fun h50 => ?_) (fun h50 => ?_)
                  · skip
                    refine lv_aload_n hx hb dX2_winner_57 rfl (lv_at hl 6 rfl) ?_
                    refine fg_T_votes C hin2 hE hP (List.mem_of_getElem? (i := 2) rfl) dX2_winner_58 ?_
                    refine lv_iload hx hb dX2_winner_61 (lv_at hl 1 rfl) ?_
                    refine jc_N C hl.1 (jpreS hE hP) (c_X3_read (k : Int) 14 6 (R 14) (ad 14) rfl (by decide) (show 0 ≤ (k : Int) ∧ (k : Int) < 6 from (by omega))) ⟨va_cnB 2 C.2.2.2.2 gX2_winner_X3_read_n88 rfl rfl rfl hE.2.2.2.2.1 (C.2.2.2.2 _ (List.mem_of_getElem? (i := 4) rfl)) (by decide +kernel) ⟨Nat.le_of_ble_eq_true rfl, Nat.le_of_ble_eq_true rfl⟩, C.2.2.2.2 _ (List.mem_of_getElem? (i := 3) rfl), trivial⟩ (As := [.ref (ad 14), .int (iI ((k : Int)))]) (v := .int (iI (R 14 k))) (hn := rfl) (hst := rfl) (rest := [.int (iI (ct (bv bribed v (R 14)) (x : Int) k))]) (hW := Nat.le_of_ble_eq_true rfl) (hdg := dX2_winner_63) (hf := ⟨Nat.le_of_ble_eq_true rfl, Nat.le_of_ble_eq_true rfl⟩) ?_
                    have hl9 : lv_has ls 9 [(8, .int (iI (if bribed / 2 ^ k % 2 ^ 1 = 1 then 1 else 0))), (7, .int (iI ((k : Int)))), (6, .int (iI (ct (bv bribed v (R 14)) (x : Int) k))), (5, .int (iI ((x : Int)))), (4, .int (iI ((wn (fun x : Nat => ct (bv bribed v (R 14)) x (Int.toNat (I 5 14))) x).2))), (3, .int (iI ((wn (fun x : Nat => ct (bv bribed v (R 14)) x (Int.toNat (I 5 14))) x).1))), (0, .ref (ad 5)), (1, .int (iI (bribed))), (2, .int (iI (v)))] := lv_sub hl [0, 1, 2, 3, 4, 5, 6, 7, 8] rfl
                    have hj9 := hj50 ls hl9
                    rw [show ((if bribed / 2 ^ k % 2 ^ 1 = 1 then v else R 14 k) : Int) = R 14 k from by first | rfl | exact if_pos (by assumption) | exact if_neg (by assumption) | exact (if_pos (by assumption)).symm | exact (if_neg (by assumption)).symm | omega | (simp only [*, if_true, if_false, not_true, not_false_iff]; done) | (simp [*]; done) | (split <;> omega)] at hj9
                    exact hj9
                  · skip
                    refine lv_iload_n hx hb dX2_winner_53 rfl (lv_at hl 8 rfl) ?_
                    refine lv_goto (tgt := 66) hx hb dX2_winner_54 (by decide) ?_
                    have hl9 : lv_has ls 9 [(8, .int (iI (if bribed / 2 ^ k % 2 ^ 1 = 1 then 1 else 0))), (7, .int (iI ((k : Int)))), (6, .int (iI (ct (bv bribed v (R 14)) (x : Int) k))), (5, .int (iI ((x : Int)))), (4, .int (iI ((wn (fun x : Nat => ct (bv bribed v (R 14)) x (Int.toNat (I 5 14))) x).2))), (3, .int (iI ((wn (fun x : Nat => ct (bv bribed v (R 14)) x (Int.toNat (I 5 14))) x).1))), (0, .ref (ad 5)), (1, .int (iI (bribed))), (2, .int (iI (v)))] := lv_sub hl [0, 1, 2, 3, 4, 5, 6, 7, 8] rfl
                    have hj9 := hj50 ls hl9
                    rw [show ((if bribed / 2 ^ k % 2 ^ 1 = 1 then v else R 14 k) : Int) = v from by first | rfl | exact if_pos (by assumption) | exact if_neg (by assumption) | exact (if_pos (by assumption)).symm | exact (if_neg (by assumption)).symm | omega | (simp only [*, if_true, if_false, not_true, not_false_iff]; done) | (simp [*]; done) | (split <;> omega)] at hj9
                    exact hj9
              · skip
                refine jz_icmp_ne (tgt := 43) C dX2_winner_36 (by decide) (by omega) (fun h36 => ?_) (fun h36 => ?_)
                · skip
                  refine jz_const C dX2_winner_43 ?_
                  have hl9 : lv_has ls 9 [(7, .int (iI ((k : Int)))), (6, .int (iI (ct (bv bribed v (R 14)) (x : Int) k))), (5, .int (iI ((x : Int)))), (4, .int (iI ((wn (fun x : Nat => ct (bv bribed v (R 14)) x (Int.toNat (I 5 14))) x).2))), (3, .int (iI ((wn (fun x : Nat => ct (bv bribed v (R 14)) x (Int.toNat (I 5 14))) x).1))), (0, .ref (ad 5)), (1, .int (iI (bribed))), (2, .int (iI (v)))] := lv_sub hl [0, 1, 2, 3, 4, 5, 6, 7] rfl
                  have hj9 := hj36 ls hl9
                  rw [show ((if bribed / 2 ^ k % 2 ^ 1 = 1 then 1 else 0) : Int) = 0 from by first | rfl | exact if_pos (by assumption) | exact if_neg (by assumption) | exact (if_pos (by assumption)).symm | exact (if_neg (by assumption)).symm | omega | (simp only [*, if_true, if_false, not_true, not_false_iff]; done) | (simp [*]; done) | (split <;> omega)] at hj9
                  exact hj9
                · skip
                  refine jz_const C dX2_winner_39 ?_
                  refine lv_goto (tgt := 44) hx hb dX2_winner_40 (by decide) ?_
                  have hl9 : lv_has ls 9 [(7, .int (iI ((k : Int)))), (6, .int (iI (ct (bv bribed v (R 14)) (x : Int) k))), (5, .int (iI ((x : Int)))), (4, .int (iI ((wn (fun x : Nat => ct (bv bribed v (R 14)) x (Int.toNat (I 5 14))) x).2))), (3, .int (iI ((wn (fun x : Nat => ct (bv bribed v (R 14)) x (Int.toNat (I 5 14))) x).1))), (0, .ref (ad 5)), (1, .int (iI (bribed))), (2, .int (iI (v)))] := lv_sub hl [0, 1, 2, 3, 4, 5, 6, 7] rfl
                  have hj9 := hj36 ls hl9
                  rw [show ((if bribed / 2 ^ k % 2 ^ 1 = 1 then 1 else 0) : Int) = 1 from by first | rfl | exact if_pos (by assumption) | exact if_neg (by assumption) | exact (if_pos (by assumption)).symm | exact (if_neg (by assumption)).symm | omega | (simp only [*, if_true, if_false, not_true, not_false_iff]; done) | (simp [*]; done) | (split <;> omega)] at hj9
                  exact hj9
        exact key20 (Int.toNat (I 5 14 - 0) + 1) 0 (by omega) (by omega) ls (lv_sub hl [0, 1, 2, 3, 4, 5, 6, 7] rfl)
  exact key8 (Int.toNat (4 - (0 : Int)) + 1) 0 (by omega) (by omega) ls (lv_sub hl [0, 1, 2, 3, 4, 5] rfl)
abbrev rm_X2_ballotBy : Room := { frames := 5, cells := 0, slots := 0, locals := 122 }
set_option maxHeartbeats 4000000 in
set_option maxRecDepth 100000 in
theorem c_X2_ballotBy {l : Launch} {D : va_G} {cI cS : ClassId} {ad : Nat → Nat} {I R : Nat → Nat → Int} {A : Nat → Prop} (hD : va_D A (wC cI cS ad I R))  (s : Int) (w : Int)  (hT : TI I R) (hs : 0 ≤ s ∧ s < 2 ^ (Int.toNat (2 * I 5 13))) (hw : 0 ≤ w ∧ w < I 5 13): JV l yX2_ballotBy wsX2_ballotBy rm_X2_ballotBy (jB D cI cS (wC cI cS ad I R)) A [.ref (ad 5), .int (iI (s)), .int (iI (w))] (fun v9 (_ : Unit) => v9 = some (.int (iI (wi (fun k : Nat => vo I R s k w) (Int.toNat (I 5 14)))))) (fun _ H => va_P D vwCl (wC cI cS ad I (uR R 14 (cv I R s w (Int.toNat (I 5 14)) (R 14)))) H) := by
  refine JV.mkI rfl (by decide +kernel) rfl (Nat.le_of_ble_eq_true rfl) ?_
  intro p e st mi ar bl mth cd Q ls C hB hl hret
  obtain ⟨hE, hP⟩ := hB
  have hx := C.1
  have hb := C.2.1
  have hl : lv_has ls 3 [(0, .ref (ad 5)), (1, .int (iI (s))), (2, .int (iI (w)))] := hl
  suffices hgo : ∀ (H : Heap) (lc : List Loc), va_P D vwCl (wC cI cS ad I R) H → va_S A st.heap H lc → W p l e rm_X2_ballotBy st mi ar bl mth cd H lc 0 0 Q (F0 mi 0 ls []) from hgo _ _ hP va_S.rf
  clear hP
  intro H lc hP hS
  refine lv_aload_n hx hb dX2_ballotBy_0 rfl (lv_at hl 0 rfl) ?_
  refine lv_iload_n hx hb dX2_ballotBy_1 rfl (lv_at hl 1 rfl) ?_
  refine lv_iload_n hx hb dX2_ballotBy_2 rfl (lv_at hl 2 rfl) ?_
  refine jw_V C hl.1 (jpreV hE hP 2 5 rfl rfl) (c_X2_castVotes (A := A) (jDC hD) s w hT (by first | assumption | exact hT.set | omega) (show 0 ≤ w ∧ w < I 5 13 from (by omega))) (cwV 2 C.2.2.2.2 gX2_ballotBy_X2_castVotes rfl rfl rfl (by decide +kernel) ⟨Nat.le_of_ble_eq_true rfl, Nat.le_of_ble_eq_true rfl⟩) (As := [.int (iI (s)), .int (iI (w))]) (hn := rfl) (hst := rfl) (rest := []) (hW := Nat.le_of_ble_eq_true rfl) (hdg := dX2_ballotBy_3) (hf := ⟨Nat.le_of_ble_eq_true rfl, Nat.le_of_ble_eq_true rfl⟩) hS (fun v9 uq3 H lc hq9 hP hS => ?_)
  subst hq9
  have hP : va_P D vwCl (wC cI cS ad I (uR R 14 (cv I R s w (Int.toNat (I 5 14)) (R 14)))) H := hP
  refine lv_aload_n hx hb dX2_ballotBy_6 rfl (lv_at hl 0 rfl) ?_
  refine jz_const C dX2_ballotBy_7 ?_
  refine jz_const C dX2_ballotBy_8 ?_
  refine jc_V C hl.1 (jpreV hE hP 2 5 rfl rfl) (c_X2_winner 0 0 hT.wards (show 0 ≤ 0 ∧ 0 < 64 from (by omega)) (show 0 ≤ 0 ∧ 0 < 4 from (by omega)) (cv_ok hT)) (cwV 2 C.2.2.2.2 gX2_ballotBy_X2_winner rfl rfl rfl (by decide +kernel) ⟨Nat.le_of_ble_eq_true rfl, Nat.le_of_ble_eq_true rfl⟩) (As := [.int (iI (0)), .int (iI (0))]) (v := .int (iI (wi (bv 0 0 (cv I R s w (Int.toNat (I 5 14)) (R 14))) (Int.toNat (I 5 14))))) (hn := rfl) (hst := rfl) (rest := []) (hW := Nat.le_of_ble_eq_true rfl) (hdg := dX2_ballotBy_9) (hf := ⟨Nat.le_of_ble_eq_true rfl, Nat.le_of_ble_eq_true rfl⟩) ?_
  exact hret _ () _ _ _ _ dX2_ballotBy_12 (by rw [show (wi (bv 0 0 (cv I R s w (Int.toNat (I 5 14)) (R 14))) (Int.toNat (I 5 14)) : Int) = wi (fun k : Nat => vo I R s k w) (Int.toNat (I 5 14)) from by rw [bv_0, wi_cv]]) hP hS
abbrev rm_J6_bitCount_0f7a4 : Room := { frames := 0, cells := 0, slots := 0, locals := 0 }
set_option maxHeartbeats 4000000 in
set_option maxRecDepth 100000 in
theorem c_J6_bitCount_0f7a4 {l : Launch} {D : va_G} {cI cS : ClassId} {w : va_W}  (i : Int)  (hi : 0 ≤ i ∧ i < 64): JS l yJ6_bitCount_0f7a4 wsJ6_bitCount_0f7a4 rm_J6_bitCount_0f7a4 (jB D cI cS w) [.int (iI (i))] (.int (iI (pcz (Int.toNat i)))) := by
  refine JS.mkI rfl (by decide +kernel) rfl (Nat.le_of_ble_eq_true rfl) ?_
  intro p e st mi ar bl mth cd Q ls C hB hl hret
  obtain ⟨hE, hP⟩ := hB
  have hx := C.1
  have hb := C.2.1
  have hl : lv_has ls 1 [(0, .int (iI (i)))] := hl
  refine lv_iload_n hx hb dJ6_bitCount_0f7a4_0 rfl (lv_at hl 0 rfl) ?_
  refine lv_iload_n hx hb dJ6_bitCount_0f7a4_1 rfl (lv_at hl 0 rfl) ?_
  refine jz_const C dJ6_bitCount_0f7a4_2 ?_
  refine lv_iushr hx hb dJ6_bitCount_0f7a4_3 rfl ?_
  refine lv_ldcw hx hb C.2.2.2.1 (C.2.2.2.2 _ (List.mem_of_getElem? (i := 1) rfl)) dJ6_bitCount_0f7a4_4 ?_
  refine lv_iand hx hb dJ6_bitCount_0f7a4_7 ?_
  refine lv_isub hx hb dJ6_bitCount_0f7a4_8 ?_
  refine lv_istore_n (lv' := [(0, .int ((iI (i)) - ((((iI (i)).toUInt32 >>> ((iI (1)).toUInt32 &&& Int32.toUInt32 31)).toInt32) &&& ((1431655765 : Int32)))))]) hx hb dJ6_bitCount_0f7a4_9 rfl hl (by decide) rfl (fun ls hl => ?_)
  refine lv_iload_n hx hb dJ6_bitCount_0f7a4_10 rfl (lv_at hl 0 rfl) ?_
  refine lv_ldcw hx hb C.2.2.2.1 (C.2.2.2.2 _ (List.mem_of_getElem? (i := 2) rfl)) dJ6_bitCount_0f7a4_11 ?_
  refine lv_iand hx hb dJ6_bitCount_0f7a4_14 ?_
  refine lv_iload_n hx hb dJ6_bitCount_0f7a4_15 rfl (lv_at hl 0 rfl) ?_
  refine jz_const C dJ6_bitCount_0f7a4_16 ?_
  refine lv_iushr hx hb dJ6_bitCount_0f7a4_17 rfl ?_
  refine lv_ldcw hx hb C.2.2.2.1 (C.2.2.2.2 _ (List.mem_of_getElem? (i := 2) rfl)) dJ6_bitCount_0f7a4_18 ?_
  refine lv_iand hx hb dJ6_bitCount_0f7a4_21 ?_
  refine lv_iadd hx hb dJ6_bitCount_0f7a4_22 ?_
  refine lv_istore_n (lv' := [(0, .int ((((iI (i)) - ((((iI (i)).toUInt32 >>> ((iI (1)).toUInt32 &&& Int32.toUInt32 31)).toInt32) &&& ((1431655765 : Int32)))) &&& ((858993459 : Int32))) + (((((iI (i)) - ((((iI (i)).toUInt32 >>> ((iI (1)).toUInt32 &&& Int32.toUInt32 31)).toInt32) &&& ((1431655765 : Int32)))).toUInt32 >>> ((iI (2)).toUInt32 &&& Int32.toUInt32 31)).toInt32) &&& ((858993459 : Int32)))))]) hx hb dJ6_bitCount_0f7a4_23 rfl hl (by decide) rfl (fun ls hl => ?_)
  refine lv_iload_n hx hb dJ6_bitCount_0f7a4_24 rfl (lv_at hl 0 rfl) ?_
  refine lv_iload_n hx hb dJ6_bitCount_0f7a4_25 rfl (lv_at hl 0 rfl) ?_
  refine jz_const C dJ6_bitCount_0f7a4_26 ?_
  refine lv_iushr hx hb dJ6_bitCount_0f7a4_27 rfl ?_
  refine lv_iadd hx hb dJ6_bitCount_0f7a4_28 ?_
  refine lv_ldcw hx hb C.2.2.2.1 (C.2.2.2.2 _ (List.mem_of_getElem? (i := 3) rfl)) dJ6_bitCount_0f7a4_29 ?_
  refine lv_iand hx hb dJ6_bitCount_0f7a4_32 ?_
  refine lv_istore_n (lv' := [(0, .int ((((((iI (i)) - ((((iI (i)).toUInt32 >>> ((iI (1)).toUInt32 &&& Int32.toUInt32 31)).toInt32) &&& ((1431655765 : Int32)))) &&& ((858993459 : Int32))) + (((((iI (i)) - ((((iI (i)).toUInt32 >>> ((iI (1)).toUInt32 &&& Int32.toUInt32 31)).toInt32) &&& ((1431655765 : Int32)))).toUInt32 >>> ((iI (2)).toUInt32 &&& Int32.toUInt32 31)).toInt32) &&& ((858993459 : Int32)))) + ((((((iI (i)) - ((((iI (i)).toUInt32 >>> ((iI (1)).toUInt32 &&& Int32.toUInt32 31)).toInt32) &&& ((1431655765 : Int32)))) &&& ((858993459 : Int32))) + (((((iI (i)) - ((((iI (i)).toUInt32 >>> ((iI (1)).toUInt32 &&& Int32.toUInt32 31)).toInt32) &&& ((1431655765 : Int32)))).toUInt32 >>> ((iI (2)).toUInt32 &&& Int32.toUInt32 31)).toInt32) &&& ((858993459 : Int32)))).toUInt32 >>> ((iI (4)).toUInt32 &&& Int32.toUInt32 31)).toInt32)) &&& ((252645135 : Int32))))]) hx hb dJ6_bitCount_0f7a4_33 rfl hl (by decide) rfl (fun ls hl => ?_)
  refine lv_iload_n hx hb dJ6_bitCount_0f7a4_34 rfl (lv_at hl 0 rfl) ?_
  refine lv_iload_n hx hb dJ6_bitCount_0f7a4_35 rfl (lv_at hl 0 rfl) ?_
  refine jz_bipush C dJ6_bitCount_0f7a4_36 (by decide +kernel) ?_
  refine lv_iushr hx hb dJ6_bitCount_0f7a4_38 rfl ?_
  refine lv_iadd hx hb dJ6_bitCount_0f7a4_39 ?_
  refine lv_istore_n (lv' := [(0, .int (((((((iI (i)) - ((((iI (i)).toUInt32 >>> ((iI (1)).toUInt32 &&& Int32.toUInt32 31)).toInt32) &&& ((1431655765 : Int32)))) &&& ((858993459 : Int32))) + (((((iI (i)) - ((((iI (i)).toUInt32 >>> ((iI (1)).toUInt32 &&& Int32.toUInt32 31)).toInt32) &&& ((1431655765 : Int32)))).toUInt32 >>> ((iI (2)).toUInt32 &&& Int32.toUInt32 31)).toInt32) &&& ((858993459 : Int32)))) + ((((((iI (i)) - ((((iI (i)).toUInt32 >>> ((iI (1)).toUInt32 &&& Int32.toUInt32 31)).toInt32) &&& ((1431655765 : Int32)))) &&& ((858993459 : Int32))) + (((((iI (i)) - ((((iI (i)).toUInt32 >>> ((iI (1)).toUInt32 &&& Int32.toUInt32 31)).toInt32) &&& ((1431655765 : Int32)))).toUInt32 >>> ((iI (2)).toUInt32 &&& Int32.toUInt32 31)).toInt32) &&& ((858993459 : Int32)))).toUInt32 >>> ((iI (4)).toUInt32 &&& Int32.toUInt32 31)).toInt32)) &&& ((252645135 : Int32))) + ((((((((iI (i)) - ((((iI (i)).toUInt32 >>> ((iI (1)).toUInt32 &&& Int32.toUInt32 31)).toInt32) &&& ((1431655765 : Int32)))) &&& ((858993459 : Int32))) + (((((iI (i)) - ((((iI (i)).toUInt32 >>> ((iI (1)).toUInt32 &&& Int32.toUInt32 31)).toInt32) &&& ((1431655765 : Int32)))).toUInt32 >>> ((iI (2)).toUInt32 &&& Int32.toUInt32 31)).toInt32) &&& ((858993459 : Int32)))) + ((((((iI (i)) - ((((iI (i)).toUInt32 >>> ((iI (1)).toUInt32 &&& Int32.toUInt32 31)).toInt32) &&& ((1431655765 : Int32)))) &&& ((858993459 : Int32))) + (((((iI (i)) - ((((iI (i)).toUInt32 >>> ((iI (1)).toUInt32 &&& Int32.toUInt32 31)).toInt32) &&& ((1431655765 : Int32)))).toUInt32 >>> ((iI (2)).toUInt32 &&& Int32.toUInt32 31)).toInt32) &&& ((858993459 : Int32)))).toUInt32 >>> ((iI (4)).toUInt32 &&& Int32.toUInt32 31)).toInt32)) &&& ((252645135 : Int32))).toUInt32 >>> ((iI (8)).toUInt32 &&& Int32.toUInt32 31)).toInt32)))]) hx hb dJ6_bitCount_0f7a4_40 rfl hl (by decide) rfl (fun ls hl => ?_)
  refine lv_iload_n hx hb dJ6_bitCount_0f7a4_41 rfl (lv_at hl 0 rfl) ?_
  refine lv_iload_n hx hb dJ6_bitCount_0f7a4_42 rfl (lv_at hl 0 rfl) ?_
  refine jz_bipush C dJ6_bitCount_0f7a4_43 (by decide +kernel) ?_
  refine lv_iushr hx hb dJ6_bitCount_0f7a4_45 rfl ?_
  refine lv_iadd hx hb dJ6_bitCount_0f7a4_46 ?_
  refine lv_istore_n (lv' := [(0, .int ((((((((iI (i)) - ((((iI (i)).toUInt32 >>> ((iI (1)).toUInt32 &&& Int32.toUInt32 31)).toInt32) &&& ((1431655765 : Int32)))) &&& ((858993459 : Int32))) + (((((iI (i)) - ((((iI (i)).toUInt32 >>> ((iI (1)).toUInt32 &&& Int32.toUInt32 31)).toInt32) &&& ((1431655765 : Int32)))).toUInt32 >>> ((iI (2)).toUInt32 &&& Int32.toUInt32 31)).toInt32) &&& ((858993459 : Int32)))) + ((((((iI (i)) - ((((iI (i)).toUInt32 >>> ((iI (1)).toUInt32 &&& Int32.toUInt32 31)).toInt32) &&& ((1431655765 : Int32)))) &&& ((858993459 : Int32))) + (((((iI (i)) - ((((iI (i)).toUInt32 >>> ((iI (1)).toUInt32 &&& Int32.toUInt32 31)).toInt32) &&& ((1431655765 : Int32)))).toUInt32 >>> ((iI (2)).toUInt32 &&& Int32.toUInt32 31)).toInt32) &&& ((858993459 : Int32)))).toUInt32 >>> ((iI (4)).toUInt32 &&& Int32.toUInt32 31)).toInt32)) &&& ((252645135 : Int32))) + ((((((((iI (i)) - ((((iI (i)).toUInt32 >>> ((iI (1)).toUInt32 &&& Int32.toUInt32 31)).toInt32) &&& ((1431655765 : Int32)))) &&& ((858993459 : Int32))) + (((((iI (i)) - ((((iI (i)).toUInt32 >>> ((iI (1)).toUInt32 &&& Int32.toUInt32 31)).toInt32) &&& ((1431655765 : Int32)))).toUInt32 >>> ((iI (2)).toUInt32 &&& Int32.toUInt32 31)).toInt32) &&& ((858993459 : Int32)))) + ((((((iI (i)) - ((((iI (i)).toUInt32 >>> ((iI (1)).toUInt32 &&& Int32.toUInt32 31)).toInt32) &&& ((1431655765 : Int32)))) &&& ((858993459 : Int32))) + (((((iI (i)) - ((((iI (i)).toUInt32 >>> ((iI (1)).toUInt32 &&& Int32.toUInt32 31)).toInt32) &&& ((1431655765 : Int32)))).toUInt32 >>> ((iI (2)).toUInt32 &&& Int32.toUInt32 31)).toInt32) &&& ((858993459 : Int32)))).toUInt32 >>> ((iI (4)).toUInt32 &&& Int32.toUInt32 31)).toInt32)) &&& ((252645135 : Int32))).toUInt32 >>> ((iI (8)).toUInt32 &&& Int32.toUInt32 31)).toInt32)) + (((((((((iI (i)) - ((((iI (i)).toUInt32 >>> ((iI (1)).toUInt32 &&& Int32.toUInt32 31)).toInt32) &&& ((1431655765 : Int32)))) &&& ((858993459 : Int32))) + (((((iI (i)) - ((((iI (i)).toUInt32 >>> ((iI (1)).toUInt32 &&& Int32.toUInt32 31)).toInt32) &&& ((1431655765 : Int32)))).toUInt32 >>> ((iI (2)).toUInt32 &&& Int32.toUInt32 31)).toInt32) &&& ((858993459 : Int32)))) + ((((((iI (i)) - ((((iI (i)).toUInt32 >>> ((iI (1)).toUInt32 &&& Int32.toUInt32 31)).toInt32) &&& ((1431655765 : Int32)))) &&& ((858993459 : Int32))) + (((((iI (i)) - ((((iI (i)).toUInt32 >>> ((iI (1)).toUInt32 &&& Int32.toUInt32 31)).toInt32) &&& ((1431655765 : Int32)))).toUInt32 >>> ((iI (2)).toUInt32 &&& Int32.toUInt32 31)).toInt32) &&& ((858993459 : Int32)))).toUInt32 >>> ((iI (4)).toUInt32 &&& Int32.toUInt32 31)).toInt32)) &&& ((252645135 : Int32))) + ((((((((iI (i)) - ((((iI (i)).toUInt32 >>> ((iI (1)).toUInt32 &&& Int32.toUInt32 31)).toInt32) &&& ((1431655765 : Int32)))) &&& ((858993459 : Int32))) + (((((iI (i)) - ((((iI (i)).toUInt32 >>> ((iI (1)).toUInt32 &&& Int32.toUInt32 31)).toInt32) &&& ((1431655765 : Int32)))).toUInt32 >>> ((iI (2)).toUInt32 &&& Int32.toUInt32 31)).toInt32) &&& ((858993459 : Int32)))) + ((((((iI (i)) - ((((iI (i)).toUInt32 >>> ((iI (1)).toUInt32 &&& Int32.toUInt32 31)).toInt32) &&& ((1431655765 : Int32)))) &&& ((858993459 : Int32))) + (((((iI (i)) - ((((iI (i)).toUInt32 >>> ((iI (1)).toUInt32 &&& Int32.toUInt32 31)).toInt32) &&& ((1431655765 : Int32)))).toUInt32 >>> ((iI (2)).toUInt32 &&& Int32.toUInt32 31)).toInt32) &&& ((858993459 : Int32)))).toUInt32 >>> ((iI (4)).toUInt32 &&& Int32.toUInt32 31)).toInt32)) &&& ((252645135 : Int32))).toUInt32 >>> ((iI (8)).toUInt32 &&& Int32.toUInt32 31)).toInt32)).toUInt32 >>> ((iI (16)).toUInt32 &&& Int32.toUInt32 31)).toInt32)))]) hx hb dJ6_bitCount_0f7a4_47 rfl hl (by decide) rfl (fun ls hl => ?_)
  refine lv_iload_n hx hb dJ6_bitCount_0f7a4_48 rfl (lv_at hl 0 rfl) ?_
  refine jz_bipush C dJ6_bitCount_0f7a4_49 (by decide +kernel) ?_
  refine lv_iand hx hb dJ6_bitCount_0f7a4_51 ?_
  exact jz_retx (show iI (pcz (Int.toNat i)) = ((((((((iI (i)) - ((((iI (i)).toUInt32 >>> ((iI (1)).toUInt32 &&& Int32.toUInt32 31)).toInt32) &&& ((1431655765 : Int32)))) &&& ((858993459 : Int32))) + (((((iI (i)) - ((((iI (i)).toUInt32 >>> ((iI (1)).toUInt32 &&& Int32.toUInt32 31)).toInt32) &&& ((1431655765 : Int32)))).toUInt32 >>> ((iI (2)).toUInt32 &&& Int32.toUInt32 31)).toInt32) &&& ((858993459 : Int32)))) + ((((((iI (i)) - ((((iI (i)).toUInt32 >>> ((iI (1)).toUInt32 &&& Int32.toUInt32 31)).toInt32) &&& ((1431655765 : Int32)))) &&& ((858993459 : Int32))) + (((((iI (i)) - ((((iI (i)).toUInt32 >>> ((iI (1)).toUInt32 &&& Int32.toUInt32 31)).toInt32) &&& ((1431655765 : Int32)))).toUInt32 >>> ((iI (2)).toUInt32 &&& Int32.toUInt32 31)).toInt32) &&& ((858993459 : Int32)))).toUInt32 >>> ((iI (4)).toUInt32 &&& Int32.toUInt32 31)).toInt32)) &&& ((252645135 : Int32))) + ((((((((iI (i)) - ((((iI (i)).toUInt32 >>> ((iI (1)).toUInt32 &&& Int32.toUInt32 31)).toInt32) &&& ((1431655765 : Int32)))) &&& ((858993459 : Int32))) + (((((iI (i)) - ((((iI (i)).toUInt32 >>> ((iI (1)).toUInt32 &&& Int32.toUInt32 31)).toInt32) &&& ((1431655765 : Int32)))).toUInt32 >>> ((iI (2)).toUInt32 &&& Int32.toUInt32 31)).toInt32) &&& ((858993459 : Int32)))) + ((((((iI (i)) - ((((iI (i)).toUInt32 >>> ((iI (1)).toUInt32 &&& Int32.toUInt32 31)).toInt32) &&& ((1431655765 : Int32)))) &&& ((858993459 : Int32))) + (((((iI (i)) - ((((iI (i)).toUInt32 >>> ((iI (1)).toUInt32 &&& Int32.toUInt32 31)).toInt32) &&& ((1431655765 : Int32)))).toUInt32 >>> ((iI (2)).toUInt32 &&& Int32.toUInt32 31)).toInt32) &&& ((858993459 : Int32)))).toUInt32 >>> ((iI (4)).toUInt32 &&& Int32.toUInt32 31)).toInt32)) &&& ((252645135 : Int32))).toUInt32 >>> ((iI (8)).toUInt32 &&& Int32.toUInt32 31)).toInt32)) + (((((((((iI (i)) - ((((iI (i)).toUInt32 >>> ((iI (1)).toUInt32 &&& Int32.toUInt32 31)).toInt32) &&& ((1431655765 : Int32)))) &&& ((858993459 : Int32))) + (((((iI (i)) - ((((iI (i)).toUInt32 >>> ((iI (1)).toUInt32 &&& Int32.toUInt32 31)).toInt32) &&& ((1431655765 : Int32)))).toUInt32 >>> ((iI (2)).toUInt32 &&& Int32.toUInt32 31)).toInt32) &&& ((858993459 : Int32)))) + ((((((iI (i)) - ((((iI (i)).toUInt32 >>> ((iI (1)).toUInt32 &&& Int32.toUInt32 31)).toInt32) &&& ((1431655765 : Int32)))) &&& ((858993459 : Int32))) + (((((iI (i)) - ((((iI (i)).toUInt32 >>> ((iI (1)).toUInt32 &&& Int32.toUInt32 31)).toInt32) &&& ((1431655765 : Int32)))).toUInt32 >>> ((iI (2)).toUInt32 &&& Int32.toUInt32 31)).toInt32) &&& ((858993459 : Int32)))).toUInt32 >>> ((iI (4)).toUInt32 &&& Int32.toUInt32 31)).toInt32)) &&& ((252645135 : Int32))) + ((((((((iI (i)) - ((((iI (i)).toUInt32 >>> ((iI (1)).toUInt32 &&& Int32.toUInt32 31)).toInt32) &&& ((1431655765 : Int32)))) &&& ((858993459 : Int32))) + (((((iI (i)) - ((((iI (i)).toUInt32 >>> ((iI (1)).toUInt32 &&& Int32.toUInt32 31)).toInt32) &&& ((1431655765 : Int32)))).toUInt32 >>> ((iI (2)).toUInt32 &&& Int32.toUInt32 31)).toInt32) &&& ((858993459 : Int32)))) + ((((((iI (i)) - ((((iI (i)).toUInt32 >>> ((iI (1)).toUInt32 &&& Int32.toUInt32 31)).toInt32) &&& ((1431655765 : Int32)))) &&& ((858993459 : Int32))) + (((((iI (i)) - ((((iI (i)).toUInt32 >>> ((iI (1)).toUInt32 &&& Int32.toUInt32 31)).toInt32) &&& ((1431655765 : Int32)))).toUInt32 >>> ((iI (2)).toUInt32 &&& Int32.toUInt32 31)).toInt32) &&& ((858993459 : Int32)))).toUInt32 >>> ((iI (4)).toUInt32 &&& Int32.toUInt32 31)).toInt32)) &&& ((252645135 : Int32))).toUInt32 >>> ((iI (8)).toUInt32 &&& Int32.toUInt32 31)).toInt32)).toUInt32 >>> ((iI (16)).toUInt32 &&& Int32.toUInt32 31)).toInt32)) &&& (iI (63)) from by (have h9 : ∀ n : Nat, n < 64 → iI (pcz n) = ((((((((iI (n : Int)) - ((((iI (n : Int)).toUInt32 >>> ((iI (1)).toUInt32 &&& Int32.toUInt32 31)).toInt32) &&& ((1431655765 : Int32)))) &&& ((858993459 : Int32))) + (((((iI (n : Int)) - ((((iI (n : Int)).toUInt32 >>> ((iI (1)).toUInt32 &&& Int32.toUInt32 31)).toInt32) &&& ((1431655765 : Int32)))).toUInt32 >>> ((iI (2)).toUInt32 &&& Int32.toUInt32 31)).toInt32) &&& ((858993459 : Int32)))) + ((((((iI (n : Int)) - ((((iI (n : Int)).toUInt32 >>> ((iI (1)).toUInt32 &&& Int32.toUInt32 31)).toInt32) &&& ((1431655765 : Int32)))) &&& ((858993459 : Int32))) + (((((iI (n : Int)) - ((((iI (n : Int)).toUInt32 >>> ((iI (1)).toUInt32 &&& Int32.toUInt32 31)).toInt32) &&& ((1431655765 : Int32)))).toUInt32 >>> ((iI (2)).toUInt32 &&& Int32.toUInt32 31)).toInt32) &&& ((858993459 : Int32)))).toUInt32 >>> ((iI (4)).toUInt32 &&& Int32.toUInt32 31)).toInt32)) &&& ((252645135 : Int32))) + ((((((((iI (n : Int)) - ((((iI (n : Int)).toUInt32 >>> ((iI (1)).toUInt32 &&& Int32.toUInt32 31)).toInt32) &&& ((1431655765 : Int32)))) &&& ((858993459 : Int32))) + (((((iI (n : Int)) - ((((iI (n : Int)).toUInt32 >>> ((iI (1)).toUInt32 &&& Int32.toUInt32 31)).toInt32) &&& ((1431655765 : Int32)))).toUInt32 >>> ((iI (2)).toUInt32 &&& Int32.toUInt32 31)).toInt32) &&& ((858993459 : Int32)))) + ((((((iI (n : Int)) - ((((iI (n : Int)).toUInt32 >>> ((iI (1)).toUInt32 &&& Int32.toUInt32 31)).toInt32) &&& ((1431655765 : Int32)))) &&& ((858993459 : Int32))) + (((((iI (n : Int)) - ((((iI (n : Int)).toUInt32 >>> ((iI (1)).toUInt32 &&& Int32.toUInt32 31)).toInt32) &&& ((1431655765 : Int32)))).toUInt32 >>> ((iI (2)).toUInt32 &&& Int32.toUInt32 31)).toInt32) &&& ((858993459 : Int32)))).toUInt32 >>> ((iI (4)).toUInt32 &&& Int32.toUInt32 31)).toInt32)) &&& ((252645135 : Int32))).toUInt32 >>> ((iI (8)).toUInt32 &&& Int32.toUInt32 31)).toInt32)) + (((((((((iI (n : Int)) - ((((iI (n : Int)).toUInt32 >>> ((iI (1)).toUInt32 &&& Int32.toUInt32 31)).toInt32) &&& ((1431655765 : Int32)))) &&& ((858993459 : Int32))) + (((((iI (n : Int)) - ((((iI (n : Int)).toUInt32 >>> ((iI (1)).toUInt32 &&& Int32.toUInt32 31)).toInt32) &&& ((1431655765 : Int32)))).toUInt32 >>> ((iI (2)).toUInt32 &&& Int32.toUInt32 31)).toInt32) &&& ((858993459 : Int32)))) + ((((((iI (n : Int)) - ((((iI (n : Int)).toUInt32 >>> ((iI (1)).toUInt32 &&& Int32.toUInt32 31)).toInt32) &&& ((1431655765 : Int32)))) &&& ((858993459 : Int32))) + (((((iI (n : Int)) - ((((iI (n : Int)).toUInt32 >>> ((iI (1)).toUInt32 &&& Int32.toUInt32 31)).toInt32) &&& ((1431655765 : Int32)))).toUInt32 >>> ((iI (2)).toUInt32 &&& Int32.toUInt32 31)).toInt32) &&& ((858993459 : Int32)))).toUInt32 >>> ((iI (4)).toUInt32 &&& Int32.toUInt32 31)).toInt32)) &&& ((252645135 : Int32))) + ((((((((iI (n : Int)) - ((((iI (n : Int)).toUInt32 >>> ((iI (1)).toUInt32 &&& Int32.toUInt32 31)).toInt32) &&& ((1431655765 : Int32)))) &&& ((858993459 : Int32))) + (((((iI (n : Int)) - ((((iI (n : Int)).toUInt32 >>> ((iI (1)).toUInt32 &&& Int32.toUInt32 31)).toInt32) &&& ((1431655765 : Int32)))).toUInt32 >>> ((iI (2)).toUInt32 &&& Int32.toUInt32 31)).toInt32) &&& ((858993459 : Int32)))) + ((((((iI (n : Int)) - ((((iI (n : Int)).toUInt32 >>> ((iI (1)).toUInt32 &&& Int32.toUInt32 31)).toInt32) &&& ((1431655765 : Int32)))) &&& ((858993459 : Int32))) + (((((iI (n : Int)) - ((((iI (n : Int)).toUInt32 >>> ((iI (1)).toUInt32 &&& Int32.toUInt32 31)).toInt32) &&& ((1431655765 : Int32)))).toUInt32 >>> ((iI (2)).toUInt32 &&& Int32.toUInt32 31)).toInt32) &&& ((858993459 : Int32)))).toUInt32 >>> ((iI (4)).toUInt32 &&& Int32.toUInt32 31)).toInt32)) &&& ((252645135 : Int32))).toUInt32 >>> ((iI (8)).toUInt32 &&& Int32.toUInt32 31)).toInt32)).toUInt32 >>> ((iI (16)).toUInt32 &&& Int32.toUInt32 31)).toInt32)) &&& (iI (63)) := (by decide +kernel)); (have h8 := h9 (Int.toNat i) (by omega)); rw [show ((Int.toNat i : Nat) : Int) = i by omega] at h8; exact h8) (hret _ _ dJ6_bitCount_0f7a4_52)
abbrev rm_X2_fewestBribed : Room := { frames := 5, cells := 0, slots := 0, locals := 122 }
set_option maxHeartbeats 4000000 in
set_option maxRecDepth 100000 in
theorem c_X2_fewestBribed {l : Launch} {D : va_G} {cI cS : ClassId} {ad : Nat → Nat} {I R : Nat → Nat → Int} {A : Nat → Prop} (hD : va_D A (wC cI cS ad I R))  (w : Int) (v : Int)  (hT : TI I R) (hw : 0 ≤ w ∧ w < I 5 13) (hv : 0 ≤ v ∧ v < 4): JV l yX2_fewestBribed wsX2_fewestBribed rm_X2_fewestBribed (jB D cI cS (wC cI cS ad I R)) A [.ref (ad 5), .int (iI (w)), .int (iI (v))] (fun v9 (_ : Unit) => v9 = some (.int (iI (br (fun b : Nat => decide (wi (bv (b : Int) v (fun k : Nat => vo I R (I 5 16) k w)) (Int.toNat (I 5 14)) = v)) (2 ^ (Int.toNat (I 5 14)))).1))) (fun _ H => va_P D vwCl (wC cI cS ad I (uR R 14 (cv I R (I 5 16) w (Int.toNat (I 5 14)) (R 14)))) H) := by
  refine JV.mkI rfl (by decide +kernel) rfl (Nat.le_of_ble_eq_true rfl) ?_
  intro p e st mi ar bl mth cd Q ls C hB hl hret
  obtain ⟨hE, hP⟩ := hB
  have hx := C.1
  have hb := C.2.1
  have hl : lv_has ls 7 [(0, .ref (ad 5)), (1, .int (iI (w))), (2, .int (iI (v)))] := hl
  have hin2 : ∀ w ∈ wsX20, w ∈ wsX2_fewestBribed := fun _ h => List.mem_cons_of_mem _ (List.mem_append_right _ h)
  suffices hgo : ∀ (H : Heap) (lc : List Loc), va_P D vwCl (wC cI cS ad I R) H → va_S A st.heap H lc → W p l e rm_X2_fewestBribed st mi ar bl mth cd H lc 0 0 Q (F0 mi 0 ls []) from hgo _ _ hP va_S.rf
  clear hP
  intro H lc hP hS
  have hK := hT.wards
  have hP6 := pw6 hK
  have hs := hT.set
  refine lv_aload_n hx hb dX2_fewestBribed_0 rfl (lv_at hl 0 rfl) ?_
  refine lv_aload_n hx hb dX2_fewestBribed_1 rfl (lv_at hl 0 rfl) ?_
  refine fg_T_setting C hin2 hE hP (v := I 5 16) (List.mem_of_getElem? (i := 1) rfl) dX2_fewestBribed_2 rfl ?_
  refine lv_iload_n hx hb dX2_fewestBribed_5 rfl (lv_at hl 1 rfl) ?_
  refine jw_V C hl.1 (jpreV hE hP 2 5 rfl rfl) (c_X2_castVotes (A := A) (jDC hD) (I 5 16) w hT (by first | assumption | exact hT.set | omega) (show 0 ≤ w ∧ w < I 5 13 from (by omega))) (cwV 2 C.2.2.2.2 gX2_fewestBribed_X2_castVotes rfl rfl rfl (by decide +kernel) ⟨Nat.le_of_ble_eq_true rfl, Nat.le_of_ble_eq_true rfl⟩) (As := [.int (iI (I 5 16)), .int (iI (w))]) (hn := rfl) (hst := rfl) (rest := []) (hW := Nat.le_of_ble_eq_true rfl) (hdg := dX2_fewestBribed_6) (hf := ⟨Nat.le_of_ble_eq_true rfl, Nat.le_of_ble_eq_true rfl⟩) hS (fun v9 uq6 H lc hq9 hP hS => ?_)
  subst hq9
  have hP : va_P D vwCl (wC cI cS ad I (uR R 14 (cv I R (I 5 16) w (Int.toNat (I 5 14)) (R 14)))) H := hP
  refine jz_bipush C dX2_fewestBribed_9 (by decide +kernel) ?_
  refine lv_istore_n (lv' := [(3, .int (iI (-9))), (0, .ref (ad 5)), (1, .int (iI (w))), (2, .int (iI (v)))]) hx hb dX2_fewestBribed_11 rfl hl (by decide) rfl (fun ls hl => ?_)
  refine jz_bipush C dX2_fewestBribed_12 (by decide +kernel) ?_
  refine lv_istore (lv' := [(4, .int (iI (7))), (3, .int (iI (-9))), (0, .ref (ad 5)), (1, .int (iI (w))), (2, .int (iI (v)))]) hx hb dX2_fewestBribed_14 hl (by decide) rfl (fun ls hl => ?_)
  refine jz_const C dX2_fewestBribed_16 ?_
  refine lv_istore (lv' := [(5, .int (iI (0))), (4, .int (iI (7))), (3, .int (iI (-9))), (0, .ref (ad 5)), (1, .int (iI (w))), (2, .int (iI (v)))]) hx hb dX2_fewestBribed_17 hl (by decide) rfl (fun ls hl => ?_)
  have key19 : ∀ (n19 : Nat) (t : Nat) (ht : (t : Int) ≤ 2 ^ (Int.toNat (I 5 14))), (2 ^ (Int.toNat (I 5 14)) - (t : Int) : Int) < n19 → ∀ (H : Heap) (lc : List Loc), va_P D vwCl (wC cI cS ad I (uR R 14 (cv I R (I 5 16) w (Int.toNat (I 5 14)) (R 14)))) H → va_S A st.heap H lc → ∀ (ls : Array Slot), lv_has ls 7 [(5, .int (iI ((t : Int)))), (4, .int (iI ((br (fun b : Nat => decide (wi (bv (b : Int) v (fun k : Nat => vo I R (I 5 16) k w)) (Int.toNat (I 5 14)) = v)) t).2))), (3, .int (iI ((br (fun b : Nat => decide (wi (bv (b : Int) v (fun k : Nat => vo I R (I 5 16) k w)) (Int.toNat (I 5 14)) = v)) t).1))), (0, .ref (ad 5)), (1, .int (iI (w))), (2, .int (iI (v)))] → W p l e rm_X2_fewestBribed st mi ar bl mth cd H lc 0 0 Q (F0 mi 19 ls []) := by
    intro n19
    induction n19 with
    | zero => intro t ht hn9; exfalso; omega
    | succ n19 ih19 =>
      intro t ht hn9 H lc hP hS ls hl
      refine lv_iload hx hb dX2_fewestBribed_19 (lv_at hl 0 rfl) ?_
      refine jz_const C dX2_fewestBribed_21 ?_
      refine lv_aload_n hx hb dX2_fewestBribed_22 rfl (lv_at hl 3 rfl) ?_
      refine fg_T_wards C hin2 hE hP (v := I 5 14) (List.mem_of_getElem? (i := 2) rfl) dX2_fewestBribed_23 rfl ?_
      refine jz_ishl (k := (Int.toNat (I 5 14))) C dX2_fewestBribed_26 ⟨by omega, by omega, by omega, by rw [Int.one_mul]; omega⟩ ?_
      refine jz_icmp_ge (tgt := 68) C dX2_fewestBribed_27 (by decide) (by rw [Int.one_mul]; omega) (fun h27 => ?_) (fun h27 => ?_)
      · skip
        refine lv_iload_n hx hb dX2_fewestBribed_68 rfl (lv_at hl 2 rfl) ?_
        exact hret _ () _ _ _ _ dX2_fewestBribed_69 (by rw [show ((br (fun b : Nat => decide (wi (bv (b : Int) v (fun k : Nat => vo I R (I 5 16) k w)) (Int.toNat (I 5 14)) = v)) t).1 : Int) = (br (fun b : Nat => decide (wi (bv (b : Int) v (fun k : Nat => vo I R (I 5 16) k w)) (Int.toNat (I 5 14)) = v)) (2 ^ (Int.toNat (I 5 14)))).1 from by rw [Int.one_mul] at h27; rw [show t = 2 ^ (Int.toNat (I 5 14)) by have := pwN (Int.toNat (I 5 14)); omega]]) hP hS
      · skip
        have hbr := br_bd (P := (fun b : Nat => decide (wi (bv (b : Int) v (fun k : Nat => vo I R (I 5 16) k w)) (Int.toNat (I 5 14)) = v))) (n := t)
        have hpc := pcz_bd t
        rw [Int.one_mul] at h27
        have hcv := wi_cvb (I := I) (R := R) (s := I 5 16) (w := w) (b := (t : Int)) (v := v) (n := Int.toNat (I 5 14)) (g0 := R 14)
        have hwi := wi_bd (its := bv (t : Int) v (cv I R (I 5 16) w (Int.toNat (I 5 14)) (R 14))) (n := Int.toNat (I 5 14))
        refine lv_iload hx hb dX2_fewestBribed_30 (lv_at hl 0 rfl) ?_
        refine jc_S C hl.1 (jpreS hE hP) (c_J6_bitCount_0f7a4 (t : Int) (show 0 ≤ (t : Int) ∧ (t : Int) < 64 from (by omega))) (va_cwS 1 C.2.2.2.2 gX2_fewestBribed_J6_bitCount_0f7a4 rfl rfl rfl (by decide +kernel) ⟨Nat.le_of_ble_eq_true rfl, Nat.le_of_ble_eq_true rfl⟩) (As := [.int (iI ((t : Int)))]) (v := .int (iI (pcz t))) (hn := rfl) (hst := rfl) (rest := []) (hW := Nat.le_of_ble_eq_true rfl) (hdg := dX2_fewestBribed_32) (hf := ⟨Nat.le_of_ble_eq_true rfl, Nat.le_of_ble_eq_true rfl⟩) ?_
        refine lv_istore (lv' := [(6, .int (iI (pcz t))), (5, .int (iI ((t : Int)))), (4, .int (iI ((br (fun b : Nat => decide (wi (bv (b : Int) v (fun k : Nat => vo I R (I 5 16) k w)) (Int.toNat (I 5 14)) = v)) t).2))), (3, .int (iI ((br (fun b : Nat => decide (wi (bv (b : Int) v (fun k : Nat => vo I R (I 5 16) k w)) (Int.toNat (I 5 14)) = v)) t).1))), (0, .ref (ad 5)), (1, .int (iI (w))), (2, .int (iI (v)))]) hx hb dX2_fewestBribed_35 hl (by decide) rfl (fun ls hl => ?_)
        refine lv_iload hx hb dX2_fewestBribed_37 (lv_at hl 0 rfl) ?_
        refine lv_iload hx hb dX2_fewestBribed_39 (lv_at hl 2 rfl) ?_
        refine jz_icmp_ge (tgt := 62) C dX2_fewestBribed_41 (by decide) (by omega) (fun h41 => ?_) (fun h41 => ?_)
        · skip
          refine jz_iinc (k := 1) (z := (t : Int) + 1) (lv' := [(5, .int (iI ((t : Int) + 1))), (6, .int (iI (pcz t))), (4, .int (iI ((br (fun b : Nat => decide (wi (bv (b : Int) v (fun k : Nat => vo I R (I 5 16) k w)) (Int.toNat (I 5 14)) = v)) t).2))), (3, .int (iI ((br (fun b : Nat => decide (wi (bv (b : Int) v (fun k : Nat => vo I R (I 5 16) k w)) (Int.toNat (I 5 14)) = v)) t).1))), (0, .ref (ad 5)), (1, .int (iI (w))), (2, .int (iI (v)))]) C dX2_fewestBribed_62 hl rfl rfl (by decide) rfl (fun ls hl => ?_)
          refine lv_goto (tgt := 19) hx hb dX2_fewestBribed_65 (by decide) ?_
          have hl9 : lv_has ls 7 [(5, .int (iI ((t + 1 : Int)))), (4, .int (iI ((br (fun b : Nat => decide (wi (bv (b : Int) v (fun k : Nat => vo I R (I 5 16) k w)) (Int.toNat (I 5 14)) = v)) (t + 1)).2))), (3, .int (iI ((br (fun b : Nat => decide (wi (bv (b : Int) v (fun k : Nat => vo I R (I 5 16) k w)) (Int.toNat (I 5 14)) = v)) (t + 1)).1))), (0, .ref (ad 5)), (1, .int (iI (w))), (2, .int (iI (v)))] := by
            rw [show ((br (fun b : Nat => decide (wi (bv (b : Int) v (fun k : Nat => vo I R (I 5 16) k w)) (Int.toNat (I 5 14)) = v)) (t + 1)).2 : Int) = (br (fun b : Nat => decide (wi (bv (b : Int) v (fun k : Nat => vo I R (I 5 16) k w)) (Int.toNat (I 5 14)) = v)) t).2 from by first | rw [br_s2 h41] | rw [br_s1 h41 (decide_eq_true (hcv.symm.trans h52))] | rw [br_s3 (fun q => h52 (hcv.trans (of_decide_eq_true q)))]]
            rw [show ((br (fun b : Nat => decide (wi (bv (b : Int) v (fun k : Nat => vo I R (I 5 16) k w)) (Int.toNat (I 5 14)) = v)) (t + 1)).1 : Int) = (br (fun b : Nat => decide (wi (bv (b : Int) v (fun k : Nat => vo I R (I 5 16) k w)) (Int.toNat (I 5 14)) = v)) t).1 from by first | rw [br_s2 h41] | rw [br_s1 h41 (decide_eq_true (hcv.symm.trans h52))] | rw [br_s3 (fun q => h52 (hcv.trans (of_decide_eq_true q)))]]
            exact lv_sub hl [0, 2, 3, 4, 5, 6] rfl
          exact ih19 (t + 1) (by omega) (by omega) _ _ hP hS ls hl9
        · skip
          refine lv_aload_n hx hb dX2_fewestBribed_44 rfl (lv_at hl 4 rfl) ?_
          refine lv_iload hx hb dX2_fewestBribed_45 (lv_at hl 1 rfl) ?_
          refine lv_iload_n hx hb dX2_fewestBribed_47 rfl (lv_at hl 6 rfl) ?_
          refine jc_V C hl.1 (jpreV hE hP 2 5 rfl rfl) (c_X2_winner (t : Int) v hT.wards (show 0 ≤ (t : Int) ∧ (t : Int) < 64 from (by omega)) (show 0 ≤ v ∧ v < 4 from (by omega)) (cv_ok hT)) (cwV 2 C.2.2.2.2 gX2_fewestBribed_X2_winner rfl rfl rfl (by decide +kernel) ⟨Nat.le_of_ble_eq_true rfl, Nat.le_of_ble_eq_true rfl⟩) (As := [.int (iI ((t : Int))), .int (iI (v))]) (v := .int (iI (wi (bv (t : Int) v (cv I R (I 5 16) w (Int.toNat (I 5 14)) (R 14))) (Int.toNat (I 5 14))))) (hn := rfl) (hst := rfl) (rest := []) (hW := Nat.le_of_ble_eq_true rfl) (hdg := dX2_fewestBribed_48) (hf := ⟨Nat.le_of_ble_eq_true rfl, Nat.le_of_ble_eq_true rfl⟩) ?_
          refine lv_iload_n hx hb dX2_fewestBribed_51 rfl (lv_at hl 6 rfl) ?_
          refine jz_icmp_ne (tgt := 62) C dX2_fewestBribed_52 (by decide) (by omega) (fun h52 => ?_) (fun h52 => ?_)
          · skip
            refine jz_iinc (k := 1) (z := (t : Int) + 1) (lv' := [(5, .int (iI ((t : Int) + 1))), (6, .int (iI (pcz t))), (4, .int (iI ((br (fun b : Nat => decide (wi (bv (b : Int) v (fun k : Nat => vo I R (I 5 16) k w)) (Int.toNat (I 5 14)) = v)) t).2))), (3, .int (iI ((br (fun b : Nat => decide (wi (bv (b : Int) v (fun k : Nat => vo I R (I 5 16) k w)) (Int.toNat (I 5 14)) = v)) t).1))), (0, .ref (ad 5)), (1, .int (iI (w))), (2, .int (iI (v)))]) C dX2_fewestBribed_62 hl rfl rfl (by decide) rfl (fun ls hl => ?_)
            refine lv_goto (tgt := 19) hx hb dX2_fewestBribed_65 (by decide) ?_
            have hl9 : lv_has ls 7 [(5, .int (iI ((t + 1 : Int)))), (4, .int (iI ((br (fun b : Nat => decide (wi (bv (b : Int) v (fun k : Nat => vo I R (I 5 16) k w)) (Int.toNat (I 5 14)) = v)) (t + 1)).2))), (3, .int (iI ((br (fun b : Nat => decide (wi (bv (b : Int) v (fun k : Nat => vo I R (I 5 16) k w)) (Int.toNat (I 5 14)) = v)) (t + 1)).1))), (0, .ref (ad 5)), (1, .int (iI (w))), (2, .int (iI (v)))] := by
              rw [show ((br (fun b : Nat => decide (wi (bv (b : Int) v (fun k : Nat => vo I R (I 5 16) k w)) (Int.toNat (I 5 14)) = v)) (t + 1)).2 : Int) = (br (fun b : Nat => decide (wi (bv (b : Int) v (fun k : Nat => vo I R (I 5 16) k w)) (Int.toNat (I 5 14)) = v)) t).2 from by first | rw [br_s2 h41] | rw [br_s1 h41 (decide_eq_true (hcv.symm.trans h52))] | rw [br_s3 (fun q => h52 (hcv.trans (of_decide_eq_true q)))]]
              rw [show ((br (fun b : Nat => decide (wi (bv (b : Int) v (fun k : Nat => vo I R (I 5 16) k w)) (Int.toNat (I 5 14)) = v)) (t + 1)).1 : Int) = (br (fun b : Nat => decide (wi (bv (b : Int) v (fun k : Nat => vo I R (I 5 16) k w)) (Int.toNat (I 5 14)) = v)) t).1 from by first | rw [br_s2 h41] | rw [br_s1 h41 (decide_eq_true (hcv.symm.trans h52))] | rw [br_s3 (fun q => h52 (hcv.trans (of_decide_eq_true q)))]]
              exact lv_sub hl [0, 2, 3, 4, 5, 6] rfl
            exact ih19 (t + 1) (by omega) (by omega) _ _ hP hS ls hl9
          · skip
            refine lv_iload hx hb dX2_fewestBribed_55 (lv_at hl 1 rfl) ?_
            refine lv_istore_n (lv' := [(3, .int (iI ((t : Int)))), (6, .int (iI (pcz t))), (5, .int (iI ((t : Int)))), (4, .int (iI ((br (fun b : Nat => decide (wi (bv (b : Int) v (fun k : Nat => vo I R (I 5 16) k w)) (Int.toNat (I 5 14)) = v)) t).2))), (0, .ref (ad 5)), (1, .int (iI (w))), (2, .int (iI (v)))]) hx hb dX2_fewestBribed_57 rfl hl (by decide) rfl (fun ls hl => ?_)
            refine lv_iload hx hb dX2_fewestBribed_58 (lv_at hl 1 rfl) ?_
            refine lv_istore (lv' := [(4, .int (iI (pcz t))), (3, .int (iI ((t : Int)))), (6, .int (iI (pcz t))), (5, .int (iI ((t : Int)))), (0, .ref (ad 5)), (1, .int (iI (w))), (2, .int (iI (v)))]) hx hb dX2_fewestBribed_60 hl (by decide) rfl (fun ls hl => ?_)
            refine jz_iinc (k := 3) (z := (t : Int) + 1) (lv' := [(5, .int (iI ((t : Int) + 1))), (4, .int (iI (pcz t))), (3, .int (iI ((t : Int)))), (6, .int (iI (pcz t))), (0, .ref (ad 5)), (1, .int (iI (w))), (2, .int (iI (v)))]) C dX2_fewestBribed_62 hl rfl rfl (by decide) rfl (fun ls hl => ?_)
            refine lv_goto (tgt := 19) hx hb dX2_fewestBribed_65 (by decide) ?_
            have hl9 : lv_has ls 7 [(5, .int (iI ((t + 1 : Int)))), (4, .int (iI ((br (fun b : Nat => decide (wi (bv (b : Int) v (fun k : Nat => vo I R (I 5 16) k w)) (Int.toNat (I 5 14)) = v)) (t + 1)).2))), (3, .int (iI ((br (fun b : Nat => decide (wi (bv (b : Int) v (fun k : Nat => vo I R (I 5 16) k w)) (Int.toNat (I 5 14)) = v)) (t + 1)).1))), (0, .ref (ad 5)), (1, .int (iI (w))), (2, .int (iI (v)))] := by
              rw [show ((br (fun b : Nat => decide (wi (bv (b : Int) v (fun k : Nat => vo I R (I 5 16) k w)) (Int.toNat (I 5 14)) = v)) (t + 1)).2 : Int) = pcz t from by first | rw [br_s2 h41] | rw [br_s1 h41 (decide_eq_true (hcv.symm.trans h52))] | rw [br_s3 (fun q => h52 (hcv.trans (of_decide_eq_true q)))]]
              rw [show ((br (fun b : Nat => decide (wi (bv (b : Int) v (fun k : Nat => vo I R (I 5 16) k w)) (Int.toNat (I 5 14)) = v)) (t + 1)).1 : Int) = (t : Int) from by first | rw [br_s2 h41] | rw [br_s1 h41 (decide_eq_true (hcv.symm.trans h52))] | rw [br_s3 (fun q => h52 (hcv.trans (of_decide_eq_true q)))]]
              exact lv_sub hl [0, 1, 2, 4, 5, 6] rfl
            exact ih19 (t + 1) (by omega) (by omega) _ _ hP hS ls hl9
  exact key19 (Int.toNat (2 ^ (Int.toNat (I 5 14)) - (0 : Int)) + 1) 0 (by omega) (by omega) _ _ hP hS ls (lv_sub hl [0, 1, 2, 3, 4, 5] rfl)
abbrev rm_X2_yearAfter : Room := { frames := 5, cells := 0, slots := 0, locals := 122 }
set_option maxHeartbeats 4000000 in
set_option maxRecDepth 100000 in
theorem c_X2_yearAfter {l : Launch} {D : va_G} {cI cS : ClassId} {ad : Nat → Nat} {I R : Nat → Nat → Int} {A : Nat → Prop} (hD : va_D A (wC cI cS ad I R))  (s : Int)  (hT : TI I R) (hs : 0 ≤ s ∧ s < 2 ^ (Int.toNat (2 * I 5 13))): JV l yX2_yearAfter wsX2_yearAfter rm_X2_yearAfter (jB D cI cS (wC cI cS ad I R)) A [.ref (ad 5), .int (iI (s))] (fun v9 (_ : Nat → Int) => v9 = some (.int (iI (ye I R s (Int.toNat (I 5 13)))))) (fun g9 H => va_P D vwCl (wC cI cS ad I (uR R 14 g9)) H) := by
  refine JV.mkI rfl (by decide +kernel) rfl (Nat.le_of_ble_eq_true rfl) ?_
  intro p e st mi ar bl mth cd Q ls C hB hl hret
  obtain ⟨hE, hP⟩ := hB
  have hx := C.1
  have hb := C.2.1
  have hl : lv_has ls 4 [(0, .ref (ad 5)), (1, .int (iI (s)))] := hl
  have hin2 : ∀ w ∈ wsX20, w ∈ wsX2_yearAfter := fun _ h => List.mem_cons_of_mem _ (List.mem_append_right _ h)
  suffices hgo : ∀ (H : Heap) (lc : List Loc), va_P D vwCl (wC cI cS ad I R) H → va_S A st.heap H lc → W p l e rm_X2_yearAfter st mi ar bl mth cd H lc 0 0 Q (F0 mi 0 ls []) from hgo _ _ hP va_S.rf
  clear hP
  intro H lc hP hS
  have hW := hT.works
  refine lv_iload_n hx hb dX2_yearAfter_0 rfl (lv_at hl 1 rfl) ?_
  refine lv_istore_n (lv' := [(2, .int (iI (s))), (0, .ref (ad 5)), (1, .int (iI (s)))]) hx hb dX2_yearAfter_1 rfl hl (by decide) rfl (fun ls hl => ?_)
  refine jz_const C dX2_yearAfter_2 ?_
  refine lv_istore_n (lv' := [(3, .int (iI (0))), (2, .int (iI (s))), (0, .ref (ad 5)), (1, .int (iI (s)))]) hx hb dX2_yearAfter_3 rfl hl (by decide) rfl (fun ls hl => ?_)
  have key4 : ∀ (n4 : Nat) (w : Nat) (gv : Nat → Int) (hw : (w : Int) ≤ I 5 13), (I 5 13 - w : Int) < n4 → ∀ (H : Heap) (lc : List Loc), va_P D vwCl (wC cI cS ad I (uR R 14 gv)) H → va_S A st.heap H lc → ∀ (ls : Array Slot), lv_has ls 4 [(3, .int (iI ((w : Int)))), (2, .int (iI (ye I R s w))), (0, .ref (ad 5)), (1, .int (iI (s)))] → W p l e rm_X2_yearAfter st mi ar bl mth cd H lc 0 0 Q (F0 mi 4 ls []) := by
    intro n4
    induction n4 with
    | zero => intro w gv hw hn9; exfalso; omega
    | succ n4 ih4 =>
      intro w gv hw hn9 H lc hP hS ls hl
      refine lv_iload_n hx hb dX2_yearAfter_4 rfl (lv_at hl 0 rfl) ?_
      refine lv_aload_n hx hb dX2_yearAfter_5 rfl (lv_at hl 2 rfl) ?_
      refine fg_T_works C hin2 hE hP (v := I 5 13) (List.mem_of_getElem? (i := 1) rfl) dX2_yearAfter_6 rfl ?_
      refine jz_icmp_ge (tgt := 37) C dX2_yearAfter_9 (by decide) (by omega) (fun h9 => ?_) (fun h9 => ?_)
      · skip
        refine lv_iload_n hx hb dX2_yearAfter_37 rfl (lv_at hl 1 rfl) ?_
        exact hret _ gv _ _ _ _ dX2_yearAfter_38 (by rw [show (ye I R s w : Int) = ye I R s (Int.toNat (I 5 13)) from by rw [show w = Int.toNat (I 5 13) by omega]]) hP hS
      · skip
        have hye := ye_bd hT hs w (by omega)
        have hye2 := pow_bd hW hye
        refine lv_aload_n hx hb dX2_yearAfter_12 rfl (lv_at hl 2 rfl) ?_
        refine lv_iload_n hx hb dX2_yearAfter_13 rfl (lv_at hl 1 rfl) ?_
        refine lv_iload_n hx hb dX2_yearAfter_14 rfl (lv_at hl 0 rfl) ?_
        refine jw_V C hl.1 (jpreV hE hP 2 5 rfl rfl) (c_X2_castVotes (A := A) (jDC hD) (ye I R s w) (w : Int) hT (by first | assumption | exact hT.set | omega) (show 0 ≤ (w : Int) ∧ (w : Int) < I 5 13 from (by omega))) (cwV 2 C.2.2.2.2 gX2_yearAfter_X2_castVotes rfl rfl rfl (by decide +kernel) ⟨Nat.le_of_ble_eq_true rfl, Nat.le_of_ble_eq_true rfl⟩) (As := [.int (iI (ye I R s w)), .int (iI ((w : Int)))]) (hn := rfl) (hst := rfl) (rest := []) (hW := Nat.le_of_ble_eq_true rfl) (hdg := dX2_yearAfter_15) (hf := ⟨Nat.le_of_ble_eq_true rfl, Nat.le_of_ble_eq_true rfl⟩) hS (fun v9 uq15 H lc hq9 hP hS => ?_)
        subst hq9
        have hP : va_P D vwCl (wC cI cS ad I (uR R 14 (cv I R (ye I R s w) (w : Int) (Int.toNat (I 5 14)) gv))) H := hP
        refine lv_aload_n hx hb dX2_yearAfter_18 rfl (lv_at hl 2 rfl) ?_
        refine lv_iload_n hx hb dX2_yearAfter_19 rfl (lv_at hl 1 rfl) ?_
        refine lv_iload_n hx hb dX2_yearAfter_20 rfl (lv_at hl 0 rfl) ?_
        refine lv_aload_n hx hb dX2_yearAfter_21 rfl (lv_at hl 2 rfl) ?_
        refine jz_const C dX2_yearAfter_22 ?_
        refine jz_const C dX2_yearAfter_23 ?_
        refine jc_V C hl.1 (jpreV hE hP 2 5 rfl rfl) (c_X2_winner 0 0 hT.wards (show 0 ≤ 0 ∧ 0 < 64 from (by omega)) (show 0 ≤ 0 ∧ 0 < 4 from (by omega)) (cv_ok hT)) (cwV 2 C.2.2.2.2 gX2_yearAfter_X2_winner rfl rfl rfl (by decide +kernel) ⟨Nat.le_of_ble_eq_true rfl, Nat.le_of_ble_eq_true rfl⟩) (As := [.int (iI (0)), .int (iI (0))]) (v := .int (iI (wi (bv 0 0 (cv I R (ye I R s w) (w : Int) (Int.toNat (I 5 14)) gv)) (Int.toNat (I 5 14))))) (hn := rfl) (hst := rfl) (rest := [.int (iI ((w : Int))), .int (iI (ye I R s w)), .ref (ad 5)]) (hW := Nat.le_of_ble_eq_true rfl) (hdg := dX2_yearAfter_24) (hf := ⟨Nat.le_of_ble_eq_true rfl, Nat.le_of_ble_eq_true rfl⟩) ?_
        refine jc_V C hl.1 (jpreV hE hP 2 5 rfl rfl) (c_X2_turned (ye I R s w) (w : Int) (wi (bv 0 0 (cv I R (ye I R s w) (w : Int) (Int.toNat (I 5 14)) gv)) (Int.toNat (I 5 14))) hT.works (show 0 ≤ (ye I R s w) ∧ (ye I R s w) < 256 from (by omega)) (show 0 ≤ (w : Int) ∧ (w : Int) < I 5 13 from (by omega)) wi_bd) (cwV 3 C.2.2.2.2 gX2_yearAfter_X2_turned rfl rfl rfl (by decide +kernel) ⟨Nat.le_of_ble_eq_true rfl, Nat.le_of_ble_eq_true rfl⟩) (As := [.int (iI (ye I R s w)), .int (iI ((w : Int))), .int (iI (wi (bv 0 0 (cv I R (ye I R s w) (w : Int) (Int.toNat (I 5 14)) gv)) (Int.toNat (I 5 14))))]) (v := .int (iI (tz (I 5 13) (ye I R s w) (w : Int) (wi (bv 0 0 (cv I R (ye I R s w) (w : Int) (Int.toNat (I 5 14)) gv)) (Int.toNat (I 5 14)))))) (hn := rfl) (hst := rfl) (rest := []) (hW := Nat.le_of_ble_eq_true rfl) (hdg := dX2_yearAfter_27) (hf := ⟨Nat.le_of_ble_eq_true rfl, Nat.le_of_ble_eq_true rfl⟩) ?_
        refine lv_istore_n (lv' := [(2, .int (iI (tz (I 5 13) (ye I R s w) (w : Int) (wi (bv 0 0 (cv I R (ye I R s w) (w : Int) (Int.toNat (I 5 14)) gv)) (Int.toNat (I 5 14)))))), (3, .int (iI ((w : Int)))), (0, .ref (ad 5)), (1, .int (iI (s)))]) hx hb dX2_yearAfter_30 rfl hl (by decide) rfl (fun ls hl => ?_)
        refine jz_iinc (k := 1) (z := (w : Int) + 1) (lv' := [(3, .int (iI ((w : Int) + 1))), (2, .int (iI (tz (I 5 13) (ye I R s w) (w : Int) (wi (bv 0 0 (cv I R (ye I R s w) (w : Int) (Int.toNat (I 5 14)) gv)) (Int.toNat (I 5 14)))))), (0, .ref (ad 5)), (1, .int (iI (s)))]) C dX2_yearAfter_31 hl rfl rfl (by decide) rfl (fun ls hl => ?_)
        refine lv_goto (tgt := 4) hx hb dX2_yearAfter_34 (by decide) ?_
        have hl9 : lv_has ls 4 [(3, .int (iI ((w + 1 : Int)))), (2, .int (iI (ye I R s (w + 1)))), (0, .ref (ad 5)), (1, .int (iI (s)))] := by
          rw [show (ye I R s (w + 1) : Int) = tz (I 5 13) (ye I R s w) (w : Int) (wi (bv 0 0 (cv I R (ye I R s w) (w : Int) (Int.toNat (I 5 14)) gv)) (Int.toNat (I 5 14))) from by rw [bv_0, wi_cv]; rfl]
          exact lv_sub hl [0, 1, 2, 3] rfl
        exact ih4 (w + 1) (cv I R (ye I R s w) (w : Int) (Int.toNat (I 5 14)) gv) (by omega) (by omega) _ _ hP hS ls hl9
  exact key4 (Int.toNat (I 5 13 - 0) + 1) 0 (R 14) (by omega) (by omega) _ _ (by rw [uR_id]; exact hP) hS ls (lv_sub hl [0, 1, 2, 3] rfl)
abbrev rm_X2_leastSetting_b : Room := { frames := 4, cells := 0, slots := 0, locals := 95 }
set_option maxHeartbeats 4000000 in
set_option maxRecDepth 100000 in
theorem c_X2_leastSetting_b {l : Launch} {D : va_G} {cI cS : ClassId} {ad : Nat → Nat} {I R : Nat → Nat → Int}    (hT : TI I R): JS l yX2_leastSetting wsX2_leastSetting rm_X2_leastSetting_b (jB D cI cS (wC cI cS ad I R)) [.ref (ad 5), .int (iI (0))] (.int (iI ((am (fun t : Nat => su (mz I R (t : Int)) (Int.toNat (I 5 14))) (2 ^ (Int.toNat (2 * I 5 13)))).1))) := by
  refine JS.mkI rfl (by decide +kernel) rfl (Nat.le_of_ble_eq_true rfl) ?_
  intro p e st mi ar bl mth cd Q ls C hB hl hret
  obtain ⟨hE, hP⟩ := hB
  have hx := C.1
  have hb := C.2.1
  have hl : lv_has ls 6 [(0, .ref (ad 5)), (1, .int (iI (0)))] := hl
  have hW := hT.works
  have hK := hT.wards
  have hP8 := pw8 hW
  refine jz_const C dX2_leastSetting_0 ?_
  refine lv_istore_n (lv' := [(2, .int (iI (0))), (0, .ref (ad 5)), (1, .int (iI (0)))]) hx hb dX2_leastSetting_1 rfl hl (by decide) rfl (fun ls hl => ?_)
  refine jz_ldc (z := 1000000) C (List.mem_of_getElem? (i := 1) rfl) (by decide +kernel) dX2_leastSetting_2 ?_
  refine lv_istore_n (lv' := [(3, .int (iI (1000000))), (2, .int (iI (0))), (0, .ref (ad 5)), (1, .int (iI (0)))]) hx hb dX2_leastSetting_4 rfl hl (by decide) rfl (fun ls hl => ?_)
  refine jz_const C dX2_leastSetting_5 ?_
  refine lv_istore (lv' := [(4, .int (iI (0))), (3, .int (iI (1000000))), (2, .int (iI (0))), (0, .ref (ad 5)), (1, .int (iI (0)))]) hx hb dX2_leastSetting_6 hl (by decide) rfl (fun ls hl => ?_)
  have key8 : ∀ (n8 : Nat) (t : Nat) (ht : (t : Int) ≤ 2 ^ (Int.toNat (2 * I 5 13))), (2 ^ (Int.toNat (2 * I 5 13)) - (t : Int) : Int) < n8 → ∀ (ls : Array Slot), lv_has ls 6 [(4, .int (iI ((t : Int)))), (3, .int (iI ((am (fun t : Nat => su (mz I R (t : Int)) (Int.toNat (I 5 14))) t).2))), (2, .int (iI ((am (fun t : Nat => su (mz I R (t : Int)) (Int.toNat (I 5 14))) t).1))), (0, .ref (ad 5)), (1, .int (iI (0)))] → W p l e rm_X2_leastSetting_b st mi ar bl mth cd st.heap [] 0 0 Q (F0 mi 8 ls []) := by
    intro n8
    induction n8 with
    | zero => intro t ht hn9; exfalso; omega
    | succ n8 ih8 =>
      intro t ht hn9 ls hl
      refine lv_iload hx hb dX2_leastSetting_8 (lv_at hl 0 rfl) ?_
      refine lv_aload_n hx hb dX2_leastSetting_10 rfl (lv_at hl 3 rfl) ?_
      refine jc_V C hl.1 (jpreV hE hP 2 5 rfl rfl) (c_X2_settingsInAll  hT.works) (cwV 0 C.2.2.2.2 gX2_leastSetting_X2_settingsInAll rfl rfl rfl (by decide +kernel) ⟨Nat.le_of_ble_eq_true rfl, Nat.le_of_ble_eq_true rfl⟩) (As := []) (v := .int (iI (2 ^ (Int.toNat (2 * I 5 13))))) (hn := rfl) (hst := rfl) (rest := [.int (iI ((t : Int)))]) (hW := Nat.le_of_ble_eq_true rfl) (hdg := dX2_leastSetting_11) (hf := ⟨Nat.le_of_ble_eq_true rfl, Nat.le_of_ble_eq_true rfl⟩) ?_
      refine jz_icmp_ge (tgt := 56) C dX2_leastSetting_14 (by decide) (by omega) (fun h14 => ?_) (fun h14 => ?_)
      · skip
        refine lv_iload_n hx hb dX2_leastSetting_56 rfl (lv_at hl 2 rfl) ?_
        exact jz_ret (show ((am (fun t : Nat => su (mz I R (t : Int)) (Int.toNat (I 5 14))) (2 ^ (Int.toNat (2 * I 5 13)))).1 : Int) = (am (fun t : Nat => su (mz I R (t : Int)) (Int.toNat (I 5 14))) t).1 from by rw [show t = 2 ^ (Int.toNat (2 * I 5 13)) by have := pwN (Int.toNat (2 * I 5 13)); omega]) (hret _ _ dX2_leastSetting_57)
      · skip
        have hco : ∀ x : Nat, 0 ≤ (fun t : Nat => su (mz I R (t : Int)) (Int.toNat (I 5 14))) x ∧ (fun t : Nat => su (mz I R (t : Int)) (Int.toNat (I 5 14))) x < 1000000 := fun x => by have := su_bd (f := mz I R (x : Int)) (n := Int.toNat (I 5 14)) (b := 720) (fun y hy => mz_bd hT (by omega)); exact ⟨this.1, by simp only; omega⟩
        have ham := am_bd (g := (fun t : Nat => su (mz I R (t : Int)) (Int.toNat (I 5 14)))) (n := t) (fun x _ => hco x)
        have hct := hco t
        simp only at hct
        refine lv_iload_n hx hb dX2_leastSetting_17 rfl (lv_at hl 4 rfl) ?_
        refine jz_if_eq (tgt := 30) C dX2_leastSetting_18 (by decide) (by omega) (fun h18 => ?_) (fun h18 => ?_)
        · skip
          refine lv_aload_n hx hb dX2_leastSetting_30 rfl (lv_at hl 3 rfl) ?_
          refine lv_iload hx hb dX2_leastSetting_31 (lv_at hl 0 rfl) ?_
          refine jc_V C hl.1 (jpreV hE hP 2 5 rfl rfl) (c_X2_burdenBy (t : Int) hT (show 0 ≤ (t : Int) ∧ (t : Int) < 256 from (by omega))) (cwV 1 C.2.2.2.2 gX2_leastSetting_X2_burdenBy rfl rfl rfl (by decide +kernel) ⟨Nat.le_of_ble_eq_true rfl, Nat.le_of_ble_eq_true rfl⟩) (As := [.int (iI ((t : Int)))]) (v := .int (iI (su (mz I R (t : Int)) (Int.toNat (I 5 14))))) (hn := rfl) (hst := rfl) (rest := []) (hW := Nat.le_of_ble_eq_true rfl) (hdg := dX2_leastSetting_33) (hf := ⟨Nat.le_of_ble_eq_true rfl, Nat.le_of_ble_eq_true rfl⟩) ?_
          refine lv_istore (lv' := [(5, .int (iI (su (mz I R (t : Int)) (Int.toNat (I 5 14))))), (4, .int (iI ((t : Int)))), (3, .int (iI ((am (fun t : Nat => su (mz I R (t : Int)) (Int.toNat (I 5 14))) t).2))), (2, .int (iI ((am (fun t : Nat => su (mz I R (t : Int)) (Int.toNat (I 5 14))) t).1))), (0, .ref (ad 5)), (1, .int (iI (0)))]) hx hb dX2_leastSetting_36 hl (by decide) rfl (fun ls hl => ?_)
          refine lv_iload hx hb dX2_leastSetting_38 (lv_at hl 0 rfl) ?_
          refine lv_iload_n hx hb dX2_leastSetting_40 rfl (lv_at hl 2 rfl) ?_
          refine jz_icmp_ge (tgt := 50) C dX2_leastSetting_41 (by decide) (by omega) (fun h41 => ?_) (fun h41 => ?_)
          · skip
            refine jz_iinc (k := 1) (z := (t : Int) + 1) (lv' := [(4, .int (iI ((t : Int) + 1))), (5, .int (iI (su (mz I R (t : Int)) (Int.toNat (I 5 14))))), (3, .int (iI ((am (fun t : Nat => su (mz I R (t : Int)) (Int.toNat (I 5 14))) t).2))), (2, .int (iI ((am (fun t : Nat => su (mz I R (t : Int)) (Int.toNat (I 5 14))) t).1))), (0, .ref (ad 5)), (1, .int (iI (0)))]) C dX2_leastSetting_50 hl rfl rfl (by decide) rfl (fun ls hl => ?_)
            refine lv_goto (tgt := 8) hx hb dX2_leastSetting_53 (by decide) ?_
            have hl9 : lv_has ls 6 [(4, .int (iI ((t + 1 : Int)))), (3, .int (iI ((am (fun t : Nat => su (mz I R (t : Int)) (Int.toNat (I 5 14))) (t + 1)).2))), (2, .int (iI ((am (fun t : Nat => su (mz I R (t : Int)) (Int.toNat (I 5 14))) (t + 1)).1))), (0, .ref (ad 5)), (1, .int (iI (0)))] := by
              rw [show ((am (fun t : Nat => su (mz I R (t : Int)) (Int.toNat (I 5 14))) (t + 1)).2 : Int) = (am (fun t : Nat => su (mz I R (t : Int)) (Int.toNat (I 5 14))) t).2 from by first | rw [am_s1 h41] | rw [am_s2 h41]]
              rw [show ((am (fun t : Nat => su (mz I R (t : Int)) (Int.toNat (I 5 14))) (t + 1)).1 : Int) = (am (fun t : Nat => su (mz I R (t : Int)) (Int.toNat (I 5 14))) t).1 from by first | rw [am_s1 h41] | rw [am_s2 h41]]
              exact lv_sub hl [0, 2, 3, 4, 5] rfl
            exact ih8 (t + 1) (by omega) (by omega) ls hl9
          · skip
            refine lv_iload hx hb dX2_leastSetting_44 (lv_at hl 0 rfl) ?_
            refine lv_istore_n (lv' := [(3, .int (iI (su (mz I R (t : Int)) (Int.toNat (I 5 14))))), (5, .int (iI (su (mz I R (t : Int)) (Int.toNat (I 5 14))))), (4, .int (iI ((t : Int)))), (2, .int (iI ((am (fun t : Nat => su (mz I R (t : Int)) (Int.toNat (I 5 14))) t).1))), (0, .ref (ad 5)), (1, .int (iI (0)))]) hx hb dX2_leastSetting_46 rfl hl (by decide) rfl (fun ls hl => ?_)
            refine lv_iload hx hb dX2_leastSetting_47 (lv_at hl 2 rfl) ?_
            refine lv_istore_n (lv' := [(2, .int (iI ((t : Int)))), (3, .int (iI (su (mz I R (t : Int)) (Int.toNat (I 5 14))))), (5, .int (iI (su (mz I R (t : Int)) (Int.toNat (I 5 14))))), (4, .int (iI ((t : Int)))), (0, .ref (ad 5)), (1, .int (iI (0)))]) hx hb dX2_leastSetting_49 rfl hl (by decide) rfl (fun ls hl => ?_)
            refine jz_iinc (k := 3) (z := (t : Int) + 1) (lv' := [(4, .int (iI ((t : Int) + 1))), (2, .int (iI ((t : Int)))), (3, .int (iI (su (mz I R (t : Int)) (Int.toNat (I 5 14))))), (5, .int (iI (su (mz I R (t : Int)) (Int.toNat (I 5 14))))), (0, .ref (ad 5)), (1, .int (iI (0)))]) C dX2_leastSetting_50 hl rfl rfl (by decide) rfl (fun ls hl => ?_)
            refine lv_goto (tgt := 8) hx hb dX2_leastSetting_53 (by decide) ?_
            have hl9 : lv_has ls 6 [(4, .int (iI ((t + 1 : Int)))), (3, .int (iI ((am (fun t : Nat => su (mz I R (t : Int)) (Int.toNat (I 5 14))) (t + 1)).2))), (2, .int (iI ((am (fun t : Nat => su (mz I R (t : Int)) (Int.toNat (I 5 14))) (t + 1)).1))), (0, .ref (ad 5)), (1, .int (iI (0)))] := by
              rw [show ((am (fun t : Nat => su (mz I R (t : Int)) (Int.toNat (I 5 14))) (t + 1)).2 : Int) = su (mz I R (t : Int)) (Int.toNat (I 5 14)) from by first | rw [am_s1 h41] | rw [am_s2 h41]]
              rw [show ((am (fun t : Nat => su (mz I R (t : Int)) (Int.toNat (I 5 14))) (t + 1)).1 : Int) = (t : Int) from by first | rw [am_s1 h41] | rw [am_s2 h41]]
              exact lv_sub hl [0, 2, 1, 4, 5] rfl
            exact ih8 (t + 1) (by omega) (by omega) ls hl9
        · exact absurd h18 (by decide)
  exact key8 (Int.toNat (2 ^ (Int.toNat (2 * I 5 13)) - (0 : Int)) + 1) 0 (by omega) (by omega) ls (lv_sub hl [0, 1, 2, 3, 4] rfl)
abbrev rm_X2_leastSetting_c : Room := { frames := 4, cells := 0, slots := 0, locals := 95 }
set_option maxHeartbeats 4000000 in
set_option maxRecDepth 100000 in
theorem c_X2_leastSetting_c {l : Launch} {D : va_G} {cI cS : ClassId} {ad : Nat → Nat} {I R : Nat → Nat → Int}    (hT : TI I R): JS l yX2_leastSetting wsX2_leastSetting rm_X2_leastSetting_c (jB D cI cS (wC cI cS ad I R)) [.ref (ad 5), .int (iI (1))] (.int (iI ((am (fun t : Nat => mx (mz I R (t : Int)) (Int.toNat (I 5 14))) (2 ^ (Int.toNat (2 * I 5 13)))).1))) := by
  refine JS.mkI rfl (by decide +kernel) rfl (Nat.le_of_ble_eq_true rfl) ?_
  intro p e st mi ar bl mth cd Q ls C hB hl hret
  obtain ⟨hE, hP⟩ := hB
  have hx := C.1
  have hb := C.2.1
  have hl : lv_has ls 6 [(0, .ref (ad 5)), (1, .int (iI (1)))] := hl
  have hW := hT.works
  have hK := hT.wards
  have hP8 := pw8 hW
  refine jz_const C dX2_leastSetting_0 ?_
  refine lv_istore_n (lv' := [(2, .int (iI (0))), (0, .ref (ad 5)), (1, .int (iI (1)))]) hx hb dX2_leastSetting_1 rfl hl (by decide) rfl (fun ls hl => ?_)
  refine jz_ldc (z := 1000000) C (List.mem_of_getElem? (i := 1) rfl) (by decide +kernel) dX2_leastSetting_2 ?_
  refine lv_istore_n (lv' := [(3, .int (iI (1000000))), (2, .int (iI (0))), (0, .ref (ad 5)), (1, .int (iI (1)))]) hx hb dX2_leastSetting_4 rfl hl (by decide) rfl (fun ls hl => ?_)
  refine jz_const C dX2_leastSetting_5 ?_
  refine lv_istore (lv' := [(4, .int (iI (0))), (3, .int (iI (1000000))), (2, .int (iI (0))), (0, .ref (ad 5)), (1, .int (iI (1)))]) hx hb dX2_leastSetting_6 hl (by decide) rfl (fun ls hl => ?_)
  have key8 : ∀ (n8 : Nat) (t : Nat) (ht : (t : Int) ≤ 2 ^ (Int.toNat (2 * I 5 13))), (2 ^ (Int.toNat (2 * I 5 13)) - (t : Int) : Int) < n8 → ∀ (ls : Array Slot), lv_has ls 6 [(4, .int (iI ((t : Int)))), (3, .int (iI ((am (fun t : Nat => mx (mz I R (t : Int)) (Int.toNat (I 5 14))) t).2))), (2, .int (iI ((am (fun t : Nat => mx (mz I R (t : Int)) (Int.toNat (I 5 14))) t).1))), (0, .ref (ad 5)), (1, .int (iI (1)))] → W p l e rm_X2_leastSetting_c st mi ar bl mth cd st.heap [] 0 0 Q (F0 mi 8 ls []) := by
    intro n8
    induction n8 with
    | zero => intro t ht hn9; exfalso; omega
    | succ n8 ih8 =>
      intro t ht hn9 ls hl
      refine lv_iload hx hb dX2_leastSetting_8 (lv_at hl 0 rfl) ?_
      refine lv_aload_n hx hb dX2_leastSetting_10 rfl (lv_at hl 3 rfl) ?_
      refine jc_V C hl.1 (jpreV hE hP 2 5 rfl rfl) (c_X2_settingsInAll  hT.works) (cwV 0 C.2.2.2.2 gX2_leastSetting_X2_settingsInAll rfl rfl rfl (by decide +kernel) ⟨Nat.le_of_ble_eq_true rfl, Nat.le_of_ble_eq_true rfl⟩) (As := []) (v := .int (iI (2 ^ (Int.toNat (2 * I 5 13))))) (hn := rfl) (hst := rfl) (rest := [.int (iI ((t : Int)))]) (hW := Nat.le_of_ble_eq_true rfl) (hdg := dX2_leastSetting_11) (hf := ⟨Nat.le_of_ble_eq_true rfl, Nat.le_of_ble_eq_true rfl⟩) ?_
      refine jz_icmp_ge (tgt := 56) C dX2_leastSetting_14 (by decide) (by omega) (fun h14 => ?_) (fun h14 => ?_)
      · skip
        refine lv_iload_n hx hb dX2_leastSetting_56 rfl (lv_at hl 2 rfl) ?_
        exact jz_ret (show ((am (fun t : Nat => mx (mz I R (t : Int)) (Int.toNat (I 5 14))) (2 ^ (Int.toNat (2 * I 5 13)))).1 : Int) = (am (fun t : Nat => mx (mz I R (t : Int)) (Int.toNat (I 5 14))) t).1 from by rw [show t = 2 ^ (Int.toNat (2 * I 5 13)) by have := pwN (Int.toNat (2 * I 5 13)); omega]) (hret _ _ dX2_leastSetting_57)
      · skip
        have hco : ∀ x : Nat, 0 ≤ (fun t : Nat => mx (mz I R (t : Int)) (Int.toNat (I 5 14))) x ∧ (fun t : Nat => mx (mz I R (t : Int)) (Int.toNat (I 5 14))) x < 1000000 := fun x => by have := mx_bd (f := mz I R (x : Int)) (n := Int.toNat (I 5 14)) (b := 720) (by omega) (fun y hy => mz_bd hT (by omega)); exact ⟨this.1, by simp only; omega⟩
        have ham := am_bd (g := (fun t : Nat => mx (mz I R (t : Int)) (Int.toNat (I 5 14)))) (n := t) (fun x _ => hco x)
        have hct := hco t
        simp only at hct
        refine lv_iload_n hx hb dX2_leastSetting_17 rfl (lv_at hl 4 rfl) ?_
        refine jz_if_eq (tgt := 30) C dX2_leastSetting_18 (by decide) (by omega) (fun h18 => ?_) (fun h18 => ?_)
        · exact absurd h18 (by decide)
        · skip
          refine lv_aload_n hx hb dX2_leastSetting_21 rfl (lv_at hl 3 rfl) ?_
          refine lv_iload hx hb dX2_leastSetting_22 (lv_at hl 0 rfl) ?_
          refine jc_V C hl.1 (jpreV hE hP 2 5 rfl rfl) (c_X2_mostMindedBy (t : Int) hT (show 0 ≤ (t : Int) ∧ (t : Int) < 256 from (by omega))) (cwV 1 C.2.2.2.2 gX2_leastSetting_X2_mostMindedBy rfl rfl rfl (by decide +kernel) ⟨Nat.le_of_ble_eq_true rfl, Nat.le_of_ble_eq_true rfl⟩) (As := [.int (iI ((t : Int)))]) (v := .int (iI (mx (mz I R (t : Int)) (Int.toNat (I 5 14))))) (hn := rfl) (hst := rfl) (rest := []) (hW := Nat.le_of_ble_eq_true rfl) (hdg := dX2_leastSetting_24) (hf := ⟨Nat.le_of_ble_eq_true rfl, Nat.le_of_ble_eq_true rfl⟩) ?_
          refine lv_goto (tgt := 36) hx hb dX2_leastSetting_27 (by decide) ?_
          refine lv_istore (lv' := [(5, .int (iI (mx (mz I R (t : Int)) (Int.toNat (I 5 14))))), (4, .int (iI ((t : Int)))), (3, .int (iI ((am (fun t : Nat => mx (mz I R (t : Int)) (Int.toNat (I 5 14))) t).2))), (2, .int (iI ((am (fun t : Nat => mx (mz I R (t : Int)) (Int.toNat (I 5 14))) t).1))), (0, .ref (ad 5)), (1, .int (iI (1)))]) hx hb dX2_leastSetting_36 hl (by decide) rfl (fun ls hl => ?_)
          refine lv_iload hx hb dX2_leastSetting_38 (lv_at hl 0 rfl) ?_
          refine lv_iload_n hx hb dX2_leastSetting_40 rfl (lv_at hl 2 rfl) ?_
          refine jz_icmp_ge (tgt := 50) C dX2_leastSetting_41 (by decide) (by omega) (fun h41 => ?_) (fun h41 => ?_)
          · skip
            refine jz_iinc (k := 1) (z := (t : Int) + 1) (lv' := [(4, .int (iI ((t : Int) + 1))), (5, .int (iI (mx (mz I R (t : Int)) (Int.toNat (I 5 14))))), (3, .int (iI ((am (fun t : Nat => mx (mz I R (t : Int)) (Int.toNat (I 5 14))) t).2))), (2, .int (iI ((am (fun t : Nat => mx (mz I R (t : Int)) (Int.toNat (I 5 14))) t).1))), (0, .ref (ad 5)), (1, .int (iI (1)))]) C dX2_leastSetting_50 hl rfl rfl (by decide) rfl (fun ls hl => ?_)
            refine lv_goto (tgt := 8) hx hb dX2_leastSetting_53 (by decide) ?_
            have hl9 : lv_has ls 6 [(4, .int (iI ((t + 1 : Int)))), (3, .int (iI ((am (fun t : Nat => mx (mz I R (t : Int)) (Int.toNat (I 5 14))) (t + 1)).2))), (2, .int (iI ((am (fun t : Nat => mx (mz I R (t : Int)) (Int.toNat (I 5 14))) (t + 1)).1))), (0, .ref (ad 5)), (1, .int (iI (1)))] := by
              rw [show ((am (fun t : Nat => mx (mz I R (t : Int)) (Int.toNat (I 5 14))) (t + 1)).2 : Int) = (am (fun t : Nat => mx (mz I R (t : Int)) (Int.toNat (I 5 14))) t).2 from by first | rw [am_s1 h41] | rw [am_s2 h41]]
              rw [show ((am (fun t : Nat => mx (mz I R (t : Int)) (Int.toNat (I 5 14))) (t + 1)).1 : Int) = (am (fun t : Nat => mx (mz I R (t : Int)) (Int.toNat (I 5 14))) t).1 from by first | rw [am_s1 h41] | rw [am_s2 h41]]
              exact lv_sub hl [0, 2, 3, 4, 5] rfl
            exact ih8 (t + 1) (by omega) (by omega) ls hl9
          · skip
            refine lv_iload hx hb dX2_leastSetting_44 (lv_at hl 0 rfl) ?_
            refine lv_istore_n (lv' := [(3, .int (iI (mx (mz I R (t : Int)) (Int.toNat (I 5 14))))), (5, .int (iI (mx (mz I R (t : Int)) (Int.toNat (I 5 14))))), (4, .int (iI ((t : Int)))), (2, .int (iI ((am (fun t : Nat => mx (mz I R (t : Int)) (Int.toNat (I 5 14))) t).1))), (0, .ref (ad 5)), (1, .int (iI (1)))]) hx hb dX2_leastSetting_46 rfl hl (by decide) rfl (fun ls hl => ?_)
            refine lv_iload hx hb dX2_leastSetting_47 (lv_at hl 2 rfl) ?_
            refine lv_istore_n (lv' := [(2, .int (iI ((t : Int)))), (3, .int (iI (mx (mz I R (t : Int)) (Int.toNat (I 5 14))))), (5, .int (iI (mx (mz I R (t : Int)) (Int.toNat (I 5 14))))), (4, .int (iI ((t : Int)))), (0, .ref (ad 5)), (1, .int (iI (1)))]) hx hb dX2_leastSetting_49 rfl hl (by decide) rfl (fun ls hl => ?_)
            refine jz_iinc (k := 3) (z := (t : Int) + 1) (lv' := [(4, .int (iI ((t : Int) + 1))), (2, .int (iI ((t : Int)))), (3, .int (iI (mx (mz I R (t : Int)) (Int.toNat (I 5 14))))), (5, .int (iI (mx (mz I R (t : Int)) (Int.toNat (I 5 14))))), (0, .ref (ad 5)), (1, .int (iI (1)))]) C dX2_leastSetting_50 hl rfl rfl (by decide) rfl (fun ls hl => ?_)
            refine lv_goto (tgt := 8) hx hb dX2_leastSetting_53 (by decide) ?_
            have hl9 : lv_has ls 6 [(4, .int (iI ((t + 1 : Int)))), (3, .int (iI ((am (fun t : Nat => mx (mz I R (t : Int)) (Int.toNat (I 5 14))) (t + 1)).2))), (2, .int (iI ((am (fun t : Nat => mx (mz I R (t : Int)) (Int.toNat (I 5 14))) (t + 1)).1))), (0, .ref (ad 5)), (1, .int (iI (1)))] := by
              rw [show ((am (fun t : Nat => mx (mz I R (t : Int)) (Int.toNat (I 5 14))) (t + 1)).2 : Int) = mx (mz I R (t : Int)) (Int.toNat (I 5 14)) from by first | rw [am_s1 h41] | rw [am_s2 h41]]
              rw [show ((am (fun t : Nat => mx (mz I R (t : Int)) (Int.toNat (I 5 14))) (t + 1)).1 : Int) = (t : Int) from by first | rw [am_s1 h41] | rw [am_s2 h41]]
              exact lv_sub hl [0, 2, 1, 4, 5] rfl
            exact ih8 (t + 1) (by omega) (by omega) ls hl9
  exact key8 (Int.toNat (2 ^ (Int.toNat (2 * I 5 13)) - (0 : Int)) + 1) 0 (by omega) (by omega) ls (lv_sub hl [0, 1, 2, 3, 4] rfl)
abbrev rm_X2_agreesBy : Room := { frames := 2, cells := 0, slots := 0, locals := 50 }
set_option maxHeartbeats 4000000 in
set_option maxRecDepth 100000 in
theorem c_X2_agreesBy {l : Launch} {D : va_G} {cI cS : ClassId} {ad : Nat → Nat} {I R : Nat → Nat → Int}  (s : Int)  (hT : TI I R) (hs : 0 ≤ s ∧ s < 256): JS l yX2_agreesBy wsX2_agreesBy rm_X2_agreesBy (jB D cI cS (wC cI cS ad I R)) [.ref (ad 5), .int (iI (s))] (.int (iI (if ag I R s (Int.toNat (I 5 17)) = true then 1 else 0))) := by
  refine JS.mkZ rfl (by decide +kernel) rfl (Nat.le_of_ble_eq_true rfl) (jz_nz _) ?_
  intro p e st mi ar bl mth cd Q ls C hB hl hret
  obtain ⟨hE, hP⟩ := hB
  have hx := C.1
  have hb := C.2.1
  have hl : lv_has ls 3 [(0, .ref (ad 5)), (1, .int (iI (s)))] := hl
  have hin2 : ∀ w ∈ wsX20, w ∈ wsX2_agreesBy := fun _ h => List.mem_cons_of_mem _ (List.mem_append_right _ h)
  have hr := hT.reads
  refine jz_const C dX2_agreesBy_0 ?_
  refine lv_istore_n (lv' := [(2, .int (iI (0))), (0, .ref (ad 5)), (1, .int (iI (s)))]) hx hb dX2_agreesBy_1 rfl hl (by decide) rfl (fun ls hl => ?_)
  have key2 : ∀ (n2 : Nat) (k : Nat) (hk : (k : Int) ≤ I 5 17) (hag : ag I R s k = true), (I 5 17 - k : Int) < n2 → ∀ (ls : Array Slot), lv_has ls 3 [(2, .int (iI ((k : Int)))), (0, .ref (ad 5)), (1, .int (iI (s)))] → W p l e rm_X2_agreesBy st mi ar bl mth cd st.heap [] 0 0 Q (F0 mi 2 ls []) := by
    intro n2
    induction n2 with
    | zero => intro k hk hag hn9; exfalso; omega
    | succ n2 ih2 =>
      intro k hk hag hn9 ls hl
      refine lv_iload_n hx hb dX2_agreesBy_2 rfl (lv_at hl 0 rfl) ?_
      refine lv_aload_n hx hb dX2_agreesBy_3 rfl (lv_at hl 1 rfl) ?_
      refine fg_T_readings C hin2 hE hP (v := I 5 17) (List.mem_of_getElem? (i := 1) rfl) dX2_agreesBy_4 rfl ?_
      refine jz_icmp_ge (tgt := 42) C dX2_agreesBy_7 (by decide) (by omega) (fun h7 => ?_) (fun h7 => ?_)
      · skip
        refine jz_const C dX2_agreesBy_42 ?_
        exact jz_ret (show ((if ag I R s (Int.toNat (I 5 17)) = true then 1 else 0) : Int) = 1 from by rw [if_pos (by rw [show Int.toNat (I 5 17) = k by omega]; exact hag)]) (hret _ _ dX2_agreesBy_43)
      · skip
        have hrc := hT.rcell k (by omega)
        have hrs := hT.rsm k (by omega)
        have hcs := cs_bd hT (s := s) hrc
        refine lv_aload_n hx hb dX2_agreesBy_10 rfl (lv_at hl 1 rfl) ?_
        refine lv_iload_n hx hb dX2_agreesBy_11 rfl (lv_at hl 2 rfl) ?_
        refine lv_aload_n hx hb dX2_agreesBy_12 rfl (lv_at hl 1 rfl) ?_
        refine fg_T_readingCells C hin2 hE hP (List.mem_of_getElem? (i := 2) rfl) dX2_agreesBy_13 ?_
        refine lv_iload_n hx hb dX2_agreesBy_16 rfl (lv_at hl 0 rfl) ?_
        refine jc_N C hl.1 (jpreS hE hP) (c_X3_read (k : Int) 11 8 (R 11) (ad 11) rfl (by decide) (show 0 ≤ (k : Int) ∧ (k : Int) < 8 from (by omega))) ⟨va_cnB 2 C.2.2.2.2 gX2_agreesBy_X3_read_n88 rfl rfl rfl hE.2.2.2.2.1 (C.2.2.2.2 _ (List.mem_of_getElem? (i := 5) rfl)) (by decide +kernel) ⟨Nat.le_of_ble_eq_true rfl, Nat.le_of_ble_eq_true rfl⟩, C.2.2.2.2 _ (List.mem_of_getElem? (i := 4) rfl), trivial⟩ (As := [.ref (ad 11), .int (iI ((k : Int)))]) (v := .int (iI (R 11 k))) (hn := rfl) (hst := rfl) (rest := [.int (iI (s)), .ref (ad 5)]) (hW := Nat.le_of_ble_eq_true rfl) (hdg := dX2_agreesBy_17) (hf := ⟨Nat.le_of_ble_eq_true rfl, Nat.le_of_ble_eq_true rfl⟩) ?_
        refine jc_V C hl.1 (jpreV hE hP 2 5 rfl rfl) (c_X2_smellBy s (R 11 k) hT (show 0 ≤ s ∧ s < 256 from (by omega)) (show 0 ≤ (R 11 k) ∧ (R 11 k) < 24 from (by omega))) (cwV 2 C.2.2.2.2 gX2_agreesBy_X2_smellBy rfl rfl rfl (by decide +kernel) ⟨Nat.le_of_ble_eq_true rfl, Nat.le_of_ble_eq_true rfl⟩) (As := [.int (iI (s)), .int (iI (R 11 k))]) (v := .int (iI (cs I R s (R 11 k)))) (hn := rfl) (hst := rfl) (rest := []) (hW := Nat.le_of_ble_eq_true rfl) (hdg := dX2_agreesBy_20) (hf := ⟨Nat.le_of_ble_eq_true rfl, Nat.le_of_ble_eq_true rfl⟩) ?_
        refine lv_aload_n hx hb dX2_agreesBy_23 rfl (lv_at hl 1 rfl) ?_
        refine fg_T_readingSmells C hin2 hE hP (List.mem_of_getElem? (i := 3) rfl) dX2_agreesBy_24 ?_
        refine lv_iload_n hx hb dX2_agreesBy_27 rfl (lv_at hl 0 rfl) ?_
        refine jc_N C hl.1 (jpreS hE hP) (c_X3_read (k : Int) 12 8 (R 12) (ad 12) rfl (by decide) (show 0 ≤ (k : Int) ∧ (k : Int) < 8 from (by omega))) ⟨va_cnB 2 C.2.2.2.2 gX2_agreesBy_X3_read_n88 rfl rfl rfl hE.2.2.2.2.1 (C.2.2.2.2 _ (List.mem_of_getElem? (i := 5) rfl)) (by decide +kernel) ⟨Nat.le_of_ble_eq_true rfl, Nat.le_of_ble_eq_true rfl⟩, C.2.2.2.2 _ (List.mem_of_getElem? (i := 4) rfl), trivial⟩ (As := [.ref (ad 12), .int (iI ((k : Int)))]) (v := .int (iI (R 12 k))) (hn := rfl) (hst := rfl) (rest := [.int (iI (cs I R s (R 11 k)))]) (hW := Nat.le_of_ble_eq_true rfl) (hdg := dX2_agreesBy_28) (hf := ⟨Nat.le_of_ble_eq_true rfl, Nat.le_of_ble_eq_true rfl⟩) ?_
        refine jz_icmp_eq (tgt := 36) C dX2_agreesBy_31 (by decide) (by omega) (fun h31 => ?_) (fun h31 => ?_)
        · skip
          refine jz_iinc (k := 0) (z := (k : Int) + 1) (lv' := [(2, .int (iI ((k : Int) + 1))), (0, .ref (ad 5)), (1, .int (iI (s)))]) C dX2_agreesBy_36 hl rfl rfl (by decide) rfl (fun ls hl => ?_)
          refine lv_goto (tgt := 2) hx hb dX2_agreesBy_39 (by decide) ?_
          exact ih2 (k + 1) (by omega) (ag_t hag h31) (by omega) ls (lv_sub hl [0, 1, 2] rfl)
        · skip
          refine jz_const C dX2_agreesBy_34 ?_
          exact jz_ret (show ((if ag I R s (Int.toNat (I 5 17)) = true then 1 else 0) : Int) = 0 from by rw [if_neg (by rw [ag_f (by omega) h31]; decide)]) (hret _ _ dX2_agreesBy_35)
  exact key2 (Int.toNat (I 5 17 - 0) + 1) 0 (by omega) rfl (by omega) ls (lv_sub hl [0, 1, 2] rfl)
