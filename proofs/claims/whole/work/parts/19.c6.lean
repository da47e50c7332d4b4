abbrev rm_X1_kindOf : Room := { frames := 0, cells := 0, slots := 0, locals := 0 }
set_option maxHeartbeats 4000000 in
set_option maxRecDepth 100000 in
theorem c_X1_kindOf {l : Launch} {D : va_G} {cI cS : ClassId} {w : va_W}  (code : Int)  (hc : -2147483648 ≤ code ∧ code < 2147483648): JS l yX1_kindOf wsX1_kindOf rm_X1_kindOf (jB D cI cS w) [.int (iI (code))] (.int (iI (ko code))) := by
  refine JS.mkI rfl (by decide +kernel) rfl (Nat.le_of_ble_eq_true rfl) ?_
  intro p e st mi ar bl mth cd Q ls C hB hl hret
  obtain ⟨hE, hP⟩ := hB
  have hx := C.1
  have hb := C.2.1
  have hl : lv_has ls 1 [(0, .int (iI (code)))] := hl
  refine lv_iload_n hx hb dX1_kindOf_0 rfl (lv_at hl 0 rfl) ?_
  refine jz_sub (P := code = 102) (fun h1_0 => ?_) (fun h1_0 => ?_)
  · refine jz_look (tgt := 40) C dX1_kindOf_1 (by decide) (by omega) (by first | (rw [h1_0]; done) | (rw [h1_0]; rfl)) (by decide) ?_
    refine jz_const C dX1_kindOf_40 ?_
    exact jz_ret (show (ko code : Int) = 2 from by unfold ko; rw [if_pos h1_0]) (hret _ _ dX1_kindOf_41)
  refine jz_sub (P := code = 114) (fun h1_1 => ?_) (fun h1_1 => ?_)
  · refine jz_look (tgt := 38) C dX1_kindOf_1 (by decide) (by omega) (by first | (rw [h1_1]; done) | (rw [h1_1]; rfl)) (by decide) ?_
    refine jz_const C dX1_kindOf_38 ?_
    exact jz_ret (show (ko code : Int) = 1 from by unfold ko; rw [if_neg h1_0, if_pos h1_1]) (hret _ _ dX1_kindOf_39)
  refine jz_sub (P := code = 119) (fun h1_2 => ?_) (fun h1_2 => ?_)
  · refine jz_look (tgt := 36) C dX1_kindOf_1 (by decide) (by omega) (by first | (rw [h1_2]; done) | (rw [h1_2]; rfl)) (by decide) ?_
    refine jz_const C dX1_kindOf_36 ?_
    exact jz_ret (show (ko code : Int) = 0 from by unfold ko; rw [if_neg h1_0, if_neg h1_1, if_pos h1_2]) (hret _ _ dX1_kindOf_37)
  refine jz_look (tgt := 42) C dX1_kindOf_1 (by decide) (by omega) (by show Op.lookupswitch.offset [(102, 39), (114, 37), (119, 35)] (41) _ = 41; rw [Op.lookupswitch.offset_cons, if_neg (Ne.symm h1_0), Op.lookupswitch.offset_cons, if_neg (Ne.symm h1_1), Op.lookupswitch.offset_cons, if_neg (Ne.symm h1_2)]; rfl) (by decide) ?_
  refine jz_const C dX1_kindOf_42 ?_
  exact jz_ret (show (ko code : Int) = -1 from by unfold ko; rw [if_neg h1_0, if_neg h1_1, if_neg h1_2]) (hret _ _ dX1_kindOf_43)
abbrev rm_X1_next : Room := { frames := 1, cells := 0, slots := 0, locals := 21 }
set_option maxHeartbeats 4000000 in
set_option maxRecDepth 100000 in
theorem c_X1_next {l : Launch} {D : va_G} {cI cS : ClassId} {ad : Nat → Nat} {I R : Nat → Nat → Int}    (hpl : 0 ≤ (I 2 2) ∧ (I 2 2) ≤ (I 2 1) ∧ (I 2 1) ≤ 60) (hcd : ∀ j : Nat, j < 60 → -2147483648 ≤ (R 3) j ∧ (R 3) j < 2147483648): JS l yX1_next wsX1_next rm_X1_next (jB D cI cS (wC cI cS ad I R)) [.ref (ad 2)] (.int (iI (nx (I 2 2) (I 2 1) (R 3)))) := by
  refine JS.mkI rfl (by decide +kernel) rfl (Nat.le_of_ble_eq_true rfl) ?_
  intro p e st mi ar bl mth cd Q ls C hB hl hret
  obtain ⟨hE, hP⟩ := hB
  have hx := C.1
  have hb := C.2.1
  have hl : lv_has ls 1 [(0, .ref (ad 2))] := hl
  have hin1 : ∀ w ∈ wsX10, w ∈ wsX1_next := fun _ h => List.mem_cons_of_mem _ (List.mem_append_right _ h)
  refine lv_aload_n hx hb dX1_next_0 rfl (lv_at hl 0 rfl) ?_
  refine fg_D_place C hin1 hE hP (v := I 2 2) (List.mem_of_getElem? (i := 1) rfl) dX1_next_1 rfl ?_
  refine lv_aload_n hx hb dX1_next_4 rfl (lv_at hl 0 rfl) ?_
  refine fg_D_size C hin1 hE hP (v := I 2 1) (List.mem_of_getElem? (i := 2) rfl) dX1_next_5 rfl ?_
  refine jz_icmp_ge (tgt := 25) C dX1_next_8 (by decide) (by omega) (fun h8 => ?_) (fun h8 => ?_)
  · skip
    refine jz_const C dX1_next_25 ?_
    exact jz_ret (show (nx (I 2 2) (I 2 1) (R 3) : Int) = -1 from by first | exact if_pos h8 | exact if_neg (Int.not_lt.mpr h8)) (hret _ _ dX1_next_26)
  · skip
    refine lv_aload_n hx hb dX1_next_11 rfl (lv_at hl 0 rfl) ?_
    refine fg_D_codes C hin1 hE hP (List.mem_of_getElem? (i := 3) rfl) dX1_next_12 ?_
    refine lv_aload_n hx hb dX1_next_15 rfl (lv_at hl 0 rfl) ?_
    refine fg_D_place C hin1 hE hP (v := I 2 2) (List.mem_of_getElem? (i := 1) rfl) dX1_next_16 rfl ?_
    refine jc_N C hl.1 (jpreS hE hP) (c_X3_read (I 2 2) 3 60 (R 3) (ad 3) rfl (by decide) (show 0 ≤ (I 2 2) ∧ (I 2 2) < 60 from (by omega))) ⟨va_cnB 2 C.2.2.2.2 gX1_next_X3_read_n27 rfl rfl rfl hE.2.1 (C.2.2.2.2 _ (List.mem_of_getElem? (i := 5) rfl)) (by decide +kernel) ⟨Nat.le_of_ble_eq_true rfl, Nat.le_of_ble_eq_true rfl⟩, C.2.2.2.2 _ (List.mem_of_getElem? (i := 4) rfl), trivial⟩ (As := [.ref (ad 3), .int (iI (I 2 2))]) (v := .int (iI (R 3 (Int.toNat (I 2 2))))) (hn := rfl) (hst := rfl) (rest := []) (hW := Nat.le_of_ble_eq_true rfl) (hdg := dX1_next_19) (hf := ⟨Nat.le_of_ble_eq_true rfl, Nat.le_of_ble_eq_true rfl⟩) ?_
    refine lv_goto (tgt := 26) hx hb dX1_next_22 (by decide) ?_
    exact jz_ret (show (nx (I 2 2) (I 2 1) (R 3) : Int) = R 3 (Int.toNat (I 2 2)) from by first | exact if_pos h8 | exact if_neg (Int.not_lt.mpr h8)) (hret _ _ dX1_next_26)
abbrev rm_X1_takesT : Room := { frames := 2, cells := 0, slots := 0, locals := 41 }
set_option maxHeartbeats 4000000 in
set_option maxRecDepth 100000 in
theorem c_X1_takesT {l : Launch} {D : va_G} {cI cS : ClassId} {ad : Nat → Nat} {I R : Nat → Nat → Int} {A : Nat → Prop} (hD : va_D A (wC cI cS ad I R))  (code : Int)  (hpl : 0 ≤ (I 2 2) ∧ (I 2 2) ≤ (I 2 1) ∧ (I 2 1) ≤ 60) (hcd : ∀ j : Nat, j < 60 → -2147483648 ≤ (R 3) j ∧ (R 3) j < 2147483648) (hcr : 0 ≤ code ∧ code < 1000) (hc : nx (I 2 2) (I 2 1) (R 3) = code): JV l yX1_takes wsX1_takes rm_X1_takesT (jB D cI cS (wC cI cS ad I R)) A [.ref (ad 2), .int (iI (code))] (fun v9 (_ : Unit) => v9 = some (.int (iI (1)))) (fun _ H => va_P D vwCl (wC cI cS ad (u2 I 2 2 ((I 2 2) + 1)) R) H) := by
  refine JV.mkZ rfl (by decide +kernel) rfl (Nat.le_of_ble_eq_true rfl) ?_
  intro p e st mi ar bl mth cd Q ls C hB hl hret
  obtain ⟨hE, hP⟩ := hB
  have hx := C.1
  have hb := C.2.1
  have hl : lv_has ls 2 [(0, .ref (ad 2)), (1, .int (iI (code)))] := hl
  have hin1 : ∀ w ∈ wsX10, w ∈ wsX1_takes := fun _ h => List.mem_cons_of_mem _ (List.mem_append_right _ h)
  suffices hgo : ∀ (H : Heap) (lc : List Loc), va_P D vwCl (wC cI cS ad I R) H → va_S A st.heap H lc → W p l e rm_X1_takesT st mi ar bl mth cd H lc 0 0 Q (F0 mi 0 ls []) from hgo _ _ hP va_S.rf
  clear hP
  intro H lc hP hS
  have hnx : -2147483648 ≤ nx (I 2 2) (I 2 1) (R 3) ∧ nx (I 2 2) (I 2 1) (R 3) < 2147483648 := by
    unfold nx
    split
    · exact hcd _ (by omega)
    · omega
  refine lv_aload_n hx hb dX1_takes_0 rfl (lv_at hl 0 rfl) ?_
  refine jc_V C hl.1 (jpreV hE hP 1 2 rfl rfl) (c_X1_next  (show 0 ≤ (I 2 2) ∧ (I 2 2) ≤ (I 2 1) ∧ (I 2 1) ≤ 60 from (by omega)) hcd) (cwV 0 C.2.2.2.2 gX1_takes_X1_next rfl rfl rfl (by decide +kernel) ⟨Nat.le_of_ble_eq_true rfl, Nat.le_of_ble_eq_true rfl⟩) (As := []) (v := .int (iI (nx (I 2 2) (I 2 1) (R 3)))) (hn := rfl) (hst := rfl) (rest := []) (hW := Nat.le_of_ble_eq_true rfl) (hdg := dX1_takes_1) (hf := ⟨Nat.le_of_ble_eq_true rfl, Nat.le_of_ble_eq_true rfl⟩) ?_
  refine lv_iload_n hx hb dX1_takes_4 rfl (lv_at hl 1 rfl) ?_
  refine jz_icmp_eq (tgt := 10) C dX1_takes_5 (by decide) (by omega) (fun h5 => ?_) (fun h5 => ?_)
  · skip
    refine lv_aload_n hx hb dX1_takes_10 rfl (lv_at hl 0 rfl) ?_
    refine lv_dup hx hb dX1_takes_11 rfl ?_
    refine fg_D_place C hin1 hE hP (v := I 2 2) (List.mem_of_getElem? (i := 1) rfl) dX1_takes_12 rfl ?_
    refine jz_const C dX1_takes_15 ?_
    refine jz_iadd C dX1_takes_16 ?_
    refine fp_D_place C hin1 hE hP (jDC hD) hS (List.mem_of_getElem? (i := 1) rfl) dX1_takes_17 (fun H lc hP hS => ?_)
    refine jz_const C dX1_takes_20 ?_
    exact hret _ () _ _ _ _ dX1_takes_21 (by decide +kernel) rfl hP hS
  · exact absurd hc h5
abbrev rm_X1_takesF : Room := { frames := 2, cells := 0, slots := 0, locals := 41 }
set_option maxHeartbeats 4000000 in
set_option maxRecDepth 100000 in
theorem c_X1_takesF {l : Launch} {D : va_G} {cI cS : ClassId} {ad : Nat → Nat} {I R : Nat → Nat → Int} {A : Nat → Prop} (hD : va_D A (wC cI cS ad I R))  (code : Int)  (hpl : 0 ≤ (I 2 2) ∧ (I 2 2) ≤ (I 2 1) ∧ (I 2 1) ≤ 60) (hcd : ∀ j : Nat, j < 60 → -2147483648 ≤ (R 3) j ∧ (R 3) j < 2147483648) (hcr : 0 ≤ code ∧ code < 1000) (hc : ¬ nx (I 2 2) (I 2 1) (R 3) = code): JV l yX1_takes wsX1_takes rm_X1_takesF (jB D cI cS (wC cI cS ad I R)) A [.ref (ad 2), .int (iI (code))] (fun v9 (_ : Unit) => v9 = some (.int (iI (0)))) (fun _ H => va_P D vwCl (wC cI cS ad I R) H) := by
  refine JV.mkZ rfl (by decide +kernel) rfl (Nat.le_of_ble_eq_true rfl) ?_
  intro p e st mi ar bl mth cd Q ls C hB hl hret
  obtain ⟨hE, hP⟩ := hB
  have hx := C.1
  have hb := C.2.1
  have hl : lv_has ls 2 [(0, .ref (ad 2)), (1, .int (iI (code)))] := hl
  suffices hgo : ∀ (H : Heap) (lc : List Loc), va_P D vwCl (wC cI cS ad I R) H → va_S A st.heap H lc → W p l e rm_X1_takesF st mi ar bl mth cd H lc 0 0 Q (F0 mi 0 ls []) from hgo _ _ hP va_S.rf
  clear hP
  intro H lc hP hS
  have hnx : -2147483648 ≤ nx (I 2 2) (I 2 1) (R 3) ∧ nx (I 2 2) (I 2 1) (R 3) < 2147483648 := by
    unfold nx
    split
    · exact hcd _ (by omega)
    · omega
  refine lv_aload_n hx hb dX1_takes_0 rfl (lv_at hl 0 rfl) ?_
  refine jc_V C hl.1 (jpreV hE hP 1 2 rfl rfl) (c_X1_next  (show 0 ≤ (I 2 2) ∧ (I 2 2) ≤ (I 2 1) ∧ (I 2 1) ≤ 60 from (by omega)) hcd) (cwV 0 C.2.2.2.2 gX1_takes_X1_next rfl rfl rfl (by decide +kernel) ⟨Nat.le_of_ble_eq_true rfl, Nat.le_of_ble_eq_true rfl⟩) (As := []) (v := .int (iI (nx (I 2 2) (I 2 1) (R 3)))) (hn := rfl) (hst := rfl) (rest := []) (hW := Nat.le_of_ble_eq_true rfl) (hdg := dX1_takes_1) (hf := ⟨Nat.le_of_ble_eq_true rfl, Nat.le_of_ble_eq_true rfl⟩) ?_
  refine lv_iload_n hx hb dX1_takes_4 rfl (lv_at hl 1 rfl) ?_
  refine jz_icmp_eq (tgt := 10) C dX1_takes_5 (by decide) (by omega) (fun h5 => ?_) (fun h5 => ?_)
  · exact absurd h5 hc
  · skip
    refine jz_const C dX1_takes_8 ?_
    exact hret _ () _ _ _ _ dX1_takes_9 (by decide +kernel) rfl hP hS
abbrev rm_X1_digitT : Room := { frames := 2, cells := 0, slots := 0, locals := 41 }
set_option maxHeartbeats 4000000 in
set_option maxRecDepth 100000 in
theorem c_X1_digitT {l : Launch} {D : va_G} {cI cS : ClassId} {ad : Nat → Nat} {I R : Nat → Nat → Int} {A : Nat → Prop} (hD : va_D A (wC cI cS ad I R))  (least : Int) (most : Int)  (hpl : 0 ≤ (I 2 2) ∧ (I 2 2) ≤ (I 2 1) ∧ (I 2 1) ≤ 60) (hcd : ∀ j : Nat, j < 60 → -2147483648 ≤ (R 3) j ∧ (R 3) j < 2147483648) (hdr : (0 ≤ least ∧ least < 10) ∧ 0 ≤ most ∧ most < 10) (hc : 48 + least ≤ nx (I 2 2) (I 2 1) (R 3) ∧ nx (I 2 2) (I 2 1) (R 3) ≤ 48 + most): JV l yX1_digit wsX1_digit rm_X1_digitT (jB D cI cS (wC cI cS ad I R)) A [.ref (ad 2), .int (iI (least)), .int (iI (most))] (fun v9 (_ : Unit) => v9 = some (.int (iI ((nx (I 2 2) (I 2 1) (R 3)) - 48)))) (fun _ H => va_P D vwCl (wC cI cS ad (u2 I 2 2 ((I 2 2) + 1)) R) H) := by
  refine JV.mkI rfl (by decide +kernel) rfl (Nat.le_of_ble_eq_true rfl) ?_
  intro p e st mi ar bl mth cd Q ls C hB hl hret
  obtain ⟨hE, hP⟩ := hB
  have hx := C.1
  have hb := C.2.1
  have hl : lv_has ls 4 [(0, .ref (ad 2)), (1, .int (iI (least))), (2, .int (iI (most)))] := hl
  have hin1 : ∀ w ∈ wsX10, w ∈ wsX1_digit := fun _ h => List.mem_cons_of_mem _ (List.mem_append_right _ h)
  suffices hgo : ∀ (H : Heap) (lc : List Loc), va_P D vwCl (wC cI cS ad I R) H → va_S A st.heap H lc → W p l e rm_X1_digitT st mi ar bl mth cd H lc 0 0 Q (F0 mi 0 ls []) from hgo _ _ hP va_S.rf
  clear hP
  intro H lc hP hS
  have hnx : -2147483648 ≤ nx (I 2 2) (I 2 1) (R 3) ∧ nx (I 2 2) (I 2 1) (R 3) < 2147483648 := by
    unfold nx
    split
    · exact hcd _ (by omega)
    · omega
  refine lv_aload_n hx hb dX1_digit_0 rfl (lv_at hl 0 rfl) ?_
  refine jc_V C hl.1 (jpreV hE hP 1 2 rfl rfl) (c_X1_next  (show 0 ≤ (I 2 2) ∧ (I 2 2) ≤ (I 2 1) ∧ (I 2 1) ≤ 60 from (by omega)) hcd) (cwV 0 C.2.2.2.2 gX1_digit_X1_next rfl rfl rfl (by decide +kernel) ⟨Nat.le_of_ble_eq_true rfl, Nat.le_of_ble_eq_true rfl⟩) (As := []) (v := .int (iI (nx (I 2 2) (I 2 1) (R 3)))) (hn := rfl) (hst := rfl) (rest := []) (hW := Nat.le_of_ble_eq_true rfl) (hdg := dX1_digit_1) (hf := ⟨Nat.le_of_ble_eq_true rfl, Nat.le_of_ble_eq_true rfl⟩) ?_
  refine lv_istore_n (lv' := [(3, .int (iI (nx (I 2 2) (I 2 1) (R 3)))), (0, .ref (ad 2)), (1, .int (iI (least))), (2, .int (iI (most)))]) hx hb dX1_digit_4 rfl hl (by decide) rfl (fun ls hl => ?_)
  refine lv_iload_n hx hb dX1_digit_5 rfl (lv_at hl 0 rfl) ?_
  refine jz_bipush C dX1_digit_6 (by decide +kernel) ?_
  refine lv_iload_n hx hb dX1_digit_8 rfl (lv_at hl 2 rfl) ?_
  refine jz_iadd C dX1_digit_9 ?_
  refine jz_icmp_lt (tgt := 21) C dX1_digit_10 (by decide) (by omega) (fun h10 => ?_) (fun h10 => ?_)
  · exfalso; omega
  · skip
    refine lv_iload_n hx hb dX1_digit_13 rfl (lv_at hl 0 rfl) ?_
    refine jz_bipush C dX1_digit_14 (by decide +kernel) ?_
    refine lv_iload_n hx hb dX1_digit_16 rfl (lv_at hl 3 rfl) ?_
    refine jz_iadd C dX1_digit_17 ?_
    refine jz_icmp_le (tgt := 23) C dX1_digit_18 (by decide) (by omega) (fun h18 => ?_) (fun h18 => ?_)
    · skip
      refine lv_aload_n hx hb dX1_digit_23 rfl (lv_at hl 1 rfl) ?_
      refine lv_dup hx hb dX1_digit_24 rfl ?_
      refine fg_D_place C hin1 hE hP (v := I 2 2) (List.mem_of_getElem? (i := 1) rfl) dX1_digit_25 rfl ?_
      refine jz_const C dX1_digit_28 ?_
      refine jz_iadd C dX1_digit_29 ?_
      refine fp_D_place C hin1 hE hP (jDC hD) hS (List.mem_of_getElem? (i := 1) rfl) dX1_digit_30 (fun H lc hP hS => ?_)
      refine lv_iload_n hx hb dX1_digit_33 rfl (lv_at hl 0 rfl) ?_
      refine jz_bipush C dX1_digit_34 (by decide +kernel) ?_
      refine jz_isub C dX1_digit_36 ?_
      exact hret _ () _ _ _ _ dX1_digit_37 rfl hP hS
    · exfalso; omega
abbrev rm_X1_digitF : Room := { frames := 2, cells := 0, slots := 0, locals := 41 }
set_option maxHeartbeats 4000000 in
set_option maxRecDepth 100000 in
theorem c_X1_digitF {l : Launch} {D : va_G} {cI cS : ClassId} {ad : Nat → Nat} {I R : Nat → Nat → Int} {A : Nat → Prop} (hD : va_D A (wC cI cS ad I R))  (least : Int) (most : Int)  (hpl : 0 ≤ (I 2 2) ∧ (I 2 2) ≤ (I 2 1) ∧ (I 2 1) ≤ 60) (hcd : ∀ j : Nat, j < 60 → -2147483648 ≤ (R 3) j ∧ (R 3) j < 2147483648) (hdr : (0 ≤ least ∧ least < 10) ∧ 0 ≤ most ∧ most < 10) (hc : ¬ (48 + least ≤ nx (I 2 2) (I 2 1) (R 3) ∧ nx (I 2 2) (I 2 1) (R 3) ≤ 48 + most)): JV l yX1_digit wsX1_digit rm_X1_digitF (jB D cI cS (wC cI cS ad I R)) A [.ref (ad 2), .int (iI (least)), .int (iI (most))] (fun v9 (_ : Unit) => v9 = some (.int (iI (-1)))) (fun _ H => va_P D vwCl (wC cI cS ad I R) H) := by
  refine JV.mkI rfl (by decide +kernel) rfl (Nat.le_of_ble_eq_true rfl) ?_
  intro p e st mi ar bl mth cd Q ls C hB hl hret
  obtain ⟨hE, hP⟩ := hB
  have hx := C.1
  have hb := C.2.1
  have hl : lv_has ls 4 [(0, .ref (ad 2)), (1, .int (iI (least))), (2, .int (iI (most)))] := hl
  suffices hgo : ∀ (H : Heap) (lc : List Loc), va_P D vwCl (wC cI cS ad I R) H → va_S A st.heap H lc → W p l e rm_X1_digitF st mi ar bl mth cd H lc 0 0 Q (F0 mi 0 ls []) from hgo _ _ hP va_S.rf
  clear hP
  intro H lc hP hS
  have hnx : -2147483648 ≤ nx (I 2 2) (I 2 1) (R 3) ∧ nx (I 2 2) (I 2 1) (R 3) < 2147483648 := by
    unfold nx
    split
    · exact hcd _ (by omega)
    · omega
  refine lv_aload_n hx hb dX1_digit_0 rfl (lv_at hl 0 rfl) ?_
  refine jc_V C hl.1 (jpreV hE hP 1 2 rfl rfl) (c_X1_next  (show 0 ≤ (I 2 2) ∧ (I 2 2) ≤ (I 2 1) ∧ (I 2 1) ≤ 60 from (by omega)) hcd) (cwV 0 C.2.2.2.2 gX1_digit_X1_next rfl rfl rfl (by decide +kernel) ⟨Nat.le_of_ble_eq_true rfl, Nat.le_of_ble_eq_true rfl⟩) (As := []) (v := .int (iI (nx (I 2 2) (I 2 1) (R 3)))) (hn := rfl) (hst := rfl) (rest := []) (hW := Nat.le_of_ble_eq_true rfl) (hdg := dX1_digit_1) (hf := ⟨Nat.le_of_ble_eq_true rfl, Nat.le_of_ble_eq_true rfl⟩) ?_
  refine lv_istore_n (lv' := [(3, .int (iI (nx (I 2 2) (I 2 1) (R 3)))), (0, .ref (ad 2)), (1, .int (iI (least))), (2, .int (iI (most)))]) hx hb dX1_digit_4 rfl hl (by decide) rfl (fun ls hl => ?_)
  refine lv_iload_n hx hb dX1_digit_5 rfl (lv_at hl 0 rfl) ?_
  refine jz_bipush C dX1_digit_6 (by decide +kernel) ?_
  refine lv_iload_n hx hb dX1_digit_8 rfl (lv_at hl 2 rfl) ?_
  refine jz_iadd C dX1_digit_9 ?_
  refine jz_icmp_lt (tgt := 21) C dX1_digit_10 (by decide) (by omega) (fun h10 => ?_) (fun h10 => ?_)
  · skip
    refine jz_const C dX1_digit_21 ?_
    exact hret _ () _ _ _ _ dX1_digit_22 rfl hP hS
  · skip
    refine lv_iload_n hx hb dX1_digit_13 rfl (lv_at hl 0 rfl) ?_
    refine jz_bipush C dX1_digit_14 (by decide +kernel) ?_
    refine lv_iload_n hx hb dX1_digit_16 rfl (lv_at hl 3 rfl) ?_
    refine jz_iadd C dX1_digit_17 ?_
    refine jz_icmp_le (tgt := 23) C dX1_digit_18 (by decide) (by omega) (fun h18 => ?_) (fun h18 => ?_)
    · skip
      exfalso; omega
    · skip
      refine jz_const C dX1_digit_21 ?_
      exact hret _ () _ _ _ _ dX1_digit_22 rfl hP hS
abbrev rm_X2_measure : Room := { frames := 0, cells := 0, slots := 0, locals := 0 }
set_option maxHeartbeats 4000000 in
set_option maxRecDepth 100000 in
theorem c_X2_measure {l : Launch} {D : va_G} {cI cS : ClassId} {ad : Nat → Nat} {I R : Nat → Nat → Int} {A : Nat → Prop} (hD : va_D A (wC cI cS ad I R))  (hh : Int) (ww : Int)  : JV l yX2_measure wsX2_measure rm_X2_measure (jB D cI cS (wC cI cS ad I R)) A [.ref (ad 15), .int (iI (hh)), .int (iI (ww))] (fun v9 (_ : Unit) => v9 = none) (fun _ H => va_P D vwCl (wC cI cS ad (u2 (u2 (u2 I 15 10 hh) 15 11 ww) 15 12 (hh * ww)) R) H) := by
  refine JV.mkN rfl (by decide +kernel) rfl (Nat.le_of_ble_eq_true rfl) ?_
  intro p e st mi ar bl mth cd Q ls C hB hl hret
  obtain ⟨hE, hP⟩ := hB
  have hx := C.1
  have hb := C.2.1
  have hl : lv_has ls 3 [(0, .ref (ad 15)), (1, .int (iI (hh))), (2, .int (iI (ww)))] := hl
  have hin2 : ∀ w ∈ wsX20, w ∈ wsX2_measure := fun _ h => List.mem_cons_of_mem _ (List.mem_append_right _ h)
  suffices hgo : ∀ (H : Heap) (lc : List Loc), va_P D vwCl (wC cI cS ad I R) H → va_S A st.heap H lc → W p l e rm_X2_measure st mi ar bl mth cd H lc 0 0 Q (F0 mi 0 ls []) from hgo _ _ hP va_S.rf
  clear hP
  intro H lc hP hS
  refine lv_aload_n hx hb dX2_measure_0 rfl (lv_at hl 0 rfl) ?_
  refine lv_iload_n hx hb dX2_measure_1 rfl (lv_at hl 1 rfl) ?_
  refine fp_U_high C hin2 hE hP (jDC hD) hS (List.mem_of_getElem? (i := 1) rfl) dX2_measure_2 (fun H lc hP hS => ?_)
  refine lv_aload_n hx hb dX2_measure_5 rfl (lv_at hl 0 rfl) ?_
  refine lv_iload_n hx hb dX2_measure_6 rfl (lv_at hl 2 rfl) ?_
  refine fp_U_wide C hin2 hE hP (jDC hD) hS (List.mem_of_getElem? (i := 2) rfl) dX2_measure_7 (fun H lc hP hS => ?_)
  refine lv_aload_n hx hb dX2_measure_10 rfl (lv_at hl 0 rfl) ?_
  refine lv_iload_n hx hb dX2_measure_11 rfl (lv_at hl 1 rfl) ?_
  refine lv_iload_n hx hb dX2_measure_12 rfl (lv_at hl 2 rfl) ?_
  refine jz_imul C dX2_measure_13 ?_
  refine fp_U_cells C hin2 hE hP (jDC hD) hS (List.mem_of_getElem? (i := 3) rfl) dX2_measure_14 (fun H lc hP hS => ?_)
  exact hret () _ _ _ _ dX2_measure_17 rfl hP hS
abbrev rm_X2_clear : Room := { frames := 1, cells := 0, slots := 0, locals := 22 }
set_option maxHeartbeats 4000000 in
set_option maxRecDepth 100000 in
theorem c_X2_clear {l : Launch} {D : va_G} {cI cS : ClassId} {ad : Nat → Nat} {I R : Nat → Nat → Int} {A : Nat → Prop} (hD : va_D A (wC cI cS ad I R))    : JV l yX2_clear wsX2_clear rm_X2_clear (jB D cI cS (wC cI cS ad I R)) A [.ref (ad 15)] (fun v9 (_ : Unit) => v9 = none) (fun _ H => va_P D vwCl (wC cI cS ad (u2 (u2 (u2 (u2 (u2 (u2 (u2 (u2 (u2 I 15 9 0) 15 13 0) 15 14 0) 15 15 0) 15 16 0) 15 17 0) 15 10 0) 15 11 0) 15 12 (0 * 0)) R) H) := by
  refine JV.mkN rfl (by decide +kernel) rfl (Nat.le_of_ble_eq_true rfl) ?_
  intro p e st mi ar bl mth cd Q ls C hB hl hret
  obtain ⟨hE, hP⟩ := hB
  have hx := C.1
  have hb := C.2.1
  have hl : lv_has ls 1 [(0, .ref (ad 15))] := hl
  have hin2 : ∀ w ∈ wsX20, w ∈ wsX2_clear := fun _ h => List.mem_cons_of_mem _ (List.mem_append_right _ h)
  suffices hgo : ∀ (H : Heap) (lc : List Loc), va_P D vwCl (wC cI cS ad I R) H → va_S A st.heap H lc → W p l e rm_X2_clear st mi ar bl mth cd H lc 0 0 Q (F0 mi 0 ls []) from hgo _ _ hP va_S.rf
  clear hP
  intro H lc hP hS
  refine lv_aload_n hx hb dX2_clear_0 rfl (lv_at hl 0 rfl) ?_
  refine jz_const C dX2_clear_1 ?_
  refine fp_U_stands C hin2 hE hP (jDC hD) hS (Or.inl rfl) (List.mem_of_getElem? (i := 1) rfl) dX2_clear_2 (fun H lc hP hS => ?_)
  refine lv_aload_n hx hb dX2_clear_5 rfl (lv_at hl 0 rfl) ?_
  refine jz_const C dX2_clear_6 ?_
  refine fp_U_works C hin2 hE hP (jDC hD) hS (List.mem_of_getElem? (i := 2) rfl) dX2_clear_7 (fun H lc hP hS => ?_)
  refine lv_aload_n hx hb dX2_clear_10 rfl (lv_at hl 0 rfl) ?_
  refine jz_const C dX2_clear_11 ?_
  refine fp_U_wards C hin2 hE hP (jDC hD) hS (List.mem_of_getElem? (i := 3) rfl) dX2_clear_12 (fun H lc hP hS => ?_)
  refine lv_aload_n hx hb dX2_clear_15 rfl (lv_at hl 0 rfl) ?_
  refine jz_const C dX2_clear_16 ?_
  refine fp_U_lawNow C hin2 hE hP (jDC hD) hS (List.mem_of_getElem? (i := 4) rfl) dX2_clear_17 (fun H lc hP hS => ?_)
  refine lv_aload_n hx hb dX2_clear_20 rfl (lv_at hl 0 rfl) ?_
  refine jz_const C dX2_clear_21 ?_
  refine fp_U_setting C hin2 hE hP (jDC hD) hS (List.mem_of_getElem? (i := 5) rfl) dX2_clear_22 (fun H lc hP hS => ?_)
  refine lv_aload_n hx hb dX2_clear_25 rfl (lv_at hl 0 rfl) ?_
  refine jz_const C dX2_clear_26 ?_
  refine fp_U_readings C hin2 hE hP (jDC hD) hS (List.mem_of_getElem? (i := 6) rfl) dX2_clear_27 (fun H lc hP hS => ?_)
  refine lv_aload_n hx hb dX2_clear_30 rfl (lv_at hl 0 rfl) ?_
  refine jz_const C dX2_clear_31 ?_
  refine jz_const C dX2_clear_32 ?_
  refine jw_V C hl.1 (jpreV hE hP 2 15 rfl rfl) (c_X2_measure (A := A) (jDC hD) 0 0 ) (cwV 2 C.2.2.2.2 gX2_clear_X2_measure rfl rfl rfl (by decide +kernel) ⟨Nat.le_of_ble_eq_true rfl, Nat.le_of_ble_eq_true rfl⟩) (As := [.int (iI (0)), .int (iI (0))]) (hn := rfl) (hst := rfl) (rest := []) (hW := Nat.le_of_ble_eq_true rfl) (hdg := dX2_clear_33) (hf := ⟨Nat.le_of_ble_eq_true rfl, Nat.le_of_ble_eq_true rfl⟩) hS (fun v9 uq33 H lc hq9 hP hS => ?_)
  obtain rfl : v9 = none := hq9
  have hP : va_P D vwCl (wC cI cS ad (u2 (u2 (u2 (u2 (u2 (u2 (u2 (u2 (u2 I 15 9 0) 15 13 0) 15 14 0) 15 15 0) 15 16 0) 15 17 0) 15 10 0) 15 11 0) 15 12 (0 * 0)) R) H := hP
  exact hret () _ _ _ _ dX2_clear_36 rfl hP hS
abbrev rm_X2_addWard : Room := { frames := 1, cells := 0, slots := 0, locals := 22 }
set_option maxHeartbeats 4000000 in
set_option maxRecDepth 100000 in
theorem c_X2_addWard {l : Launch} {D : va_G} {cI cS : ClassId} {ad : Nat → Nat} {I R : Nat → Nat → Int} {A : Nat → Prop} (hD : va_D A (wC cI cS ad I R))  (kind : Int) (cell : Int) (nose : Int)  (hn : 0 ≤ (I 15 14) ∧ (I 15 14) < 6): JV l yX2_addWard wsX2_addWard rm_X2_addWard (jB D cI cS (wC cI cS ad I R)) A [.ref (ad 15), .int (iI (kind)), .int (iI (cell)), .int (iI (nose))] (fun v9 (_ : Unit) => v9 = none) (fun _ H => va_P D vwCl (wC cI cS ad (u2 I 15 14 ((I 15 14) + 1)) (uR (uR (uR R 16 (u1 (R 16) (Int.toNat (I 15 14)) kind)) 18 (u1 (R 18) (Int.toNat (I 15 14)) cell)) 17 (u1 (R 17) (Int.toNat (I 15 14)) nose))) H) := by
  refine JV.mkN rfl (by decide +kernel) rfl (Nat.le_of_ble_eq_true rfl) ?_
  intro p e st mi ar bl mth cd Q ls C hB hl hret
  obtain ⟨hE, hP⟩ := hB
  have hx := C.1
  have hb := C.2.1
  have hl : lv_has ls 4 [(0, .ref (ad 15)), (1, .int (iI (kind))), (2, .int (iI (cell))), (3, .int (iI (nose)))] := hl
  have hin2 : ∀ w ∈ wsX20, w ∈ wsX2_addWard := fun _ h => List.mem_cons_of_mem _ (List.mem_append_right _ h)
  suffices hgo : ∀ (H : Heap) (lc : List Loc), va_P D vwCl (wC cI cS ad I R) H → va_S A st.heap H lc → W p l e rm_X2_addWard st mi ar bl mth cd H lc 0 0 Q (F0 mi 0 ls []) from hgo _ _ hP va_S.rf
  clear hP
  intro H lc hP hS
  refine lv_aload_n hx hb dX2_addWard_0 rfl (lv_at hl 0 rfl) ?_
  refine fg_U_kinds C hin2 hE hP (List.mem_of_getElem? (i := 1) rfl) dX2_addWard_1 ?_
  refine lv_aload_n hx hb dX2_addWard_4 rfl (lv_at hl 0 rfl) ?_
  refine fg_U_wards C hin2 hE hP (v := I 15 14) (List.mem_of_getElem? (i := 2) rfl) dX2_addWard_5 rfl ?_
  refine lv_iload_n hx hb dX2_addWard_8 rfl (lv_at hl 1 rfl) ?_
  refine jw_N C hl.1 (jpreS hE hP) (c_X3_write (A := A) (jDC hD) (I 15 14) kind 16 6 (R 16) (ad 16) rfl (by decide) (show 0 ≤ (I 15 14) ∧ (I 15 14) < 6 from (by omega))) ⟨va_cnB 3 C.2.2.2.2 gX2_addWard_X3_write_n72 rfl rfl rfl hE.2.2.2.1 (C.2.2.2.2 _ (List.mem_of_getElem? (i := 6) rfl)) (by decide +kernel) ⟨Nat.le_of_ble_eq_true rfl, Nat.le_of_ble_eq_true rfl⟩, C.2.2.2.2 _ (List.mem_of_getElem? (i := 5) rfl), trivial⟩ (As := [.ref (ad 16), .int (iI (I 15 14)), .int (iI (kind))]) (hn := rfl) (hst := rfl) (rest := []) (hW := Nat.le_of_ble_eq_true rfl) (hdg := dX2_addWard_9) (hf := ⟨Nat.le_of_ble_eq_true rfl, Nat.le_of_ble_eq_true rfl⟩) hS (fun v9 uq9 H lc hq9 hP hS => ?_)
  subst hq9
  have hP : va_P D vwCl (wC cI cS ad I (uR R 16 (u1 (R 16) (Int.toNat (I 15 14)) kind))) H := hP
  refine lv_aload_n hx hb dX2_addWard_12 rfl (lv_at hl 0 rfl) ?_
  refine fg_U_wardCells C hin2 hE hP (List.mem_of_getElem? (i := 3) rfl) dX2_addWard_13 ?_
  refine lv_aload_n hx hb dX2_addWard_16 rfl (lv_at hl 0 rfl) ?_
  refine fg_U_wards C hin2 hE hP (v := I 15 14) (List.mem_of_getElem? (i := 2) rfl) dX2_addWard_17 rfl ?_
  refine lv_iload_n hx hb dX2_addWard_20 rfl (lv_at hl 2 rfl) ?_
  refine jw_N C hl.1 (jpreS hE hP) (c_X3_write (A := A) (jDC hD) (I 15 14) cell 18 6 (R 18) (ad 18) rfl (by decide) (show 0 ≤ (I 15 14) ∧ (I 15 14) < 6 from (by omega))) ⟨va_cnB 3 C.2.2.2.2 gX2_addWard_X3_write_n72 rfl rfl rfl hE.2.2.2.1 (C.2.2.2.2 _ (List.mem_of_getElem? (i := 6) rfl)) (by decide +kernel) ⟨Nat.le_of_ble_eq_true rfl, Nat.le_of_ble_eq_true rfl⟩, C.2.2.2.2 _ (List.mem_of_getElem? (i := 5) rfl), trivial⟩ (As := [.ref (ad 18), .int (iI (I 15 14)), .int (iI (cell))]) (hn := rfl) (hst := rfl) (rest := []) (hW := Nat.le_of_ble_eq_true rfl) (hdg := dX2_addWard_21) (hf := ⟨Nat.le_of_ble_eq_true rfl, Nat.le_of_ble_eq_true rfl⟩) hS (fun v9 uq21 H lc hq9 hP hS => ?_)
  subst hq9
  have hP : va_P D vwCl (wC cI cS ad I (uR (uR R 16 (u1 (R 16) (Int.toNat (I 15 14)) kind)) 18 (u1 (R 18) (Int.toNat (I 15 14)) cell))) H := hP
  refine lv_aload_n hx hb dX2_addWard_24 rfl (lv_at hl 0 rfl) ?_
  refine fg_U_noses C hin2 hE hP (List.mem_of_getElem? (i := 4) rfl) dX2_addWard_25 ?_
  refine lv_aload_n hx hb dX2_addWard_28 rfl (lv_at hl 0 rfl) ?_
  refine fg_U_wards C hin2 hE hP (v := I 15 14) (List.mem_of_getElem? (i := 2) rfl) dX2_addWard_29 rfl ?_
  refine lv_iload_n hx hb dX2_addWard_32 rfl (lv_at hl 3 rfl) ?_
  refine jw_N C hl.1 (jpreS hE hP) (c_X3_write (A := A) (jDC hD) (I 15 14) nose 17 6 (R 17) (ad 17) rfl (by decide) (show 0 ≤ (I 15 14) ∧ (I 15 14) < 6 from (by omega))) ⟨va_cnB 3 C.2.2.2.2 gX2_addWard_X3_write_n72 rfl rfl rfl hE.2.2.2.1 (C.2.2.2.2 _ (List.mem_of_getElem? (i := 6) rfl)) (by decide +kernel) ⟨Nat.le_of_ble_eq_true rfl, Nat.le_of_ble_eq_true rfl⟩, C.2.2.2.2 _ (List.mem_of_getElem? (i := 5) rfl), trivial⟩ (As := [.ref (ad 17), .int (iI (I 15 14)), .int (iI (nose))]) (hn := rfl) (hst := rfl) (rest := []) (hW := Nat.le_of_ble_eq_true rfl) (hdg := dX2_addWard_33) (hf := ⟨Nat.le_of_ble_eq_true rfl, Nat.le_of_ble_eq_true rfl⟩) hS (fun v9 uq33 H lc hq9 hP hS => ?_)
  subst hq9
  have hP : va_P D vwCl (wC cI cS ad I (uR (uR (uR R 16 (u1 (R 16) (Int.toNat (I 15 14)) kind)) 18 (u1 (R 18) (Int.toNat (I 15 14)) cell)) 17 (u1 (R 17) (Int.toNat (I 15 14)) nose))) H := hP
  refine lv_aload_n hx hb dX2_addWard_36 rfl (lv_at hl 0 rfl) ?_
  refine lv_dup hx hb dX2_addWard_37 rfl ?_
  refine fg_U_wards C hin2 hE hP (v := I 15 14) (List.mem_of_getElem? (i := 2) rfl) dX2_addWard_38 rfl ?_
  refine jz_const C dX2_addWard_41 ?_
  refine jz_iadd C dX2_addWard_42 ?_
  refine fp_U_wards C hin2 hE hP (jDC hD) hS (List.mem_of_getElem? (i := 2) rfl) dX2_addWard_43 (fun H lc hP hS => ?_)
  exact hret () _ _ _ _ dX2_addWard_46 rfl hP hS
abbrev rm_X3_readT : Room := { frames := 0, cells := 0, slots := 0, locals := 0 }
set_option maxHeartbeats 4000000 in
set_option maxRecDepth 100000 in
theorem c_X3_readT {l : Launch} {D : va_G} {cI cS : ClassId}   (i : Int) (f : Nat → Int) (t : Nat) (hi : 0 ≤ i ∧ i < 4): JS l yX3_read wsX3_read rm_X3_readT (fun U => jE D cI cS U ∧ va_T .int t 4 (fun j => .int (iI (f j))) (fun _ => False) U U.heap) [.ref (t), .int (iI (i))] (.int (iI (f (Int.toNat i)))) := by
  refine JS.mkI rfl (by decide +kernel) rfl (Nat.le_of_ble_eq_true rfl) ?_
  intro p e st mi ar bl mth cd Q ls C hB hl hret
  obtain ⟨hE, hT1⟩ := hB
  have hx := C.1
  have hb := C.2.1
  have hl : lv_has ls 2 [(0, .ref (t)), (1, .int (iI (i)))] := hl
  refine lv_iload_n hx hb dX3_read_0 rfl (lv_at hl 1 rfl) ?_
  refine jz_if_lt (tgt := 16) C dX3_read_1 (by decide) (by omega) (fun h1 => ?_) (fun h1 => ?_)
  · exfalso; omega
  · skip
    refine lv_iload_n hx hb dX3_read_4 rfl (lv_at hl 1 rfl) ?_
    refine lv_aload_n hx hb dX3_read_5 rfl (lv_at hl 0 rfl) ?_
    refine va_tlen (A := fun _ => False) hx hb hT1 va_S.rf (v := iI 4) rfl dX3_read_6 ?_
    refine jz_icmp_ge (tgt := 16) C dX3_read_7 (by decide) (by omega) (fun h7 => ?_) (fun h7 => ?_)
    · exfalso; omega
    · skip
      refine lv_aload_n hx hb dX3_read_10 rfl (lv_at hl 0 rfl) ?_
      refine lv_iload_n hx hb dX3_read_11 rfl (lv_at hl 1 rfl) ?_
      refine va_ti (A := fun _ => False) hx hb hT1 va_S.rf (iI_in (n := 4) (by omega) (by omega)) (v := .int (iI (f (Int.toNat i)))) (by rw [iI_clamp (by omega)]) dX3_read_12 ?_
      refine lv_goto (tgt := 17) hx hb dX3_read_13 (by decide) ?_
      exact hret _ _ dX3_read_17
abbrev rm_X2_measureWay : Room := { frames := 1, cells := 0, slots := 0, locals := 22 }
set_option maxHeartbeats 4000000 in
set_option maxRecDepth 100000 in
theorem c_X2_measureWay {l : Launch} {D : va_G} {cI cS : ClassId} {ad : Nat → Nat} {I R : Nat → Nat → Int} {A : Nat → Prop} (hD : va_D A (wC cI cS ad I R))  (w : Int) (v : Int) (startRow : Int) (startColumn : Int)  (hw : 0 ≤ w ∧ w < 4) (hv : 0 ≤ v ∧ v < 4) (hr : 0 ≤ startRow ∧ startRow < 4) (hc : 0 ≤ startColumn ∧ startColumn < 6) (hhi : 0 ≤ (I 15 10) ∧ (I 15 10) ≤ 4) (hwi : 0 ≤ (I 15 11) ∧ (I 15 11) ≤ 6): JV l yX2_measureWay wsX2_measureWay rm_X2_measureWay (fun U => jB D cI cS (wC cI cS ad I R) U ∧ jT A U U.heap) A [.ref (ad 15), .int (iI (w)), .int (iI (v)), .int (iI (startRow)), .int (iI (startColumn))] (fun v9 (_ : Unit) => v9 = none) (fun _ H => va_P D vwCl (wC cI cS ad I (uR R 23 (dw (R 23) (I 15 10) (I 15 11) w v startRow startColumn))) H) := by
  refine JV.mkN rfl (by decide +kernel) rfl (Nat.le_of_ble_eq_true rfl) ?_
  intro p e st mi ar bl mth cd Q ls C hB hl hret
  obtain ⟨⟨hE, hP⟩, t1, t2, hZ1, hT1, hZ2, hT2⟩ := hB
  have hx := C.1
  have hb := C.2.1
  have hl : lv_has ls 8 [(0, .ref (ad 15)), (1, .int (iI (w))), (2, .int (iI (v))), (3, .int (iI (startRow))), (4, .int (iI (startColumn)))] := hl
  have hin2 : ∀ w ∈ wsX20, w ∈ wsX2_measureWay := fun _ h => List.mem_cons_of_mem _ (List.mem_append_right _ h)
  suffices hgo : ∀ (H : Heap) (lc : List Loc), va_P D vwCl (wC cI cS ad I R) H → va_S A st.heap H lc → W p l e rm_X2_measureWay st mi ar bl mth cd H lc 0 0 Q (F0 mi 0 ls []) from hgo _ _ hP va_S.rf
  clear hP
  intro H lc hP hS
  have hsd := sd_bd (Int.toNat v)
  have hsr := sr_bd (Int.toNat v)
  refine jz_const C dX2_measureWay_0 ?_
  refine lv_istore (lv' := [(5, .int (iI (0))), (0, .ref (ad 15)), (1, .int (iI (w))), (2, .int (iI (v))), (3, .int (iI (startRow))), (4, .int (iI (startColumn)))]) hx hb dX2_measureWay_1 hl (by decide) rfl (fun ls hl => ?_)
  have key3 : ∀ (n3 : Nat) (c : Nat) (hc24 : c ≤ 24), (24 - (c : Int) : Int) < n3 → ∀ (H : Heap) (lc : List Loc), va_P D vwCl (wC cI cS ad I (uR R 23 (fb (R 23) (Int.toNat ((w * 4 + v) * 24)) c))) H → va_S A st.heap H lc → ∀ (ls : Array Slot), lv_has ls 8 [(5, .int (iI ((c : Int)))), (0, .ref (ad 15)), (1, .int (iI (w))), (2, .int (iI (v))), (3, .int (iI (startRow))), (4, .int (iI (startColumn)))] → W p l e rm_X2_measureWay st mi ar bl mth cd H lc 0 0 Q (F0 mi 3 ls []) := by
    intro n3
    induction n3 with
    | zero => intro c hc24 hn9; exfalso; omega
    | succ n3 ih3 =>
      intro c hc24 hn9 H lc hP hS ls hl
      refine lv_iload hx hb dX2_measureWay_3 (lv_at hl 0 rfl) ?_
      refine jz_bipush C dX2_measureWay_5 (by decide +kernel) ?_
      refine jz_icmp_ge (tgt := 33) C dX2_measureWay_7 (by decide) (by omega) (fun h7 => ?_) (fun h7 => ?_)
      · skip
        have hg9 : c = 24 := (by omega)
        subst hg9
        have hl : lv_has ls 8 [(0, .ref (ad 15)), (1, .int (iI (w))), (2, .int (iI (v))), (3, .int (iI (startRow))), (4, .int (iI (startColumn)))] := lv_sub hl [1, 2, 3, 4, 5] rfl
        refine lv_iload_n hx hb dX2_measureWay_33 rfl (lv_at hl 3 rfl) ?_
        refine lv_istore (lv' := [(5, .int (iI (startRow))), (0, .ref (ad 15)), (1, .int (iI (w))), (2, .int (iI (v))), (3, .int (iI (startRow))), (4, .int (iI (startColumn)))]) hx hb dX2_measureWay_34 hl (by decide) rfl (fun ls hl => ?_)
        refine lv_iload hx hb dX2_measureWay_36 (lv_at hl 5 rfl) ?_
        refine lv_istore (lv' := [(6, .int (iI (startColumn))), (5, .int (iI (startRow))), (0, .ref (ad 15)), (1, .int (iI (w))), (2, .int (iI (v))), (3, .int (iI (startRow))), (4, .int (iI (startColumn)))]) hx hb dX2_measureWay_38 hl (by decide) rfl (fun ls hl => ?_)
        refine jz_const C dX2_measureWay_40 ?_
        refine lv_istore (lv' := [(7, .int (iI (0))), (6, .int (iI (startColumn))), (5, .int (iI (startRow))), (0, .ref (ad 15)), (1, .int (iI (w))), (2, .int (iI (v))), (3, .int (iI (startRow))), (4, .int (iI (startColumn)))]) hx hb dX2_measureWay_41 hl (by decide) rfl (fun ls hl => ?_)
        have key43 : ∀ (n43 : Nat) (k : Nat) (hk6 : k ≤ 6), (6 - (k : Int) : Int) < n43 → ∀ (H : Heap) (lc : List Loc), va_P D vwCl (wC cI cS ad I (uR R 23 (dm (fb (R 23) (Int.toNat ((w * 4 + v) * 24)) 24) (I 15 10) (I 15 11) ((w * 4 + v) * 24) startRow startColumn (sd (Int.toNat v)) (sr (Int.toNat v)) k))) H → va_S A st.heap H lc → ∀ (ls : Array Slot), lv_has ls 8 [(7, .int (iI ((k : Int)))), (6, .int (iI (ps startColumn (sr (Int.toNat v)) k))), (5, .int (iI (ps startRow (sd (Int.toNat v)) k))), (0, .ref (ad 15)), (1, .int (iI (w))), (2, .int (iI (v))), (3, .int (iI (startRow))), (4, .int (iI (startColumn)))] → W p l e rm_X2_measureWay st mi ar bl mth cd H lc 0 0 Q (F0 mi 43 ls []) := by
          intro n43
          induction n43 with
          | zero => intro k hk6 hn9; exfalso; omega
          | succ n43 ih43 =>
            intro k hk6 hn9 H lc hP hS ls hl
            refine lv_iload hx hb dX2_measureWay_43 (lv_at hl 0 rfl) ?_
            refine jz_bipush C dX2_measureWay_45 (by decide +kernel) ?_
            refine jz_icmp_ge (tgt := 133) C dX2_measureWay_47 (by decide) (by omega) (fun h47 => ?_) (fun h47 => ?_)
            · skip
              have hg9 : k = 6 := (by omega)
              subst hg9
              have hl : lv_has ls 8 [(0, .ref (ad 15)), (1, .int (iI (w))), (2, .int (iI (v))), (3, .int (iI (startRow))), (4, .int (iI (startColumn)))] := lv_sub hl [3, 4, 5, 6, 7] rfl
              have hP : va_P D vwCl (wC cI cS ad I (uR R 23 (dw (R 23) (I 15 10) (I 15 11) w v startRow startColumn))) H := by exact hP
              exact hret () _ _ _ _ dX2_measureWay_133 rfl hP hS
            · skip
              have hp1 := ps_bd (r := startRow) hsd k
              have hp2 := ps_bd (r := startColumn) hsr k
              refine lv_iload hx hb dX2_measureWay_50 (lv_at hl 2 rfl) ?_
              refine jz_if_lt (tgt := 103) C dX2_measureWay_52 (by decide) (by omega) (fun h52 => ?_) (fun h52 => ?_)
              · skip
                refine lv_iload hx hb dX2_measureWay_103 (lv_at hl 2 rfl) ?_
                refine va_getsN hx hb hZ1 hS C.2.2.2.1 (va_Nw.use rfl hE.2.2.2.2.2.1) (fun _ h => h) dX2_measureWay_105 ?_
                refine lv_iload_n hx hb dX2_measureWay_108 rfl (lv_at hl 5 rfl) ?_
                refine jc_N C hl.1 (jpreST hE hT1 hS) (c_X3_readT v sd t1 (show 0 ≤ v ∧ v < 4 from (by omega))) ⟨va_cnB 2 C.2.2.2.2 gX2_measureWay_X3_read_n88 rfl rfl rfl hE.2.2.2.2.1 (C.2.2.2.2 _ (List.mem_of_getElem? (i := 10) rfl)) (by decide +kernel) ⟨Nat.le_of_ble_eq_true rfl, Nat.le_of_ble_eq_true rfl⟩, C.2.2.2.2 _ (List.mem_of_getElem? (i := 12) rfl), trivial⟩ (As := [.ref (t1), .int (iI (v))]) (v := .int (iI (sd (Int.toNat v)))) (hn := rfl) (hst := rfl) (rest := [.int (iI (ps startRow (sd (Int.toNat v)) k))]) (hW := Nat.le_of_ble_eq_true rfl) (hdg := dX2_measureWay_109) (hf := ⟨Nat.le_of_ble_eq_true rfl, Nat.le_of_ble_eq_true rfl⟩) ?_
                refine jz_iadd C dX2_measureWay_112 ?_
                refine lv_istore (lv' := [(5, .int (iI ((ps startRow (sd (Int.toNat v)) k) + (sd (Int.toNat v))))), (7, .int (iI ((k : Int)))), (6, .int (iI (ps startColumn (sr (Int.toNat v)) k))), (0, .ref (ad 15)), (1, .int (iI (w))), (2, .int (iI (v))), (3, .int (iI (startRow))), (4, .int (iI (startColumn)))]) hx hb dX2_measureWay_113 hl (by decide) rfl (fun ls hl => ?_)
                refine lv_iload hx hb dX2_measureWay_115 (lv_at hl 2 rfl) ?_
                refine va_getsN hx hb hZ2 hS C.2.2.2.1 (va_Nw.use rfl hE.2.2.2.2.2.2) (fun _ h => h) dX2_measureWay_117 ?_
                refine lv_iload_n hx hb dX2_measureWay_120 rfl (lv_at hl 5 rfl) ?_
                refine jc_N C hl.1 (jpreST hE hT2 hS) (c_X3_readT v sr t2 (show 0 ≤ v ∧ v < 4 from (by omega))) ⟨va_cnB 2 C.2.2.2.2 gX2_measureWay_X3_read_n88 rfl rfl rfl hE.2.2.2.2.1 (C.2.2.2.2 _ (List.mem_of_getElem? (i := 10) rfl)) (by decide +kernel) ⟨Nat.le_of_ble_eq_true rfl, Nat.le_of_ble_eq_true rfl⟩, C.2.2.2.2 _ (List.mem_of_getElem? (i := 12) rfl), trivial⟩ (As := [.ref (t2), .int (iI (v))]) (v := .int (iI (sr (Int.toNat v)))) (hn := rfl) (hst := rfl) (rest := [.int (iI (ps startColumn (sr (Int.toNat v)) k))]) (hW := Nat.le_of_ble_eq_true rfl) (hdg := dX2_measureWay_121) (hf := ⟨Nat.le_of_ble_eq_true rfl, Nat.le_of_ble_eq_true rfl⟩) ?_
                refine jz_iadd C dX2_measureWay_124 ?_
                refine lv_istore (lv' := [(6, .int (iI ((ps startColumn (sr (Int.toNat v)) k) + (sr (Int.toNat v))))), (5, .int (iI ((ps startRow (sd (Int.toNat v)) k) + (sd (Int.toNat v))))), (7, .int (iI ((k : Int)))), (0, .ref (ad 15)), (1, .int (iI (w))), (2, .int (iI (v))), (3, .int (iI (startRow))), (4, .int (iI (startColumn)))]) hx hb dX2_measureWay_125 hl (by decide) rfl (fun ls hl => ?_)
                refine jz_iinc (k := 2) (z := (k : Int) + 1) (lv' := [(7, .int (iI ((k : Int) + 1))), (6, .int (iI ((ps startColumn (sr (Int.toNat v)) k) + (sr (Int.toNat v))))), (5, .int (iI ((ps startRow (sd (Int.toNat v)) k) + (sd (Int.toNat v))))), (0, .ref (ad 15)), (1, .int (iI (w))), (2, .int (iI (v))), (3, .int (iI (startRow))), (4, .int (iI (startColumn)))]) C dX2_measureWay_127 hl rfl rfl (by decide) rfl (fun ls hl => ?_)
                refine lv_goto (tgt := 43) hx hb dX2_measureWay_130 (by decide) ?_
                exact ih43 (k + 1) (by omega) (by omega) _ _ (by first | (rw [dm_t ⟨⟨h52, h61⟩, h66, h75⟩]; rw [uR_u] at hP; exact hP) | (rw [dm_f (by omega)]; exact hP)) hS ls (lv_sub hl [0, 1, 2, 3, 4, 5, 6, 7] rfl)
              · skip
                refine lv_iload hx hb dX2_measureWay_55 (lv_at hl 2 rfl) ?_
                refine lv_aload_n hx hb dX2_measureWay_57 rfl (lv_at hl 3 rfl) ?_
                refine fg_U_high C hin2 hE hP (v := I 15 10) (List.mem_of_getElem? (i := 3) rfl) dX2_measureWay_58 rfl ?_
                refine jz_icmp_ge (tgt := 103) C dX2_measureWay_61 (by decide) (by omega) (fun h61 => ?_) (fun h61 => ?_)
                · skip
                  refine lv_iload hx hb dX2_measureWay_103 (lv_at hl 2 rfl) ?_
                  refine va_getsN hx hb hZ1 hS C.2.2.2.1 (va_Nw.use rfl hE.2.2.2.2.2.1) (fun _ h => h) dX2_measureWay_105 ?_
                  refine lv_iload_n hx hb dX2_measureWay_108 rfl (lv_at hl 5 rfl) ?_
                  refine jc_N C hl.1 (jpreST hE hT1 hS) (c_X3_readT v sd t1 (show 0 ≤ v ∧ v < 4 from (by omega))) ⟨va_cnB 2 C.2.2.2.2 gX2_measureWay_X3_read_n88 rfl rfl rfl hE.2.2.2.2.1 (C.2.2.2.2 _ (List.mem_of_getElem? (i := 10) rfl)) (by decide +kernel) ⟨Nat.le_of_ble_eq_true rfl, Nat.le_of_ble_eq_true rfl⟩, C.2.2.2.2 _ (List.mem_of_getElem? (i := 12) rfl), trivial⟩ (As := [.ref (t1), .int (iI (v))]) (v := .int (iI (sd (Int.toNat v)))) (hn := rfl) (hst := rfl) (rest := [.int (iI (ps startRow (sd (Int.toNat v)) k))]) (hW := Nat.le_of_ble_eq_true rfl) (hdg := dX2_measureWay_109) (hf := ⟨Nat.le_of_ble_eq_true rfl, Nat.le_of_ble_eq_true rfl⟩) ?_
                  refine jz_iadd C dX2_measureWay_112 ?_
                  refine lv_istore (lv' := [(5, .int (iI ((ps startRow (sd (Int.toNat v)) k) + (sd (Int.toNat v))))), (7, .int (iI ((k : Int)))), (6, .int (iI (ps startColumn (sr (Int.toNat v)) k))), (0, .ref (ad 15)), (1, .int (iI (w))), (2, .int (iI (v))), (3, .int (iI (startRow))), (4, .int (iI (startColumn)))]) hx hb dX2_measureWay_113 hl (by decide) rfl (fun ls hl => ?_)
                  refine lv_iload hx hb dX2_measureWay_115 (lv_at hl 2 rfl) ?_
                  refine va_getsN hx hb hZ2 hS C.2.2.2.1 (va_Nw.use rfl hE.2.2.2.2.2.2) (fun _ h => h) dX2_measureWay_117 ?_
                  refine lv_iload_n hx hb dX2_measureWay_120 rfl (lv_at hl 5 rfl) ?_
                  refine jc_N C hl.1 (jpreST hE hT2 hS) (c_X3_readT v sr t2 (show 0 ≤ v ∧ v < 4 from (by omega))) ⟨va_cnB 2 C.2.2.2.2 gX2_measureWay_X3_read_n88 rfl rfl rfl hE.2.2.2.2.1 (C.2.2.2.2 _ (List.mem_of_getElem? (i := 10) rfl)) (by decide +kernel) ⟨Nat.le_of_ble_eq_true rfl, Nat.le_of_ble_eq_true rfl⟩, C.2.2.2.2 _ (List.mem_of_getElem? (i := 12) rfl), trivial⟩ (As := [.ref (t2), .int (iI (v))]) (v := .int (iI (sr (Int.toNat v)))) (hn := rfl) (hst := rfl) (rest := [.int (iI (ps startColumn (sr (Int.toNat v)) k))]) (hW := Nat.le_of_ble_eq_true rfl) (hdg := dX2_measureWay_121) (hf := ⟨Nat.le_of_ble_eq_true rfl, Nat.le_of_ble_eq_true rfl⟩) ?_
                  refine jz_iadd C dX2_measureWay_124 ?_
                  refine lv_istore (lv' := [(6, .int (iI ((ps startColumn (sr (Int.toNat v)) k) + (sr (Int.toNat v))))), (5, .int (iI ((ps startRow (sd (Int.toNat v)) k) + (sd (Int.toNat v))))), (7, .int (iI ((k : Int)))), (0, .ref (ad 15)), (1, .int (iI (w))), (2, .int (iI (v))), (3, .int (iI (startRow))), (4, .int (iI (startColumn)))]) hx hb dX2_measureWay_125 hl (by decide) rfl (fun ls hl => ?_)
                  refine jz_iinc (k := 2) (z := (k : Int) + 1) (lv' := [(7, .int (iI ((k : Int) + 1))), (6, .int (iI ((ps startColumn (sr (Int.toNat v)) k) + (sr (Int.toNat v))))), (5, .int (iI ((ps startRow (sd (Int.toNat v)) k) + (sd (Int.toNat v))))), (0, .ref (ad 15)), (1, .int (iI (w))), (2, .int (iI (v))), (3, .int (iI (startRow))), (4, .int (iI (startColumn)))]) C dX2_measureWay_127 hl rfl rfl (by decide) rfl (fun ls hl => ?_)
                  refine lv_goto (tgt := 43) hx hb dX2_measureWay_130 (by decide) ?_
                  exact ih43 (k + 1) (by omega) (by omega) _ _ (by first | (rw [dm_t ⟨⟨h52, h61⟩, h66, h75⟩]; rw [uR_u] at hP; exact hP) | (rw [dm_f (by omega)]; exact hP)) hS ls (lv_sub hl [0, 1, 2, 3, 4, 5, 6, 7] rfl)
                · skip
                  refine lv_iload hx hb dX2_measureWay_64 (lv_at hl 1 rfl) ?_
                  refine jz_if_lt (tgt := 103) C dX2_measureWay_66 (by decide) (by omega) (fun h66 => ?_) (fun h66 => ?_)
                  · skip
                    refine lv_iload hx hb dX2_measureWay_103 (lv_at hl 2 rfl) ?_
                    refine va_getsN hx hb hZ1 hS C.2.2.2.1 (va_Nw.use rfl hE.2.2.2.2.2.1) (fun _ h => h) dX2_measureWay_105 ?_
                    refine lv_iload_n hx hb dX2_measureWay_108 rfl (lv_at hl 5 rfl) ?_
                    refine jc_N C hl.1 (jpreST hE hT1 hS) (c_X3_readT v sd t1 (show 0 ≤ v ∧ v < 4 from (by omega))) ⟨va_cnB 2 C.2.2.2.2 gX2_measureWay_X3_read_n88 rfl rfl rfl hE.2.2.2.2.1 (C.2.2.2.2 _ (List.mem_of_getElem? (i := 10) rfl)) (by decide +kernel) ⟨Nat.le_of_ble_eq_true rfl, Nat.le_of_ble_eq_true rfl⟩, C.2.2.2.2 _ (List.mem_of_getElem? (i := 12) rfl), trivial⟩ (As := [.ref (t1), .int (iI (v))]) (v := .int (iI (sd (Int.toNat v)))) (hn := rfl) (hst := rfl) (rest := [.int (iI (ps startRow (sd (Int.toNat v)) k))]) (hW := Nat.le_of_ble_eq_true rfl) (hdg := dX2_measureWay_109) (hf := ⟨Nat.le_of_ble_eq_true rfl, Nat.le_of_ble_eq_true rfl⟩) ?_
                    refine jz_iadd C dX2_measureWay_112 ?_
                    refine lv_istore (lv' := [(5, .int (iI ((ps startRow (sd (Int.toNat v)) k) + (sd (Int.toNat v))))), (7, .int (iI ((k : Int)))), (6, .int (iI (ps startColumn (sr (Int.toNat v)) k))), (0, .ref (ad 15)), (1, .int (iI (w))), (2, .int (iI (v))), (3, .int (iI (startRow))), (4, .int (iI (startColumn)))]) hx hb dX2_measureWay_113 hl (by decide) rfl (fun ls hl => ?_)
                    refine lv_iload hx hb dX2_measureWay_115 (lv_at hl 2 rfl) ?_
                    refine va_getsN hx hb hZ2 hS C.2.2.2.1 (va_Nw.use rfl hE.2.2.2.2.2.2) (fun _ h => h) dX2_measureWay_117 ?_
                    refine lv_iload_n hx hb dX2_measureWay_120 rfl (lv_at hl 5 rfl) ?_
                    refine jc_N C hl.1 (jpreST hE hT2 hS) (c_X3_readT v sr t2 (show 0 ≤ v ∧ v < 4 from (by omega))) ⟨va_cnB 2 C.2.2.2.2 gX2_measureWay_X3_read_n88 rfl rfl rfl hE.2.2.2.2.1 (C.2.2.2.2 _ (List.mem_of_getElem? (i := 10) rfl)) (by decide +kernel) ⟨Nat.le_of_ble_eq_true rfl, Nat.le_of_ble_eq_true rfl⟩, C.2.2.2.2 _ (List.mem_of_getElem? (i := 12) rfl), trivial⟩ (As := [.ref (t2), .int (iI (v))]) (v := .int (iI (sr (Int.toNat v)))) (hn := rfl) (hst := rfl) (rest := [.int (iI (ps startColumn (sr (Int.toNat v)) k))]) (hW := Nat.le_of_ble_eq_true rfl) (hdg := dX2_measureWay_121) (hf := ⟨Nat.le_of_ble_eq_true rfl, Nat.le_of_ble_eq_true rfl⟩) ?_
                    refine jz_iadd C dX2_measureWay_124 ?_
                    refine lv_istore (lv' := [(6, .int (iI ((ps startColumn (sr (Int.toNat v)) k) + (sr (Int.toNat v))))), (5, .int (iI ((ps startRow (sd (Int.toNat v)) k) + (sd (Int.toNat v))))), (7, .int (iI ((k : Int)))), (0, .ref (ad 15)), (1, .int (iI (w))), (2, .int (iI (v))), (3, .int (iI (startRow))), (4, .int (iI (startColumn)))]) hx hb dX2_measureWay_125 hl (by decide) rfl (fun ls hl => ?_)
                    refine jz_iinc (k := 2) (z := (k : Int) + 1) (lv' := [(7, .int (iI ((k : Int) + 1))), (6, .int (iI ((ps startColumn (sr (Int.toNat v)) k) + (sr (Int.toNat v))))), (5, .int (iI ((ps startRow (sd (Int.toNat v)) k) + (sd (Int.toNat v))))), (0, .ref (ad 15)), (1, .int (iI (w))), (2, .int (iI (v))), (3, .int (iI (startRow))), (4, .int (iI (startColumn)))]) C dX2_measureWay_127 hl rfl rfl (by decide) rfl (fun ls hl => ?_)
                    refine lv_goto (tgt := 43) hx hb dX2_measureWay_130 (by decide) ?_
                    exact ih43 (k + 1) (by omega) (by omega) _ _ (by first | (rw [dm_t ⟨⟨h52, h61⟩, h66, h75⟩]; rw [uR_u] at hP; exact hP) | (rw [dm_f (by omega)]; exact hP)) hS ls (lv_sub hl [0, 1, 2, 3, 4, 5, 6, 7] rfl)
                  · skip
                    refine lv_iload hx hb dX2_measureWay_69 (lv_at hl 1 rfl) ?_
                    refine lv_aload_n hx hb dX2_measureWay_71 rfl (lv_at hl 3 rfl) ?_
                    refine fg_U_wide C hin2 hE hP (v := I 15 11) (List.mem_of_getElem? (i := 4) rfl) dX2_measureWay_72 rfl ?_
                    refine jz_icmp_ge (tgt := 103) C dX2_measureWay_75 (by decide) (by omega) (fun h75 => ?_) (fun h75 => ?_)
                    · skip
                      refine lv_iload hx hb dX2_measureWay_103 (lv_at hl 2 rfl) ?_
                      refine va_getsN hx hb hZ1 hS C.2.2.2.1 (va_Nw.use rfl hE.2.2.2.2.2.1) (fun _ h => h) dX2_measureWay_105 ?_
                      refine lv_iload_n hx hb dX2_measureWay_108 rfl (lv_at hl 5 rfl) ?_
                      refine jc_N C hl.1 (jpreST hE hT1 hS) (c_X3_readT v sd t1 (show 0 ≤ v ∧ v < 4 from (by omega))) ⟨va_cnB 2 C.2.2.2.2 gX2_measureWay_X3_read_n88 rfl rfl rfl hE.2.2.2.2.1 (C.2.2.2.2 _ (List.mem_of_getElem? (i := 10) rfl)) (by decide +kernel) ⟨Nat.le_of_ble_eq_true rfl, Nat.le_of_ble_eq_true rfl⟩, C.2.2.2.2 _ (List.mem_of_getElem? (i := 12) rfl), trivial⟩ (As := [.ref (t1), .int (iI (v))]) (v := .int (iI (sd (Int.toNat v)))) (hn := rfl) (hst := rfl) (rest := [.int (iI (ps startRow (sd (Int.toNat v)) k))]) (hW := Nat.le_of_ble_eq_true rfl) (hdg := dX2_measureWay_109) (hf := ⟨Nat.le_of_ble_eq_true rfl, Nat.le_of_ble_eq_true rfl⟩) ?_
                      refine jz_iadd C dX2_measureWay_112 ?_
                      refine lv_istore (lv' := [(5, .int (iI ((ps startRow (sd (Int.toNat v)) k) + (sd (Int.toNat v))))), (7, .int (iI ((k : Int)))), (6, .int (iI (ps startColumn (sr (Int.toNat v)) k))), (0, .ref (ad 15)), (1, .int (iI (w))), (2, .int (iI (v))), (3, .int (iI (startRow))), (4, .int (iI (startColumn)))]) hx hb dX2_measureWay_113 hl (by decide) rfl (fun ls hl => ?_)
                      refine lv_iload hx hb dX2_measureWay_115 (lv_at hl 2 rfl) ?_
                      refine va_getsN hx hb hZ2 hS C.2.2.2.1 (va_Nw.use rfl hE.2.2.2.2.2.2) (fun _ h => h) dX2_measureWay_117 ?_
                      refine lv_iload_n hx hb dX2_measureWay_120 rfl (lv_at hl 5 rfl) ?_
                      refine jc_N C hl.1 (jpreST hE hT2 hS) (c_X3_readT v sr t2 (show 0 ≤ v ∧ v < 4 from (by omega))) ⟨va_cnB 2 C.2.2.2.2 gX2_measureWay_X3_read_n88 rfl rfl rfl hE.2.2.2.2.1 (C.2.2.2.2 _ (List.mem_of_getElem? (i := 10) rfl)) (by decide +kernel) ⟨Nat.le_of_ble_eq_true rfl, Nat.le_of_ble_eq_true rfl⟩, C.2.2.2.2 _ (List.mem_of_getElem? (i := 12) rfl), trivial⟩ (As := [.ref (t2), .int (iI (v))]) (v := .int (iI (sr (Int.toNat v)))) (hn := rfl) (hst := rfl) (rest := [.int (iI (ps startColumn (sr (Int.toNat v)) k))]) (hW := Nat.le_of_ble_eq_true rfl) (hdg := dX2_measureWay_121) (hf := ⟨Nat.le_of_ble_eq_true rfl, Nat.le_of_ble_eq_true rfl⟩) ?_
                      refine jz_iadd C dX2_measureWay_124 ?_
                      refine lv_istore (lv' := [(6, .int (iI ((ps startColumn (sr (Int.toNat v)) k) + (sr (Int.toNat v))))), (5, .int (iI ((ps startRow (sd (Int.toNat v)) k) + (sd (Int.toNat v))))), (7, .int (iI ((k : Int)))), (0, .ref (ad 15)), (1, .int (iI (w))), (2, .int (iI (v))), (3, .int (iI (startRow))), (4, .int (iI (startColumn)))]) hx hb dX2_measureWay_125 hl (by decide) rfl (fun ls hl => ?_)
                      refine jz_iinc (k := 2) (z := (k : Int) + 1) (lv' := [(7, .int (iI ((k : Int) + 1))), (6, .int (iI ((ps startColumn (sr (Int.toNat v)) k) + (sr (Int.toNat v))))), (5, .int (iI ((ps startRow (sd (Int.toNat v)) k) + (sd (Int.toNat v))))), (0, .ref (ad 15)), (1, .int (iI (w))), (2, .int (iI (v))), (3, .int (iI (startRow))), (4, .int (iI (startColumn)))]) C dX2_measureWay_127 hl rfl rfl (by decide) rfl (fun ls hl => ?_)
                      refine lv_goto (tgt := 43) hx hb dX2_measureWay_130 (by decide) ?_
                      exact ih43 (k + 1) (by omega) (by omega) _ _ (by first | (rw [dm_t ⟨⟨h52, h61⟩, h66, h75⟩]; rw [uR_u] at hP; exact hP) | (rw [dm_f (by omega)]; exact hP)) hS ls (lv_sub hl [0, 1, 2, 3, 4, 5, 6, 7] rfl)
                    · skip
                      have hm1 : 0 ≤ (ps startRow (sd (Int.toNat v)) k) * (I 15 11) := Int.mul_nonneg h52 hwi.1
                      have hm2 : (ps startRow (sd (Int.toNat v)) k) * (I 15 11) ≤ 3 * (I 15 11) := Int.mul_le_mul_of_nonneg_right (by omega) hwi.1
                      refine lv_aload_n hx hb dX2_measureWay_78 rfl (lv_at hl 3 rfl) ?_
                      refine fg_U_distances C hin2 hE hP (List.mem_of_getElem? (i := 1) rfl) dX2_measureWay_79 ?_
                      refine lv_iload_n hx hb dX2_measureWay_82 rfl (lv_at hl 4 rfl) ?_
                      refine lv_iload_n hx hb dX2_measureWay_83 rfl (lv_at hl 5 rfl) ?_
                      refine jc_S C hl.1 (jpreS hE hP) (c_X2_wayIndex w v ) (va_cwS 2 C.2.2.2.2 gX2_measureWay_X2_wayIndex rfl rfl rfl (by decide +kernel) ⟨Nat.le_of_ble_eq_true rfl, Nat.le_of_ble_eq_true rfl⟩) (As := [.int (iI (w)), .int (iI (v))]) (v := .int (iI ((w * 4 + v) * 24))) (hn := rfl) (hst := rfl) (rest := [.ref (ad 23)]) (hW := Nat.le_of_ble_eq_true rfl) (hdg := dX2_measureWay_84) (hf := ⟨Nat.le_of_ble_eq_true rfl, Nat.le_of_ble_eq_true rfl⟩) ?_
                      refine lv_iload hx hb dX2_measureWay_87 (lv_at hl 2 rfl) ?_
                      refine lv_aload_n hx hb dX2_measureWay_89 rfl (lv_at hl 3 rfl) ?_
                      refine fg_U_wide C hin2 hE hP (v := I 15 11) (List.mem_of_getElem? (i := 4) rfl) dX2_measureWay_90 rfl ?_
                      refine jz_imul C dX2_measureWay_93 ?_
                      refine jz_iadd C dX2_measureWay_94 ?_
                      refine lv_iload hx hb dX2_measureWay_95 (lv_at hl 1 rfl) ?_
                      refine jz_iadd C dX2_measureWay_97 ?_
                      refine lv_iload hx hb dX2_measureWay_98 (lv_at hl 0 rfl) ?_
                      refine jw_N C hl.1 (jpreS hE hP) (c_X3_write (A := A) (jDC hD) ((((w * 4 + v) * 24) + ((ps startRow (sd (Int.toNat v)) k) * (I 15 11))) + (ps startColumn (sr (Int.toNat v)) k)) (k : Int) 23 384 (dm (fb (R 23) (Int.toNat ((w * 4 + v) * 24)) 24) (I 15 10) (I 15 11) ((w * 4 + v) * 24) startRow startColumn (sd (Int.toNat v)) (sr (Int.toNat v)) k) (ad 23) rfl (by decide) (show 0 ≤ ((((w * 4 + v) * 24) + ((ps startRow (sd (Int.toNat v)) k) * (I 15 11))) + (ps startColumn (sr (Int.toNat v)) k)) ∧ ((((w * 4 + v) * 24) + ((ps startRow (sd (Int.toNat v)) k) * (I 15 11))) + (ps startColumn (sr (Int.toNat v)) k)) < 384 from (by omega))) ⟨va_cnB 3 C.2.2.2.2 gX2_measureWay_X3_write_n72 rfl rfl rfl hE.2.2.2.1 (C.2.2.2.2 _ (List.mem_of_getElem? (i := 10) rfl)) (by decide +kernel) ⟨Nat.le_of_ble_eq_true rfl, Nat.le_of_ble_eq_true rfl⟩, C.2.2.2.2 _ (List.mem_of_getElem? (i := 9) rfl), trivial⟩ (As := [.ref (ad 23), .int (iI ((((w * 4 + v) * 24) + ((ps startRow (sd (Int.toNat v)) k) * (I 15 11))) + (ps startColumn (sr (Int.toNat v)) k))), .int (iI ((k : Int)))]) (hn := rfl) (hst := rfl) (rest := []) (hW := Nat.le_of_ble_eq_true rfl) (hdg := dX2_measureWay_100) (hf := ⟨Nat.le_of_ble_eq_true rfl, Nat.le_of_ble_eq_true rfl⟩) hS (fun v9 uq100 H lc hq9 hP hS => ?_)
                      subst hq9
                      have hP : va_P D vwCl (wC cI cS ad I (uR (uR R 23 (dm (fb (R 23) (Int.toNat ((w * 4 + v) * 24)) 24) (I 15 10) (I 15 11) ((w * 4 + v) * 24) startRow startColumn (sd (Int.toNat v)) (sr (Int.toNat v)) k)) 23 (u1 (dm (fb (R 23) (Int.toNat ((w * 4 + v) * 24)) 24) (I 15 10) (I 15 11) ((w * 4 + v) * 24) startRow startColumn (sd (Int.toNat v)) (sr (Int.toNat v)) k) (Int.toNat ((((w * 4 + v) * 24) + ((ps startRow (sd (Int.toNat v)) k) * (I 15 11))) + (ps startColumn (sr (Int.toNat v)) k))) (k : Int)))) H := hP
                      refine lv_iload hx hb dX2_measureWay_103 (lv_at hl 2 rfl) ?_
                      refine va_getsN hx hb hZ1 hS C.2.2.2.1 (va_Nw.use rfl hE.2.2.2.2.2.1) (fun _ h => h) dX2_measureWay_105 ?_
                      refine lv_iload_n hx hb dX2_measureWay_108 rfl (lv_at hl 5 rfl) ?_
                      refine jc_N C hl.1 (jpreST hE hT1 hS) (c_X3_readT v sd t1 (show 0 ≤ v ∧ v < 4 from (by omega))) ⟨va_cnB 2 C.2.2.2.2 gX2_measureWay_X3_read_n88 rfl rfl rfl hE.2.2.2.2.1 (C.2.2.2.2 _ (List.mem_of_getElem? (i := 10) rfl)) (by decide +kernel) ⟨Nat.le_of_ble_eq_true rfl, Nat.le_of_ble_eq_true rfl⟩, C.2.2.2.2 _ (List.mem_of_getElem? (i := 12) rfl), trivial⟩ (As := [.ref (t1), .int (iI (v))]) (v := .int (iI (sd (Int.toNat v)))) (hn := rfl) (hst := rfl) (rest := [.int (iI (ps startRow (sd (Int.toNat v)) k))]) (hW := Nat.le_of_ble_eq_true rfl) (hdg := dX2_measureWay_109) (hf := ⟨Nat.le_of_ble_eq_true rfl, Nat.le_of_ble_eq_true rfl⟩) ?_
                      refine jz_iadd C dX2_measureWay_112 ?_
                      refine lv_istore (lv' := [(5, .int (iI ((ps startRow (sd (Int.toNat v)) k) + (sd (Int.toNat v))))), (7, .int (iI ((k : Int)))), (6, .int (iI (ps startColumn (sr (Int.toNat v)) k))), (0, .ref (ad 15)), (1, .int (iI (w))), (2, .int (iI (v))), (3, .int (iI (startRow))), (4, .int (iI (startColumn)))]) hx hb dX2_measureWay_113 hl (by decide) rfl (fun ls hl => ?_)
                      refine lv_iload hx hb dX2_measureWay_115 (lv_at hl 2 rfl) ?_
                      refine va_getsN hx hb hZ2 hS C.2.2.2.1 (va_Nw.use rfl hE.2.2.2.2.2.2) (fun _ h => h) dX2_measureWay_117 ?_
                      refine lv_iload_n hx hb dX2_measureWay_120 rfl (lv_at hl 5 rfl) ?_
                      refine jc_N C hl.1 (jpreST hE hT2 hS) (c_X3_readT v sr t2 (show 0 ≤ v ∧ v < 4 from (by omega))) ⟨va_cnB 2 C.2.2.2.2 gX2_measureWay_X3_read_n88 rfl rfl rfl hE.2.2.2.2.1 (C.2.2.2.2 _ (List.mem_of_getElem? (i := 10) rfl)) (by decide +kernel) ⟨Nat.le_of_ble_eq_true rfl, Nat.le_of_ble_eq_true rfl⟩, C.2.2.2.2 _ (List.mem_of_getElem? (i := 12) rfl), trivial⟩ (As := [.ref (t2), .int (iI (v))]) (v := .int (iI (sr (Int.toNat v)))) (hn := rfl) (hst := rfl) (rest := [.int (iI (ps startColumn (sr (Int.toNat v)) k))]) (hW := Nat.le_of_ble_eq_true rfl) (hdg := dX2_measureWay_121) (hf := ⟨Nat.le_of_ble_eq_true rfl, Nat.le_of_ble_eq_true rfl⟩) ?_
                      refine jz_iadd C dX2_measureWay_124 ?_
                      refine lv_istore (lv' := [(6, .int (iI ((ps startColumn (sr (Int.toNat v)) k) + (sr (Int.toNat v))))), (5, .int (iI ((ps startRow (sd (Int.toNat v)) k) + (sd (Int.toNat v))))), (7, .int (iI ((k : Int)))), (0, .ref (ad 15)), (1, .int (iI (w))), (2, .int (iI (v))), (3, .int (iI (startRow))), (4, .int (iI (startColumn)))]) hx hb dX2_measureWay_125 hl (by decide) rfl (fun ls hl => ?_)
                      refine jz_iinc (k := 2) (z := (k : Int) + 1) (lv' := [(7, .int (iI ((k : Int) + 1))), (6, .int (iI ((ps startColumn (sr (Int.toNat v)) k) + (sr (Int.toNat v))))), (5, .int (iI ((ps startRow (sd (Int.toNat v)) k) + (sd (Int.toNat v))))), (0, .ref (ad 15)), (1, .int (iI (w))), (2, .int (iI (v))), (3, .int (iI (startRow))), (4, .int (iI (startColumn)))]) C dX2_measureWay_127 hl rfl rfl (by decide) rfl (fun ls hl => ?_)
                      refine lv_goto (tgt := 43) hx hb dX2_measureWay_130 (by decide) ?_
                      exact ih43 (k + 1) (by omega) (by omega) _ _ (by first | (rw [dm_t ⟨⟨h52, h61⟩, h66, h75⟩]; rw [uR_u] at hP; exact hP) | (rw [dm_f (by omega)]; exact hP)) hS ls (lv_sub hl [0, 1, 2, 3, 4, 5, 6, 7] rfl)
        exact key43 (Int.toNat (6 - (0 : Int)) + 1) 0 (by omega) (by omega) _ _ hP hS ls (lv_sub hl [0, 1, 2, 3, 4, 5, 6, 7] rfl)
      · skip
        refine lv_aload_n hx hb dX2_measureWay_10 rfl (lv_at hl 1 rfl) ?_
        refine fg_U_distances C hin2 hE hP (List.mem_of_getElem? (i := 1) rfl) dX2_measureWay_11 ?_
        refine lv_iload_n hx hb dX2_measureWay_14 rfl (lv_at hl 2 rfl) ?_
        refine lv_iload_n hx hb dX2_measureWay_15 rfl (lv_at hl 3 rfl) ?_
        refine jc_S C hl.1 (jpreS hE hP) (c_X2_wayIndex w v ) (va_cwS 2 C.2.2.2.2 gX2_measureWay_X2_wayIndex rfl rfl rfl (by decide +kernel) ⟨Nat.le_of_ble_eq_true rfl, Nat.le_of_ble_eq_true rfl⟩) (As := [.int (iI (w)), .int (iI (v))]) (v := .int (iI ((w * 4 + v) * 24))) (hn := rfl) (hst := rfl) (rest := [.ref (ad 23)]) (hW := Nat.le_of_ble_eq_true rfl) (hdg := dX2_measureWay_16) (hf := ⟨Nat.le_of_ble_eq_true rfl, Nat.le_of_ble_eq_true rfl⟩) ?_
        refine lv_iload hx hb dX2_measureWay_19 (lv_at hl 0 rfl) ?_
        refine jz_iadd C dX2_measureWay_21 ?_
        refine jz_ldc (z := 1000000) C (List.mem_of_getElem? (i := 2) rfl) (by decide +kernel) dX2_measureWay_22 ?_
        refine jw_N C hl.1 (jpreS hE hP) (c_X3_write (A := A) (jDC hD) (((w * 4 + v) * 24) + (c : Int)) 1000000 23 384 (fb (R 23) (Int.toNat ((w * 4 + v) * 24)) c) (ad 23) rfl (by decide) (show 0 ≤ (((w * 4 + v) * 24) + (c : Int)) ∧ (((w * 4 + v) * 24) + (c : Int)) < 384 from (by omega))) ⟨va_cnB 3 C.2.2.2.2 gX2_measureWay_X3_write_n72 rfl rfl rfl hE.2.2.2.1 (C.2.2.2.2 _ (List.mem_of_getElem? (i := 10) rfl)) (by decide +kernel) ⟨Nat.le_of_ble_eq_true rfl, Nat.le_of_ble_eq_true rfl⟩, C.2.2.2.2 _ (List.mem_of_getElem? (i := 9) rfl), trivial⟩ (As := [.ref (ad 23), .int (iI (((w * 4 + v) * 24) + (c : Int))), .int (iI (1000000))]) (hn := rfl) (hst := rfl) (rest := []) (hW := Nat.le_of_ble_eq_true rfl) (hdg := dX2_measureWay_24) (hf := ⟨Nat.le_of_ble_eq_true rfl, Nat.le_of_ble_eq_true rfl⟩) hS (fun v9 uq24 H lc hq9 hP hS => ?_)
        subst hq9
        have hP : va_P D vwCl (wC cI cS ad I (uR (uR R 23 (fb (R 23) (Int.toNat ((w * 4 + v) * 24)) c)) 23 (u1 (fb (R 23) (Int.toNat ((w * 4 + v) * 24)) c) (Int.toNat (((w * 4 + v) * 24) + (c : Int))) 1000000))) H := hP
        refine jz_iinc (k := 0) (z := (c : Int) + 1) (lv' := [(5, .int (iI ((c : Int) + 1))), (0, .ref (ad 15)), (1, .int (iI (w))), (2, .int (iI (v))), (3, .int (iI (startRow))), (4, .int (iI (startColumn)))]) C dX2_measureWay_27 hl rfl rfl (by decide) rfl (fun ls hl => ?_)
        refine lv_goto (tgt := 3) hx hb dX2_measureWay_30 (by decide) ?_
        exact ih3 (c + 1) (by omega) (by omega) _ _ (by rw [← fb_s (b := (Int.toNat ((w * 4 + v) * 24))) (c := c) (k := Int.toNat ((w * 4 + v) * 24 + (c : Int))) (by omega)]; rw [uR_u] at hP; exact hP) hS ls (lv_sub hl [0, 1, 2, 3, 4, 5] rfl)
  exact key3 (Int.toNat (24 - (0 : Int)) + 1) 0 (by omega) (by omega) _ _ (by rw [fb_0, uR_id]; exact hP) hS ls (lv_sub hl [0, 1, 2, 3, 4, 5] rfl)
abbrev rm_X2_addWork : Room := { frames := 2, cells := 0, slots := 0, locals := 49 }
set_option maxHeartbeats 4000000 in
set_option maxRecDepth 100000 in
theorem c_X2_addWork {l : Launch} {D : va_G} {cI cS : ClassId} {ad : Nat → Nat} {I R : Nat → Nat → Int} {A : Nat → Prop} (hD : va_D A (wC cI cS ad I R))  (r : Int) (c : Int) (strong : Int)  (hw : 0 ≤ (I 15 13) ∧ (I 15 13) < 4) (hr : 0 ≤ r ∧ r < 4) (hc : 0 ≤ c ∧ c < 6) (hhi : 0 ≤ (I 15 10) ∧ (I 15 10) ≤ 4) (hwi : 0 ≤ (I 15 11) ∧ (I 15 11) ≤ 6): JV l yX2_addWork wsX2_addWork rm_X2_addWork (fun U => jB D cI cS (wC cI cS ad I R) U ∧ jT A U U.heap) A [.ref (ad 15), .int (iI (r)), .int (iI (c)), .int (iI (strong))] (fun v9 (_ : Unit) => v9 = none) (fun _ H => va_P D vwCl (wC cI cS ad (u2 I 15 13 ((I 15 13) + 1)) (uR (uR (uR R 19 (u1 (R 19) (Int.toNat (I 15 13)) ((r * (I 15 11)) + c))) 20 (u1 (R 20) (Int.toNat (I 15 13)) strong)) 23 (da (R 23) (I 15 10) (I 15 11) (I 15 13) r c (4)))) H) := by
  refine JV.mkN rfl (by decide +kernel) rfl (Nat.le_of_ble_eq_true rfl) ?_
  intro p e st mi ar bl mth cd Q ls C hB hl hret
  obtain ⟨⟨hE, hP⟩, hT0⟩ := hB
  have hx := C.1
  have hb := C.2.1
  have hl : lv_has ls 5 [(0, .ref (ad 15)), (1, .int (iI (r))), (2, .int (iI (c))), (3, .int (iI (strong)))] := hl
  have hin2 : ∀ w ∈ wsX20, w ∈ wsX2_addWork := fun _ h => List.mem_cons_of_mem _ (List.mem_append_right _ h)
  suffices hgo : ∀ (H : Heap) (lc : List Loc), va_P D vwCl (wC cI cS ad I R) H → va_S A st.heap H lc → W p l e rm_X2_addWork st mi ar bl mth cd H lc 0 0 Q (F0 mi 0 ls []) from hgo _ _ hP va_S.rf
  clear hP
  intro H lc hP hS
  refine lv_aload_n hx hb dX2_addWork_0 rfl (lv_at hl 0 rfl) ?_
  refine fg_U_workCells C hin2 hE hP (List.mem_of_getElem? (i := 1) rfl) dX2_addWork_1 ?_
  refine lv_aload_n hx hb dX2_addWork_4 rfl (lv_at hl 0 rfl) ?_
  refine fg_U_works C hin2 hE hP (v := I 15 13) (List.mem_of_getElem? (i := 2) rfl) dX2_addWork_5 rfl ?_
  refine lv_iload_n hx hb dX2_addWork_8 rfl (lv_at hl 1 rfl) ?_
  refine lv_aload_n hx hb dX2_addWork_9 rfl (lv_at hl 0 rfl) ?_
  refine fg_U_wide C hin2 hE hP (v := I 15 11) (List.mem_of_getElem? (i := 3) rfl) dX2_addWork_10 rfl ?_
  refine jz_imul C dX2_addWork_13 ?_
  refine lv_iload_n hx hb dX2_addWork_14 rfl (lv_at hl 2 rfl) ?_
  refine jz_iadd C dX2_addWork_15 ?_
  refine jw_N C hl.1 (jpreS hE hP) (c_X3_write (A := A) (jDC hD) (I 15 13) ((r * (I 15 11)) + c) 19 4 (R 19) (ad 19) rfl (by decide) (show 0 ≤ (I 15 13) ∧ (I 15 13) < 4 from (by omega))) ⟨va_cnB 3 C.2.2.2.2 gX2_addWork_X3_write_n72 rfl rfl rfl hE.2.2.2.1 (C.2.2.2.2 _ (List.mem_of_getElem? (i := 6) rfl)) (by decide +kernel) ⟨Nat.le_of_ble_eq_true rfl, Nat.le_of_ble_eq_true rfl⟩, C.2.2.2.2 _ (List.mem_of_getElem? (i := 5) rfl), trivial⟩ (As := [.ref (ad 19), .int (iI (I 15 13)), .int (iI ((r * (I 15 11)) + c))]) (hn := rfl) (hst := rfl) (rest := []) (hW := Nat.le_of_ble_eq_true rfl) (hdg := dX2_addWork_16) (hf := ⟨Nat.le_of_ble_eq_true rfl, Nat.le_of_ble_eq_true rfl⟩) hS (fun v9 uq16 H lc hq9 hP hS => ?_)
  subst hq9
  have hP : va_P D vwCl (wC cI cS ad I (uR R 19 (u1 (R 19) (Int.toNat (I 15 13)) ((r * (I 15 11)) + c)))) H := hP
  refine lv_aload_n hx hb dX2_addWork_19 rfl (lv_at hl 0 rfl) ?_
  refine fg_U_strengths C hin2 hE hP (List.mem_of_getElem? (i := 4) rfl) dX2_addWork_20 ?_
  refine lv_aload_n hx hb dX2_addWork_23 rfl (lv_at hl 0 rfl) ?_
  refine fg_U_works C hin2 hE hP (v := I 15 13) (List.mem_of_getElem? (i := 2) rfl) dX2_addWork_24 rfl ?_
  refine lv_iload_n hx hb dX2_addWork_27 rfl (lv_at hl 3 rfl) ?_
  refine jw_N C hl.1 (jpreS hE hP) (c_X3_write (A := A) (jDC hD) (I 15 13) strong 20 4 (R 20) (ad 20) rfl (by decide) (show 0 ≤ (I 15 13) ∧ (I 15 13) < 4 from (by omega))) ⟨va_cnB 3 C.2.2.2.2 gX2_addWork_X3_write_n72 rfl rfl rfl hE.2.2.2.1 (C.2.2.2.2 _ (List.mem_of_getElem? (i := 6) rfl)) (by decide +kernel) ⟨Nat.le_of_ble_eq_true rfl, Nat.le_of_ble_eq_true rfl⟩, C.2.2.2.2 _ (List.mem_of_getElem? (i := 5) rfl), trivial⟩ (As := [.ref (ad 20), .int (iI (I 15 13)), .int (iI (strong))]) (hn := rfl) (hst := rfl) (rest := []) (hW := Nat.le_of_ble_eq_true rfl) (hdg := dX2_addWork_28) (hf := ⟨Nat.le_of_ble_eq_true rfl, Nat.le_of_ble_eq_true rfl⟩) hS (fun v9 uq28 H lc hq9 hP hS => ?_)
  subst hq9
  have hP : va_P D vwCl (wC cI cS ad I (uR (uR R 19 (u1 (R 19) (Int.toNat (I 15 13)) ((r * (I 15 11)) + c))) 20 (u1 (R 20) (Int.toNat (I 15 13)) strong))) H := hP
  refine jz_const C dX2_addWork_31 ?_
  refine lv_istore (lv' := [(4, .int (iI (0))), (0, .ref (ad 15)), (1, .int (iI (r))), (2, .int (iI (c))), (3, .int (iI (strong)))]) hx hb dX2_addWork_32 hl (by decide) rfl (fun ls hl => ?_)
  have key34 : ∀ (n34 : Nat) (v : Nat) (hv4 : v ≤ 4), (4 - (v : Int) : Int) < n34 → ∀ (H : Heap) (lc : List Loc), va_P D vwCl (wC cI cS ad I (uR (uR (uR R 19 (u1 (R 19) (Int.toNat (I 15 13)) ((r * (I 15 11)) + c))) 20 (u1 (R 20) (Int.toNat (I 15 13)) strong)) 23 (da (R 23) (I 15 10) (I 15 11) (I 15 13) r c v))) H → va_S A st.heap H lc → ∀ (ls : Array Slot), lv_has ls 5 [(4, .int (iI ((v : Int)))), (0, .ref (ad 15)), (1, .int (iI (r))), (2, .int (iI (c))), (3, .int (iI (strong)))] → W p l e rm_X2_addWork st mi ar bl mth cd H lc 0 0 Q (F0 mi 34 ls []) := by
    intro n34
    induction n34 with
    | zero => intro v hv4 hn9; exfalso; omega
    | succ n34 ih34 =>
      intro v hv4 hn9 H lc hP hS ls hl
      refine lv_iload hx hb dX2_addWork_34 (lv_at hl 0 rfl) ?_
      refine jz_const C dX2_addWork_36 ?_
      refine jz_icmp_ge (tgt := 58) C dX2_addWork_37 (by decide) (by omega) (fun h37 => ?_) (fun h37 => ?_)
      · skip
        have hg9 : v = 4 := (by omega)
        subst hg9
        have hl : lv_has ls 5 [(0, .ref (ad 15)), (1, .int (iI (r))), (2, .int (iI (c))), (3, .int (iI (strong)))] := lv_sub hl [1, 2, 3, 4] rfl
        refine lv_aload_n hx hb dX2_addWork_58 rfl (lv_at hl 0 rfl) ?_
        refine lv_dup hx hb dX2_addWork_59 rfl ?_
        refine fg_U_works C hin2 hE hP (v := I 15 13) (List.mem_of_getElem? (i := 2) rfl) dX2_addWork_60 rfl ?_
        refine jz_const C dX2_addWork_63 ?_
        refine jz_iadd C dX2_addWork_64 ?_
        refine fp_U_works C hin2 hE hP (jDC hD) hS (List.mem_of_getElem? (i := 2) rfl) dX2_addWork_65 (fun H lc hP hS => ?_)
        exact hret () _ _ _ _ dX2_addWork_68 rfl hP hS
      · skip
        refine lv_aload_n hx hb dX2_addWork_40 rfl (lv_at hl 1 rfl) ?_
        refine lv_aload_n hx hb dX2_addWork_41 rfl (lv_at hl 1 rfl) ?_
        refine fg_U_works C hin2 hE hP (v := I 15 13) (List.mem_of_getElem? (i := 2) rfl) dX2_addWork_42 rfl ?_
        refine lv_iload hx hb dX2_addWork_45 (lv_at hl 0 rfl) ?_
        refine lv_iload_n hx hb dX2_addWork_47 rfl (lv_at hl 2 rfl) ?_
        refine lv_iload_n hx hb dX2_addWork_48 rfl (lv_at hl 3 rfl) ?_
        refine jw_V C hl.1 (jpreVT hE hP hT0 hS 2 15 rfl rfl) (c_X2_measureWay (A := A) (jDC hD) (I 15 13) (v : Int) r c (show 0 ≤ (I 15 13) ∧ (I 15 13) < 4 from (by omega)) (show 0 ≤ (v : Int) ∧ (v : Int) < 4 from (by omega)) (show 0 ≤ r ∧ r < 4 from (by omega)) (show 0 ≤ c ∧ c < 6 from (by omega)) (show 0 ≤ (I 15 10) ∧ (I 15 10) ≤ 4 from (by omega)) (show 0 ≤ (I 15 11) ∧ (I 15 11) ≤ 6 from (by omega))) (cwV 4 C.2.2.2.2 gX2_addWork_X2_measureWay rfl rfl rfl (by decide +kernel) ⟨Nat.le_of_ble_eq_true rfl, Nat.le_of_ble_eq_true rfl⟩) (As := [.int (iI (I 15 13)), .int (iI ((v : Int))), .int (iI (r)), .int (iI (c))]) (hn := rfl) (hst := rfl) (rest := []) (hW := Nat.le_of_ble_eq_true rfl) (hdg := dX2_addWork_49) (hf := ⟨Nat.le_of_ble_eq_true rfl, Nat.le_of_ble_eq_true rfl⟩) hS (fun v9 uq49 H lc hq9 hP hS => ?_)
        obtain rfl : v9 = none := hq9
        have hP : va_P D vwCl (wC cI cS ad I (uR (uR (uR (uR R 19 (u1 (R 19) (Int.toNat (I 15 13)) ((r * (I 15 11)) + c))) 20 (u1 (R 20) (Int.toNat (I 15 13)) strong)) 23 (da (R 23) (I 15 10) (I 15 11) (I 15 13) r c v)) 23 (dw ((da (R 23) (I 15 10) (I 15 11) (I 15 13) r c v)) ((I 15 10)) ((I 15 11)) (I 15 13) (v : Int) r c))) H := hP
        refine jz_iinc (k := 0) (z := (v : Int) + 1) (lv' := [(4, .int (iI ((v : Int) + 1))), (0, .ref (ad 15)), (1, .int (iI (r))), (2, .int (iI (c))), (3, .int (iI (strong)))]) C dX2_addWork_52 hl rfl rfl (by decide) rfl (fun ls hl => ?_)
        refine lv_goto (tgt := 34) hx hb dX2_addWork_55 (by decide) ?_
        exact ih34 (v + 1) (by omega) (by omega) _ _ (by rw [uR_u] at hP; exact hP) hS ls (lv_sub hl [0, 1, 2, 3, 4] rfl)
  exact key34 (Int.toNat (4 - (0 : Int)) + 1) 0 (by omega) (by omega) _ _ (by rw [show ∀ X : Nat → Nat → Int, X 23 = R 23 → uR X 23 (da (R 23) (I 15 10) (I 15 11) (I 15 13) r c 0) = X from fun X hX => by rw [show da (R 23) (I 15 10) (I 15 11) (I 15 13) r c 0 = X 23 from hX.symm]; exact uR_id]; exact hP; rfl) hS ls (lv_sub hl [0, 1, 2, 3, 4] rfl)
